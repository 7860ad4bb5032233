/-! The law's isStore holds. -/
def rN (w : dW) (n : Int → Int) : Prop := n 0 = kN (wK w) ∧ n 1 = kW (wK w) ∧ n 2 = wB w ∧ n 3 = hN (wH w) ∧ n 7 = kS (wK w) + 1 ∧ ∀ b, 0 ≤ b → b < wB w → n (4 + b) = wE w b
/-- a state and its rows -/
def gO (K : dK) (S : dS) (D Z E : Int → Int) (o : Int) : Prop := gd K S ∧ rD K S D Z o ∧ rE K S E o
def rO (w : dW) (d e z v f y : Int → Int) : Prop := (∀ b, 0 ≤ b → b < wB w → gO (wK w) (wD w b) d z e (10 * b)) ∧ ∀ u, 0 ≤ u → u < hN (wH w) → gO (wK w) (hV (wH w) u) v y f (10 * u)
def Hp (h : ev_H) (n d e z v f y k q p : Int → Int) : Prop := Rw h 82 8 n ∧ Rw h 83 30 d ∧ Rw h 84 30 e ∧ Rw h 85 30 z ∧ Rw h 86 60 v ∧ Rw h 87 60 f ∧ Rw h 88 60 y ∧ Rw h 89 10 k ∧ Rw h 90 10 q ∧ Rw h 91 6 p
/-- the law's store stands beside the class's -/
def Lst (h : ev_H) (w : dW) (n dd e z v f y k q p : Int → Int) : Prop := Wd h w ∧ kI (wK w) ∧ rN w n ∧ rP (wH w) p ∧ rO w dd e z v f y ∧ rW (wK w) q ∧ rF (wK w) k ∧ Hp h n dd e z v f y k q p ∧ (∀ b, 0 ≤ wE w b ∧ wE w b < hN (wH w)) ∧ (∀ i, 0 ≤ p i ∧ p i < 6) ∧ (∀ i, dd i < 60000) ∧ ∀ i, v i < 60000
theorem Hp.gm {h h' : ev_H} {n d e z v f y k q p : Int → Int} {c s : Nat} (H : Hp h n d e z v f y k q p) (g : Gm h h' c s) : Hp h' n d e z v f y k q p := by
  obtain ⟨h1, h2, h3, h4, h5, h6, h7, h8, h9, h10⟩ := H
  exact ⟨h1.gm g, h2.gm g, h3.gm g, h4.gm g, h5.gm g, h6.gm g, h7.gm g, h8.gm g, h9.gm g, h10.gm g⟩
theorem Lst.gm {h h' : ev_H} {w : dW} {n d e z v f y k q p : Int → Int} {c s : Nat} (L : Lst h w n d e z v f y k q p) (hW : Wd h' w) (g : Gm h h' c s) : Lst h' w n d e z v f y k q p := by
  obtain ⟨_, h2, h3, h4, h5, h6, h7, h8, h9⟩ := L
  exact ⟨hW, h2, h3, h4, h5, h6, h7, h8.gm g, h9⟩
theorem vw_d {w : dW} {b : Int} (hb : 0 ≤ b) : vwS w (-1 - b) = wD w b := by
  unfold vwS
  rw [if_pos (by omega), show -1 - (-1 - b) = b by omega]
theorem vw_v {w : dW} {u : Int} (hu : 0 ≤ u) : vwS w u = hV (wH w) u := if_neg (by omega)
section LYY
variable {V : ev_V} {d : Nat} {h : ev_H} {P : ev_O → ev_H → Prop} {w : dW} {A B C N M O : Nat} {S : dS} {D X F W G Z : Int → Int} {o x : Int}
theorem c_lprS (hWd : Wd h w) (hl : 92 ≤ h.1.length ∧ h.1.length < 1000000) (hK : kI (wK w)) (hG : gd (wK w) S) (hB : Rw h B 8 G) (hm : G 0 = kN (wK w)) (hm1 : G 1 = kW (wK w)) (hA : Rw h A N D) (hX : Rw h M N X) (hC : Rw h C 10 F) (hO : Rw h O 10 W) (hr : 0 ≤ o ∧ o + 10 ≤ N) (hR : rD (wK w) S D Z o) (hE : rE (wK w) S X o) (hW : rW (wK w) W) (hF : rF (wK w) F)
    (KK : ∀ f' : Int → Int64, (∀ f : Int → Int64, (∀ n, 0 ≤ n → n < 40 → 0 ≤ dep (wK w) S n → f n = npr (wK w) S f n) → f 0 = f' 0) → P (.inl (some (.long (f' 0)))) (ev_push h (aL 10 f') 10)) :
    En V (d + 2) 34 0 [some (.ref B), some (.ref A), some (.ref M), some (.int (iI o)), some (.ref C), some (.ref O), none, none, none, none] [] h P := by
  obtain ⟨hI, ⟨dp, hT⟩, hOk⟩ := hG
  have kr := hWd.1.2.2.2.2.2.2.2.2.2.2
  have kn := hK.2.2.1
  have kw := hK.2.2.2.1
  refine c_lprint (m := kN (wK w)) (m1 := kW (wK w)) (dp := dp) hWd.2.2.2.2.2.2.2.2 (by omega) hB ⟨hm, kn⟩ ⟨hm1, kw⟩ hA hX hC hO hr (fun i a b c => ?_) (fun i j a b a' b' c c' => ?_) (fun i q a b c a' b' => ?_) (fun i q a b c a' b' => ?_) (fun f' hf' => KK f' (fun f hf => pr_eq hK kr hI hT hR hE hW hF hf hf'))
  · rw [rD_lt hK hI.1 hR (by omega)] at c
    have h3 := hOk.2.2.2.1 i a (by omega)
    have h4 := dp_t hI hT c
    unfold dep at h4
    exact ⟨dpO_t hK hI hT hR c, by omega⟩
  · rw [rD_lk hK hI.1 hR (by omega) a, decide_eq_true_eq] at c'
    have h3 := hd_c hK hI.1 a c'
    have h4 := tI_c hI hT h3.2.1.1 h3.1
    rw [h4.2, c']
  · rw [lu_cn hK hW hE] at b'
    obtain ⟨j, q1, q2, q3, q4⟩ := wd_p hK hW hE ⟨a', b'⟩
    rw [q4]
    exact (hK.2.1.1 j q1.1 q1.2).1
  · rw [rD_kids hK hI.1 hR a] at b'
    rw [hF i a b]
    by_cases hk : kK (wK w) i = 0 ∨ kK (wK w) i = 1
    · exact kd_p hK hI.1 hR a hk ⟨a', b'⟩
    · exfalso
      have h5 : ∀ j, 0 ≤ j → j < 40 → decide (hold (wK w) S j = i) = false := fun j c1 c2 => decide_eq_false (fun e => by
        have h1 := hd_c hK hI.1 a e
        have h2 := (hI.2.2.1 j h1.2.1.1 c2 h1.1).2
        have h3 := kr.2.2.2.1 i
        rw [e] at h2
        omega)
      rw [cnI_cut (M := 0) (by decide) (by decide) h5] at b'
      have b' : q < (0 : Int) := b'
      omega
variable {n dd e z v f y k q p : Int → Int}
theorem c_lstore (hL : Lst h w n dd e z v f y k q p) (hl : 92 ≤ h.1.length ∧ h.1.length < 900000) (hx : 0 ≤ x ∧ x < 2147483648) (KK : ∀ h', Lst h' w n dd e z v f y k q p → Gm h h' 60 600 → P (.inl (some (.int (iI 1)))) h') : En V (d + 8) 2 0 [some (.ref 0), some (.ref 82), some (.ref 83), some (.ref 84), some (.ref 85), some (.ref 86), some (.ref 87), some (.ref 88), some (.ref 89), some (.ref 90), some (.ref 91), some (.int (iI x)), none, none, none, none, none, none] [] h P := by
  obtain ⟨hW, hK, hN', hP, hOO, rw', rf', hH, hE, hp, -⟩ := id hL
  obtain ⟨n0, n1, n2, n3, n7, n4⟩ := hN'
  have t0 := hW.2.2.1.1
  have tb := hW.2.2.1.2.2.2.1
  have hh := hW.2.1.2.2.2.2.2.2.2
  have kn := hK.2.2.1
  have kw := hK.2.2.2.1
  have h82 := hH.1
  have b0 := h82.1
  have g2 := h82.2.2.2.2 2
  have g3 := h82.2.2.2.2 3
  have hn6 := hh.1
  refine n_go f_2_0 rfl (pc' := 1) rfl ?_
  refine n_cv (ls' := [_]) f_2_1 (by decide) m_29 rfl rfl (t0) rfl ?_
  refine c_versions hW ?_
  show En V _ 2 4 _ [_] _ _
  refine n_go f_2_4 rfl (pc' := 5) rfl ?_
  refine n_go f_2_5 rfl (pc' := 6) (st' := .int (iI 3) :: _) rfl ?_
  refine n_ial f_2_6 rfl (b0) (by unfold ev_ext; omega) (by omega) ?_
  refine n_ic_ne f_2_7 rfl rfl ⟨by omega, by omega⟩ (fun e9 => absurd e9 (by omega)) (fun _ => ?_)
  refine n_go f_2_10 rfl (pc' := 11) (st' := .int (iI 1) :: _) rfl ?_
  refine n_go f_2_11 rfl (pc' := 15) rfl ?_
  refine n_go f_2_15 rfl (pc' := 17) (ls' := [_, _, _, _, _, _, _, _, _, _, _, _, _, _, _, _, _, _]) rfl ?_
  refine n_go f_2_17 rfl (pc' := 18) (st' := .int (iI 0) :: _) rfl ?_
  refine n_go f_2_18 rfl (pc' := 20) (ls' := [_, _, _, _, _, _, _, _, _, _, _, _, _, _, _, _, _, _]) rfl ?_
  refine n_for (lo := 0) (hi := wB w) (by omega) (fun b ls st h' => ls = [some (.ref 0), some (.ref 82), some (.ref 83), some (.ref 84), some (.ref 85), some (.ref 86), some (.ref 87), some (.ref 88), some (.ref 89), some (.ref 90), some (.ref 91), some (.int (iI x)), some (.int (iI 1)), some (.int (iI b)), none, none, none, none] ∧ st = [] ∧ Wd h' w ∧ Qk h h') ⟨rfl, rfl, hW, Qk.rf h⟩ ?_ ?_
  · rintro b ls st h1 i1 i2 ⟨rfl, rfl, hW1, hQ1⟩ kk
    have t1 := hW1.2.2.1.1
    have b1 := (h82.qk hQ1).1
    have nb := n4 b i1 i2
    have eb := hE b
    have gb := h82.2.2.2.2 (4 + b)
    have oD := hOO.1 b i1 i2
    have oV := hOO.2 (wE w b) eb.1 eb.2
    refine n_go f_2_20 rfl (pc' := 22) rfl ?_
    refine n_go f_2_22 rfl (pc' := 23) rfl ?_
    refine n_go f_2_23 rfl (pc' := 24) (st' := .int (iI 2) :: _) rfl ?_
    refine n_ial f_2_24 rfl (b1) (by unfold ev_ext; omega) (by omega) ?_
    refine n_ic_ge f_2_25 rfl rfl ⟨by omega, by omega⟩ (fun e9 => absurd e9 (by omega)) (fun _ => ?_)
    refine n_go f_2_28 rfl (pc' := 30) rfl ?_
    refine n_if_eq f_2_30 rfl rfl (by omega) (fun e9 => absurd e9 (by omega)) (fun _ => ?_)
    refine n_go f_2_33 rfl (pc' := 34) rfl ?_
    refine n_go f_2_34 rfl (pc' := 36) rfl ?_
    refine n_cv (ls' := [_, _]) f_2_36 (by decide) m_30 rfl rfl (t1) rfl ?_
    refine c_head hW1 ⟨i1, i2⟩ ?_
    show En V _ 2 39 _ [_] _ _
    refine n_go f_2_39 rfl (pc' := 40) rfl ?_
    refine n_go f_2_40 rfl (pc' := 41) (st' := .int (iI 4) :: _) rfl ?_
    refine n_go f_2_41 rfl (pc' := 43) rfl ?_
    refine n_iadd f_2_43 rfl ?_
    refine n_ial f_2_44 rfl (b1) (by unfold ev_ext; omega) (by omega) ?_
    refine n_ic_ne f_2_45 rfl rfl ⟨by omega, by omega⟩ (fun e9 => absurd e9 (by omega)) (fun _ => ?_)
    refine n_go f_2_48 rfl (pc' := 49) rfl ?_
    refine n_go f_2_49 rfl (pc' := 51) rfl ?_
    refine n_cv (ls' := [_, _]) f_2_51 (by decide) m_16 rfl rfl (t1) rfl ?_
    refine c_isClean hW1 ⟨i1, i2⟩ (gd_dlo hK oD.1.1 oV.1.1) (fun h2 hW2 hQ2 => ?_)
    show En V _ _ 54 _ [_] h2 _
    have hH2 := (hH.gm hQ1.gm).gm hQ2.gm
    obtain ⟨r82, r83, r84, r85, r86, r87, r88, r89, r90, r91⟩ := hH2
    have b2x := r82.1
    refine n_go f_2_54 rfl (pc' := 55) rfl ?_
    refine n_go f_2_55 rfl (pc' := 56) rfl ?_
    refine n_go f_2_56 rfl (pc' := 57) rfl ?_
    refine n_go f_2_57 rfl (pc' := 59) rfl ?_
    refine n_bip (m := 10) f_2_59 rfl (by decide) ?_
    refine n_go f_2_61 rfl (pc' := 63) rfl ?_
    refine n_imul f_2_63 rfl ?_
    refine n_go f_2_64 rfl (pc' := 66) rfl ?_
    refine n_go f_2_66 rfl (pc' := 68) rfl ?_
    refine n_go f_2_68 rfl (pc' := 70) rfl ?_
    refine n_bip (m := 10) f_2_70 rfl (by decide) ?_
    refine n_go f_2_72 rfl (pc' := 73) rfl ?_
    refine n_go f_2_73 rfl (pc' := 74) (st' := .int (iI 4) :: _) rfl ?_
    refine n_go f_2_74 rfl (pc' := 76) rfl ?_
    refine n_iadd f_2_76 rfl ?_
    refine n_ial f_2_77 rfl (b2x) (by unfold ev_ext; omega) (by omega) ?_
    refine n_imul f_2_78 rfl ?_
    rw [nb]
    refine n_cs (ls' := [_, _, _, _, _, _, _, _, _, _, _]) f_2_79 (by decide) m_11 rfl rfl ?_
    refine c_lsame r82 ⟨n0, kn⟩ r83 r84 r85 r86 r87 r88 (by omega) (by omega) ?_
    show En V _ 2 82 _ [_, _] _ _
    have hsm := sm_eq hK oD.1.1 oV.1.1 oD.2.1 oV.2.1 oD.2.2 oV.2.2
    have esm : decide (edk (wD w b) (hV (wH w) (wE w b)) 8 = []) = al (smC dd e z v f y (10 * b) (10 * wE w b) (kN (wK w))) 10 := by
      cases ea : al (smC dd e z v f y (10 * b) (10 * wE w b) (kN (wK w))) 10 with
      | true => exact decide_eq_true (hsm.mp ea)
      | false => exact decide_eq_false (fun q => by have := hsm.mpr q; rw [ea] at this; cases this)
    rw [esm]
    have br := b2_r (al (smC dd e z v f y (10 * b) (10 * wE w b) (kN (wK w))) 10)
    refine n_ic_ne f_2_82 rfl rfl ⟨by omega, by omega⟩ (fun e9 => absurd e9 (by omega)) (fun _ => ?_)
    refine n_go f_2_85 rfl (pc' := 86) (st' := .int (iI 1) :: _) rfl ?_
    refine n_go f_2_86 rfl (pc' := 90) rfl ?_
    refine n_go f_2_90 rfl (pc' := 92) (ls' := [_, _, _, _, _, _, _, _, _, _, _, _, _, _, _, _, _, _]) rfl ?_
    refine n_iinc (m' := 1) (ls' := [_, _, _, _, _, _, _, _, _, _, _, _, _, _, _, _, _, _]) f_2_92 rfl rfl rfl rfl ?_
    refine n_go f_2_95 rfl (pc' := 20) rfl ?_
    exact kk _ _ _ ⟨rfl, rfl, hW2, hQ1.tr hQ2⟩
  · rintro ls st h1 ⟨rfl, rfl, hW1, hQ1⟩
    have b1 := (h82.qk hQ1).1
    have hx3 : 0 ≤ x / 3 ∧ x / 3 < 2147483648 := by omega
    have hx18 : 0 ≤ x / 18 ∧ x / 18 < 2147483648 := by omega
    refine n_go f_2_20 rfl (pc' := 22) rfl ?_
    refine n_go f_2_22 rfl (pc' := 23) rfl ?_
    refine n_go f_2_23 rfl (pc' := 24) (st' := .int (iI 2) :: _) rfl ?_
    refine n_ial f_2_24 rfl (b1) (by unfold ev_ext; omega) (by omega) ?_
    refine n_ic_ge f_2_25 rfl rfl ⟨by omega, by omega⟩ (fun _ => ?_) (fun e9 => absurd (by omega) e9)
    refine n_go f_2_98 rfl (pc' := 100) rfl ?_
    refine n_go f_2_100 rfl (pc' := 101) rfl ?_
    refine n_go f_2_101 rfl (pc' := 102) (st' := .int (iI 2) :: _) rfl ?_
    refine n_ial f_2_102 rfl (b1) (by unfold ev_ext; omega) (by omega) ?_
    refine n_irem f_2_103 rfl (by omega) ?_
    refine n_go f_2_104 rfl (pc' := 106) (ls' := [_, _, _, _, _, _, _, _, _, _, _, _, _, _, _, _, _, _]) rfl ?_
    refine n_go f_2_106 rfl (pc' := 108) rfl ?_
    refine n_go f_2_108 rfl (pc' := 109) (st' := .int (iI 3) :: _) rfl ?_
    refine n_idiv f_2_109 rfl (by omega) ?_
    refine n_go f_2_110 rfl (pc' := 111) rfl ?_
    refine n_go f_2_111 rfl (pc' := 112) (st' := .int (iI 3) :: _) rfl ?_
    refine n_ial f_2_112 rfl (b1) (by unfold ev_ext; omega) (by omega) ?_
    refine n_irem f_2_113 rfl (by omega) ?_
    refine n_go f_2_114 rfl (pc' := 116) (ls' := [_, _, _, _, _, _, _, _, _, _, _, _, _, _, _, _, _, _]) rfl ?_
    refine n_go f_2_116 rfl (pc' := 118) rfl ?_
    refine n_bip (m := 18) f_2_118 rfl (by decide) ?_
    refine n_idiv f_2_120 rfl (by omega) ?_
    refine n_go f_2_121 rfl (pc' := 122) rfl ?_
    refine n_go f_2_122 rfl (pc' := 123) (st' := .int (iI 3) :: _) rfl ?_
    refine n_ial f_2_123 rfl (b1) (by unfold ev_ext; omega) (by omega) ?_
    refine n_irem f_2_124 rfl (by omega) ?_
    refine n_go f_2_125 rfl (pc' := 127) (ls' := [_, _, _, _, _, _, _, _, _, _, _, _, _, _, _, _, _, _]) rfl ?_
    refine n_go f_2_127 rfl (pc' := 129) rfl ?_
    refine n_if_eq f_2_129 rfl rfl (by omega) (fun e9 => absurd e9 (by omega)) (fun _ => ?_)
    rw [n2, n3]
    have c1 : 0 ≤ x % wB w ∧ x % wB w < wB w := ⟨Int.emod_nonneg _ (by omega), Int.emod_lt_of_pos _ (by omega)⟩
    have c2 : 0 ≤ x / 3 % hN (wH w) ∧ x / 3 % hN (wH w) < hN (wH w) := ⟨Int.emod_nonneg _ (by omega), Int.emod_lt_of_pos _ (by omega)⟩
    have c3 : 0 ≤ x / 18 % hN (wH w) ∧ x / 18 % hN (wH w) < hN (wH w) := ⟨Int.emod_nonneg _ (by omega), Int.emod_lt_of_pos _ (by omega)⟩
    generalize x % wB w = b at *
    generalize x / 3 % hN (wH w) = u at *
    generalize x / 18 % hN (wH w) = t at *
    have oD := hOO.1 b c1.1 c1.2
    have oU := hOO.2 u c2.1 c2.2
    have oT := hOO.2 t c3.1 c3.2
    have el : h1.1.length = h.1.length := hQ1.2.1
    obtain ⟨r82, r83, r84, r85, r86, r87, r88, r89, r90, r91⟩ := hH.gm hQ1.gm
    refine n_go f_2_132 rfl (pc' := 133) rfl ?_
    refine n_go f_2_133 rfl (pc' := 134) (st' := .int (iI (-1)) :: _) rfl ?_
    refine n_go f_2_134 rfl (pc' := 136) rfl ?_
    refine n_isub f_2_136 rfl ?_
    refine n_go f_2_137 rfl (pc' := 138) rfl ?_
    refine n_go f_2_138 rfl (pc' := 139) rfl ?_
    refine n_go f_2_139 rfl (pc' := 140) rfl ?_
    refine n_bip (m := 10) f_2_140 rfl (by decide) ?_
    refine n_go f_2_142 rfl (pc' := 144) rfl ?_
    refine n_imul f_2_144 rfl ?_
    refine n_go f_2_145 rfl (pc' := 147) rfl ?_
    refine n_go f_2_147 rfl (pc' := 149) rfl ?_
    refine n_go f_2_149 rfl (pc' := 151) rfl ?_
    refine n_cs (ls' := [_, _, _, _, _, _, _, _, _, _, _, _, _, _, _]) f_2_151 (by decide) m_31 rfl rfl ?_
    refine c_lview hW1 (by omega) (Or.inr ⟨by omega, by omega⟩) (by omega) hK (by rw [vw_d c1.1]; exact oD.1) r82 n0 n1 r83 r84 r89 r90 (by omega) (by rw [vw_d c1.1]; exact oD.2.1) (by rw [vw_d c1.1]; exact oD.2.2) rw' rf' hx (fun h2 hW2 hG2 => ?_)
    show En V _ _ 154 _ [.int (iI 1)] h2 _
    have hG2 := hQ1.gm.tr hG2
    have hl2 := hG2.1
    have hl2' := hG2.2.1
    obtain ⟨r82, r83, r84, r85, r86, r87, r88, r89, r90, r91⟩ := hH.gm hG2
    refine n_if_eq f_2_154 rfl rfl (by omega) (fun e9 => absurd e9 (by omega)) (fun _ => ?_)
    refine n_go f_2_157 rfl (pc' := 158) rfl ?_
    refine n_go f_2_158 rfl (pc' := 160) rfl ?_
    refine n_go f_2_160 rfl (pc' := 161) rfl ?_
    refine n_go f_2_161 rfl (pc' := 163) rfl ?_
    refine n_go f_2_163 rfl (pc' := 165) rfl ?_
    refine n_bip (m := 10) f_2_165 rfl (by decide) ?_
    refine n_go f_2_167 rfl (pc' := 169) rfl ?_
    refine n_imul f_2_169 rfl ?_
    refine n_go f_2_170 rfl (pc' := 172) rfl ?_
    refine n_go f_2_172 rfl (pc' := 174) rfl ?_
    refine n_go f_2_174 rfl (pc' := 176) rfl ?_
    refine n_go f_2_176 rfl (pc' := 177) (st' := .int (iI 5) :: _) rfl ?_
    refine n_idiv f_2_177 rfl (by omega) ?_
    refine n_cs (ls' := [_, _, _, _, _, _, _, _, _, _, _, _, _, _, _]) f_2_178 (by decide) m_31 rfl rfl ?_
    refine c_lview hW2 (by omega) (Or.inl c2) (by omega) hK (by rw [vw_v c2.1]; exact oU.1) r82 n0 n1 r86 r87 r89 r90 (by omega) (by rw [vw_v c2.1]; exact oU.2.1) (by rw [vw_v c2.1]; exact oU.2.2) rw' rf' (by omega) (fun h3 hW3 hG3 => ?_)
    show En V _ _ 181 _ [.int (iI 1)] h3 _
    have hG3 := hG2.tr hG3
    have rest340 : ∀ h4, Wd h4 w → Gm h h4 45 450 → (u = t ∨ (hO (wH w) t).testBit u.toNat = true) → En V (d + 8) 2 340 [some (.ref 0), some (.ref 82), some (.ref 83), some (.ref 84), some (.ref 85), some (.ref 86), some (.ref 87), some (.ref 88), some (.ref 89), some (.ref 90), some (.ref 91), some (.int (iI x)), some (.int (iI 1)), some (.int (iI b)), some (.int (iI u)), some (.int (iI t)), none, none] [] h4 P := fun h4 hW4 hG4 ho => by
      have hl4 := hG4.1
      have hl4' := hG4.2.1
      obtain ⟨r82, r83, r84, r85, r86, r87, r88, r89, r90, r91⟩ := hH.gm hG4
      have lo := lc_o hP hn6.2 c2 c3 ho
      have fu := gd_fine hK oU.1
      have ft := gd_fine hK oT.1
      refine n_go f_2_340 rfl (pc' := 341) rfl ?_
      refine n_go f_2_341 rfl (pc' := 343) rfl ?_
      refine n_go f_2_343 rfl (pc' := 345) rfl ?_
      refine n_bip (m := 10) f_2_345 rfl (by decide) ?_
      refine n_go f_2_347 rfl (pc' := 349) rfl ?_
      refine n_imul f_2_349 rfl ?_
      refine n_go f_2_350 rfl (pc' := 352) rfl ?_
      refine n_go f_2_352 rfl (pc' := 354) rfl ?_
      refine n_cs (ls' := [_, _, _, _, _, _, _, _, _, _]) f_2_354 (by decide) m_34 rfl rfl ?_
      refine c_lprS hW4 (by omega) hK oT.1 r82 n0 n1 r86 r87 r89 r90 (by omega) oT.2.1 oT.2.2 rw' rf' (fun f' hf' => ?_)
      show En V _ _ 357 _ [.long (f' 0)] _ _
      have hG5 := hG4.tr (Gm.push h4 (aL 10 f') 10)
      have hW5 : Wd (ev_push h4 (aL 10 f') 10) w := hW4.psh
      generalize ev_push h4 (aL 10 f') 10 = h5 at *
      have t5 := hW5.2.2.1.1
      refine n_go f_2_357 rfl (pc' := 359) (ls' := [_, _, _, _, _, _, _, _, _, _, _, _, _, _, _, _, _, _]) rfl ?_
      refine n_go f_2_359 rfl (pc' := 360) rfl ?_
      refine n_go f_2_360 rfl (pc' := 362) rfl ?_
      refine n_go f_2_362 rfl (pc' := 364) rfl ?_
      refine n_cv (ls' := [_, _, _]) f_2_364 (by decide) m_35 rfl rfl (t5) rfl ?_
      refine c_joined hW5 ⟨c2, c3, lo.1⟩ fu ft (fun h6 pp hW6 hG6 hpr => ?_)
      show En V _ _ 367 _ [.long pp] h6 _
      obtain ⟨g, e1, e2⟩ := hpr
      rw [e1, hf' g e2]
      refine n_go f_2_367 rfl (pc' := 369) rfl ?_
      refine n_go f_2_369 rfl (pc' := 370) rfl ?_
      rw [lcmp_s]
      have t6 := hW6.2.2.1.1
      refine n_if_ne f_2_370 rfl rfl (by omega) (fun e9 => absurd e9 (by omega)) (fun _ => ?_)
      refine n_go f_2_373 rfl (pc' := 374) rfl ?_
      refine n_go f_2_374 rfl (pc' := 376) rfl ?_
      refine n_go f_2_376 rfl (pc' := 378) rfl ?_
      refine n_cv (ls' := [_, _, _, _]) f_2_378 (by decide) m_36 rfl rfl (t6) rfl ?_
      refine c_joinedS hW6 ⟨c2, c3, lo.1⟩ lo.2 ft (fun h7 pp hW7 hG7 hpr => ?_)
      show En V _ _ 381 _ [.long pp] h7 _
      obtain ⟨g, e1, e2⟩ := hpr
      rw [e1, hf' g e2]
      refine n_go f_2_381 rfl (pc' := 383) rfl ?_
      refine n_go f_2_383 rfl (pc' := 384) rfl ?_
      rw [lcmp_s]
      have t7 := hW7.2.2.1.1
      refine n_if_ne f_2_384 rfl rfl (by omega) (fun e9 => absurd e9 (by omega)) (fun _ => ?_)
      refine n_go f_2_387 rfl (pc' := 388) rfl ?_
      refine n_go f_2_388 rfl (pc' := 390) rfl ?_
      refine n_go f_2_390 rfl (pc' := 392) rfl ?_
      refine n_cv (ls' := [_, _, _]) f_2_392 (by decide) m_37 rfl rfl (t7) rfl ?_
      refine c_against hW7 ⟨c2, c3, lo.1⟩ fu ft (fun h8 hW8 hG8 => ?_)
      show En V _ _ 395 _ [.int (iI 0)] h8 _
      refine n_if_ne f_2_395 rfl rfl (by omega) (fun e9 => absurd e9 (by omega)) (fun _ => ?_)
      refine n_go f_2_398 rfl (pc' := 399) (st' := .int (iI 1) :: _) rfl ?_
      refine n_go f_2_399 rfl (pc' := 403) rfl ?_
      refine n_go f_2_403 rfl (pc' := 405) (ls' := [_, _, _, _, _, _, _, _, _, _, _, _, _, _, _, _, _, _]) rfl ?_
      refine n_go f_2_405 rfl (pc' := 407) rfl ?_
      first | refine n_rtz f_2_407 rfl ?_ | refine n_rt0 f_2_407 rfl ?_ | refine n_rt1 f_2_407 rfl ?_
      have hG9 := ((hG5.tr hG6.gm).tr hG7.gm).tr hG8.gm
      exact KK _ (hL.gm hW8 hG9) (hG9.le (by omega) (by omega))
    have rest : ∀ h4, Wd h4 w → Gm h h4 45 450 → En V (d + 8) 2 262 [some (.ref 0), some (.ref 82), some (.ref 83), some (.ref 84), some (.ref 85), some (.ref 86), some (.ref 87), some (.ref 88), some (.ref 89), some (.ref 90), some (.ref 91), some (.int (iI x)), some (.int (iI 1)), some (.int (iI b)), some (.int (iI u)), some (.int (iI t)), none, none] [] h4 P := fun h4 hW4 hG4 => by
      have t4 := hW4.2.2.1.1
      obtain ⟨r82, r83, r84, r85, r86, r87, r88, r89, r90, r91⟩ := hH.gm hG4
      have b91 := r91.1
      have hfu := hh.2.2.1 u
      have hgu := hP.2.1 u c2.1 c2.2
      have cont : ∀ zz, zz = hF (wH w) u → En V (d + 8) 2 283 [some (.ref 0), some (.ref 82), some (.ref 83), some (.ref 84), some (.ref 85), some (.ref 86), some (.ref 87), some (.ref 88), some (.ref 89), some (.ref 90), some (.ref 91), some (.int (iI x)), some (.int (iI 1)), some (.int (iI b)), some (.int (iI u)), some (.int (iI t)), none, none] [.int (iI zz), .int (iI (hF (wH w) u))] h4 P := fun zz hz => by
        refine n_ic_ne f_2_283 rfl rfl ⟨by omega, by omega⟩ (fun e9 => absurd e9 (by omega)) (fun _ => ?_)
        refine n_go f_2_286 rfl (pc' := 287) rfl ?_
        refine n_go f_2_287 rfl (pc' := 289) rfl ?_
        refine n_go f_2_289 rfl (pc' := 290) (st' := .int (iI 1) :: _) rfl ?_
        refine n_cv (ls' := [_, _, _]) f_2_290 (by decide) m_32 rfl rfl (t4) rfl ?_
        refine c_parent hW4 c2 (Or.inr rfl) ?_
        show En V _ 2 293 _ [_] _ _
        rw [if_neg (by decide), hgu]
        obtain ⟨i, hi1, hi2⟩ := lc_1 hP hn6.2 c2 c3
        refine n_go f_2_293 rfl (pc' := 294) (st' := .int (iI (-1)) :: _) rfl ?_
        refine n_ic_ne f_2_294 rfl rfl ⟨by omega, by omega⟩ (fun e9 => absurd e9 (by omega)) (fun _ => ?_)
        refine n_go f_2_297 rfl (pc' := 298) rfl ?_
        refine n_go f_2_298 rfl (pc' := 300) rfl ?_
        refine n_go f_2_300 rfl (pc' := 302) rfl ?_
        refine n_cv (ls' := [_, _, _]) f_2_302 (by decide) m_33 rfl rfl (t4) rfl ?_
        refine c_bases hW4 c2 c3 i (by omega) hi2 ?_
        show En V _ 2 305 _ [_] _ _
        refine n_go f_2_305 rfl (pc' := 306) (st' := .int (iI 1) :: _) rfl ?_
        refine n_ic_ne f_2_306 rfl rfl ⟨by omega, by omega⟩ (fun e9 => absurd e9 (by omega)) (fun _ => ?_)
        refine n_go f_2_309 rfl (pc' := 310) (st' := .int (iI 1) :: _) rfl ?_
        refine n_go f_2_310 rfl (pc' := 314) rfl ?_
        refine n_go f_2_314 rfl (pc' := 316) (ls' := [_, _, _, _, _, _, _, _, _, _, _, _, _, _, _, _, _, _]) rfl ?_
        refine n_go f_2_316 rfl (pc' := 318) rfl ?_
        refine n_if_eq f_2_318 rfl rfl (by omega) (fun e9 => absurd e9 (by omega)) (fun _ => ?_)
        refine n_go f_2_321 rfl (pc' := 323) rfl ?_
        refine n_go f_2_323 rfl (pc' := 325) rfl ?_
        refine n_ic_eq f_2_325 rfl rfl ⟨by omega, by omega⟩ (fun e9 => ?_) (fun e9 => ?_)
        · exact rest340 h4 hW4 hG4 (Or.inl e9)
        · obtain ⟨K, k1, k2, k3⟩ := up_K hP c2.1 (t + 1).toNat t (by omega) c3.1 c3.2
          have hpp : ∀ i, -1 ≤ p i ∧ p i < 6 := fun i => by have := hp i; omega
          refine n_go f_2_328 rfl (pc' := 330) rfl ?_
          refine n_go f_2_330 rfl (pc' := 332) rfl ?_
          refine n_go f_2_332 rfl (pc' := 334) rfl ?_
          refine n_cs (ls' := [_, _, _, _]) f_2_334 (by decide) m_17 rfl rfl ?_
          refine c_lolder b91 (by decide) hpp K (by omega) (by omega) k1 k2 ?_
          show En V _ 2 337 _ [_] _ _
          refine n_ib_eq f_2_337 rfl rfl (fun e8 => ?_) (fun e8 => ?_)
          · refine n_go f_2_405 rfl (pc' := 407) rfl ?_
            first | refine n_rtz f_2_407 rfl ?_ | refine n_rt0 f_2_407 rfl ?_ | refine n_rt1 f_2_407 rfl ?_
            exact KK _ (hL.gm hW4 hG4) (hG4.le (by omega) (by omega))
          · exact rest340 h4 hW4 hG4 (Or.inr (k3.symm.trans e8))
      refine n_go f_2_262 rfl (pc' := 263) rfl ?_
      refine n_go f_2_263 rfl (pc' := 265) rfl ?_
      refine n_go f_2_265 rfl (pc' := 266) (st' := .int (iI 0) :: _) rfl ?_
      refine n_cv (ls' := [_, _, _]) f_2_266 (by decide) m_32 rfl rfl (t4) rfl ?_
      refine c_parent hW4 c2 (Or.inl rfl) ?_
      show En V _ 2 269 _ [_] _ _
      rw [if_pos rfl]
      refine n_go f_2_269 rfl (pc' := 271) rfl ?_
      refine n_if_ne f_2_271 rfl rfl (by omega) (fun e7 => ?_) (fun e7 => ?_)
      · refine n_go f_2_278 rfl (pc' := 280) rfl ?_
        refine n_go f_2_280 rfl (pc' := 282) rfl ?_
        refine n_ial f_2_282 rfl (b91) (by unfold ev_ext; omega) (by omega) ?_
        exact cont _ (hP.2.2 u (by omega) c2.2).1.symm
      · refine n_go f_2_274 rfl (pc' := 275) (st' := .int (iI (-1)) :: _) rfl ?_
        refine n_go f_2_275 rfl (pc' := 283) rfl ?_
        have eu : u = 0 := by omega
        exact cont _ (by rw [eu]; exact hP.1.1.symm)
    obtain ⟨r82, r83, r84, r85, r86, r87, r88, r89, r90, r91⟩ := hH.gm hG3
    refine n_if_eq f_2_181 rfl rfl (by omega) (fun e9 => absurd e9 (by omega)) (fun _ => ?_)
    refine n_go f_2_184 rfl (pc' := 186) rfl ?_
    refine n_go f_2_186 rfl (pc' := 187) (st' := .int (iI 2) :: _) rfl ?_
    refine n_irem f_2_187 rfl (by omega) ?_
    refine n_if_ne f_2_188 rfl rfl (by omega) (fun e6 => ?_) (fun e6 => ?_)
    · refine n_go f_2_228 rfl (pc' := 229) rfl ?_
      refine n_go f_2_229 rfl (pc' := 231) rfl ?_
      refine n_go f_2_231 rfl (pc' := 233) rfl ?_
      refine n_go f_2_233 rfl (pc' := 234) rfl ?_
      refine n_go f_2_234 rfl (pc' := 236) rfl ?_
      refine n_go f_2_236 rfl (pc' := 238) rfl ?_
      refine n_go f_2_238 rfl (pc' := 240) rfl ?_
      refine n_bip (m := 10) f_2_240 rfl (by decide) ?_
      refine n_go f_2_242 rfl (pc' := 244) rfl ?_
      refine n_imul f_2_244 rfl ?_
      refine n_go f_2_245 rfl (pc' := 247) rfl ?_
      refine n_go f_2_247 rfl (pc' := 249) rfl ?_
      refine n_go f_2_249 rfl (pc' := 251) rfl ?_
      refine n_bip (m := 10) f_2_251 rfl (by decide) ?_
      refine n_go f_2_253 rfl (pc' := 255) rfl ?_
      refine n_imul f_2_255 rfl ?_
      refine n_cs (ls' := [_, _, _, _, _, _, _, _, _, _, _, _, _, _, _, _, _, _, _]) f_2_256 (by decide) m_14 rfl rfl ?_
      refine c_lscript (m := kN (wK w)) (m1 := kW (wK w)) hW3 (Or.inl c3) (Or.inl c2) (by rw [vw_v c2.1, vw_v c3.1]; exact gd_dlo hK oT.1.1 oU.1.1) (by omega) (by omega) r82 ⟨n0, kn⟩ ⟨n1, kw⟩ r86 r87 r88 r86 r87 r88 (by omega) (by omega) (by rw [vw_v c2.1, vw_v c3.1]; exact ed_ll hK oT.1.1 oU.1.1 oT.2.1 oU.2.1 oT.2.2 oU.2.2) (fun h4 hW4 hG4 => ?_)
      show En V _ _ 259 _ [.int (iI 1)] h4 _
      refine n_if_eq f_2_259 rfl rfl (by omega) (fun e9 => absurd e9 (by omega)) (fun _ => ?_)
      exact rest h4 hW4 ((hG3.tr hG4.gm).le (by omega) (by omega))
    · refine n_go f_2_191 rfl (pc' := 192) rfl ?_
      refine n_go f_2_192 rfl (pc' := 193) (st' := .int (iI (-1)) :: _) rfl ?_
      refine n_go f_2_193 rfl (pc' := 195) rfl ?_
      refine n_isub f_2_195 rfl ?_
      refine n_go f_2_196 rfl (pc' := 198) rfl ?_
      refine n_go f_2_198 rfl (pc' := 199) rfl ?_
      refine n_go f_2_199 rfl (pc' := 200) rfl ?_
      refine n_go f_2_200 rfl (pc' := 201) rfl ?_
      refine n_go f_2_201 rfl (pc' := 203) rfl ?_
      refine n_bip (m := 10) f_2_203 rfl (by decide) ?_
      refine n_go f_2_205 rfl (pc' := 207) rfl ?_
      refine n_imul f_2_207 rfl ?_
      refine n_go f_2_208 rfl (pc' := 210) rfl ?_
      refine n_go f_2_210 rfl (pc' := 212) rfl ?_
      refine n_go f_2_212 rfl (pc' := 214) rfl ?_
      refine n_bip (m := 10) f_2_214 rfl (by decide) ?_
      refine n_go f_2_216 rfl (pc' := 218) rfl ?_
      refine n_imul f_2_218 rfl ?_
      refine n_cs (ls' := [_, _, _, _, _, _, _, _, _, _, _, _, _, _, _, _, _, _, _]) f_2_219 (by decide) m_14 rfl rfl ?_
      refine c_lscript (m := kN (wK w)) (m1 := kW (wK w)) hW3 (Or.inr ⟨by omega, by omega⟩) (Or.inl c2) (by rw [vw_v c2.1, vw_d c1.1]; exact gd_dlo hK oD.1.1 oU.1.1) (by omega) (by omega) r82 ⟨n0, kn⟩ ⟨n1, kw⟩ r83 r84 r85 r86 r87 r88 (by omega) (by omega) (by rw [vw_v c2.1, vw_d c1.1]; exact ed_ll hK oD.1.1 oU.1.1 oD.2.1 oU.2.1 oD.2.2 oU.2.2) (fun h4 hW4 hG4 => ?_)
      show En V _ _ 222 _ [.int (iI 1)] h4 _
      refine n_if_eq f_2_222 rfl rfl (by omega) (fun e9 => absurd e9 (by omega)) (fun _ => ?_)
      refine n_go f_2_225 rfl (pc' := 262) rfl ?_
      exact rest h4 hW4 ((hG3.tr hG4.gm).le (by omega) (by omega))
end LYY
