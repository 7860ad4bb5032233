/-! The law: a node moved. -/
theorem mv_held {K : dK} {S : dS} {n p : Int} (hK : kI K) (hJ : sJ K S) (hn : hs S n = true) : held (plS K n p) (movT K S n) := fun i a b h => by
  have e2 : (movT K S n).2.1 i = S.2.1 i := rfl
  rw [e2]
  by_cases c : i = n
  · rw [c]
    have hr := hs_r hn
    have := (hJ.1 n hr.1 hr.2.1 hn).2.1
    omega
  · have e : hold (plS K n p) (movT K S n) i = hold K S i := by
      rw [← kx_hd (ps_kx (n := n) (p := p) hK) hK hJ i]
      unfold hold gS
      rw [show (movT K S n).1 i = S.1 i from uz_ne _ _ c]
    rw [e] at h
    have h1 := hd_c hK hJ h rfl
    have := (hJ.1 i a b h1.1).2.1
    omega
section LPM
variable {V : ev_V} {d : Nat} {h : ev_H} {P : ev_O → ev_H → Prop} {w : dW} {tn q0 kd c b nd ot tg kc : Int} {io : Bool} {n dd e z v f y k q p : Int → Int} {u24 u25 u26 u27 u28 : Option Value}
theorem L_mov (hL : Lst h w n dd e z v f y k q p) (hl : 92 ≤ h.1.length ∧ h.1.length < 800000) (htn : 0 ≤ tn ∧ tn < 110) (hc : 0 ≤ c ∧ c < 2147483648) (hb : 0 ≤ b ∧ b < wB w) (hnd : 0 ≤ nd ∧ nd < kN (wK w)) (hio : io = hs (wD w b) nd) (hot : 0 ≤ ot ∧ ot < kN (wK w)) (htg : 0 ≤ tg ∧ tg < 5) (hkc : kc = cnI 40 (fun i => decide (hold (wK w) (wD w b) i = nd))) (hS : kS (wK w) < 111) (KK : ∀ h' w' n' d' e' z' v' f' y' k' q' p' (u19 u20 u21 u22 u23 u24 u25 u26 u27 u28 : Option Value), Lst h' w' n' d' e' z' v' f' y' k' q' p' → kS (wK w') ≤ kS (wK w) + 1 → Gw h h' 100 1000 → En V (d + 9) 0 2227 [some (.ref ev_ext), some (.ref 0), some (.ref 82), some (.ref 83), some (.ref 84), some (.ref 85), some (.ref 86), some (.ref 87), some (.ref 88), some (.ref 89), some (.ref 90), some (.ref 91), some (.int (iI 1)), some (.int (iI tn)), some (.int (iI q0)), some (.int (iI kd)), some (.int (iI c)), some (.int (iI b)), some (.int (iI (10 * b))), u19, u20, u21, u22, u23, u24, u25, u26, u27, u28] [] h' P) : En V (d + 9) 0 595 [some (.ref ev_ext), some (.ref 0), some (.ref 82), some (.ref 83), some (.ref 84), some (.ref 85), some (.ref 86), some (.ref 87), some (.ref 88), some (.ref 89), some (.ref 90), some (.ref 91), some (.int (iI 1)), some (.int (iI tn)), some (.int (iI q0)), some (.int (iI kd)), some (.int (iI c)), some (.int (iI b)), some (.int (iI (10 * b))), some (.int (iI nd)), some (.int (iI (b2 io))), some (.int (iI ot)), some (.int (iI tg)), some (.int (iI kc)), u24, u25, u26, u27, u28] [] h P := by
  obtain ⟨hW, hK, ⟨n0, n1, n2, n3, n7, n4⟩, hP, hOO, rw', rf', hH, hE, hpp, hbd, hbv⟩ := id hL
  have t0 := hW.2.2.1.1
  have tb := hW.2.2.1.2.2.2.1
  have kr := hW.1.2.2.2.2.2.2.2.2.2.2
  have kn := hK.2.2.1
  have kw := hK.2.2.2.1
  have ks0 := hK.2.2.2.2.1
  have hOb := hOO.1 b hb.1 hb.2
  obtain ⟨⟨hI, ⟨dp, hT⟩, hOk⟩, hR, hEe⟩ := id hOb
  have hkr := ch_le hK hI.1 hnd.1
  have hkr0 := (cnI_r (i := 40) (p := fun i => decide (hold (wK w) (wD w b) i = nd)) (by decide)).1
  have hor : 0 ≤ 10 * b ∧ 10 * b + 10 ≤ (30 : Nat) := by omega
  have b0 := hH.1.1
  have gn0 := hH.1.2.2.2.2 0
  have gn1 := hH.1.2.2.2.2 1
  have k9 := hH.2.2.2.2.2.2.2.1.1
  have fot := rf' ot hot.1 hot.2
  have kot := kr.2.2.2.1 ot
  have hfu : hs (wD w b) nd = true → hs (wD w b) ot = true → kK (wK w) ot ≤ 1 → full (wK w) (wD w b) ot nd := fun _ _ g => full_t hK hI.1 hot.1 (by omega)
  have hheld : hs (wD w b) nd = true → hs (wD w b) ot = true → held (plS (wK w) nd ot) (movT (wK w) (wD w b) nd) := fun g _ => mv_held hK hI.1 g
  have hcm := cnI_r (i := 40) (p := fun i => decide (¬ i = nd ∧ hold (wK w) (wD w b) i = ot)) (by decide)
  have hcl := ch_le hK hI.1 hot.1
  -- behind the count of places
  have at683 : ∀ (bo : Bool) (mn pl : Int) (u27 : Option Value), bo = (hs (wD w b) nd && hs (wD w b) ot) → (bo = true → mn = cnI 40 (fun i => decide (¬ i = nd ∧ hold (wK w) (wD w b) i = ot))) → 0 ≤ mn → mn ≤ 40 → 0 ≤ pl → pl < 50 → En V (d + 9) 0 683 [some (.ref ev_ext), some (.ref 0), some (.ref 82), some (.ref 83), some (.ref 84), some (.ref 85), some (.ref 86), some (.ref 87), some (.ref 88), some (.ref 89), some (.ref 90), some (.ref 91), some (.int (iI 1)), some (.int (iI tn)), some (.int (iI q0)), some (.int (iI kd)), some (.int (iI c)), some (.int (iI b)), some (.int (iI (10 * b))), some (.int (iI nd)), some (.int (iI (b2 io))), some (.int (iI ot)), some (.int (iI tg)), some (.int (iI kc)), some (.int (iI (b2 bo))), some (.int (iI mn)), some (.int (iI pl)), u27, u28] [] h P := fun bo mn pl u27 hbo hmn m0 m1 l0 l1 => by
    refine n_go f_0_683 rfl (pc' := 685) rfl ?_
    refine n_ib_ne f_0_685 rfl rfl (fun g0 => ?_) (fun g0 => ?_)
    · subst g0
      have hmn := hmn rfl
      have hbo := hbo.symm
      rw [Bool.and_eq_true] at hbo
      obtain ⟨g1, g2⟩ := hbo
      have no : ∀ D : Prop, hs (wD w b) nd = true → hs (wD w b) ot = true → pl ≤ cnI 40 (fun i => decide (¬ i = nd ∧ hold (wK w) (wD w b) i = ot)) → (nd = 0 ∨ ¬ kK (wK w) ot ≤ 1 ∨ wth (hold (wK w) (wD w b)) 40 ot nd = true) → En V (d + 9) 0 739 [some (.ref ev_ext), some (.ref 0), some (.ref 82), some (.ref 83), some (.ref 84), some (.ref 85), some (.ref 86), some (.ref 87), some (.ref 88), some (.ref 89), some (.ref 90), some (.ref 91), some (.int (iI 1)), some (.int (iI tn)), some (.int (iI q0)), some (.int (iI kd)), some (.int (iI c)), some (.int (iI b)), some (.int (iI (10 * b))), some (.int (iI nd)), some (.int (iI (b2 io))), some (.int (iI ot)), some (.int (iI tg)), some (.int (iI kc)), some (.int (iI 1)), some (.int (iI mn)), some (.int (iI pl)), u27, u28] [] h P := fun D _ _ g3 g4 => by
        refine n_bip (m := (-13)) f_0_739 rfl (by decide) ?_
        refine n_go f_0_741 rfl (pc' := 768) rfl ?_
        refine n_go f_0_768 rfl (pc' := 770) (ls' := [_, _, _, _, _, _, _, _, _, _, _, _, _, _, _, _, _, _, _, _, _, _, _, _, _, _, _, _, _]) rfl ?_
        refine n_go f_0_770 rfl (pc' := 771) rfl ?_
        refine n_go f_0_771 rfl (pc' := 772) (st' := .int (iI 2) :: _) rfl ?_
        refine n_go f_0_772 rfl (pc' := 774) rfl ?_
        refine n_go f_0_774 rfl (pc' := 776) rfl ?_
        refine n_go f_0_776 rfl (pc' := 778) rfl ?_
        refine n_go f_0_778 rfl (pc' := 780) rfl ?_
        refine n_go f_0_780 rfl (pc' := 781) (st' := .int (iI 0) :: _) rfl ?_
        refine n_cs (ls' := [_, _, _, _, _, _, _, _]) f_0_781 (by decide) m_6 rfl rfl ?_
        refine d_moves t0 (c_lmoves t0 (c_move hW hb ⟨hnd.1, by omega⟩ ⟨hot.1, by omega⟩ ⟨l0, by omega⟩ (by omega) hfu hheld (fun x => absurd ⟨g1, g2⟩ x) (fun _ _ x => absurd x (by omega)) (fun _ _ _ _ => ?_) (fun _ _ _ x1 x2 x3 => ?_) (fun _ _ _ x1 x2 x3 => ?_)))
        · show En V _ _ 784 _ [.int (iI (-13))] (xH h 13) _
          refine n_go f_0_784 rfl (pc' := 786) rfl ?_
          refine n_ic_ne f_0_786 rfl rfl ⟨by omega, by omega⟩ (fun e9 => absurd e9 (by omega)) (fun _ => ?_)
          refine n_go f_0_789 rfl (pc' := 790) (st' := .int (iI 1) :: _) rfl ?_
          refine n_go f_0_790 rfl (pc' := 794) rfl ?_
          refine n_go f_0_794 rfl (pc' := 796) (ls' := [_, _, _, _, _, _, _, _, _, _, _, _, _, _, _, _, _, _, _, _, _, _, _, _, _, _, _, _, _]) rfl ?_
          refine n_go f_0_796 rfl (pc' := 2227) rfl ?_
          exact KK (xH h 13) _ _ _ _ _ _ _ _ _ _ _ _ _ _ _ _ _ _ _ _ _ (hL.gm hW.psh (Gm.push _ _ _)) (by omega) ((Gm.push _ _ _).gw.le (by omega) (by omega))
        · rcases g4 with g4 | g4 | g4
          · exact absurd g4 x1
          · exact absurd x2 g4
          · rw [x3] at g4; cases g4
        · rcases g4 with g4 | g4 | g4
          · exact absurd g4 x1
          · exact absurd x2 g4
          · rw [x3] at g4; cases g4
      show En V (d + 9) 0 693 [some (.ref ev_ext), some (.ref 0), some (.ref 82), some (.ref 83), some (.ref 84), some (.ref 85), some (.ref 86), some (.ref 87), some (.ref 88), some (.ref 89), some (.ref 90), some (.ref 91), some (.int (iI 1)), some (.int (iI tn)), some (.int (iI q0)), some (.int (iI kd)), some (.int (iI c)), some (.int (iI b)), some (.int (iI (10 * b))), some (.int (iI nd)), some (.int (iI (b2 io))), some (.int (iI ot)), some (.int (iI tg)), some (.int (iI kc)), some (.int (iI 1)), some (.int (iI mn)), some (.int (iI pl)), u27, u28] [] h P
      refine n_go f_0_693 rfl (pc' := 695) rfl ?_
      refine n_go f_0_695 rfl (pc' := 697) rfl ?_
      refine n_ic_le f_0_697 rfl rfl ⟨by omega, by omega⟩ (fun g3 => ?_) (fun g3 => ?_)
      · rw [hmn] at g3
        refine n_go f_0_705 rfl (pc' := 707) rfl ?_
        refine n_if_eq f_0_707 rfl rfl (by omega) (fun g4 => ?_) (fun g4 => ?_)
        · exact no True g1 g2 g3 (Or.inl g4)
        · refine n_go f_0_710 rfl (pc' := 712) rfl ?_
          refine n_go f_0_712 rfl (pc' := 714) rfl ?_
          refine n_ic_eq f_0_714 rfl rfl ⟨by omega, by omega⟩ (fun g5 => ?_) (fun g5 => ?_)
          · exact no True g1 g2 g3 (Or.inr (Or.inr (by rw [← g5]; exact wt_n hnd.1)))
          · obtain ⟨kb, k1, k2, k3⟩ := bl_K hK hI hT hR hnd.1 (dp ot + 1) ot (by omega) g2
            have ew : wth (hold (wK w) (wD w b)) 40 ot nd = wth (hold (wK w) (wD w b)) 40 (hold (wK w) (wD w b) ot) nd := by
              by_cases x : ot = 0
              · rw [x, hd_0 hI.1, wt_neg, wt_0 hI g4]
              · exact wt_up hI hT g2 (by omega) (fun y => g5 y.symm)
            refine n_go f_0_717 rfl (pc' := 718) rfl ?_
            refine n_go f_0_718 rfl (pc' := 720) rfl ?_
            refine n_go f_0_720 rfl (pc' := 722) rfl ?_
            refine n_go f_0_722 rfl (pc' := 724) rfl ?_
            refine n_cs (ls' := [_, _, _, _, _]) f_0_724 (by decide) m_8 rfl rfl ?_
            refine c_lbelow hH.2.1 hor kb (by omega) (by omega) k1 k2 ?_
            show En V _ 0 727 _ [_] _ _
            refine n_ib_ne f_0_727 rfl rfl (fun g6 => ?_) (fun g6 => ?_)
            · exact no True g1 g2 g3 (Or.inr (Or.inr (by rw [ew, ← k3]; exact g6)))
            · have gw : wth (hold (wK w) (wD w b)) 40 ot nd = false := by rw [ew, ← k3]; exact g6
              refine n_go f_0_730 rfl (pc' := 732) rfl ?_
              refine n_go f_0_732 rfl (pc' := 734) rfl ?_
              refine n_ial f_0_734 rfl (k9) (by unfold ev_ext; omega) (by omega) ?_
              refine n_go f_0_735 rfl (pc' := 736) (st' := .int (iI 1) :: _) rfl ?_
              refine n_ic_le f_0_736 rfl rfl ⟨by omega, by omega⟩ (fun g7 => ?_) (fun g7 => ?_)
              · have gk : kK (wK w) ot ≤ 1 := by omega
                refine n_go f_0_744 rfl (pc' := 745) rfl ?_
                refine n_go f_0_745 rfl (pc' := 746) rfl ?_
                refine n_go f_0_746 rfl (pc' := 748) rfl ?_
                refine n_go f_0_748 rfl (pc' := 750) rfl ?_
                refine n_go f_0_750 rfl (pc' := 752) rfl ?_
                refine n_go f_0_752 rfl (pc' := 754) rfl ?_
                refine n_go f_0_754 rfl (pc' := 756) rfl ?_
                refine n_go f_0_756 rfl (pc' := 757) (st' := .int (iI 2) :: _) rfl ?_
                refine n_go f_0_757 rfl (pc' := 759) rfl ?_
                refine n_go f_0_759 rfl (pc' := 761) rfl ?_
                refine n_go f_0_761 rfl (pc' := 763) rfl ?_
                refine n_go f_0_763 rfl (pc' := 764) (st' := .int (iI 0) :: _) rfl ?_
                refine n_go f_0_764 rfl (pc' := 765) (st' := .int (iI 0) :: _) rfl ?_
                refine n_cs (ls' := [_, _, _, _, _, _, _, _, _, _, _, _, _, _, _, _, _, _, _, _, _, _, _]) f_0_765 (by decide) m_5 rfl rfl ?_
                refine c_ledM hL (by omega) hb g1 (by omega) g2 gk gw ⟨l0, g3⟩ (by omega) (fun hO h1 d' hW1 hG1 hH1 hr1 ho1 => ?_) (fun hO h1 hW1 hG1 hH1 => ?_)
                · show En V _ _ 768 _ [.int (iI 0)] h1 _
                  have t1 := hW1.2.2.1.1
                  refine n_go f_0_768 rfl (pc' := 770) (ls' := [_, _, _, _, _, _, _, _, _, _, _, _, _, _, _, _, _, _, _, _, _, _, _, _, _, _, _, _, _]) rfl ?_
                  refine n_go f_0_770 rfl (pc' := 771) rfl ?_
                  refine n_go f_0_771 rfl (pc' := 772) (st' := .int (iI 2) :: _) rfl ?_
                  refine n_go f_0_772 rfl (pc' := 774) rfl ?_
                  refine n_go f_0_774 rfl (pc' := 776) rfl ?_
                  refine n_go f_0_776 rfl (pc' := 778) rfl ?_
                  refine n_go f_0_778 rfl (pc' := 780) rfl ?_
                  refine n_go f_0_780 rfl (pc' := 781) (st' := .int (iI 0) :: _) rfl ?_
                  refine n_cs (ls' := [_, _, _, _, _, _, _, _]) f_0_781 (by decide) m_6 rfl rfl ?_
                  refine d_moves t1 (c_lmoves t1 (c_move hW1 hb ⟨hnd.1, by omega⟩ ⟨hot.1, by omega⟩ ⟨l0, by omega⟩ (by omega) hfu hheld (fun x => absurd ⟨g1, g2⟩ x) (fun _ _ x => absurd x (by omega)) (fun _ _ _ x => ?_) (fun _ _ _ _ _ _ x => absurd hO x) (fun _ _ _ _ _ _ _ ah u h2 ha hu hW2 hQ2 => ?_)))
                  · rcases x with x | x | x
                    · exact absurd x g4
                    · exact absurd gk x
                    · rw [gw] at x; cases x
                  · show En V _ _ 784 _ [.int (iI 0)] h2 _
                    refine n_go f_0_784 rfl (pc' := 786) rfl ?_
                    refine n_ic_ne f_0_786 rfl rfl ⟨by omega, by omega⟩ (fun e9 => absurd e9 (by omega)) (fun _ => ?_)
                    refine n_go f_0_789 rfl (pc' := 790) (st' := .int (iI 1) :: _) rfl ?_
                    refine n_go f_0_790 rfl (pc' := 794) rfl ?_
                    refine n_go f_0_794 rfl (pc' := 796) (ls' := [_, _, _, _, _, _, _, _, _, _, _, _, _, _, _, _, _, _, _, _, _, _, _, _, _, _, _, _, _]) rfl ?_
                    refine n_go f_0_796 rfl (pc' := 2227) rfl ?_
                    have hx := mv_kx (n := nd) (p := ot) hK (by omega) hu
                    refine KK h2 _ _ _ _ _ _ _ _ _ _ _ _ _ _ _ _ _ _ _ _ _ (Lst_ds hL hW2 hx ⟨⟨mv_I hK hI (by omega) hu g1 (by omega) g2 gk, ⟨_, mv_T hK hI hT hOk (by omega) hu g1 (by omega) g2 gw⟩, hO⟩, hr1 ah u ha hu, rE_c (S := wD w b) rfl (kx_E hx hK hI hEe)⟩ (fun i x => ⟨ho1 i x, rfl, uz_ne _ _ (by omega)⟩) ⟨?_, ?_, ?_, ?_, ?_, ?_⟩ rw' rf' (hH1.gm hQ2.gm)) (Int.le_refl _) ((hG1.tr hQ2.gm.gw).le (by omega) (by omega))
                    · exact (uz_ne _ _ (by decide)).trans n0
                    · exact (uz_ne _ _ (by decide)).trans n1
                    · exact (uz_ne _ _ (by decide)).trans n2
                    · exact (uz_ne _ _ (by decide)).trans n3
                    · refine (uz_same _ _ _).trans ?_
                      show kS (wK w) + 2 = kS (wK w) + 1 + 1
                      omega
                    · intro x x1 x2
                      have x2 : x < wB w := x2
                      exact (uz_ne _ _ (by omega)).trans (n4 x x1 x2)
                · show En V _ _ 768 _ [.int (iI (-13))] h1 _
                  have t1 := hW1.2.2.1.1
                  refine n_go f_0_768 rfl (pc' := 770) (ls' := [_, _, _, _, _, _, _, _, _, _, _, _, _, _, _, _, _, _, _, _, _, _, _, _, _, _, _, _, _]) rfl ?_
                  refine n_go f_0_770 rfl (pc' := 771) rfl ?_
                  refine n_go f_0_771 rfl (pc' := 772) (st' := .int (iI 2) :: _) rfl ?_
                  refine n_go f_0_772 rfl (pc' := 774) rfl ?_
                  refine n_go f_0_774 rfl (pc' := 776) rfl ?_
                  refine n_go f_0_776 rfl (pc' := 778) rfl ?_
                  refine n_go f_0_778 rfl (pc' := 780) rfl ?_
                  refine n_go f_0_780 rfl (pc' := 781) (st' := .int (iI 0) :: _) rfl ?_
                  refine n_cs (ls' := [_, _, _, _, _, _, _, _]) f_0_781 (by decide) m_6 rfl rfl ?_
                  refine d_moves t1 (c_lmoves t1 (c_move hW1 hb ⟨hnd.1, by omega⟩ ⟨hot.1, by omega⟩ ⟨l0, by omega⟩ (by omega) hfu hheld (fun x => absurd ⟨g1, g2⟩ x) (fun _ _ x => absurd x (by omega)) (fun _ _ _ x => ?_) (fun _ _ _ _ _ _ _ h2 hW2 hQ2 => ?_) (fun _ _ _ _ _ _ x => absurd x hO)))
                  · rcases x with x | x | x
                    · exact absurd x g4
                    · exact absurd gk x
                    · rw [gw] at x; cases x
                  · show En V _ _ 784 _ [.int (iI (-13))] (xH h2 13) _
                    refine n_go f_0_784 rfl (pc' := 786) rfl ?_
                    refine n_ic_ne f_0_786 rfl rfl ⟨by omega, by omega⟩ (fun e9 => absurd e9 (by omega)) (fun _ => ?_)
                    refine n_go f_0_789 rfl (pc' := 790) (st' := .int (iI 1) :: _) rfl ?_
                    refine n_go f_0_790 rfl (pc' := 794) rfl ?_
                    refine n_go f_0_794 rfl (pc' := 796) (ls' := [_, _, _, _, _, _, _, _, _, _, _, _, _, _, _, _, _, _, _, _, _, _, _, _, _, _, _, _, _]) rfl ?_
                    refine n_go f_0_796 rfl (pc' := 2227) rfl ?_
                    exact KK (xH h2 13) _ _ _ _ _ _ _ _ _ _ _ _ _ _ _ _ _ _ _ _ _ (Lst_kk hL hW2.psh (ps_kx hK) ⟨n0, n1, n2, n3, n7, n4⟩ rw' rf' ((hH1.gm hQ2.gm).gm (Gm.push _ _ _))) (show kS (wK w) ≤ kS (wK w) + 1 by omega) (((hG1.tr hQ2.gm.gw).tr (Gm.push _ _ _).gw).le (by omega) (by omega))
              · exact no True g1 g2 g3 (Or.inr (Or.inl (by omega)))
      · rw [hmn] at g3
        refine n_bip (m := (-12)) f_0_700 rfl (by decide) ?_
        refine n_go f_0_702 rfl (pc' := 768) rfl ?_
        refine n_go f_0_768 rfl (pc' := 770) (ls' := [_, _, _, _, _, _, _, _, _, _, _, _, _, _, _, _, _, _, _, _, _, _, _, _, _, _, _, _, _]) rfl ?_
        refine n_go f_0_770 rfl (pc' := 771) rfl ?_
        refine n_go f_0_771 rfl (pc' := 772) (st' := .int (iI 2) :: _) rfl ?_
        refine n_go f_0_772 rfl (pc' := 774) rfl ?_
        refine n_go f_0_774 rfl (pc' := 776) rfl ?_
        refine n_go f_0_776 rfl (pc' := 778) rfl ?_
        refine n_go f_0_778 rfl (pc' := 780) rfl ?_
        refine n_go f_0_780 rfl (pc' := 781) (st' := .int (iI 0) :: _) rfl ?_
        refine n_cs (ls' := [_, _, _, _, _, _, _, _]) f_0_781 (by decide) m_6 rfl rfl ?_
        refine d_moves t0 (c_lmoves t0 (c_move hW hb ⟨hnd.1, by omega⟩ ⟨hot.1, by omega⟩ ⟨l0, by omega⟩ (by omega) hfu hheld (fun x => absurd ⟨g1, g2⟩ x) (fun _ _ _ => ?_) (fun _ _ x => absurd x (by omega)) (fun _ _ x => absurd x (by omega)) (fun _ _ x => absurd x (by omega))))
        show En V _ _ 784 _ [.int (iI (-12))] (xH h 12) _
        refine n_go f_0_784 rfl (pc' := 786) rfl ?_
        refine n_ic_ne f_0_786 rfl rfl ⟨by omega, by omega⟩ (fun e9 => absurd e9 (by omega)) (fun _ => ?_)
        refine n_go f_0_789 rfl (pc' := 790) (st' := .int (iI 1) :: _) rfl ?_
        refine n_go f_0_790 rfl (pc' := 794) rfl ?_
        refine n_go f_0_794 rfl (pc' := 796) (ls' := [_, _, _, _, _, _, _, _, _, _, _, _, _, _, _, _, _, _, _, _, _, _, _, _, _, _, _, _, _]) rfl ?_
        refine n_go f_0_796 rfl (pc' := 2227) rfl ?_
        exact KK (xH h 12) _ _ _ _ _ _ _ _ _ _ _ _ _ _ _ _ _ _ _ _ _ (hL.gm hW.psh (Gm.push _ _ _)) (by omega) ((Gm.push _ _ _).gw.le (by omega) (by omega))
    · rw [g0] at hbo
      have nb : ¬ (hs (wD w b) nd = true ∧ hs (wD w b) ot = true) := fun x => by
        rw [x.1, x.2] at hbo
        cases hbo
      refine n_bip (m := (-11)) f_0_688 rfl (by decide) ?_
      refine n_go f_0_690 rfl (pc' := 768) rfl ?_
      refine n_go f_0_768 rfl (pc' := 770) (ls' := [_, _, _, _, _, _, _, _, _, _, _, _, _, _, _, _, _, _, _, _, _, _, _, _, _, _, _, _, _]) rfl ?_
      refine n_go f_0_770 rfl (pc' := 771) rfl ?_
      refine n_go f_0_771 rfl (pc' := 772) (st' := .int (iI 2) :: _) rfl ?_
      refine n_go f_0_772 rfl (pc' := 774) rfl ?_
      refine n_go f_0_774 rfl (pc' := 776) rfl ?_
      refine n_go f_0_776 rfl (pc' := 778) rfl ?_
      refine n_go f_0_778 rfl (pc' := 780) rfl ?_
      refine n_go f_0_780 rfl (pc' := 781) (st' := .int (iI 0) :: _) rfl ?_
      refine n_cs (ls' := [_, _, _, _, _, _, _, _]) f_0_781 (by decide) m_6 rfl rfl ?_
      refine d_moves t0 (c_lmoves t0 (c_move hW hb ⟨hnd.1, by omega⟩ ⟨hot.1, by omega⟩ ⟨l0, by omega⟩ (by omega) hfu hheld (fun _ => ?_) (fun x y => absurd ⟨x, y⟩ nb) (fun x y => absurd ⟨x, y⟩ nb) (fun x y => absurd ⟨x, y⟩ nb) (fun x y => absurd ⟨x, y⟩ nb)))
      show En V _ _ 784 _ [.int (iI (-11))] (xH h 11) _
      refine n_go f_0_784 rfl (pc' := 786) rfl ?_
      refine n_ic_ne f_0_786 rfl rfl ⟨by omega, by omega⟩ (fun e9 => absurd e9 (by omega)) (fun _ => ?_)
      refine n_go f_0_789 rfl (pc' := 790) (st' := .int (iI 1) :: _) rfl ?_
      refine n_go f_0_790 rfl (pc' := 794) rfl ?_
      refine n_go f_0_794 rfl (pc' := 796) (ls' := [_, _, _, _, _, _, _, _, _, _, _, _, _, _, _, _, _, _, _, _, _, _, _, _, _, _, _, _, _]) rfl ?_
      refine n_go f_0_796 rfl (pc' := 2227) rfl ?_
      exact KK (xH h 11) _ _ _ _ _ _ _ _ _ _ _ _ _ _ _ _ _ _ _ _ _ (hL.gm hW.psh (Gm.push _ _ _)) (by omega) ((Gm.push _ _ _).gw.le (by omega) (by omega))
  have at679 : ∀ (bo : Bool) (mn x : Int) (u26 u27 : Option Value), bo = (hs (wD w b) nd && hs (wD w b) ot) → (bo = true → mn = cnI 40 (fun i => decide (¬ i = nd ∧ hold (wK w) (wD w b) i = ot))) → 0 ≤ mn → mn ≤ 40 → 0 ≤ x → x ≤ 1 → En V (d + 9) 0 679 [some (.ref ev_ext), some (.ref 0), some (.ref 82), some (.ref 83), some (.ref 84), some (.ref 85), some (.ref 86), some (.ref 87), some (.ref 88), some (.ref 89), some (.ref 90), some (.ref 91), some (.int (iI 1)), some (.int (iI tn)), some (.int (iI q0)), some (.int (iI kd)), some (.int (iI c)), some (.int (iI b)), some (.int (iI (10 * b))), some (.int (iI nd)), some (.int (iI (b2 io))), some (.int (iI ot)), some (.int (iI tg)), some (.int (iI kc)), some (.int (iI (b2 bo))), some (.int (iI mn)), u26, u27, u28] [.int (iI x), .int (iI (mn + 1)), .int (iI (c / 50))] h P := fun bo mn x u26 u27 hbo hmn m0 m1 x0 x1 => by
    have hq : 0 ≤ c / 50 % (mn + 1 + x) ∧ c / 50 % (mn + 1 + x) < mn + 1 + x := ⟨Int.emod_nonneg _ (by omega), Int.emod_lt_of_pos _ (by omega)⟩
    refine n_iadd f_0_679 rfl ?_
    refine n_irem f_0_680 rfl (by omega) ?_
    refine n_go f_0_681 rfl (pc' := 683) (ls' := [_, _, _, _, _, _, _, _, _, _, _, _, _, _, _, _, _, _, _, _, _, _, _, _, _, _, _, _, _]) rfl ?_
    exact at683 bo mn _ u27 hbo hmn m0 m1 hq.1 (by omega)
  have at655 : ∀ (bo : Bool) (mn : Int) (u25 u26 u27 : Option Value), bo = (hs (wD w b) nd && hs (wD w b) ot) → (bo = true → mn = cnI 40 (fun i => decide (¬ i = nd ∧ hold (wK w) (wD w b) i = ot))) → 0 ≤ mn → mn ≤ 40 → En V (d + 9) 0 655 [some (.ref ev_ext), some (.ref 0), some (.ref 82), some (.ref 83), some (.ref 84), some (.ref 85), some (.ref 86), some (.ref 87), some (.ref 88), some (.ref 89), some (.ref 90), some (.ref 91), some (.int (iI 1)), some (.int (iI tn)), some (.int (iI q0)), some (.int (iI kd)), some (.int (iI c)), some (.int (iI b)), some (.int (iI (10 * b))), some (.int (iI nd)), some (.int (iI (b2 io))), some (.int (iI ot)), some (.int (iI tg)), some (.int (iI kc)), some (.int (iI (b2 bo))), u25, u26, u27, u28] [.int (iI mn)] h P := fun bo mn u25 u26 u27 hbo hmn m0 m1 => by
    refine n_go f_0_655 rfl (pc' := 657) (ls' := [_, _, _, _, _, _, _, _, _, _, _, _, _, _, _, _, _, _, _, _, _, _, _, _, _, _, _, _, _]) rfl ?_
    refine n_go f_0_657 rfl (pc' := 659) rfl ?_
    refine n_bip (m := 50) f_0_659 rfl (by decide) ?_
    refine n_idiv f_0_661 rfl (by omega) ?_
    refine n_go f_0_662 rfl (pc' := 664) rfl ?_
    refine n_go f_0_664 rfl (pc' := 665) (st' := .int (iI 1) :: _) rfl ?_
    refine n_iadd f_0_665 rfl ?_
    refine n_go f_0_666 rfl (pc' := 668) rfl ?_
    refine n_bip (m := 11) f_0_668 rfl (by decide) ?_
    refine n_irem f_0_670 rfl (by omega) ?_
    refine n_if_ne f_0_671 rfl rfl (by omega) (fun g1 => ?_) (fun g1 => ?_)
    · refine n_go f_0_678 rfl (pc' := 679) (st' := .int (iI 0) :: _) rfl ?_
      exact at679 bo mn 0 u26 u27 hbo hmn m0 m1 (by decide) (by decide)
    · refine n_go f_0_674 rfl (pc' := 675) (st' := .int (iI 1) :: _) rfl ?_
      refine n_go f_0_675 rfl (pc' := 679) rfl ?_
      exact at679 bo mn 1 u26 u27 hbo hmn m0 m1 (by decide) (by decide)
  have at616 : ∀ (bo : Bool) (u24 : Option Value), bo = (hs (wD w b) nd && hs (wD w b) ot) → En V (d + 9) 0 616 [some (.ref ev_ext), some (.ref 0), some (.ref 82), some (.ref 83), some (.ref 84), some (.ref 85), some (.ref 86), some (.ref 87), some (.ref 88), some (.ref 89), some (.ref 90), some (.ref 91), some (.int (iI 1)), some (.int (iI tn)), some (.int (iI q0)), some (.int (iI kd)), some (.int (iI c)), some (.int (iI b)), some (.int (iI (10 * b))), some (.int (iI nd)), some (.int (iI (b2 io))), some (.int (iI ot)), some (.int (iI tg)), some (.int (iI kc)), u24, u25, u26, u27, u28] [.int (iI (b2 bo))] h P := fun bo u24 hbo => by
    refine n_go f_0_616 rfl (pc' := 618) (ls' := [_, _, _, _, _, _, _, _, _, _, _, _, _, _, _, _, _, _, _, _, _, _, _, _, _, _, _, _, _]) rfl ?_
    refine n_go f_0_618 rfl (pc' := 620) rfl ?_
    refine n_ib_eq f_0_620 rfl rfl (fun g0 => ?_) (fun g0 => ?_)
    · rw [g0] at hbo
      have hz : En V (d + 9) 0 654 [some (.ref ev_ext), some (.ref 0), some (.ref 82), some (.ref 83), some (.ref 84), some (.ref 85), some (.ref 86), some (.ref 87), some (.ref 88), some (.ref 89), some (.ref 90), some (.ref 91), some (.int (iI 1)), some (.int (iI tn)), some (.int (iI q0)), some (.int (iI kd)), some (.int (iI c)), some (.int (iI b)), some (.int (iI (10 * b))), some (.int (iI nd)), some (.int (iI (b2 io))), some (.int (iI ot)), some (.int (iI tg)), some (.int (iI kc)), some (.int (iI (b2 false))), u25, u26, u27, u28] [] h P := by
        refine n_go f_0_654 rfl (pc' := 655) (st' := .int (iI 0) :: _) rfl ?_
        exact at655 false 0 u25 u26 u27 hbo (fun x => by cases x) (by decide) (by decide)
      rw [g0]
      exact hz
    · rw [g0] at hbo
      have hbo' := hbo.symm
      rw [Bool.and_eq_true] at hbo'
      obtain ⟨g1, g2⟩ := hbo'
      have ri := (rD_t hK hI.1 hR g1).1
      have ho1 := ch_o1 (K := wK w) (S := wD w b) (p := ot) (n := nd) ⟨hnd.1, by omega⟩
      have hdr := hold_r kr (wD w b) nd
      have hz : En V (d + 9) 0 623 [some (.ref ev_ext), some (.ref 0), some (.ref 82), some (.ref 83), some (.ref 84), some (.ref 85), some (.ref 86), some (.ref 87), some (.ref 88), some (.ref 89), some (.ref 90), some (.ref 91), some (.int (iI 1)), some (.int (iI tn)), some (.int (iI q0)), some (.int (iI kd)), some (.int (iI c)), some (.int (iI b)), some (.int (iI (10 * b))), some (.int (iI nd)), some (.int (iI (b2 io))), some (.int (iI ot)), some (.int (iI tg)), some (.int (iI kc)), some (.int (iI (b2 true))), u25, u26, u27, u28] [] h P := by
        refine n_go f_0_623 rfl (pc' := 624) rfl ?_
        refine n_go f_0_624 rfl (pc' := 625) rfl ?_
        refine n_go f_0_625 rfl (pc' := 627) rfl ?_
        refine n_go f_0_627 rfl (pc' := 629) rfl ?_
        refine n_cs (ls' := [_, _, _, _, _, _]) f_0_629 (by decide) m_4 rfl rfl ?_
        refine c_lkids hH.1 ⟨n0, kn⟩ hH.2.1 hor (by omega) ?_
        show En V _ 0 632 _ [_] _ _
        refine n_go f_0_632 rfl (pc' := 633) rfl ?_
        refine n_go f_0_633 rfl (pc' := 635) rfl ?_
        refine n_go f_0_635 rfl (pc' := 637) rfl ?_
        refine n_cs (ls' := [_, _, _]) f_0_637 (by decide) m_7 rfl rfl ?_
        refine c_lholder hH.2.1 (by omega) ?_
        show En V _ 0 640 _ [_, _] _ _
        rw [rD_kids hK hI.1 hR hot.1, ri.2.1]
        refine n_go f_0_640 rfl (pc' := 642) rfl ?_
        refine n_ic_ne f_0_642 rfl rfl ⟨by omega, by omega⟩ (fun g3 => ?_) (fun g3 => ?_)
        · rw [decide_eq_false g3] at ho1
          have ho1 : cnI 40 (fun i => decide (¬ i = nd ∧ hold (wK w) (wD w b) i = ot)) = cnI 40 (fun i => decide (hold (wK w) (wD w b) i = ot)) - 0 := ho1
          refine n_go f_0_649 rfl (pc' := 650) (st' := .int (iI 0) :: _) rfl ?_
          refine n_isub f_0_650 rfl ?_
          refine n_go f_0_651 rfl (pc' := 655) rfl ?_
          exact at655 true _ u25 u26 u27 hbo (fun _ => ho1.symm) (by omega) (by omega)
        · have g3 : hold (wK w) (wD w b) nd = ot := by omega
          rw [decide_eq_true g3] at ho1
          have ho1 : cnI 40 (fun i => decide (¬ i = nd ∧ hold (wK w) (wD w b) i = ot)) = cnI 40 (fun i => decide (hold (wK w) (wD w b) i = ot)) - 1 := ho1
          refine n_go f_0_645 rfl (pc' := 646) (st' := .int (iI 1) :: _) rfl ?_
          refine n_go f_0_646 rfl (pc' := 650) rfl ?_
          refine n_isub f_0_650 rfl ?_
          refine n_go f_0_651 rfl (pc' := 655) rfl ?_
          exact at655 true _ u25 u26 u27 hbo (fun _ => ho1.symm) (by omega) (by omega)
      rw [g0]
      exact hz
  refine n_go f_0_595 rfl (pc' := 597) rfl ?_
  refine n_ib_eq f_0_597 rfl rfl (fun g0 => ?_) (fun g0 => ?_)
  · have g1 : hs (wD w b) nd = false := hio.symm.trans g0
    refine n_go f_0_615 rfl (pc' := 616) (st' := .int (iI 0) :: _) rfl ?_
    exact at616 false u24 (by rw [g1]; rfl)
  · have g1 : hs (wD w b) nd = true := hio.symm.trans g0
    refine n_go f_0_600 rfl (pc' := 601) rfl ?_
    refine n_go f_0_601 rfl (pc' := 603) rfl ?_
    refine n_go f_0_603 rfl (pc' := 605) rfl ?_
    refine n_cs (ls' := [_, _, _]) f_0_605 (by decide) m_3 rfl rfl ?_
    refine c_lthere hH.2.1 (by omega) ?_
    show En V _ 0 608 _ [_] _ _
    rw [rD_lt hK hI.1 hR (by omega)]
    refine n_ib_eq f_0_608 rfl rfl (fun g2 => ?_) (fun g2 => ?_)
    · refine n_go f_0_615 rfl (pc' := 616) (st' := .int (iI 0) :: _) rfl ?_
      exact at616 false u24 (by rw [g1, g2]; rfl)
    · refine n_go f_0_611 rfl (pc' := 612) (st' := .int (iI 1) :: _) rfl ?_
      refine n_go f_0_612 rfl (pc' := 616) rfl ?_
      exact at616 true u24 (by rw [g1, g2]; rfl)
end LPM
