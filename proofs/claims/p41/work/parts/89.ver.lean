/-! The law: versions made, desks reset, branches begun. -/
theorem cp_in {D E : Int → Int} {o t i : Int} (h : 0 ≤ i ∧ i < 10) : cpF D E o t 10 (t + i) = D (o + i) := by
  unfold cpF
  rw [if_pos (show t ≤ t + i ∧ t + i < t + 10 by omega), show t + i - t = i by omega]
theorem cp_ou {D E : Int → Int} {o t i : Int} (h : ¬ (t ≤ i ∧ i < t + 10)) : cpF D E o t 10 i = E i := if_neg h
theorem cp_b {D E : Int → Int} {o t m : Int} (hD : ∀ i, 0 ≤ D i ∧ D i < 1000000) (hE : ∀ i, 0 ≤ E i ∧ E i < 1000000) : ∀ i, 0 ≤ cpF D E o t m i ∧ cpF D E o t m i < 1000000 := fun i => by
  unfold cpF
  split
  · exact hD _
  · exact hE _
section LPC
variable {V : ev_V} {d : Nat} {h : ev_H} {P : ev_O → ev_H → Prop} {w : dW} {tn q0 kd c b nd ot tg kc : Int} {io : Bool} {n dd e z v f y k q p : Int → Int} {u24 u25 u26 u27 u28 : Option Value}
variable {v9 : Int}
theorem c_mergeN (hW : Wd h w) (hb : 0 ≤ b ∧ b < wB w) (hv : 0 ≤ v9 ∧ v9 < hN (wH w)) (hd : dlo (wD w b) (hV (wH w) (wE w b))) (hne : ¬ edk (wD w b) (hV (wH w) (wE w b)) 8 = []) (E1 : ∀ h', Wd h' w → Qk h h' → P (.inr 13) (xH h' 13)) : En V (d + 7) 52 0 [some (.ref 0), some (.int (iI b)), some (.int (iI v9)), none] [] h P := by
  have t0 := hW.2.2.1.1
  refine n_go f_52_0 rfl (pc' := 1) rfl ?_
  refine n_go f_52_1 rfl (pc' := 2) rfl ?_
  refine n_cv (ls' := [_, _]) f_52_2 (by decide) m_61 rfl rfl (t0) rfl ?_
  refine c_needBranch hW hb ?_
  show En V _ 52 5 _ [] _ _
  refine n_go f_52_5 rfl (pc' := 6) rfl ?_
  refine n_go f_52_6 rfl (pc' := 7) rfl ?_
  refine n_cv (ls' := [_, _]) f_52_7 (by decide) m_81 rfl rfl (t0) rfl ?_
  refine c_needVersion hW hv ?_
  show En V _ 52 10 _ [] _ _
  refine n_go f_52_10 rfl (pc' := 11) rfl ?_
  refine n_go f_52_11 rfl (pc' := 12) rfl ?_
  refine n_cv (ls' := [_, _]) f_52_12 (by decide) m_120 rfl rfl (t0) rfl ?_
  exact c_needClean hW hb hd (fun e _ _ _ => absurd e hne) (fun e h1 hW1 hQ1 => n_up rfl (E1 h1 hW1 hQ1))
theorem L_com (hL : Lst h w n dd e z v f y k q p) (hl : 92 ≤ h.1.length ∧ h.1.length < 800000) (htn : 0 ≤ tn ∧ tn < 110) (hc : 0 ≤ c ∧ c < 2147483648) (hb : 0 ≤ b ∧ b < wB w) (hnd : 0 ≤ nd ∧ nd < kN (wK w)) (hio : io = hs (wD w b) nd) (hot : 0 ≤ ot ∧ ot < kN (wK w)) (htg : 0 ≤ tg ∧ tg < 5) (hkc : kc = cnI 40 (fun i => decide (hold (wK w) (wD w b) i = nd))) (hS : kS (wK w) < 111) (hN6 : hN (wH w) < 6) (KK : ∀ h' w' n' d' e' z' v' f' y' k' q' p' (u19 u20 u21 u22 u23 u24 u25 u26 u27 u28 : Option Value), Lst h' w' n' d' e' z' v' f' y' k' q' p' → kS (wK w') ≤ kS (wK w) + 1 → Gw h h' 100 1000 → En V (d + 9) 0 2227 [some (.ref ev_ext), some (.ref 0), some (.ref 82), some (.ref 83), some (.ref 84), some (.ref 85), some (.ref 86), some (.ref 87), some (.ref 88), some (.ref 89), some (.ref 90), some (.ref 91), some (.int (iI 1)), some (.int (iI tn)), some (.int (iI q0)), some (.int (iI kd)), some (.int (iI c)), some (.int (iI b)), some (.int (iI (10 * b))), u19, u20, u21, u22, u23, u24, u25, u26, u27, u28] [] h' P) : En V (d + 9) 0 1618 [some (.ref ev_ext), some (.ref 0), some (.ref 82), some (.ref 83), some (.ref 84), some (.ref 85), some (.ref 86), some (.ref 87), some (.ref 88), some (.ref 89), some (.ref 90), some (.ref 91), some (.int (iI 1)), some (.int (iI tn)), some (.int (iI q0)), some (.int (iI kd)), some (.int (iI c)), some (.int (iI b)), some (.int (iI (10 * b))), some (.int (iI nd)), some (.int (iI (b2 io))), some (.int (iI ot)), some (.int (iI tg)), some (.int (iI kc)), u24, u25, u26, u27, u28] [] h P := by
  obtain ⟨hW, hK, ⟨n0, n1, n2, n3, n7, n4⟩, hP, hOO, rw', rf', hH, hE, hpp, hbd, hbv⟩ := id hL
  have t0 := hW.2.2.1.1
  have tb := hW.2.2.1.2.2.2.1
  have kr := hW.1.2.2.2.2.2.2.2.2.2.2
  have kn := hK.2.2.1
  have kw := hK.2.2.2.1
  have ks0 := hK.2.2.2.2.1
  have hOb := hOO.1 b hb.1 hb.2
  obtain ⟨⟨hI, ⟨dp, hT⟩, hOk⟩, hR, hEe⟩ := id hOb
  have hkr := ch_le hK hI.1 hnd.1
  have hkr0 := (cnI_r (i := 40) (p := fun i => decide (hold (wK w) (wD w b) i = nd)) (by decide)).1
  have hor : 0 ≤ 10 * b ∧ 10 * b + 10 ≤ (30 : Nat) := by omega
  have b0 := hH.1.1
  have gn0 := hH.1.2.2.2.2 0
  have gn1 := hH.1.2.2.2.2 1
  have hhn := hW.2.1.2.2.2.2.2.2.2.1
  have heb := hE b
  have oD := hOb
  have oV := hOO.2 (wE w b) heb.1 heb.2
  have nb := n4 b hb.1 hb.2
  have gnb := hH.1.2.2.2.2 (4 + b)
  have gn3 := hH.1.2.2.2.2 3
  have hsm := sm_eq hK oD.1.1 oV.1.1 oD.2.1 oV.2.1 oD.2.2 oV.2.2
  have hdl := gd_dlo hK oD.1.1 oV.1.1
  generalize hsa : al (smC dd e z v f y (10 * b) (10 * wE w b) (kN (wK w))) 10 = sa at *
  refine n_go f_0_1618 rfl (pc' := 1619) rfl ?_
  refine n_go f_0_1619 rfl (pc' := 1620) rfl ?_
  refine n_go f_0_1620 rfl (pc' := 1622) rfl ?_
  refine n_go f_0_1622 rfl (pc' := 1624) rfl ?_
  refine n_go f_0_1624 rfl (pc' := 1626) rfl ?_
  refine n_go f_0_1626 rfl (pc' := 1628) rfl ?_
  refine n_go f_0_1628 rfl (pc' := 1630) rfl ?_
  refine n_go f_0_1630 rfl (pc' := 1632) rfl ?_
  refine n_bip (m := 10) f_0_1632 rfl (by decide) ?_
  refine n_go f_0_1634 rfl (pc' := 1635) rfl ?_
  refine n_go f_0_1635 rfl (pc' := 1636) (st' := .int (iI 4) :: _) rfl ?_
  refine n_go f_0_1636 rfl (pc' := 1638) rfl ?_
  refine n_iadd f_0_1638 rfl ?_
  refine n_ial f_0_1639 rfl (b0) (by unfold ev_ext; omega) (by omega) ?_
  refine n_imul f_0_1640 rfl ?_
  rw [nb]
  refine n_cs (ls' := [_, _, _, _, _, _, _, _, _, _, _]) f_0_1641 (by decide) m_11 rfl rfl ?_
  refine c_lsame hH.1 ⟨n0, kn⟩ hH.2.1 hH.2.2.1 hH.2.2.2.1 hH.2.2.2.2.1 hH.2.2.2.2.2.1 hH.2.2.2.2.2.2.1 (by omega) (by omega) ?_
  show En V _ 0 1644 _ [_] _ _
  rw [hsa]
  refine n_ib_ne f_0_1644 rfl rfl (fun g0 => ?_) (fun g0 => ?_)
  · have g1 := hsm.mp g0
    refine n_go f_0_1651 rfl (pc' := 1652) (st' := .int (iI 0) :: _) rfl ?_
    refine n_go f_0_1652 rfl (pc' := 1654) (ls' := [_, _, _, _, _, _, _, _, _, _, _, _, _, _, _, _, _, _, _, _, _, _, _, _, _, _, _, _, _]) rfl ?_
    refine n_go f_0_1654 rfl (pc' := 1655) rfl ?_
    refine n_bip (m := 8) f_0_1655 rfl (by decide) ?_
    refine n_go f_0_1657 rfl (pc' := 1659) rfl ?_
    refine n_go f_0_1659 rfl (pc' := 1660) (st' := .int (iI 0) :: _) rfl ?_
    refine n_go f_0_1660 rfl (pc' := 1661) (st' := .int (iI 0) :: _) rfl ?_
    refine n_go f_0_1661 rfl (pc' := 1662) (st' := .int (iI 0) :: _) rfl ?_
    refine n_go f_0_1662 rfl (pc' := 1663) (st' := .int (iI 0) :: _) rfl ?_
    refine n_cs (ls' := [_, _, _, _, _, _, _, _]) f_0_1663 (by decide) m_6 rfl rfl ?_
    refine d_commit t0 (c_commit hW hb hdl hN6 (by omega) (fun _ h1 hW1 hQ1 => ?_) (fun x => absurd g1 x))
    show En V _ _ 1666 _ [.int (iI (-13))] (xH h1 13) _
    refine n_go f_0_1666 rfl (pc' := 1668) rfl ?_
    refine n_if_eq f_0_1668 rfl rfl (by omega) (fun _ => ?_) (fun e9 => absurd (by omega) e9)
    refine n_bip (m := (-13)) f_0_1677 rfl (by decide) ?_
    refine n_ic_ne f_0_1679 rfl rfl ⟨by omega, by omega⟩ (fun e9 => absurd e9 (by omega)) (fun _ => ?_)
    refine n_go f_0_1682 rfl (pc' := 1683) (st' := .int (iI 1) :: _) rfl ?_
    refine n_go f_0_1683 rfl (pc' := 1687) rfl ?_
    refine n_go f_0_1687 rfl (pc' := 1689) (ls' := [_, _, _, _, _, _, _, _, _, _, _, _, _, _, _, _, _, _, _, _, _, _, _, _, _, _, _, _, _]) rfl ?_
    refine n_go f_0_1689 rfl (pc' := 1691) rfl ?_
    refine n_if_eq f_0_1691 rfl rfl (by omega) (fun _ => ?_) (fun e9 => absurd (by omega) e9)
    refine n_go f_0_1766 rfl (pc' := 2227) rfl ?_
    exact KK (xH h1 13) _ _ _ _ _ _ _ _ _ _ _ _ _ _ _ _ _ _ _ _ _ (hL.gm hW1.psh (hQ1.gm.tr (Gm.push _ _ _))) (by omega) ((hQ1.gm.gw.tr (Gm.push _ _ _).gw).le (by omega) (by omega))
  · have g1 : ¬ edk (wD w b) (hV (wH w) (wE w b)) 8 = [] := fun x => by
      have := hsm.mpr x
      rw [g0] at this
      cases this
    refine n_go f_0_1647 rfl (pc' := 1648) (st' := .int (iI 1) :: _) rfl ?_
    refine n_go f_0_1648 rfl (pc' := 1652) rfl ?_
    refine n_go f_0_1652 rfl (pc' := 1654) (ls' := [_, _, _, _, _, _, _, _, _, _, _, _, _, _, _, _, _, _, _, _, _, _, _, _, _, _, _, _, _]) rfl ?_
    refine n_go f_0_1654 rfl (pc' := 1655) rfl ?_
    refine n_bip (m := 8) f_0_1655 rfl (by decide) ?_
    refine n_go f_0_1657 rfl (pc' := 1659) rfl ?_
    refine n_go f_0_1659 rfl (pc' := 1660) (st' := .int (iI 0) :: _) rfl ?_
    refine n_go f_0_1660 rfl (pc' := 1661) (st' := .int (iI 0) :: _) rfl ?_
    refine n_go f_0_1661 rfl (pc' := 1662) (st' := .int (iI 0) :: _) rfl ?_
    refine n_go f_0_1662 rfl (pc' := 1663) (st' := .int (iI 0) :: _) rfl ?_
    refine n_cs (ls' := [_, _, _, _, _, _, _, _]) f_0_1663 (by decide) m_6 rfl rfl ?_
    refine d_commit t0 (c_commit hW hb hdl hN6 (by omega) (fun x => absurd x g1) (fun _ h1 a hW1 hG1 => ?_))
    show En V _ _ 1666 _ [.int (iI (hN (wH w)))] h1 _
    have H1 := hH.gm hG1.gm
    have c1 := H1.1.1
    refine n_go f_0_1666 rfl (pc' := 1668) rfl ?_
    refine n_if_eq f_0_1668 rfl rfl (by omega) (fun e9 => absurd e9 (by omega)) (fun _ => ?_)
    refine n_go f_0_1671 rfl (pc' := 1672) rfl ?_
    refine n_go f_0_1672 rfl (pc' := 1673) (st' := .int (iI 3) :: _) rfl ?_
    refine n_ial f_0_1673 rfl (c1) (by unfold ev_ext; omega) (by omega) ?_
    refine n_go f_0_1674 rfl (pc' := 1679) rfl ?_
    refine n_ic_ne f_0_1679 rfl rfl ⟨by omega, by omega⟩ (fun e9 => absurd e9 (by omega)) (fun _ => ?_)
    refine n_go f_0_1682 rfl (pc' := 1683) (st' := .int (iI 1) :: _) rfl ?_
    refine n_go f_0_1683 rfl (pc' := 1687) rfl ?_
    refine n_go f_0_1687 rfl (pc' := 1689) (ls' := [_, _, _, _, _, _, _, _, _, _, _, _, _, _, _, _, _, _, _, _, _, _, _, _, _, _, _, _, _]) rfl ?_
    refine n_go f_0_1689 rfl (pc' := 1691) rfl ?_
    refine n_if_eq f_0_1691 rfl rfl (by omega) (fun e9 => absurd e9 (by omega)) (fun _ => ?_)
    refine n_go f_0_1694 rfl (pc' := 1695) rfl ?_
    refine n_go f_0_1695 rfl (pc' := 1697) rfl ?_
    refine n_go f_0_1697 rfl (pc' := 1699) rfl ?_
    refine n_bip (m := 10) f_0_1699 rfl (by decide) ?_
    refine n_go f_0_1701 rfl (pc' := 1702) rfl ?_
    refine n_go f_0_1702 rfl (pc' := 1703) (st' := .int (iI 3) :: _) rfl ?_
    refine n_ial f_0_1703 rfl (c1) (by unfold ev_ext; omega) (by omega) ?_
    rw [n3]
    refine n_imul f_0_1704 rfl ?_
    refine n_cs (ls' := [_, _, _, _, _]) f_0_1705 (by decide) m_12 rfl rfl ?_
    refine c_lcopies H1.2.1 H1.2.2.2.2.1 (by decide) hor (by omega) ?_
    show En V _ 0 1708 _ [] _ _
    have H2 := Hp_v H1 (g := cpF dd v (10 * b) (10 * hN (wH w)) 10) (cp_b H1.2.1.2.2.2.2 H1.2.2.2.2.1.2.2.2.2)
    have E2 : Ek h1 (ev_set h1 86 (aI 60 (cpF dd v (10 * b) (10 * hN (wH w)) 10))) := Ek.set (by decide)
    generalize ev_set h1 86 (aI 60 (cpF dd v (10 * b) (10 * hN (wH w)) 10)) = h2 at *
    have c2 := H2.1.1
    refine n_go f_0_1708 rfl (pc' := 1710) rfl ?_
    refine n_go f_0_1710 rfl (pc' := 1712) rfl ?_
    refine n_go f_0_1712 rfl (pc' := 1714) rfl ?_
    refine n_bip (m := 10) f_0_1714 rfl (by decide) ?_
    refine n_go f_0_1716 rfl (pc' := 1717) rfl ?_
    refine n_go f_0_1717 rfl (pc' := 1718) (st' := .int (iI 3) :: _) rfl ?_
    refine n_ial f_0_1718 rfl (c2) (by unfold ev_ext; omega) (by omega) ?_
    rw [n3]
    refine n_imul f_0_1719 rfl ?_
    refine n_cs (ls' := [_, _, _, _, _]) f_0_1720 (by decide) m_12 rfl rfl ?_
    refine c_lcopies H2.2.2.1 H2.2.2.2.2.2.1 (by decide) hor (by omega) ?_
    show En V _ 0 1723 _ [] _ _
    have H3 := Hp_f H2 (g := cpF e f (10 * b) (10 * hN (wH w)) 10) (cp_b H2.2.2.1.2.2.2.2 H2.2.2.2.2.2.1.2.2.2.2)
    have E3 : Ek h1 (ev_set h2 87 (aI 60 (cpF e f (10 * b) (10 * hN (wH w)) 10))) := E2.tr (Ek.set (by decide))
    generalize ev_set h2 87 (aI 60 (cpF e f (10 * b) (10 * hN (wH w)) 10)) = h3 at *
    have c3 := H3.1.1
    refine n_go f_0_1723 rfl (pc' := 1725) rfl ?_
    refine n_go f_0_1725 rfl (pc' := 1727) rfl ?_
    refine n_go f_0_1727 rfl (pc' := 1729) rfl ?_
    refine n_bip (m := 10) f_0_1729 rfl (by decide) ?_
    refine n_go f_0_1731 rfl (pc' := 1732) rfl ?_
    refine n_go f_0_1732 rfl (pc' := 1733) (st' := .int (iI 3) :: _) rfl ?_
    refine n_ial f_0_1733 rfl (c3) (by unfold ev_ext; omega) (by omega) ?_
    rw [n3]
    refine n_imul f_0_1734 rfl ?_
    refine n_cs (ls' := [_, _, _, _, _]) f_0_1735 (by decide) m_12 rfl rfl ?_
    refine c_lcopies H3.2.2.2.1 H3.2.2.2.2.2.2.1 (by decide) hor (by omega) ?_
    show En V _ 0 1738 _ [] _ _
    have H4 := Hp_y H3 (g := cpF z y (10 * b) (10 * hN (wH w)) 10) (cp_b H3.2.2.2.1.2.2.2.2 H3.2.2.2.2.2.2.1.2.2.2.2)
    have E4 : Ek h1 (ev_set h3 88 (aI 60 (cpF z y (10 * b) (10 * hN (wH w)) 10))) := E3.tr (Ek.set (by decide))
    generalize ev_set h3 88 (aI 60 (cpF z y (10 * b) (10 * hN (wH w)) 10)) = h4 at *
    have c4 := H4.1.1
    have p4 := H4.2.2.2.2.2.2.2.2.2.1
    refine n_go f_0_1738 rfl (pc' := 1740) rfl ?_
    refine n_go f_0_1740 rfl (pc' := 1741) rfl ?_
    refine n_go f_0_1741 rfl (pc' := 1742) (st' := .int (iI 3) :: _) rfl ?_
    refine n_ial f_0_1742 rfl (c4) (by unfold ev_ext; omega) (by omega) ?_
    refine n_go f_0_1743 rfl (pc' := 1744) rfl ?_
    refine n_go f_0_1744 rfl (pc' := 1745) (st' := .int (iI 4) :: _) rfl ?_
    refine n_go f_0_1745 rfl (pc' := 1747) rfl ?_
    refine n_iadd f_0_1747 rfl ?_
    refine n_ial f_0_1748 rfl (c4) (by unfold ev_ext; omega) (by omega) ?_
    rw [n3, nb]
    refine n_ias f_0_1749 rfl (p4) (by omega) ?_
    have H5 := Hp_p H4 (g := uz p (hN (wH w)) (wE w b)) (fun i => by have := hpp i; unfold uz; split <;> omega)
    have E5 : Ek h1 (ev_set h4 91 (aI 6 (uz p (hN (wH w)) (wE w b)))) := E4.tr (Ek.set (by decide))
    generalize ev_set h4 91 (aI 6 (uz p (hN (wH w)) (wE w b))) = h5 at *
    have c5 := H5.1.1
    refine n_go f_0_1750 rfl (pc' := 1751) rfl ?_
    refine n_go f_0_1751 rfl (pc' := 1752) (st' := .int (iI 4) :: _) rfl ?_
    refine n_go f_0_1752 rfl (pc' := 1754) rfl ?_
    refine n_iadd f_0_1754 rfl ?_
    refine n_go f_0_1755 rfl (pc' := 1756) rfl ?_
    refine n_go f_0_1756 rfl (pc' := 1757) (st' := .int (iI 3) :: _) rfl ?_
    refine n_ial f_0_1757 rfl (c5) (by unfold ev_ext; omega) (by omega) ?_
    rw [n3]
    refine n_ias f_0_1758 rfl (c5) (by omega) ?_
    have H6 := Hp_n H5 (g := uz n (4 + b) (hN (wH w))) (fun i => by have := hH.1.2.2.2.2 i; unfold uz; split <;> omega)
    have E6 : Ek h1 (ev_set h5 82 (aI 8 (uz n (4 + b) (hN (wH w))))) := E5.tr (Ek.set (by decide))
    generalize ev_set h5 82 (aI 8 (uz n (4 + b) (hN (wH w)))) = h6 at *
    have c6 := H6.1.1
    have e3 : uz n (4 + b) (hN (wH w)) 3 = hN (wH w) := (uz_ne _ _ (by omega)).trans n3
    refine n_go f_0_1759 rfl (pc' := 1760) rfl ?_
    refine n_go f_0_1760 rfl (pc' := 1761) (st' := .int (iI 3) :: _) rfl ?_
    refine n_go f_0_1761 rfl (pc' := 1762) rfl ?_
    refine n_ial f_0_1762 rfl (c6) (by unfold ev_ext; omega) (by omega) ?_
    refine n_go f_0_1763 rfl (pc' := 1764) (st' := .int (iI 1) :: _) rfl ?_
    refine n_iadd f_0_1764 rfl ?_
    refine n_ias f_0_1765 rfl (c6) (by omega) ?_
    refine n_go f_0_1766 rfl (pc' := 2227) rfl ?_
    rw [e3]
    have H7 := Hp_n H6 (g := uz (uz n (4 + b) (hN (wH w))) 3 (hN (wH w) + 1)) (fun i => by have := hH.1.2.2.2.2 i; unfold uz; split <;> (try split) <;> omega)
    have E7 : Ek h1 (ev_set h6 82 (aI 8 (uz (uz n (4 + b) (hN (wH w))) 3 (hN (wH w) + 1)))) := E6.tr (Ek.set (by decide))
    generalize ev_set h6 82 (aI 8 (uz (uz n (4 + b) (hN (wH w))) 3 (hN (wH w) + 1))) = h7 at *
    exact KK h7 _ _ _ _ _ _ _ _ _ _ _ _ _ _ _ _ _ _ _ _ _ (Lst_cm hL hb hN6 (Wd_ek hW1 E7) (fun i i1 i2 => ⟨cp_in ⟨i1, i2⟩, cp_in ⟨i1, i2⟩, cp_in ⟨i1, i2⟩⟩) (fun i x => ⟨cp_ou x, cp_ou x, cp_ou x⟩) ⟨uz_same _ _ _, (uz_ne _ _ (by omega)).trans (uz_same _ _ _), fun i x x2 => (uz_ne _ _ x).trans (uz_ne _ _ x2)⟩ ⟨uz_same _ _ _, fun i x => uz_ne _ _ x⟩ H7) (show kS (wK w) ≤ kS (wK w) + 1 by omega) ((hG1.gm.gw.tr E7.gw).le (by omega) (by omega))
theorem L_res (hL : Lst h w n dd e z v f y k q p) (hl : 92 ≤ h.1.length ∧ h.1.length < 800000) (htn : 0 ≤ tn ∧ tn < 110) (hc : 0 ≤ c ∧ c < 2147483648) (hb : 0 ≤ b ∧ b < wB w) (hnd : 0 ≤ nd ∧ nd < kN (wK w)) (hio : io = hs (wD w b) nd) (hot : 0 ≤ ot ∧ ot < kN (wK w)) (htg : 0 ≤ tg ∧ tg < 5) (hkc : kc = cnI 40 (fun i => decide (hold (wK w) (wD w b) i = nd))) (hS : kS (wK w) < 111) (KK : ∀ h' w' n' d' e' z' v' f' y' k' q' p' (u19 u20 u21 u22 u23 u24 u25 u26 u27 u28 : Option Value), Lst h' w' n' d' e' z' v' f' y' k' q' p' → kS (wK w') ≤ kS (wK w) + 1 → Gw h h' 100 1000 → En V (d + 9) 0 2227 [some (.ref ev_ext), some (.ref 0), some (.ref 82), some (.ref 83), some (.ref 84), some (.ref 85), some (.ref 86), some (.ref 87), some (.ref 88), some (.ref 89), some (.ref 90), some (.ref 91), some (.int (iI 1)), some (.int (iI tn)), some (.int (iI q0)), some (.int (iI kd)), some (.int (iI c)), some (.int (iI b)), some (.int (iI (10 * b))), u19, u20, u21, u22, u23, u24, u25, u26, u27, u28] [] h' P) : En V (d + 9) 0 1776 [some (.ref ev_ext), some (.ref 0), some (.ref 82), some (.ref 83), some (.ref 84), some (.ref 85), some (.ref 86), some (.ref 87), some (.ref 88), some (.ref 89), some (.ref 90), some (.ref 91), some (.int (iI 1)), some (.int (iI tn)), some (.int (iI q0)), some (.int (iI kd)), some (.int (iI c)), some (.int (iI b)), some (.int (iI (10 * b))), some (.int (iI nd)), some (.int (iI (b2 io))), some (.int (iI ot)), some (.int (iI tg)), some (.int (iI kc)), u24, u25, u26, u27, u28] [] h P := by
  obtain ⟨hW, hK, ⟨n0, n1, n2, n3, n7, n4⟩, hP, hOO, rw', rf', hH, hE, hpp, hbd, hbv⟩ := id hL
  have t0 := hW.2.2.1.1
  have tb := hW.2.2.1.2.2.2.1
  have kr := hW.1.2.2.2.2.2.2.2.2.2.2
  have kn := hK.2.2.1
  have kw := hK.2.2.2.1
  have ks0 := hK.2.2.2.2.1
  have hOb := hOO.1 b hb.1 hb.2
  obtain ⟨⟨hI, ⟨dp, hT⟩, hOk⟩, hR, hEe⟩ := id hOb
  have hkr := ch_le hK hI.1 hnd.1
  have hkr0 := (cnI_r (i := 40) (p := fun i => decide (hold (wK w) (wD w b) i = nd)) (by decide)).1
  have hor : 0 ≤ 10 * b ∧ 10 * b + 10 ≤ (30 : Nat) := by omega
  have b0 := hH.1.1
  have gn0 := hH.1.2.2.2.2 0
  have gn1 := hH.1.2.2.2.2 1
  have hhn := hW.2.1.2.2.2.2.2.2.2.1
  have heb := hE b
  have oD := hOb
  have oV := hOO.2 (wE w b) heb.1 heb.2
  have nb := n4 b hb.1 hb.2
  have gnb := hH.1.2.2.2.2 (4 + b)
  have gn3 := hH.1.2.2.2.2 3
  have hsm := sm_eq hK oD.1.1 oV.1.1 oD.2.1 oV.2.1 oD.2.2 oV.2.2
  have hdl := gd_dlo hK oD.1.1 oV.1.1
  generalize hsa : al (smC dd e z v f y (10 * b) (10 * wE w b) (kN (wK w))) 10 = sa at *
  refine n_go f_0_1776 rfl (pc' := 1777) rfl ?_
  refine n_go f_0_1777 rfl (pc' := 1778) (st' := .int (iI 4) :: _) rfl ?_
  refine n_go f_0_1778 rfl (pc' := 1780) rfl ?_
  refine n_iadd f_0_1780 rfl ?_
  refine n_ial f_0_1781 rfl (b0) (by unfold ev_ext; omega) (by omega) ?_
  rw [nb]
  refine n_go f_0_1782 rfl (pc' := 1784) (ls' := [_, _, _, _, _, _, _, _, _, _, _, _, _, _, _, _, _, _, _, _, _, _, _, _, _, _, _, _, _]) rfl ?_
  refine n_go f_0_1784 rfl (pc' := 1785) rfl ?_
  refine n_go f_0_1785 rfl (pc' := 1786) (st' := .int (iI (-1)) :: _) rfl ?_
  refine n_go f_0_1786 rfl (pc' := 1788) rfl ?_
  refine n_isub f_0_1788 rfl ?_
  refine n_go f_0_1789 rfl (pc' := 1791) rfl ?_
  refine n_cv (ls' := [_, _, _]) f_0_1791 (by decide) m_13 rfl rfl (t0) rfl ?_
  refine c_edits hW (Or.inr ⟨by omega, by omega⟩) (Or.inl heb) (by rw [vw_d hb.1, vw_v heb.1]; exact hdl) (fun h1 hW1 hQ1 => ?_)
  have hlen := edk_le (wD w b) (hV (wH w) (wE w b)) hdl 8
  have ev1 : vwS w (-1 - b) = wD w b := vw_d hb.1
  have ev2 : vwS w (wE w b) = hV (wH w) (wE w b) := vw_v heb.1
  show En V _ _ 1794 _ [_] h1 _
  rw [ev1, ev2]
  have H1 := hH.gm hQ1.gm
  refine n_go f_0_1794 rfl (pc' := 1796) (ls' := [_, _, _, _, _, _, _, _, _, _, _, _, _, _, _, _, _, _, _, _, _, _, _, _, _, _, _, _, _]) rfl ?_
  refine n_go f_0_1796 rfl (pc' := 1797) rfl ?_
  refine n_go f_0_1797 rfl (pc' := 1798) (st' := .int (iI (-1)) :: _) rfl ?_
  refine n_go f_0_1798 rfl (pc' := 1800) rfl ?_
  refine n_isub f_0_1800 rfl ?_
  refine n_go f_0_1801 rfl (pc' := 1803) rfl ?_
  refine n_go f_0_1803 rfl (pc' := 1804) rfl ?_
  refine n_go f_0_1804 rfl (pc' := 1805) rfl ?_
  refine n_go f_0_1805 rfl (pc' := 1807) rfl ?_
  refine n_go f_0_1807 rfl (pc' := 1809) rfl ?_
  refine n_go f_0_1809 rfl (pc' := 1811) rfl ?_
  refine n_go f_0_1811 rfl (pc' := 1813) rfl ?_
  refine n_go f_0_1813 rfl (pc' := 1815) rfl ?_
  refine n_go f_0_1815 rfl (pc' := 1817) rfl ?_
  refine n_bip (m := 10) f_0_1817 rfl (by decide) ?_
  refine n_go f_0_1819 rfl (pc' := 1821) rfl ?_
  refine n_imul f_0_1821 rfl ?_
  refine n_cs (ls' := [_, _, _, _, _, _, _, _, _, _, _, _, _, _, _, _, _, _, _]) f_0_1822 (by decide) m_14 rfl rfl ?_
  refine c_lscript (m := kN (wK w)) (m1 := kW (wK w)) hW1 (Or.inr ⟨by omega, by omega⟩) (Or.inl heb) (by rw [ev1, ev2]; exact hdl) (by omega) (by omega) H1.1 ⟨n0, kn⟩ ⟨n1, kw⟩ H1.2.1 H1.2.2.1 H1.2.2.2.1 H1.2.2.2.2.1 H1.2.2.2.2.2.1 H1.2.2.2.2.2.2.1 (by omega) (by omega) (by rw [ev1, ev2]; exact ed_ll hK oD.1.1 oV.1.1 oD.2.1 oV.2.1 oD.2.2 oV.2.2) (fun h2 hW2 hG2 => ?_)
  show En V _ _ 1825 _ [.int (iI 1)] h2 _
  have t2 := hW2.2.2.1.1
  refine n_if_eq f_0_1825 rfl rfl (by omega) (fun e9 => absurd e9 (by omega)) (fun _ => ?_)
  refine n_go f_0_1828 rfl (pc' := 1829) rfl ?_
  refine n_go f_0_1829 rfl (pc' := 1831) rfl ?_
  refine n_cv (ls' := [_, _, _]) f_0_1831 (by decide) m_15 rfl rfl (t2) rfl ?_
  refine c_reset hW2 hb hdl (fun h3 hW3 hQ3 => ?_)
  show En V _ _ 1834 _ [.int (iI ((edk (wD w b) (hV (wH w) (wE w b)) 8).length : Int))] h3 _
  have t3 := hW3.2.2.1.1
  have ed : wD (sD w b (hV (wH w) (wE w b))) b = hV (wH w) (wE w b) := if_pos rfl
  refine n_go f_0_1834 rfl (pc' := 1836) rfl ?_
  refine n_ic_ne f_0_1836 rfl rfl ⟨by omega, by omega⟩ (fun e9 => absurd e9 (by omega)) (fun _ => ?_)
  refine n_go f_0_1839 rfl (pc' := 1840) rfl ?_
  refine n_go f_0_1840 rfl (pc' := 1842) rfl ?_
  refine n_cv (ls' := [_, _]) f_0_1842 (by decide) m_16 rfl rfl (t3) rfl ?_
  refine c_isClean hW3 hb (by rw [ed]; exact gd_dlo hK oV.1.1 oV.1.1) (fun h4 hW4 hQ4 => ?_)
  have ez : edk (wD (sD w b (hV (wH w) (wE w b))) b) (hV (wH (sD w b (hV (wH w) (wE w b)))) (wE (sD w b (hV (wH w) (wE w b))) b)) 8 = [] := by
    rw [ed]
    exact edk_self _ 8
  show En V _ _ 1845 _ [_] h4 _
  rw [decide_eq_true ez]
  have hG4 := ((hQ1.gm.tr hG2.gm).tr hQ3.gm).tr hQ4.gm
  have H4 := hH.gm hG4
  have E0 : Ek h4 h4 := Ek.rf h4
  have z1 : b2 true = 1 := rfl
  rw [z1]
  refine n_if_eq f_0_1845 rfl rfl (by omega) (fun e9 => absurd e9 (by omega)) (fun _ => ?_)
  refine n_go f_0_1848 rfl (pc' := 1849) (st' := .int (iI 1) :: _) rfl ?_
  refine n_go f_0_1849 rfl (pc' := 1853) rfl ?_
  refine n_go f_0_1853 rfl (pc' := 1855) (ls' := [_, _, _, _, _, _, _, _, _, _, _, _, _, _, _, _, _, _, _, _, _, _, _, _, _, _, _, _, _]) rfl ?_
  refine n_go f_0_1855 rfl (pc' := 1857) rfl ?_
  refine n_bip (m := 10) f_0_1857 rfl (by decide) ?_
  refine n_go f_0_1859 rfl (pc' := 1861) rfl ?_
  refine n_imul f_0_1861 rfl ?_
  refine n_go f_0_1862 rfl (pc' := 1863) rfl ?_
  refine n_go f_0_1863 rfl (pc' := 1865) rfl ?_
  refine n_cs (ls' := [_, _, _, _, _]) f_0_1865 (by decide) m_12 rfl rfl ?_
  refine c_lcopies H4.2.2.2.2.1 H4.2.1 (by decide) (by omega) (by omega) ?_
  show En V _ 0 1868 _ [] _ _
  have H5 := Hp_d H4 (g := cpF v dd (10 * wE w b) (10 * b) 10) (cp_b H4.2.2.2.2.1.2.2.2.2 H4.2.1.2.2.2.2)
  have E5 : Ek h4 (ev_set h4 83 (aI 30 (cpF v dd (10 * wE w b) (10 * b) 10))) := E0.tr (Ek.set (by decide))
  generalize ev_set h4 83 (aI 30 (cpF v dd (10 * wE w b) (10 * b) 10)) = h5 at *
  refine n_go f_0_1868 rfl (pc' := 1870) rfl ?_
  refine n_bip (m := 10) f_0_1870 rfl (by decide) ?_
  refine n_go f_0_1872 rfl (pc' := 1874) rfl ?_
  refine n_imul f_0_1874 rfl ?_
  refine n_go f_0_1875 rfl (pc' := 1877) rfl ?_
  refine n_go f_0_1877 rfl (pc' := 1879) rfl ?_
  refine n_cs (ls' := [_, _, _, _, _]) f_0_1879 (by decide) m_12 rfl rfl ?_
  refine c_lcopies H5.2.2.2.2.2.1 H5.2.2.1 (by decide) (by omega) (by omega) ?_
  show En V _ 0 1882 _ [] _ _
  have H6 := Hp_e H5 (g := cpF f e (10 * wE w b) (10 * b) 10) (cp_b H5.2.2.2.2.2.1.2.2.2.2 H5.2.2.1.2.2.2.2)
  have E6 : Ek h4 (ev_set h5 84 (aI 30 (cpF f e (10 * wE w b) (10 * b) 10))) := E5.tr (Ek.set (by decide))
  generalize ev_set h5 84 (aI 30 (cpF f e (10 * wE w b) (10 * b) 10)) = h6 at *
  refine n_go f_0_1882 rfl (pc' := 1884) rfl ?_
  refine n_bip (m := 10) f_0_1884 rfl (by decide) ?_
  refine n_go f_0_1886 rfl (pc' := 1888) rfl ?_
  refine n_imul f_0_1888 rfl ?_
  refine n_go f_0_1889 rfl (pc' := 1891) rfl ?_
  refine n_go f_0_1891 rfl (pc' := 1893) rfl ?_
  refine n_cs (ls' := [_, _, _, _, _]) f_0_1893 (by decide) m_12 rfl rfl ?_
  refine c_lcopies H6.2.2.2.2.2.2.1 H6.2.2.2.1 (by decide) (by omega) (by omega) ?_
  show En V _ 0 1896 _ [] _ _
  refine n_go f_0_1896 rfl (pc' := 2227) rfl ?_
  have H7 := Hp_z H6 (g := cpF y z (10 * wE w b) (10 * b) 10) (cp_b H6.2.2.2.2.2.2.1.2.2.2.2 H6.2.2.2.1.2.2.2.2)
  have E7 : Ek h4 (ev_set h6 85 (aI 30 (cpF y z (10 * wE w b) (10 * b) 10))) := E6.tr (Ek.set (by decide))
  generalize ev_set h6 85 (aI 30 (cpF y z (10 * wE w b) (10 * b) 10)) = h7 at *
  exact KK h7 _ _ _ _ _ _ _ _ _ _ _ _ _ _ _ _ _ _ _ _ _ (Lst_rs hL hb heb (Wd_ek hW4 E7) (fun i i1 i2 => ⟨cp_in ⟨i1, i2⟩, cp_in ⟨i1, i2⟩, cp_in ⟨i1, i2⟩⟩) (fun i x => ⟨cp_ou x, cp_ou x, cp_ou x⟩) H7) (show kS (wK w) ≤ kS (wK w) + 1 by omega) ((hG4.gw.tr E7.gw).le (by omega) (by omega))
theorem L_for (hL : Lst h w n dd e z v f y k q p) (hl : 92 ≤ h.1.length ∧ h.1.length < 800000) (htn : 0 ≤ tn ∧ tn < 110) (hc : 0 ≤ c ∧ c < 2147483648) (hb : 0 ≤ b ∧ b < wB w) (hnd : 0 ≤ nd ∧ nd < kN (wK w)) (hio : io = hs (wD w b) nd) (hot : 0 ≤ ot ∧ ot < kN (wK w)) (htg : 0 ≤ tg ∧ tg < 5) (hkc : kc = cnI 40 (fun i => decide (hold (wK w) (wD w b) i = nd))) (hS : kS (wK w) < 111) (hB3 : wB w < 3) (KK : ∀ h' w' n' d' e' z' v' f' y' k' q' p' (u19 u20 u21 u22 u23 u24 u25 u26 u27 u28 : Option Value), Lst h' w' n' d' e' z' v' f' y' k' q' p' → kS (wK w') ≤ kS (wK w) + 1 → Gw h h' 100 1000 → En V (d + 9) 0 2227 [some (.ref ev_ext), some (.ref 0), some (.ref 82), some (.ref 83), some (.ref 84), some (.ref 85), some (.ref 86), some (.ref 87), some (.ref 88), some (.ref 89), some (.ref 90), some (.ref 91), some (.int (iI 1)), some (.int (iI tn)), some (.int (iI q0)), some (.int (iI kd)), some (.int (iI c)), some (.int (iI b)), some (.int (iI (10 * b))), u19, u20, u21, u22, u23, u24, u25, u26, u27, u28] [] h' P) : En V (d + 9) 0 1913 [some (.ref ev_ext), some (.ref 0), some (.ref 82), some (.ref 83), some (.ref 84), some (.ref 85), some (.ref 86), some (.ref 87), some (.ref 88), some (.ref 89), some (.ref 90), some (.ref 91), some (.int (iI 1)), some (.int (iI tn)), some (.int (iI q0)), some (.int (iI kd)), some (.int (iI c)), some (.int (iI b)), some (.int (iI (10 * b))), some (.int (iI nd)), some (.int (iI (b2 io))), some (.int (iI ot)), some (.int (iI tg)), some (.int (iI kc)), u24, u25, u26, u27, u28] [] h P := by
  obtain ⟨hW, hK, ⟨n0, n1, n2, n3, n7, n4⟩, hP, hOO, rw', rf', hH, hE, hpp, hbd, hbv⟩ := id hL
  have t0 := hW.2.2.1.1
  have tb := hW.2.2.1.2.2.2.1
  have kr := hW.1.2.2.2.2.2.2.2.2.2.2
  have kn := hK.2.2.1
  have kw := hK.2.2.2.1
  have ks0 := hK.2.2.2.2.1
  have hOb := hOO.1 b hb.1 hb.2
  obtain ⟨⟨hI, ⟨dp, hT⟩, hOk⟩, hR, hEe⟩ := id hOb
  have hkr := ch_le hK hI.1 hnd.1
  have hkr0 := (cnI_r (i := 40) (p := fun i => decide (hold (wK w) (wD w b) i = nd)) (by decide)).1
  have hor : 0 ≤ 10 * b ∧ 10 * b + 10 ≤ (30 : Nat) := by omega
  have b0 := hH.1.1
  have gn0 := hH.1.2.2.2.2 0
  have gn1 := hH.1.2.2.2.2 1
  have hhn := hW.2.1.2.2.2.2.2.2.2.1
  have gn2 := hH.1.2.2.2.2 2
  have gn3 := hH.1.2.2.2.2 3
  have hq : 0 ≤ c / 7 % n 3 ∧ c / 7 % n 3 < n 3 := ⟨Int.emod_nonneg _ (by omega), Int.emod_lt_of_pos _ (by omega)⟩
  refine n_go f_0_1913 rfl (pc' := 1915) rfl ?_
  refine n_bip (m := 7) f_0_1915 rfl (by decide) ?_
  refine n_idiv f_0_1917 rfl (by omega) ?_
  refine n_go f_0_1918 rfl (pc' := 1919) rfl ?_
  refine n_go f_0_1919 rfl (pc' := 1920) (st' := .int (iI 3) :: _) rfl ?_
  refine n_ial f_0_1920 rfl (b0) (by unfold ev_ext; omega) (by omega) ?_
  refine n_irem f_0_1921 rfl (by omega) ?_
  refine n_go f_0_1922 rfl (pc' := 1924) (ls' := [_, _, _, _, _, _, _, _, _, _, _, _, _, _, _, _, _, _, _, _, _, _, _, _, _, _, _, _, _]) rfl ?_
  generalize c / 7 % n 3 = u9 at *
  have hu : 0 ≤ u9 ∧ u9 < hN (wH w) := ⟨hq.1, by omega⟩
  refine n_go f_0_1924 rfl (pc' := 1925) rfl ?_
  refine n_bip (m := 9) f_0_1925 rfl (by decide) ?_
  refine n_go f_0_1927 rfl (pc' := 1929) rfl ?_
  refine n_go f_0_1929 rfl (pc' := 1930) (st' := .int (iI 0) :: _) rfl ?_
  refine n_go f_0_1930 rfl (pc' := 1931) (st' := .int (iI 0) :: _) rfl ?_
  refine n_go f_0_1931 rfl (pc' := 1932) (st' := .int (iI 0) :: _) rfl ?_
  refine n_go f_0_1932 rfl (pc' := 1933) (st' := .int (iI 0) :: _) rfl ?_
  refine n_cs (ls' := [_, _, _, _, _, _, _, _]) f_0_1933 (by decide) m_6 rfl rfl ?_
  refine d_fork t0 (c_fork hW hB3 (hE (wB w)).2 hu (fun h1 hW1 hQ1 => ?_))
  show En V _ _ 1936 _ [.int (iI (wB w))] h1 _
  have H1 := hH.gm hQ1.gm
  have c1 := H1.1.1
  refine n_go f_0_1936 rfl (pc' := 1937) rfl ?_
  refine n_go f_0_1937 rfl (pc' := 1938) (st' := .int (iI 2) :: _) rfl ?_
  refine n_ial f_0_1938 rfl (c1) (by unfold ev_ext; omega) (by omega) ?_
  refine n_ic_ne f_0_1939 rfl rfl ⟨by omega, by omega⟩ (fun e9 => absurd e9 (by omega)) (fun _ => ?_)
  refine n_go f_0_1942 rfl (pc' := 1943) (st' := .int (iI 1) :: _) rfl ?_
  refine n_go f_0_1943 rfl (pc' := 1947) rfl ?_
  refine n_go f_0_1947 rfl (pc' := 1949) (ls' := [_, _, _, _, _, _, _, _, _, _, _, _, _, _, _, _, _, _, _, _, _, _, _, _, _, _, _, _, _]) rfl ?_
  refine n_go f_0_1949 rfl (pc' := 1950) rfl ?_
  refine n_go f_0_1950 rfl (pc' := 1951) (st' := .int (iI 4) :: _) rfl ?_
  refine n_go f_0_1951 rfl (pc' := 1952) rfl ?_
  refine n_go f_0_1952 rfl (pc' := 1953) (st' := .int (iI 2) :: _) rfl ?_
  refine n_ial f_0_1953 rfl (c1) (by unfold ev_ext; omega) (by omega) ?_
  refine n_iadd f_0_1954 rfl ?_
  refine n_go f_0_1955 rfl (pc' := 1957) rfl ?_
  rw [n2]
  refine n_ias f_0_1957 rfl (c1) (by omega) ?_
  have H2 := Hp_n H1 (g := uz n (4 + wB w) u9) (fun i => by have := hH.1.2.2.2.2 i; unfold uz; split <;> omega)
  have E2 : Ek h1 (ev_set h1 82 (aI 8 (uz n (4 + wB w) u9))) := Ek.set (by decide)
  generalize ev_set h1 82 (aI 8 (uz n (4 + wB w) u9)) = h2 at *
  have c2 := H2.1.1
  have m2 : uz n (4 + wB w) u9 2 = wB w := (uz_ne _ _ (by omega)).trans n2
  refine n_go f_0_1958 rfl (pc' := 1960) rfl ?_
  refine n_bip (m := 10) f_0_1960 rfl (by decide) ?_
  refine n_go f_0_1962 rfl (pc' := 1964) rfl ?_
  refine n_imul f_0_1964 rfl ?_
  refine n_go f_0_1965 rfl (pc' := 1966) rfl ?_
  refine n_bip (m := 10) f_0_1966 rfl (by decide) ?_
  refine n_go f_0_1968 rfl (pc' := 1969) rfl ?_
  refine n_go f_0_1969 rfl (pc' := 1970) (st' := .int (iI 2) :: _) rfl ?_
  refine n_ial f_0_1970 rfl (c2) (by unfold ev_ext; omega) (by omega) ?_
  rw [m2]
  refine n_imul f_0_1971 rfl ?_
  refine n_cs (ls' := [_, _, _, _, _]) f_0_1972 (by decide) m_12 rfl rfl ?_
  refine c_lcopies H2.2.2.2.2.1 H2.2.1 (by decide) (by omega) (by omega) ?_
  show En V _ 0 1975 _ [] _ _
  have H3 := Hp_d H2 (g := cpF v dd (10 * u9) (10 * wB w) 10) (cp_b H2.2.2.2.2.1.2.2.2.2 H2.2.1.2.2.2.2)
  have E3 : Ek h1 (ev_set h2 83 (aI 30 (cpF v dd (10 * u9) (10 * wB w) 10))) := E2.tr (Ek.set (by decide))
  generalize ev_set h2 83 (aI 30 (cpF v dd (10 * u9) (10 * wB w) 10)) = h3 at *
  have c3 := H3.1.1
  refine n_go f_0_1975 rfl (pc' := 1977) rfl ?_
  refine n_bip (m := 10) f_0_1977 rfl (by decide) ?_
  refine n_go f_0_1979 rfl (pc' := 1981) rfl ?_
  refine n_imul f_0_1981 rfl ?_
  refine n_go f_0_1982 rfl (pc' := 1984) rfl ?_
  refine n_bip (m := 10) f_0_1984 rfl (by decide) ?_
  refine n_go f_0_1986 rfl (pc' := 1987) rfl ?_
  refine n_go f_0_1987 rfl (pc' := 1988) (st' := .int (iI 2) :: _) rfl ?_
  refine n_ial f_0_1988 rfl (c3) (by unfold ev_ext; omega) (by omega) ?_
  rw [m2]
  refine n_imul f_0_1989 rfl ?_
  refine n_cs (ls' := [_, _, _, _, _]) f_0_1990 (by decide) m_12 rfl rfl ?_
  refine c_lcopies H3.2.2.2.2.2.1 H3.2.2.1 (by decide) (by omega) (by omega) ?_
  show En V _ 0 1993 _ [] _ _
  have H4 := Hp_e H3 (g := cpF f e (10 * u9) (10 * wB w) 10) (cp_b H3.2.2.2.2.2.1.2.2.2.2 H3.2.2.1.2.2.2.2)
  have E4 : Ek h1 (ev_set h3 84 (aI 30 (cpF f e (10 * u9) (10 * wB w) 10))) := E3.tr (Ek.set (by decide))
  generalize ev_set h3 84 (aI 30 (cpF f e (10 * u9) (10 * wB w) 10)) = h4 at *
  have c4 := H4.1.1
  refine n_go f_0_1993 rfl (pc' := 1995) rfl ?_
  refine n_bip (m := 10) f_0_1995 rfl (by decide) ?_
  refine n_go f_0_1997 rfl (pc' := 1999) rfl ?_
  refine n_imul f_0_1999 rfl ?_
  refine n_go f_0_2000 rfl (pc' := 2002) rfl ?_
  refine n_bip (m := 10) f_0_2002 rfl (by decide) ?_
  refine n_go f_0_2004 rfl (pc' := 2005) rfl ?_
  refine n_go f_0_2005 rfl (pc' := 2006) (st' := .int (iI 2) :: _) rfl ?_
  refine n_ial f_0_2006 rfl (c4) (by unfold ev_ext; omega) (by omega) ?_
  rw [m2]
  refine n_imul f_0_2007 rfl ?_
  refine n_cs (ls' := [_, _, _, _, _]) f_0_2008 (by decide) m_12 rfl rfl ?_
  refine c_lcopies H4.2.2.2.2.2.2.1 H4.2.2.2.1 (by decide) (by omega) (by omega) ?_
  show En V _ 0 2011 _ [] _ _
  have H5 := Hp_z H4 (g := cpF y z (10 * u9) (10 * wB w) 10) (cp_b H4.2.2.2.2.2.2.1.2.2.2.2 H4.2.2.2.1.2.2.2.2)
  have E5 : Ek h1 (ev_set h4 85 (aI 30 (cpF y z (10 * u9) (10 * wB w) 10))) := E4.tr (Ek.set (by decide))
  generalize ev_set h4 85 (aI 30 (cpF y z (10 * u9) (10 * wB w) 10)) = h5 at *
  have c5 := H5.1.1
  refine n_go f_0_2011 rfl (pc' := 2012) rfl ?_
  refine n_go f_0_2012 rfl (pc' := 2013) (st' := .int (iI 2) :: _) rfl ?_
  refine n_go f_0_2013 rfl (pc' := 2014) rfl ?_
  refine n_ial f_0_2014 rfl (c5) (by unfold ev_ext; omega) (by omega) ?_
  refine n_go f_0_2015 rfl (pc' := 2016) (st' := .int (iI 1) :: _) rfl ?_
  refine n_iadd f_0_2016 rfl ?_
  refine n_ias f_0_2017 rfl (c5) (by omega) ?_
  refine n_go f_0_2018 rfl (pc' := 2227) rfl ?_
  rw [m2]
  have H6 := Hp_n H5 (g := uz (uz n (4 + wB w) u9) 2 (wB w + 1)) (fun i => by have := hH.1.2.2.2.2 i; unfold uz; split <;> (try split) <;> omega)
  have E6 : Ek h1 (ev_set h5 82 (aI 8 (uz (uz n (4 + wB w) u9) 2 (wB w + 1)))) := E5.tr (Ek.set (by decide))
  generalize ev_set h5 82 (aI 8 (uz (uz n (4 + wB w) u9) 2 (wB w + 1))) = h6 at *
  exact KK h6 _ _ _ _ _ _ _ _ _ _ _ _ _ _ _ _ _ _ _ _ _ (Lst_hd hL (b := wB w) ⟨by omega, hB3⟩ hu (Or.inr ⟨rfl, rfl⟩) (by omega) (Wd_ek hW1 E6) (fun i i1 i2 => ⟨cp_in ⟨i1, i2⟩, cp_in ⟨i1, i2⟩, cp_in ⟨i1, i2⟩⟩) (fun i x => ⟨cp_ou x, cp_ou x, cp_ou x⟩) ⟨uz_same _ _ _, (uz_ne _ _ (by omega)).trans (uz_same _ _ _), fun i x x2 => (uz_ne _ _ x).trans (uz_ne _ _ x2)⟩ H6) (show kS (wK w) ≤ kS (wK w) + 1 by omega) ((hQ1.gm.gw.tr E6.gw).le (by omega) (by omega))
theorem L_mer (hL : Lst h w n dd e z v f y k q p) (hl : 92 ≤ h.1.length ∧ h.1.length < 800000) (htn : 0 ≤ tn ∧ tn < 110) (hc : 0 ≤ c ∧ c < 2147483648) (hb : 0 ≤ b ∧ b < wB w) (hnd : 0 ≤ nd ∧ nd < kN (wK w)) (hio : io = hs (wD w b) nd) (hot : 0 ≤ ot ∧ ot < kN (wK w)) (htg : 0 ≤ tg ∧ tg < 5) (hkc : kc = cnI 40 (fun i => decide (hold (wK w) (wD w b) i = nd))) (hS : kS (wK w) < 111) (KK : ∀ h' w' n' d' e' z' v' f' y' k' q' p' (u19 u20 u21 u22 u23 u24 u25 u26 u27 u28 : Option Value), Lst h' w' n' d' e' z' v' f' y' k' q' p' → kS (wK w') ≤ kS (wK w) + 1 → Gw h h' 100 1000 → En V (d + 9) 0 2227 [some (.ref ev_ext), some (.ref 0), some (.ref 82), some (.ref 83), some (.ref 84), some (.ref 85), some (.ref 86), some (.ref 87), some (.ref 88), some (.ref 89), some (.ref 90), some (.ref 91), some (.int (iI 1)), some (.int (iI tn)), some (.int (iI q0)), some (.int (iI kd)), some (.int (iI c)), some (.int (iI b)), some (.int (iI (10 * b))), u19, u20, u21, u22, u23, u24, u25, u26, u27, u28] [] h' P) : En V (d + 9) 0 2021 [some (.ref ev_ext), some (.ref 0), some (.ref 82), some (.ref 83), some (.ref 84), some (.ref 85), some (.ref 86), some (.ref 87), some (.ref 88), some (.ref 89), some (.ref 90), some (.ref 91), some (.int (iI 1)), some (.int (iI tn)), some (.int (iI q0)), some (.int (iI kd)), some (.int (iI c)), some (.int (iI b)), some (.int (iI (10 * b))), some (.int (iI nd)), some (.int (iI (b2 io))), some (.int (iI ot)), some (.int (iI tg)), some (.int (iI kc)), u24, u25, u26, u27, u28] [] h P := by
  obtain ⟨hW, hK, ⟨n0, n1, n2, n3, n7, n4⟩, hP, hOO, rw', rf', hH, hE, hpp, hbd, hbv⟩ := id hL
  have t0 := hW.2.2.1.1
  have tb := hW.2.2.1.2.2.2.1
  have kr := hW.1.2.2.2.2.2.2.2.2.2.2
  have kn := hK.2.2.1
  have kw := hK.2.2.2.1
  have ks0 := hK.2.2.2.2.1
  have hOb := hOO.1 b hb.1 hb.2
  obtain ⟨⟨hI, ⟨dp, hT⟩, hOk⟩, hR, hEe⟩ := id hOb
  have hkr := ch_le hK hI.1 hnd.1
  have hkr0 := (cnI_r (i := 40) (p := fun i => decide (hold (wK w) (wD w b) i = nd)) (by decide)).1
  have hor : 0 ≤ 10 * b ∧ 10 * b + 10 ≤ (30 : Nat) := by omega
  have b0 := hH.1.1
  have gn0 := hH.1.2.2.2.2 0
  have gn1 := hH.1.2.2.2.2 1
  have hhn := hW.2.1.2.2.2.2.2.2.2.1
  have heb := hE b
  have oD := hOb
  have oV := hOO.2 (wE w b) heb.1 heb.2
  have nb := n4 b hb.1 hb.2
  have gnb := hH.1.2.2.2.2 (4 + b)
  have gn3 := hH.1.2.2.2.2 3
  have hsm := sm_eq hK oD.1.1 oV.1.1 oD.2.1 oV.2.1 oD.2.2 oV.2.2
  have hdl := gd_dlo hK oD.1.1 oV.1.1
  generalize hsa : al (smC dd e z v f y (10 * b) (10 * wE w b) (kN (wK w))) 10 = sa at *
  have hq : 0 ≤ c / 7 % n 3 ∧ c / 7 % n 3 < n 3 := ⟨Int.emod_nonneg _ (by omega), Int.emod_lt_of_pos _ (by omega)⟩
  refine n_go f_0_2021 rfl (pc' := 2023) rfl ?_
  refine n_bip (m := 7) f_0_2023 rfl (by decide) ?_
  refine n_idiv f_0_2025 rfl (by omega) ?_
  refine n_go f_0_2026 rfl (pc' := 2027) rfl ?_
  refine n_go f_0_2027 rfl (pc' := 2028) (st' := .int (iI 3) :: _) rfl ?_
  refine n_ial f_0_2028 rfl (b0) (by unfold ev_ext; omega) (by omega) ?_
  refine n_irem f_0_2029 rfl (by omega) ?_
  refine n_go f_0_2030 rfl (pc' := 2032) (ls' := [_, _, _, _, _, _, _, _, _, _, _, _, _, _, _, _, _, _, _, _, _, _, _, _, _, _, _, _, _]) rfl ?_
  refine n_go f_0_2032 rfl (pc' := 2033) rfl ?_
  refine n_go f_0_2033 rfl (pc' := 2034) (st' := .int (iI 4) :: _) rfl ?_
  refine n_go f_0_2034 rfl (pc' := 2036) rfl ?_
  refine n_iadd f_0_2036 rfl ?_
  refine n_ial f_0_2037 rfl (b0) (by unfold ev_ext; omega) (by omega) ?_
  rw [nb]
  generalize c / 7 % n 3 = u9 at *
  have hu : 0 ≤ u9 ∧ u9 < hN (wH w) := ⟨hq.1, by omega⟩
  have b91 := hH.2.2.2.2.2.2.2.2.2.1
  have hpp2 : ∀ i, -1 ≤ p i ∧ p i < 6 := fun i => by have := hpp i; omega
  obtain ⟨K1, i1, i2, i3⟩ := up_K hP hu.1 (wE w b + 1).toNat (wE w b) (by omega) heb.1 heb.2
  obtain ⟨K2, j1, j2, j3⟩ := up_K hP heb.1 (u9 + 1).toNat u9 (by omega) hu.1 hu.2
  refine n_go f_0_2038 rfl (pc' := 2040) (ls' := [_, _, _, _, _, _, _, _, _, _, _, _, _, _, _, _, _, _, _, _, _, _, _, _, _, _, _, _, _]) rfl ?_
  refine n_go f_0_2040 rfl (pc' := 2041) rfl ?_
  refine n_go f_0_2041 rfl (pc' := 2042) rfl ?_
  refine n_go f_0_2042 rfl (pc' := 2044) rfl ?_
  refine n_go f_0_2044 rfl (pc' := 2046) rfl ?_
  refine n_go f_0_2046 rfl (pc' := 2048) rfl ?_
  refine n_go f_0_2048 rfl (pc' := 2050) rfl ?_
  refine n_go f_0_2050 rfl (pc' := 2052) rfl ?_
  refine n_go f_0_2052 rfl (pc' := 2054) rfl ?_
  refine n_bip (m := 10) f_0_2054 rfl (by decide) ?_
  refine n_go f_0_2056 rfl (pc' := 2058) rfl ?_
  refine n_imul f_0_2058 rfl ?_
  refine n_cs (ls' := [_, _, _, _, _, _, _, _, _, _, _]) f_0_2059 (by decide) m_11 rfl rfl ?_
  refine c_lsame hH.1 ⟨n0, kn⟩ hH.2.1 hH.2.2.1 hH.2.2.2.1 hH.2.2.2.2.1 hH.2.2.2.2.2.1 hH.2.2.2.2.2.2.1 (by omega) (by omega) ?_
  show En V _ 0 2062 _ [_] _ _
  rw [hsa]
  have isf : sa = false → ¬ edk (wD w b) (hV (wH w) (wE w b)) 8 = [] := fun g0 x => by
    have := hsm.mpr x
    rw [g0] at this
    cases this
  -- behind the choice
  have at2188 : ∀ (go : Bool), (sa = true → u9 = wE w b ∨ (hO (wH w) (wE w b)).testBit u9.toNat = true ∨ (hO (wH w) u9).testBit (wE w b).toNat = true) → (go = true ↔ (sa = true ∧ (hO (wH w) u9).testBit (wE w b).toNat = true)) → En V (d + 9) 0 2122 [some (.ref ev_ext), some (.ref 0), some (.ref 82), some (.ref 83), some (.ref 84), some (.ref 85), some (.ref 86), some (.ref 87), some (.ref 88), some (.ref 89), some (.ref 90), some (.ref 91), some (.int (iI 1)), some (.int (iI tn)), some (.int (iI q0)), some (.int (iI kd)), some (.int (iI c)), some (.int (iI b)), some (.int (iI (10 * b))), some (.int (iI nd)), some (.int (iI (b2 io))), some (.int (iI ot)), some (.int (iI tg)), some (.int (iI kc)), some (.int (iI u9)), some (.int (iI (wE w b))), some (.int (iI (b2 sa))), u27, u28] [.int (iI (b2 go))] h P := fun go hcl hgo => by
    cases hg : go with
    | true =>
      obtain ⟨g1, g2⟩ := hgo.mp hg
      have g3 := hsm.mp g1
      have g4 := ho_lt hP hu _ g2
      have z1 : b2 true = 1 := rfl
      rw [z1]
      refine n_go f_0_2122 rfl (pc' := 2124) (ls' := [_, _, _, _, _, _, _, _, _, _, _, _, _, _, _, _, _, _, _, _, _, _, _, _, _, _, _, _, _]) rfl ?_
      refine n_go f_0_2124 rfl (pc' := 2125) rfl ?_
      refine n_go f_0_2125 rfl (pc' := 2126) (st' := .int (iI 4) :: _) rfl ?_
      refine n_go f_0_2126 rfl (pc' := 2128) rfl ?_
      refine n_iadd f_0_2128 rfl ?_
      refine n_go f_0_2129 rfl (pc' := 2131) rfl ?_
      refine n_if_eq f_0_2131 rfl rfl (by omega) (fun e9 => absurd e9 (by omega)) (fun _ => ?_)
      refine n_go f_0_2134 rfl (pc' := 2136) rfl ?_
      refine n_go f_0_2136 rfl (pc' := 2141) rfl ?_
      refine n_ias f_0_2141 rfl (b0) (by omega) ?_
      refine n_go f_0_2142 rfl (pc' := 2144) rfl ?_
      refine n_if_eq f_0_2144 rfl rfl (by omega) (fun e9 => absurd e9 (by omega)) (fun _ => ?_)
      have H1 := Hp_n hH (g := uz n (4 + b) u9) (fun i => by have := hH.1.2.2.2.2 i; unfold uz; split <;> omega)
      have E0 : Ek h (ev_set h 82 (aI 8 (uz n (4 + b) u9))) := Ek.set (by decide)
      generalize ev_set h 82 (aI 8 (uz n (4 + b) u9)) = h4 at *
      refine n_go f_0_2147 rfl (pc' := 2149) rfl ?_
      refine n_bip (m := 10) f_0_2149 rfl (by decide) ?_
      refine n_go f_0_2151 rfl (pc' := 2153) rfl ?_
      refine n_imul f_0_2153 rfl ?_
      refine n_go f_0_2154 rfl (pc' := 2155) rfl ?_
      refine n_go f_0_2155 rfl (pc' := 2157) rfl ?_
      refine n_cs (ls' := [_, _, _, _, _]) f_0_2157 (by decide) m_12 rfl rfl ?_
      refine c_lcopies H1.2.2.2.2.1 H1.2.1 (by decide) (by omega) (by omega) ?_
      show En V _ 0 2160 _ [] _ _
      have H5 := Hp_d H1 (g := cpF v dd (10 * u9) (10 * b) 10) (cp_b H1.2.2.2.2.1.2.2.2.2 H1.2.1.2.2.2.2)
      have E5 : Ek h (ev_set h4 83 (aI 30 (cpF v dd (10 * u9) (10 * b) 10))) := E0.tr (Ek.set (by decide))
      generalize ev_set h4 83 (aI 30 (cpF v dd (10 * u9) (10 * b) 10)) = h5 at *
      refine n_go f_0_2160 rfl (pc' := 2162) rfl ?_
      refine n_bip (m := 10) f_0_2162 rfl (by decide) ?_
      refine n_go f_0_2164 rfl (pc' := 2166) rfl ?_
      refine n_imul f_0_2166 rfl ?_
      refine n_go f_0_2167 rfl (pc' := 2169) rfl ?_
      refine n_go f_0_2169 rfl (pc' := 2171) rfl ?_
      refine n_cs (ls' := [_, _, _, _, _]) f_0_2171 (by decide) m_12 rfl rfl ?_
      refine c_lcopies H5.2.2.2.2.2.1 H5.2.2.1 (by decide) (by omega) (by omega) ?_
      show En V _ 0 2174 _ [] _ _
      have H6 := Hp_e H5 (g := cpF f e (10 * u9) (10 * b) 10) (cp_b H5.2.2.2.2.2.1.2.2.2.2 H5.2.2.1.2.2.2.2)
      have E6 : Ek h (ev_set h5 84 (aI 30 (cpF f e (10 * u9) (10 * b) 10))) := E5.tr (Ek.set (by decide))
      generalize ev_set h5 84 (aI 30 (cpF f e (10 * u9) (10 * b) 10)) = h6 at *
      refine n_go f_0_2174 rfl (pc' := 2176) rfl ?_
      refine n_bip (m := 10) f_0_2176 rfl (by decide) ?_
      refine n_go f_0_2178 rfl (pc' := 2180) rfl ?_
      refine n_imul f_0_2180 rfl ?_
      refine n_go f_0_2181 rfl (pc' := 2183) rfl ?_
      refine n_go f_0_2183 rfl (pc' := 2185) rfl ?_
      refine n_cs (ls' := [_, _, _, _, _]) f_0_2185 (by decide) m_12 rfl rfl ?_
      refine c_lcopies H6.2.2.2.2.2.2.1 H6.2.2.2.1 (by decide) (by omega) (by omega) ?_
      show En V _ 0 2188 _ [] _ _
      have H7 := Hp_z H6 (g := cpF y z (10 * u9) (10 * b) 10) (cp_b H6.2.2.2.2.2.2.1.2.2.2.2 H6.2.2.2.1.2.2.2.2)
      have E7 : Ek h (ev_set h6 85 (aI 30 (cpF y z (10 * u9) (10 * b) 10))) := E6.tr (Ek.set (by decide))
      generalize ev_set h6 85 (aI 30 (cpF y z (10 * u9) (10 * b) 10)) = h7 at *
      have hW7 := Wd_ek hW E7
      have t7 := hW7.2.2.1.1
      have nb7 : uz n (4 + b) u9 (4 + b) = u9 := uz_same _ _ _
      refine n_go f_0_2188 rfl (pc' := 2189) rfl ?_
      refine n_bip (m := 10) f_0_2189 rfl (by decide) ?_
      refine n_go f_0_2191 rfl (pc' := 2193) rfl ?_
      refine n_go f_0_2193 rfl (pc' := 2195) rfl ?_
      refine n_go f_0_2195 rfl (pc' := 2196) (st' := .int (iI 0) :: _) rfl ?_
      refine n_go f_0_2196 rfl (pc' := 2197) (st' := .int (iI 0) :: _) rfl ?_
      refine n_go f_0_2197 rfl (pc' := 2198) (st' := .int (iI 0) :: _) rfl ?_
      refine n_cs (ls' := [_, _, _, _, _, _, _, _]) f_0_2198 (by decide) m_6 rfl rfl ?_
      refine d_merge t7 (c_merge hW7 hb hu hdl (Or.inr (Or.inr g2)) (fun x => absurd g3 x) (fun _ x => ?_) (fun _ _ _ h8 hW8 hQ8 => ?_))
      · exfalso
        rcases x with x | x
        · omega
        · have := ho_lt hP heb _ x
          omega
      · show En V _ _ 2201 _ [.int (iI u9)] h8 _
        have H8 := H7.gm hQ8.gm
        have c8 := H8.1.1
        refine n_go f_0_2201 rfl (pc' := 2203) rfl ?_
        refine n_ib_eq f_0_2203 rfl rfl (fun e9 => absurd (e9.symm.trans (g1)) (by decide)) (fun _ => ?_)
        refine n_go f_0_2206 rfl (pc' := 2207) rfl ?_
        refine n_go f_0_2207 rfl (pc' := 2208) (st' := .int (iI 4) :: _) rfl ?_
        refine n_go f_0_2208 rfl (pc' := 2210) rfl ?_
        refine n_iadd f_0_2210 rfl ?_
        refine n_ial f_0_2211 rfl (c8) (by unfold ev_ext; omega) (by omega) ?_
        refine n_go f_0_2212 rfl (pc' := 2217) rfl ?_
        rw [nb7]
        refine n_ic_ne f_0_2217 rfl rfl ⟨by omega, by omega⟩ (fun e9 => absurd e9 (by omega)) (fun _ => ?_)
        refine n_go f_0_2220 rfl (pc' := 2221) (st' := .int (iI 1) :: _) rfl ?_
        refine n_go f_0_2221 rfl (pc' := 2225) rfl ?_
        refine n_go f_0_2225 rfl (pc' := 2227) (ls' := [_, _, _, _, _, _, _, _, _, _, _, _, _, _, _, _, _, _, _, _, _, _, _, _, _, _, _, _, _]) rfl ?_
        exact KK h8 _ _ _ _ _ _ _ _ _ _ _ _ _ _ _ _ _ _ _ _ _ (Lst_hd hL (b := b) ⟨hb.1, by omega⟩ hu (Or.inl rfl) hb.2 hW8 (fun i i1 i2 => ⟨cp_in ⟨i1, i2⟩, cp_in ⟨i1, i2⟩, cp_in ⟨i1, i2⟩⟩) (fun i x => ⟨cp_ou x, cp_ou x, cp_ou x⟩) ⟨(uz_ne _ _ (by omega)).trans n2, uz_same _ _ _, fun i x x2 => uz_ne _ _ x2⟩ H8) (show kS (wK w) ≤ kS (wK w) + 1 by omega) ((E7.gw.tr hQ8.gm.gw).le (by omega) (by omega))
    | false =>
      have z1 : b2 false = 0 := rfl
      rw [z1]
      refine n_go f_0_2122 rfl (pc' := 2124) (ls' := [_, _, _, _, _, _, _, _, _, _, _, _, _, _, _, _, _, _, _, _, _, _, _, _, _, _, _, _, _]) rfl ?_
      refine n_go f_0_2124 rfl (pc' := 2125) rfl ?_
      refine n_go f_0_2125 rfl (pc' := 2126) (st' := .int (iI 4) :: _) rfl ?_
      refine n_go f_0_2126 rfl (pc' := 2128) rfl ?_
      refine n_iadd f_0_2128 rfl ?_
      refine n_go f_0_2129 rfl (pc' := 2131) rfl ?_
      refine n_if_eq f_0_2131 rfl rfl (by omega) (fun _ => ?_) (fun e9 => absurd (by omega) e9)
      refine n_go f_0_2139 rfl (pc' := 2141) rfl ?_
      refine n_ias f_0_2141 rfl (b0) (by omega) ?_
      refine n_go f_0_2142 rfl (pc' := 2144) rfl ?_
      refine n_if_eq f_0_2144 rfl rfl (by omega) (fun _ => ?_) (fun e9 => absurd (by omega) e9)
      rw [show uz n (4 + b) (wE w b) = n from by rw [← nb]; exact uz_self n (4 + b), g_sf b0]
      cases hs9 : sa with
      | true =>
        have g3 := hsm.mp hs9
        have g4 : ¬ (hO (wH w) u9).testBit (wE w b).toNat = true := fun x => by
          have := hgo.mpr ⟨hs9, x⟩
          rw [hg] at this
          cases this
        have g5 := hcl hs9
        have g6 : u9 = wE w b ∨ (hO (wH w) (wE w b)).testBit u9.toNat = true := by
          rcases g5 with x | x | x
          · exact Or.inl x
          · exact Or.inr x
          · exact absurd x g4
        refine n_go f_0_2188 rfl (pc' := 2189) rfl ?_
        refine n_bip (m := 10) f_0_2189 rfl (by decide) ?_
        refine n_go f_0_2191 rfl (pc' := 2193) rfl ?_
        refine n_go f_0_2193 rfl (pc' := 2195) rfl ?_
        refine n_go f_0_2195 rfl (pc' := 2196) (st' := .int (iI 0) :: _) rfl ?_
        refine n_go f_0_2196 rfl (pc' := 2197) (st' := .int (iI 0) :: _) rfl ?_
        refine n_go f_0_2197 rfl (pc' := 2198) (st' := .int (iI 0) :: _) rfl ?_
        refine n_cs (ls' := [_, _, _, _, _, _, _, _]) f_0_2198 (by decide) m_6 rfl rfl ?_
        refine d_merge t0 (c_merge hW hb hu hdl g5 (fun x => absurd g3 x) (fun _ _ h8 hW8 hQ8 => ?_) (fun _ x1 x2 => ?_))
        · show En V _ _ 2201 _ [.int (iI (wE w b))] h8 _
          have c8 := (hH.gm hQ8.gm).1.1
          refine n_go f_0_2201 rfl (pc' := 2203) rfl ?_
          refine n_ib_eq f_0_2203 rfl rfl (fun e9 => absurd (e9.symm.trans (rfl)) (by decide)) (fun _ => ?_)
          refine n_go f_0_2206 rfl (pc' := 2207) rfl ?_
          refine n_go f_0_2207 rfl (pc' := 2208) (st' := .int (iI 4) :: _) rfl ?_
          refine n_go f_0_2208 rfl (pc' := 2210) rfl ?_
          refine n_iadd f_0_2210 rfl ?_
          refine n_ial f_0_2211 rfl (c8) (by unfold ev_ext; omega) (by omega) ?_
          refine n_go f_0_2212 rfl (pc' := 2217) rfl ?_
          rw [nb]
          refine n_ic_ne f_0_2217 rfl rfl ⟨by omega, by omega⟩ (fun e9 => absurd e9 (by omega)) (fun _ => ?_)
          refine n_go f_0_2220 rfl (pc' := 2221) (st' := .int (iI 1) :: _) rfl ?_
          refine n_go f_0_2221 rfl (pc' := 2225) rfl ?_
          refine n_go f_0_2225 rfl (pc' := 2227) (ls' := [_, _, _, _, _, _, _, _, _, _, _, _, _, _, _, _, _, _, _, _, _, _, _, _, _, _, _, _, _]) rfl ?_
          exact KK h8 _ _ _ _ _ _ _ _ _ _ _ _ _ _ _ _ _ _ _ _ _ (hL.gm hW8 hQ8.gm) (by omega) (hQ8.gm.gw.le (by omega) (by omega))
        · rcases g6 with x | x
          · exact absurd x x1
          · rw [x2] at x; cases x
      | false =>
        refine n_go f_0_2188 rfl (pc' := 2189) rfl ?_
        refine n_bip (m := 10) f_0_2189 rfl (by decide) ?_
        refine n_go f_0_2191 rfl (pc' := 2193) rfl ?_
        refine n_go f_0_2193 rfl (pc' := 2195) rfl ?_
        refine n_go f_0_2195 rfl (pc' := 2196) (st' := .int (iI 0) :: _) rfl ?_
        refine n_go f_0_2196 rfl (pc' := 2197) (st' := .int (iI 0) :: _) rfl ?_
        refine n_go f_0_2197 rfl (pc' := 2198) (st' := .int (iI 0) :: _) rfl ?_
        refine n_cs (ls' := [_, _, _, _, _, _, _, _]) f_0_2198 (by decide) m_6 rfl rfl ?_
        refine d_merge t0 (c_mergeN hW hb hu hdl (isf hs9) (fun h8 hW8 hQ8 => ?_))
        show En V _ _ 2201 _ [.int (iI (-13))] (xH h8 13) _
        refine n_go f_0_2201 rfl (pc' := 2203) rfl ?_
        refine n_ib_eq f_0_2203 rfl rfl (fun _ => ?_) (fun e9 => absurd (e9.symm.trans (rfl)) (by decide))
        refine n_bip (m := (-13)) f_0_2215 rfl (by decide) ?_
        refine n_ic_ne f_0_2217 rfl rfl ⟨by omega, by omega⟩ (fun e9 => absurd e9 (by omega)) (fun _ => ?_)
        refine n_go f_0_2220 rfl (pc' := 2221) (st' := .int (iI 1) :: _) rfl ?_
        refine n_go f_0_2221 rfl (pc' := 2225) rfl ?_
        refine n_go f_0_2225 rfl (pc' := 2227) (ls' := [_, _, _, _, _, _, _, _, _, _, _, _, _, _, _, _, _, _, _, _, _, _, _, _, _, _, _, _, _]) rfl ?_
        exact KK (xH h8 13) _ _ _ _ _ _ _ _ _ _ _ _ _ _ _ _ _ _ _ _ _ (hL.gm hW8.psh (hQ8.gm.tr (Gm.push _ _ _))) (by omega) ((hQ8.gm.gw.tr (Gm.push _ _ _).gw).le (by omega) (by omega))
  have at2100 : (sa = true → u9 = wE w b ∨ (hO (wH w) (wE w b)).testBit u9.toNat = true ∨ (hO (wH w) u9).testBit (wE w b).toNat = true) → En V (d + 9) 0 2100 [some (.ref ev_ext), some (.ref 0), some (.ref 82), some (.ref 83), some (.ref 84), some (.ref 85), some (.ref 86), some (.ref 87), some (.ref 88), some (.ref 89), some (.ref 90), some (.ref 91), some (.int (iI 1)), some (.int (iI tn)), some (.int (iI q0)), some (.int (iI kd)), some (.int (iI c)), some (.int (iI b)), some (.int (iI (10 * b))), some (.int (iI nd)), some (.int (iI (b2 io))), some (.int (iI ot)), some (.int (iI tg)), some (.int (iI kc)), some (.int (iI u9)), some (.int (iI (wE w b))), some (.int (iI (b2 sa))), u27, u28] [] h P := fun hcl => by
    refine n_go f_0_2100 rfl (pc' := 2102) rfl ?_
    refine n_ib_eq f_0_2102 rfl rfl (fun g0 => ?_) (fun g0 => ?_)
    · refine n_go f_0_2121 rfl (pc' := 2122) (st' := .int (iI 0) :: _) rfl ?_
      exact at2188 false hcl ⟨fun x => (by cases x), fun x => absurd (x.1.symm.trans g0) (by decide)⟩
    · refine n_go f_0_2105 rfl (pc' := 2107) rfl ?_
      refine n_go f_0_2107 rfl (pc' := 2109) rfl ?_
      refine n_go f_0_2109 rfl (pc' := 2111) rfl ?_
      refine n_cs (ls' := [_, _, _, _]) f_0_2111 (by decide) m_17 rfl rfl ?_
      refine c_lolder b91 (by decide) hpp2 K2 (by omega) (by omega) j1 j2 ?_
      show En V _ 0 2114 _ [_] _ _
      refine n_ib_eq f_0_2114 rfl rfl (fun g1 => ?_) (fun g1 => ?_)
      · refine n_go f_0_2121 rfl (pc' := 2122) (st' := .int (iI 0) :: _) rfl ?_
        exact at2188 false hcl ⟨fun x => (by cases x), fun x => absurd (x.2.symm.trans (j3.symm.trans g1)) (by decide)⟩
      · refine n_go f_0_2117 rfl (pc' := 2118) (st' := .int (iI 1) :: _) rfl ?_
        refine n_go f_0_2118 rfl (pc' := 2122) rfl ?_
        exact at2188 true hcl ⟨fun _ => ⟨g0, j3.symm.trans g1⟩, fun _ => rfl⟩
  refine n_go f_0_2062 rfl (pc' := 2064) (ls' := [_, _, _, _, _, _, _, _, _, _, _, _, _, _, _, _, _, _, _, _, _, _, _, _, _, _, _, _, _]) rfl ?_
  refine n_go f_0_2064 rfl (pc' := 2066) rfl ?_
  refine n_go f_0_2066 rfl (pc' := 2068) rfl ?_
  refine n_ic_eq f_0_2068 rfl rfl ⟨by omega, by omega⟩ (fun g0 => ?_) (fun g0 => ?_)
  · exact at2100 (fun _ => Or.inl g0)
  · refine n_go f_0_2071 rfl (pc' := 2073) rfl ?_
    refine n_go f_0_2073 rfl (pc' := 2075) rfl ?_
    refine n_go f_0_2075 rfl (pc' := 2077) rfl ?_
    refine n_cs (ls' := [_, _, _, _]) f_0_2077 (by decide) m_17 rfl rfl ?_
    refine c_lolder b91 (by decide) hpp2 K1 (by omega) (by omega) i1 i2 ?_
    show En V _ 0 2080 _ [_] _ _
    refine n_ib_ne f_0_2080 rfl rfl (fun g1 => ?_) (fun g1 => ?_)
    · exact at2100 (fun _ => Or.inr (Or.inl (i3.symm.trans g1)))
    · refine n_go f_0_2083 rfl (pc' := 2085) rfl ?_
      refine n_go f_0_2085 rfl (pc' := 2087) rfl ?_
      refine n_go f_0_2087 rfl (pc' := 2089) rfl ?_
      refine n_cs (ls' := [_, _, _, _]) f_0_2089 (by decide) m_17 rfl rfl ?_
      refine c_lolder b91 (by decide) hpp2 K2 (by omega) (by omega) j1 j2 ?_
      show En V _ 0 2092 _ [_] _ _
      refine n_ib_ne f_0_2092 rfl rfl (fun g2 => ?_) (fun g2 => ?_)
      · exact at2100 (fun _ => Or.inr (Or.inr (j3.symm.trans g2)))
      · refine n_go f_0_2095 rfl (pc' := 2097) rfl ?_
        refine n_ib_ne f_0_2097 rfl rfl (fun g3 => ?_) (fun g3 => ?_)
        · exact KK h _ _ _ _ _ _ _ _ _ _ _ _ _ _ _ _ _ _ _ _ _ hL (by omega) ((Ek.rf h).gw.le (by omega) (by omega))
        · exact at2100 (fun x => absurd (x.symm.trans g3) (by decide))
end LPC
