/-! The law: nodes removed, tagged, settled. -/
section LPR
variable {V : ev_V} {d : Nat} {h : ev_H} {P : ev_O → ev_H → Prop} {w : dW} {tn q0 kd c b nd ot tg kc : Int} {io : Bool} {n dd e z v f y k q p : Int → Int} {u24 u25 u26 u27 u28 : Option Value}
theorem L_rem (hL : Lst h w n dd e z v f y k q p) (hl : 92 ≤ h.1.length ∧ h.1.length < 800000) (htn : 0 ≤ tn ∧ tn < 110) (hc : 0 ≤ c ∧ c < 2147483648) (hb : 0 ≤ b ∧ b < wB w) (hnd : 0 ≤ nd ∧ nd < kN (wK w)) (hio : io = hs (wD w b) nd) (hot : 0 ≤ ot ∧ ot < kN (wK w)) (htg : 0 ≤ tg ∧ tg < 5) (hkc : kc = cnI 40 (fun i => decide (hold (wK w) (wD w b) i = nd))) (hS : kS (wK w) < 111) (KK : ∀ h' w' n' d' e' z' v' f' y' k' q' p' (u19 u20 u21 u22 u23 u24 u25 u26 u27 u28 : Option Value), Lst h' w' n' d' e' z' v' f' y' k' q' p' → kS (wK w') ≤ kS (wK w) + 1 → Gw h h' 100 1000 → En V (d + 9) 0 2227 [some (.ref ev_ext), some (.ref 0), some (.ref 82), some (.ref 83), some (.ref 84), some (.ref 85), some (.ref 86), some (.ref 87), some (.ref 88), some (.ref 89), some (.ref 90), some (.ref 91), some (.int (iI 1)), some (.int (iI tn)), some (.int (iI q0)), some (.int (iI kd)), some (.int (iI c)), some (.int (iI b)), some (.int (iI (10 * b))), u19, u20, u21, u22, u23, u24, u25, u26, u27, u28] [] h' P) : En V (d + 9) 0 517 [some (.ref ev_ext), some (.ref 0), some (.ref 82), some (.ref 83), some (.ref 84), some (.ref 85), some (.ref 86), some (.ref 87), some (.ref 88), some (.ref 89), some (.ref 90), some (.ref 91), some (.int (iI 1)), some (.int (iI tn)), some (.int (iI q0)), some (.int (iI kd)), some (.int (iI c)), some (.int (iI b)), some (.int (iI (10 * b))), some (.int (iI nd)), some (.int (iI (b2 io))), some (.int (iI ot)), some (.int (iI tg)), some (.int (iI kc)), u24, u25, u26, u27, u28] [] h P := by
  obtain ⟨hW, hK, ⟨n0, n1, n2, n3, n7, n4⟩, hP, hOO, rw', rf', hH, hE, hpp, hbd, hbv⟩ := id hL
  have t0 := hW.2.2.1.1
  have tb := hW.2.2.1.2.2.2.1
  have kr := hW.1.2.2.2.2.2.2.2.2.2.2
  have kn := hK.2.2.1
  have kw := hK.2.2.2.1
  have ks0 := hK.2.2.2.2.1
  have hOb := hOO.1 b hb.1 hb.2
  obtain ⟨⟨hI, ⟨dp, hT⟩, hOk⟩, hR, hEe⟩ := id hOb
  have hkr := ch_le hK hI.1 hnd.1
  have hkr0 := (cnI_r (i := 40) (p := fun i => decide (hold (wK w) (wD w b) i = nd)) (by decide)).1
  have hor : 0 ≤ 10 * b ∧ 10 * b + 10 ≤ (30 : Nat) := by omega
  have b0 := hH.1.1
  have gn0 := hH.1.2.2.2.2 0
  have gn1 := hH.1.2.2.2.2 1
  have hg : hs (wD w b) nd = true → ¬ nd = 0 → held (wK w) (outS (wK w) (wD w b) (wD w b) nd 40) := fun g1 g2 => gd_held hK (rm_I hK hI hT g1 g2).1
  refine n_go f_0_517 rfl (pc' := 519) rfl ?_
  refine n_ib_ne f_0_519 rfl rfl (fun g0 => ?_) (fun g0 => ?_)
  · have g1 : hs (wD w b) nd = true := hio.symm.trans g0
    refine n_go f_0_527 rfl (pc' := 529) rfl ?_
    refine n_if_ne f_0_529 rfl rfl (by omega) (fun g2 => ?_) (fun g2 => ?_)
    · refine n_go f_0_537 rfl (pc' := 538) rfl ?_
      refine n_go f_0_538 rfl (pc' := 539) rfl ?_
      refine n_go f_0_539 rfl (pc' := 541) rfl ?_
      refine n_go f_0_541 rfl (pc' := 543) rfl ?_
      refine n_go f_0_543 rfl (pc' := 545) rfl ?_
      refine n_go f_0_545 rfl (pc' := 547) rfl ?_
      refine n_go f_0_547 rfl (pc' := 549) rfl ?_
      refine n_go f_0_549 rfl (pc' := 550) (st' := .int (iI 1) :: _) rfl ?_
      refine n_go f_0_550 rfl (pc' := 552) rfl ?_
      refine n_go f_0_552 rfl (pc' := 553) (st' := .int (iI 0) :: _) rfl ?_
      refine n_go f_0_553 rfl (pc' := 554) (st' := .int (iI 0) :: _) rfl ?_
      refine n_go f_0_554 rfl (pc' := 555) (st' := .int (iI 0) :: _) rfl ?_
      refine n_go f_0_555 rfl (pc' := 556) (st' := .int (iI 0) :: _) rfl ?_
      refine n_cs (ls' := [_, _, _, _, _, _, _, _, _, _, _, _, _, _, _, _, _, _, _, _, _, _, _]) f_0_556 (by decide) m_5 rfl rfl ?_
      refine c_ledR hL (by omega) hb g1 (by omega) (fun hO h1 d' e' z' hW1 hG1 hH1 hr1 he1 ho1 => ?_) (fun hO h1 hW1 hG1 hH1 => ?_)
      · have hcr := cnI_r (i := 40) (p := rmv (wK w) (wD w b) nd) (by decide)
        show En V _ _ 559 _ [.int (iI (cnI 40 (rmv (wK w) (wD w b) nd)))] h1 _
        have t1 := hW1.2.2.1.1
        refine n_go f_0_559 rfl (pc' := 561) (ls' := [_, _, _, _, _, _, _, _, _, _, _, _, _, _, _, _, _, _, _, _, _, _, _, _, _, _, _, _, _]) rfl ?_
        refine n_go f_0_561 rfl (pc' := 562) rfl ?_
        refine n_go f_0_562 rfl (pc' := 563) (st' := .int (iI 1) :: _) rfl ?_
        refine n_go f_0_563 rfl (pc' := 565) rfl ?_
        refine n_go f_0_565 rfl (pc' := 567) rfl ?_
        refine n_go f_0_567 rfl (pc' := 568) (st' := .int (iI 0) :: _) rfl ?_
        refine n_go f_0_568 rfl (pc' := 569) (st' := .int (iI 0) :: _) rfl ?_
        refine n_go f_0_569 rfl (pc' := 570) (st' := .int (iI 0) :: _) rfl ?_
        refine n_cs (ls' := [_, _, _, _, _, _, _, _]) f_0_570 (by decide) m_6 rfl rfl ?_
        refine d_remove t1 (c_remove hW1 hb ⟨hnd.1, by omega⟩ hg (fun x => absurd (g1.symm.trans x) (by decide)) (fun _ x => absurd x g2) (fun _ _ x => absurd hO x) (fun _ _ _ h2 hW2 hQ2 => ?_))
        show En V _ _ 573 _ [.int (iI (cnI 40 (rmv (wK w) (wD w b) nd)))] h2 _
        refine n_go f_0_573 rfl (pc' := 575) rfl ?_
        refine n_ic_ne f_0_575 rfl rfl ⟨by omega, by omega⟩ (fun e9 => absurd e9 (by omega)) (fun _ => ?_)
        refine n_go f_0_578 rfl (pc' := 579) (st' := .int (iI 1) :: _) rfl ?_
        refine n_go f_0_579 rfl (pc' := 583) rfl ?_
        refine n_go f_0_583 rfl (pc' := 585) (ls' := [_, _, _, _, _, _, _, _, _, _, _, _, _, _, _, _, _, _, _, _, _, _, _, _, _, _, _, _, _]) rfl ?_
        refine n_go f_0_585 rfl (pc' := 2227) rfl ?_
        exact KK h2 _ _ _ _ _ _ _ _ _ _ _ _ _ _ _ _ _ _ _ _ _ (Lst_ds (K' := wK w) hL hW2 (kx_rf hK) ⟨⟨rm_I hK hI hT g1 g2, ⟨dp, rm_T hT⟩, hO⟩, hr1, he1⟩ ho1 ⟨n0, n1, n2, n3, n7, n4⟩ rw' rf' (hH1.gm hQ2.gm)) (show kS (wK w) ≤ kS (wK w) + 1 by omega) ((hG1.tr hQ2.gm.gw).le (by omega) (by omega))
      · show En V _ _ 559 _ [.int (iI (-13))] h1 _
        have t1 := hW1.2.2.1.1
        refine n_go f_0_559 rfl (pc' := 561) (ls' := [_, _, _, _, _, _, _, _, _, _, _, _, _, _, _, _, _, _, _, _, _, _, _, _, _, _, _, _, _]) rfl ?_
        refine n_go f_0_561 rfl (pc' := 562) rfl ?_
        refine n_go f_0_562 rfl (pc' := 563) (st' := .int (iI 1) :: _) rfl ?_
        refine n_go f_0_563 rfl (pc' := 565) rfl ?_
        refine n_go f_0_565 rfl (pc' := 567) rfl ?_
        refine n_go f_0_567 rfl (pc' := 568) (st' := .int (iI 0) :: _) rfl ?_
        refine n_go f_0_568 rfl (pc' := 569) (st' := .int (iI 0) :: _) rfl ?_
        refine n_go f_0_569 rfl (pc' := 570) (st' := .int (iI 0) :: _) rfl ?_
        refine n_cs (ls' := [_, _, _, _, _, _, _, _]) f_0_570 (by decide) m_6 rfl rfl ?_
        refine d_remove t1 (c_remove hW1 hb ⟨hnd.1, by omega⟩ hg (fun x => absurd (g1.symm.trans x) (by decide)) (fun _ x => absurd x g2) (fun _ _ _ h2 hW2 hQ2 => ?_) (fun _ _ x => absurd x hO))
        show En V _ _ 573 _ [.int (iI (-13))] (xH h2 13) _
        refine n_go f_0_573 rfl (pc' := 575) rfl ?_
        refine n_ic_ne f_0_575 rfl rfl ⟨by omega, by omega⟩ (fun e9 => absurd e9 (by omega)) (fun _ => ?_)
        refine n_go f_0_578 rfl (pc' := 579) (st' := .int (iI 1) :: _) rfl ?_
        refine n_go f_0_579 rfl (pc' := 583) rfl ?_
        refine n_go f_0_583 rfl (pc' := 585) (ls' := [_, _, _, _, _, _, _, _, _, _, _, _, _, _, _, _, _, _, _, _, _, _, _, _, _, _, _, _, _]) rfl ?_
        refine n_go f_0_585 rfl (pc' := 2227) rfl ?_
        exact KK (xH h2 13) _ _ _ _ _ _ _ _ _ _ _ _ _ _ _ _ _ _ _ _ _ (Lst_kk (K' := wK w) hL hW2.psh (kx_rf hK) ⟨n0, n1, n2, n3, n7, n4⟩ rw' rf' ((hH1.gm hQ2.gm).gm (Gm.push _ _ _))) (show kS (wK w) ≤ kS (wK w) + 1 by omega) (((hG1.tr hQ2.gm.gw).tr (Gm.push _ _ _).gw).le (by omega) (by omega))
    · refine n_bip (m := (-13)) f_0_532 rfl (by decide) ?_
      refine n_go f_0_534 rfl (pc' := 559) rfl ?_
      refine n_go f_0_559 rfl (pc' := 561) (ls' := [_, _, _, _, _, _, _, _, _, _, _, _, _, _, _, _, _, _, _, _, _, _, _, _, _, _, _, _, _]) rfl ?_
      refine n_go f_0_561 rfl (pc' := 562) rfl ?_
      refine n_go f_0_562 rfl (pc' := 563) (st' := .int (iI 1) :: _) rfl ?_
      refine n_go f_0_563 rfl (pc' := 565) rfl ?_
      refine n_go f_0_565 rfl (pc' := 567) rfl ?_
      refine n_go f_0_567 rfl (pc' := 568) (st' := .int (iI 0) :: _) rfl ?_
      refine n_go f_0_568 rfl (pc' := 569) (st' := .int (iI 0) :: _) rfl ?_
      refine n_go f_0_569 rfl (pc' := 570) (st' := .int (iI 0) :: _) rfl ?_
      refine n_cs (ls' := [_, _, _, _, _, _, _, _]) f_0_570 (by decide) m_6 rfl rfl ?_
      refine d_remove t0 (c_remove hW hb ⟨hnd.1, by omega⟩ hg (fun x => absurd (g1.symm.trans x) (by decide)) (fun _ _ => ?_) (fun _ x => absurd x (by omega)) (fun _ x => absurd x (by omega)))
      show En V _ _ 573 _ [.int (iI (-13))] (xH h 13) _
      refine n_go f_0_573 rfl (pc' := 575) rfl ?_
      refine n_ic_ne f_0_575 rfl rfl ⟨by omega, by omega⟩ (fun e9 => absurd e9 (by omega)) (fun _ => ?_)
      refine n_go f_0_578 rfl (pc' := 579) (st' := .int (iI 1) :: _) rfl ?_
      refine n_go f_0_579 rfl (pc' := 583) rfl ?_
      refine n_go f_0_583 rfl (pc' := 585) (ls' := [_, _, _, _, _, _, _, _, _, _, _, _, _, _, _, _, _, _, _, _, _, _, _, _, _, _, _, _, _]) rfl ?_
      refine n_go f_0_585 rfl (pc' := 2227) rfl ?_
      exact KK (xH h 13) _ _ _ _ _ _ _ _ _ _ _ _ _ _ _ _ _ _ _ _ _ (hL.gm hW.psh (Gm.push _ _ _)) (by omega) ((Gm.push _ _ _).gw.le (by omega) (by omega))
  · have g1 : hs (wD w b) nd = false := hio.symm.trans g0
    refine n_bip (m := (-11)) f_0_522 rfl (by decide) ?_
    refine n_go f_0_524 rfl (pc' := 559) rfl ?_
    refine n_go f_0_559 rfl (pc' := 561) (ls' := [_, _, _, _, _, _, _, _, _, _, _, _, _, _, _, _, _, _, _, _, _, _, _, _, _, _, _, _, _]) rfl ?_
    refine n_go f_0_561 rfl (pc' := 562) rfl ?_
    refine n_go f_0_562 rfl (pc' := 563) (st' := .int (iI 1) :: _) rfl ?_
    refine n_go f_0_563 rfl (pc' := 565) rfl ?_
    refine n_go f_0_565 rfl (pc' := 567) rfl ?_
    refine n_go f_0_567 rfl (pc' := 568) (st' := .int (iI 0) :: _) rfl ?_
    refine n_go f_0_568 rfl (pc' := 569) (st' := .int (iI 0) :: _) rfl ?_
    refine n_go f_0_569 rfl (pc' := 570) (st' := .int (iI 0) :: _) rfl ?_
    refine n_cs (ls' := [_, _, _, _, _, _, _, _]) f_0_570 (by decide) m_6 rfl rfl ?_
    refine d_remove t0 (c_remove hW hb ⟨hnd.1, by omega⟩ hg (fun _ => ?_) (fun x => absurd (x.symm.trans g1) (by decide)) (fun x => absurd (x.symm.trans g1) (by decide)) (fun x => absurd (x.symm.trans g1) (by decide)))
    show En V _ _ 573 _ [.int (iI (-11))] (xH h 11) _
    refine n_go f_0_573 rfl (pc' := 575) rfl ?_
    refine n_ic_ne f_0_575 rfl rfl ⟨by omega, by omega⟩ (fun e9 => absurd e9 (by omega)) (fun _ => ?_)
    refine n_go f_0_578 rfl (pc' := 579) (st' := .int (iI 1) :: _) rfl ?_
    refine n_go f_0_579 rfl (pc' := 583) rfl ?_
    refine n_go f_0_583 rfl (pc' := 585) (ls' := [_, _, _, _, _, _, _, _, _, _, _, _, _, _, _, _, _, _, _, _, _, _, _, _, _, _, _, _, _]) rfl ?_
    refine n_go f_0_585 rfl (pc' := 2227) rfl ?_
    exact KK (xH h 11) _ _ _ _ _ _ _ _ _ _ _ _ _ _ _ _ _ _ _ _ _ (hL.gm hW.psh (Gm.push _ _ _)) (by omega) ((Gm.push _ _ _).gw.le (by omega) (by omega))
theorem L_tag (hL : Lst h w n dd e z v f y k q p) (hl : 92 ≤ h.1.length ∧ h.1.length < 800000) (htn : 0 ≤ tn ∧ tn < 110) (hc : 0 ≤ c ∧ c < 2147483648) (hb : 0 ≤ b ∧ b < wB w) (hnd : 0 ≤ nd ∧ nd < kN (wK w)) (hio : io = hs (wD w b) nd) (hot : 0 ≤ ot ∧ ot < kN (wK w)) (htg : 0 ≤ tg ∧ tg < 5) (hkc : kc = cnI 40 (fun i => decide (hold (wK w) (wD w b) i = nd))) (hS : kS (wK w) < 111) (KK : ∀ h' w' n' d' e' z' v' f' y' k' q' p' (u19 u20 u21 u22 u23 u24 u25 u26 u27 u28 : Option Value), Lst h' w' n' d' e' z' v' f' y' k' q' p' → kS (wK w') ≤ kS (wK w) + 1 → Gw h h' 100 1000 → En V (d + 9) 0 2227 [some (.ref ev_ext), some (.ref 0), some (.ref 82), some (.ref 83), some (.ref 84), some (.ref 85), some (.ref 86), some (.ref 87), some (.ref 88), some (.ref 89), some (.ref 90), some (.ref 91), some (.int (iI 1)), some (.int (iI tn)), some (.int (iI q0)), some (.int (iI kd)), some (.int (iI c)), some (.int (iI b)), some (.int (iI (10 * b))), u19, u20, u21, u22, u23, u24, u25, u26, u27, u28] [] h' P) : En V (d + 9) 0 806 [some (.ref ev_ext), some (.ref 0), some (.ref 82), some (.ref 83), some (.ref 84), some (.ref 85), some (.ref 86), some (.ref 87), some (.ref 88), some (.ref 89), some (.ref 90), some (.ref 91), some (.int (iI 1)), some (.int (iI tn)), some (.int (iI q0)), some (.int (iI kd)), some (.int (iI c)), some (.int (iI b)), some (.int (iI (10 * b))), some (.int (iI nd)), some (.int (iI (b2 io))), some (.int (iI ot)), some (.int (iI tg)), some (.int (iI kc)), u24, u25, u26, u27, u28] [] h P := by
  obtain ⟨hW, hK, ⟨n0, n1, n2, n3, n7, n4⟩, hP, hOO, rw', rf', hH, hE, hpp, hbd, hbv⟩ := id hL
  have t0 := hW.2.2.1.1
  have tb := hW.2.2.1.2.2.2.1
  have kr := hW.1.2.2.2.2.2.2.2.2.2.2
  have kn := hK.2.2.1
  have kw := hK.2.2.2.1
  have ks0 := hK.2.2.2.2.1
  have hOb := hOO.1 b hb.1 hb.2
  obtain ⟨⟨hI, ⟨dp, hT⟩, hOk⟩, hR, hEe⟩ := id hOb
  have hkr := ch_le hK hI.1 hnd.1
  have hkr0 := (cnI_r (i := 40) (p := fun i => decide (hold (wK w) (wD w b) i = nd)) (by decide)).1
  have hor : 0 ≤ 10 * b ∧ 10 * b + 10 ≤ (30 : Nat) := by omega
  have b0 := hH.1.1
  have gn0 := hH.1.2.2.2.2 0
  have gn1 := hH.1.2.2.2.2 1
  have hg : hs (wD w b) nd = true → held (wK w) (tagT (wD w b) nd tg) := fun g1 => gd_held hK (rt_I hI g1 ⟨htg.1, by omega⟩).1
  refine n_go f_0_806 rfl (pc' := 808) rfl ?_
  refine n_ib_ne f_0_808 rfl rfl (fun g0 => ?_) (fun g0 => ?_)
  · have g1 : hs (wD w b) nd = true := hio.symm.trans g0
    have jn := hI.1.1 nd hnd.1 (by omega) g1
    refine n_go f_0_816 rfl (pc' := 817) rfl ?_
    refine n_go f_0_817 rfl (pc' := 818) rfl ?_
    refine n_go f_0_818 rfl (pc' := 820) rfl ?_
    refine n_go f_0_820 rfl (pc' := 822) rfl ?_
    refine n_go f_0_822 rfl (pc' := 824) rfl ?_
    refine n_go f_0_824 rfl (pc' := 826) rfl ?_
    refine n_go f_0_826 rfl (pc' := 828) rfl ?_
    refine n_go f_0_828 rfl (pc' := 829) (st' := .int (iI 3) :: _) rfl ?_
    refine n_go f_0_829 rfl (pc' := 831) rfl ?_
    refine n_go f_0_831 rfl (pc' := 832) (st' := .int (iI 0) :: _) rfl ?_
    refine n_go f_0_832 rfl (pc' := 833) (st' := .int (iI 0) :: _) rfl ?_
    refine n_go f_0_833 rfl (pc' := 834) (st' := .int (iI 0) :: _) rfl ?_
    refine n_go f_0_834 rfl (pc' := 836) rfl ?_
    refine n_cs (ls' := [_, _, _, _, _, _, _, _, _, _, _, _, _, _, _, _, _, _, _, _, _, _, _]) f_0_836 (by decide) m_5 rfl rfl ?_
    refine c_ledT hL (by omega) hb g1 ⟨htg.1, by omega⟩ (fun hO h1 d' hW1 hG1 hH1 hr1 ho1 => ?_) (fun hO h1 hW1 hG1 hH1 => ?_)
    · show En V _ _ 839 _ [.int (iI ((wD w b).2.1 nd))] h1 _
      have t1 := hW1.2.2.1.1
      refine n_go f_0_839 rfl (pc' := 841) (ls' := [_, _, _, _, _, _, _, _, _, _, _, _, _, _, _, _, _, _, _, _, _, _, _, _, _, _, _, _, _]) rfl ?_
      refine n_go f_0_841 rfl (pc' := 842) rfl ?_
      refine n_go f_0_842 rfl (pc' := 843) (st' := .int (iI 3) :: _) rfl ?_
      refine n_go f_0_843 rfl (pc' := 845) rfl ?_
      refine n_go f_0_845 rfl (pc' := 847) rfl ?_
      refine n_go f_0_847 rfl (pc' := 849) rfl ?_
      refine n_go f_0_849 rfl (pc' := 850) (st' := .int (iI 0) :: _) rfl ?_
      refine n_go f_0_850 rfl (pc' := 851) (st' := .int (iI 0) :: _) rfl ?_
      refine n_cs (ls' := [_, _, _, _, _, _, _, _]) f_0_851 (by decide) m_6 rfl rfl ?_
      refine d_retag t1 (c_retag hW1 hb ⟨hnd.1, by omega⟩ ⟨htg.1, by omega⟩ hg (fun x => absurd (g1.symm.trans x) (by decide)) (fun _ x => absurd hO x) (fun _ _ h2 hW2 hQ2 => ?_))
      show En V _ _ 854 _ [.int (iI ((wD w b).2.1 nd))] h2 _
      refine n_go f_0_854 rfl (pc' := 856) rfl ?_
      refine n_ic_ne f_0_856 rfl rfl ⟨by omega, by omega⟩ (fun e9 => absurd e9 (by omega)) (fun _ => ?_)
      refine n_go f_0_859 rfl (pc' := 860) (st' := .int (iI 1) :: _) rfl ?_
      refine n_go f_0_860 rfl (pc' := 864) rfl ?_
      refine n_go f_0_864 rfl (pc' := 866) (ls' := [_, _, _, _, _, _, _, _, _, _, _, _, _, _, _, _, _, _, _, _, _, _, _, _, _, _, _, _, _]) rfl ?_
      refine n_go f_0_866 rfl (pc' := 2227) rfl ?_
      exact KK h2 _ _ _ _ _ _ _ _ _ _ _ _ _ _ _ _ _ _ _ _ _ (Lst_ds (K' := wK w) hL hW2 (kx_rf hK) ⟨⟨rt_I hI g1 ⟨htg.1, by omega⟩, ⟨dp, rt_T hT g1 htg.1⟩, hO⟩, hr1, rE_c (S := wD w b) rfl hEe⟩ (fun i x => ⟨ho1 i x, rfl, rfl⟩) ⟨n0, n1, n2, n3, n7, n4⟩ rw' rf' (hH1.gm hQ2.gm)) (show kS (wK w) ≤ kS (wK w) + 1 by omega) ((hG1.tr hQ2.gm.gw).le (by omega) (by omega))
    · show En V _ _ 839 _ [.int (iI (-13))] h1 _
      have t1 := hW1.2.2.1.1
      refine n_go f_0_839 rfl (pc' := 841) (ls' := [_, _, _, _, _, _, _, _, _, _, _, _, _, _, _, _, _, _, _, _, _, _, _, _, _, _, _, _, _]) rfl ?_
      refine n_go f_0_841 rfl (pc' := 842) rfl ?_
      refine n_go f_0_842 rfl (pc' := 843) (st' := .int (iI 3) :: _) rfl ?_
      refine n_go f_0_843 rfl (pc' := 845) rfl ?_
      refine n_go f_0_845 rfl (pc' := 847) rfl ?_
      refine n_go f_0_847 rfl (pc' := 849) rfl ?_
      refine n_go f_0_849 rfl (pc' := 850) (st' := .int (iI 0) :: _) rfl ?_
      refine n_go f_0_850 rfl (pc' := 851) (st' := .int (iI 0) :: _) rfl ?_
      refine n_cs (ls' := [_, _, _, _, _, _, _, _]) f_0_851 (by decide) m_6 rfl rfl ?_
      refine d_retag t1 (c_retag hW1 hb ⟨hnd.1, by omega⟩ ⟨htg.1, by omega⟩ hg (fun x => absurd (g1.symm.trans x) (by decide)) (fun _ _ h2 hW2 hQ2 => ?_) (fun _ x => absurd x hO))
      show En V _ _ 854 _ [.int (iI (-13))] (xH h2 13) _
      refine n_go f_0_854 rfl (pc' := 856) rfl ?_
      refine n_ic_ne f_0_856 rfl rfl ⟨by omega, by omega⟩ (fun e9 => absurd e9 (by omega)) (fun _ => ?_)
      refine n_go f_0_859 rfl (pc' := 860) (st' := .int (iI 1) :: _) rfl ?_
      refine n_go f_0_860 rfl (pc' := 864) rfl ?_
      refine n_go f_0_864 rfl (pc' := 866) (ls' := [_, _, _, _, _, _, _, _, _, _, _, _, _, _, _, _, _, _, _, _, _, _, _, _, _, _, _, _, _]) rfl ?_
      refine n_go f_0_866 rfl (pc' := 2227) rfl ?_
      exact KK (xH h2 13) _ _ _ _ _ _ _ _ _ _ _ _ _ _ _ _ _ _ _ _ _ (Lst_kk (K' := wK w) hL hW2.psh (kx_rf hK) ⟨n0, n1, n2, n3, n7, n4⟩ rw' rf' ((hH1.gm hQ2.gm).gm (Gm.push _ _ _))) (show kS (wK w) ≤ kS (wK w) + 1 by omega) (((hG1.tr hQ2.gm.gw).tr (Gm.push _ _ _).gw).le (by omega) (by omega))
  · have g1 : hs (wD w b) nd = false := hio.symm.trans g0
    refine n_bip (m := (-11)) f_0_811 rfl (by decide) ?_
    refine n_go f_0_813 rfl (pc' := 839) rfl ?_
    refine n_go f_0_839 rfl (pc' := 841) (ls' := [_, _, _, _, _, _, _, _, _, _, _, _, _, _, _, _, _, _, _, _, _, _, _, _, _, _, _, _, _]) rfl ?_
    refine n_go f_0_841 rfl (pc' := 842) rfl ?_
    refine n_go f_0_842 rfl (pc' := 843) (st' := .int (iI 3) :: _) rfl ?_
    refine n_go f_0_843 rfl (pc' := 845) rfl ?_
    refine n_go f_0_845 rfl (pc' := 847) rfl ?_
    refine n_go f_0_847 rfl (pc' := 849) rfl ?_
    refine n_go f_0_849 rfl (pc' := 850) (st' := .int (iI 0) :: _) rfl ?_
    refine n_go f_0_850 rfl (pc' := 851) (st' := .int (iI 0) :: _) rfl ?_
    refine n_cs (ls' := [_, _, _, _, _, _, _, _]) f_0_851 (by decide) m_6 rfl rfl ?_
    refine d_retag t0 (c_retag hW hb ⟨hnd.1, by omega⟩ ⟨htg.1, by omega⟩ hg (fun _ => ?_) (fun x => absurd (x.symm.trans g1) (by decide)) (fun x => absurd (x.symm.trans g1) (by decide)))
    show En V _ _ 854 _ [.int (iI (-11))] (xH h 11) _
    refine n_go f_0_854 rfl (pc' := 856) rfl ?_
    refine n_ic_ne f_0_856 rfl rfl ⟨by omega, by omega⟩ (fun e9 => absurd e9 (by omega)) (fun _ => ?_)
    refine n_go f_0_859 rfl (pc' := 860) (st' := .int (iI 1) :: _) rfl ?_
    refine n_go f_0_860 rfl (pc' := 864) rfl ?_
    refine n_go f_0_864 rfl (pc' := 866) (ls' := [_, _, _, _, _, _, _, _, _, _, _, _, _, _, _, _, _, _, _, _, _, _, _, _, _, _, _, _, _]) rfl ?_
    refine n_go f_0_866 rfl (pc' := 2227) rfl ?_
    exact KK (xH h 11) _ _ _ _ _ _ _ _ _ _ _ _ _ _ _ _ _ _ _ _ _ (hL.gm hW.psh (Gm.push _ _ _)) (by omega) ((Gm.push _ _ _).gw.le (by omega) (by omega))
theorem L_set (hL : Lst h w n dd e z v f y k q p) (hl : 92 ≤ h.1.length ∧ h.1.length < 800000) (htn : 0 ≤ tn ∧ tn < 110) (hc : 0 ≤ c ∧ c < 2147483648) (hb : 0 ≤ b ∧ b < wB w) (hnd : 0 ≤ nd ∧ nd < kN (wK w)) (hio : io = hs (wD w b) nd) (hot : 0 ≤ ot ∧ ot < kN (wK w)) (htg : 0 ≤ tg ∧ tg < 5) (hkc : kc = cnI 40 (fun i => decide (hold (wK w) (wD w b) i = nd))) (hS : kS (wK w) < 111) (KK : ∀ h' w' n' d' e' z' v' f' y' k' q' p' (u19 u20 u21 u22 u23 u24 u25 u26 u27 u28 : Option Value), Lst h' w' n' d' e' z' v' f' y' k' q' p' → kS (wK w') ≤ kS (wK w) + 1 → Gw h h' 100 1000 → En V (d + 9) 0 2227 [some (.ref ev_ext), some (.ref 0), some (.ref 82), some (.ref 83), some (.ref 84), some (.ref 85), some (.ref 86), some (.ref 87), some (.ref 88), some (.ref 89), some (.ref 90), some (.ref 91), some (.int (iI 1)), some (.int (iI tn)), some (.int (iI q0)), some (.int (iI kd)), some (.int (iI c)), some (.int (iI b)), some (.int (iI (10 * b))), u19, u20, u21, u22, u23, u24, u25, u26, u27, u28] [] h' P) : En V (d + 9) 0 1557 [some (.ref ev_ext), some (.ref 0), some (.ref 82), some (.ref 83), some (.ref 84), some (.ref 85), some (.ref 86), some (.ref 87), some (.ref 88), some (.ref 89), some (.ref 90), some (.ref 91), some (.int (iI 1)), some (.int (iI tn)), some (.int (iI q0)), some (.int (iI kd)), some (.int (iI c)), some (.int (iI b)), some (.int (iI (10 * b))), some (.int (iI nd)), some (.int (iI (b2 io))), some (.int (iI ot)), some (.int (iI tg)), some (.int (iI kc)), u24, u25, u26, u27, u28] [] h P := by
  obtain ⟨hW, hK, ⟨n0, n1, n2, n3, n7, n4⟩, hP, hOO, rw', rf', hH, hE, hpp, hbd, hbv⟩ := id hL
  have t0 := hW.2.2.1.1
  have tb := hW.2.2.1.2.2.2.1
  have kr := hW.1.2.2.2.2.2.2.2.2.2.2
  have kn := hK.2.2.1
  have kw := hK.2.2.2.1
  have ks0 := hK.2.2.2.2.1
  have hOb := hOO.1 b hb.1 hb.2
  obtain ⟨⟨hI, ⟨dp, hT⟩, hOk⟩, hR, hEe⟩ := id hOb
  have hkr := ch_le hK hI.1 hnd.1
  have hkr0 := (cnI_r (i := 40) (p := fun i => decide (hold (wK w) (wD w b) i = nd)) (by decide)).1
  have hor : 0 ≤ 10 * b ∧ 10 * b + 10 ≤ (30 : Nat) := by omega
  have b0 := hH.1.1
  have gn0 := hH.1.2.2.2.2 0
  have gn1 := hH.1.2.2.2.2 1
  refine n_go f_0_1557 rfl (pc' := 1558) rfl ?_
  refine n_bip (m := 7) f_0_1558 rfl (by decide) ?_
  refine n_go f_0_1560 rfl (pc' := 1562) rfl ?_
  refine n_go f_0_1562 rfl (pc' := 1564) rfl ?_
  refine n_go f_0_1564 rfl (pc' := 1566) rfl ?_
  refine n_go f_0_1566 rfl (pc' := 1567) (st' := .int (iI 5) :: _) rfl ?_
  refine n_irem f_0_1567 rfl (by omega) ?_
  refine n_go f_0_1568 rfl (pc' := 1570) rfl ?_
  refine n_go f_0_1570 rfl (pc' := 1571) (st' := .int (iI 5) :: _) rfl ?_
  refine n_idiv f_0_1571 rfl (by omega) ?_
  refine n_go f_0_1572 rfl (pc' := 1573) (st' := .int (iI 2) :: _) rfl ?_
  refine n_irem f_0_1573 rfl (by omega) ?_
  refine n_go f_0_1574 rfl (pc' := 1575) (st' := .int (iI 0) :: _) rfl ?_
  refine n_cs (ls' := [_, _, _, _, _, _, _, _]) f_0_1575 (by decide) m_6 rfl rfl ?_
  refine d_settles t0 (c_lsettles t0 (c_settle hW hb ⟨hnd.1, by omega⟩ ⟨by omega, by omega⟩ ⟨by omega, by omega⟩ (fun g1 => ?_) (fun g1 => ?_)))
  · show En V _ _ 1578 _ [.int (iI (-11))] (xH h 11) _
    refine n_go f_0_1578 rfl (pc' := 1580) rfl ?_
    refine n_ib_eq f_0_1580 rfl rfl (fun _ => ?_) (fun e9 => absurd (e9.symm.trans ((hio.trans g1))) (by decide))
    refine n_bip (m := (-11)) f_0_1588 rfl (by decide) ?_
    refine n_ic_ne f_0_1590 rfl rfl ⟨by omega, by omega⟩ (fun e9 => absurd e9 (by omega)) (fun _ => ?_)
    refine n_go f_0_1593 rfl (pc' := 1594) (st' := .int (iI 1) :: _) rfl ?_
    refine n_go f_0_1594 rfl (pc' := 1598) rfl ?_
    refine n_go f_0_1598 rfl (pc' := 1600) (ls' := [_, _, _, _, _, _, _, _, _, _, _, _, _, _, _, _, _, _, _, _, _, _, _, _, _, _, _, _, _]) rfl ?_
    refine n_go f_0_1600 rfl (pc' := 2227) rfl ?_
    exact KK (xH h 11) _ _ _ _ _ _ _ _ _ _ _ _ _ _ _ _ _ _ _ _ _ (hL.gm hW.psh (Gm.push _ _ _)) (by omega) ((Gm.push _ _ _).gw.le (by omega) (by omega))
  · show En V _ _ 1578 _ [.int (iI (-14))] (xH h 14) _
    refine n_go f_0_1578 rfl (pc' := 1580) rfl ?_
    refine n_ib_eq f_0_1580 rfl rfl (fun e9 => absurd (e9.symm.trans ((hio.trans g1))) (by decide)) (fun _ => ?_)
    refine n_bip (m := (-14)) f_0_1583 rfl (by decide) ?_
    refine n_go f_0_1585 rfl (pc' := 1590) rfl ?_
    refine n_ic_ne f_0_1590 rfl rfl ⟨by omega, by omega⟩ (fun e9 => absurd e9 (by omega)) (fun _ => ?_)
    refine n_go f_0_1593 rfl (pc' := 1594) (st' := .int (iI 1) :: _) rfl ?_
    refine n_go f_0_1594 rfl (pc' := 1598) rfl ?_
    refine n_go f_0_1598 rfl (pc' := 1600) (ls' := [_, _, _, _, _, _, _, _, _, _, _, _, _, _, _, _, _, _, _, _, _, _, _, _, _, _, _, _, _]) rfl ?_
    refine n_go f_0_1600 rfl (pc' := 2227) rfl ?_
    exact KK (xH h 14) _ _ _ _ _ _ _ _ _ _ _ _ _ _ _ _ _ _ _ _ _ (hL.gm hW.psh (Gm.push _ _ _)) (by omega) ((Gm.push _ _ _).gw.le (by omega) (by omega))
end LPR
