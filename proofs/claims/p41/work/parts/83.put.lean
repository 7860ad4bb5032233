/-! The law: a node put. -/
theorem pt_held {K : dK} {S : dS} {sm p tg : Int} (hK : kI K) (hJ : sJ K S) (hN : kN K < 40) (htg : 0 ≤ tg ∧ tg ≤ 9) : held (plS (plN K sm) (kN K) p) (putT K S tg) := fun i a b h => by
  by_cases c : i = kN K
  · rw [c]
    show 0 ≤ uz S.2.1 (kN K) tg (kN K) ∧ uz S.2.1 (kN K) tg (kN K) < 10
    rw [uz_same]
    omega
  · have e : hold (plS (plN K sm) (kN K) p) (putT K S tg) i = hold K S i := by
      rw [← kx_hd (pl_kx (sm := sm) (p := p) hK) hK hJ i]
      unfold hold gS
      rw [show (putT K S tg).1 i = S.1 i from uz_ne _ _ c]
    rw [e] at h
    have h1 := hd_c hK hJ h rfl
    have h2 := (hJ.1 i a b h1.1).2.1
    show 0 ≤ uz S.2.1 (kN K) tg i ∧ uz S.2.1 (kN K) tg i < 10
    rw [uz_ne _ _ c]
    omega
section LPU
variable {V : ev_V} {d : Nat} {h : ev_H} {P : ev_O → ev_H → Prop} {w : dW} {tn q0 kd c b nd ot tg kc : Int} {io : Bool} {n dd e z v f y k q p : Int → Int} {u24 u25 u26 u27 u28 : Option Value}
theorem L_put (hL : Lst h w n dd e z v f y k q p) (hl : 92 ≤ h.1.length ∧ h.1.length < 800000) (htn : 0 ≤ tn ∧ tn < 110) (hc : 0 ≤ c ∧ c < 2147483648) (hb : 0 ≤ b ∧ b < wB w) (hnd : 0 ≤ nd ∧ nd < kN (wK w)) (hio : io = hs (wD w b) nd) (hot : 0 ≤ ot ∧ ot < kN (wK w)) (htg : 0 ≤ tg ∧ tg < 5) (hkc : kc = cnI 40 (fun i => decide (hold (wK w) (wD w b) i = nd))) (hS : kS (wK w) < 111) (hN : kN (wK w) < 10) (KK : ∀ h' w' n' d' e' z' v' f' y' k' q' p' (u19 u20 u21 u22 u23 u24 u25 u26 u27 u28 : Option Value), Lst h' w' n' d' e' z' v' f' y' k' q' p' → kS (wK w') ≤ kS (wK w) + 1 → Gw h h' 100 1000 → En V (d + 9) 0 2227 [some (.ref ev_ext), some (.ref 0), some (.ref 82), some (.ref 83), some (.ref 84), some (.ref 85), some (.ref 86), some (.ref 87), some (.ref 88), some (.ref 89), some (.ref 90), some (.ref 91), some (.int (iI 1)), some (.int (iI tn)), some (.int (iI q0)), some (.int (iI kd)), some (.int (iI c)), some (.int (iI b)), some (.int (iI (10 * b))), u19, u20, u21, u22, u23, u24, u25, u26, u27, u28] [] h' P) : En V (d + 9) 0 323 [some (.ref ev_ext), some (.ref 0), some (.ref 82), some (.ref 83), some (.ref 84), some (.ref 85), some (.ref 86), some (.ref 87), some (.ref 88), some (.ref 89), some (.ref 90), some (.ref 91), some (.int (iI 1)), some (.int (iI tn)), some (.int (iI q0)), some (.int (iI kd)), some (.int (iI c)), some (.int (iI b)), some (.int (iI (10 * b))), some (.int (iI nd)), some (.int (iI (b2 io))), some (.int (iI ot)), some (.int (iI tg)), some (.int (iI kc)), u24, u25, u26, u27, u28] [] h P := by
  obtain ⟨hW, hK, ⟨n0, n1, n2, n3, n7, n4⟩, hP, hOO, rw', rf', hH, hE, hpp, hbd, hbv⟩ := id hL
  have t0 := hW.2.2.1.1
  have tb := hW.2.2.1.2.2.2.1
  have kr := hW.1.2.2.2.2.2.2.2.2.2.2
  have kn := hK.2.2.1
  have kw := hK.2.2.2.1
  have ks0 := hK.2.2.2.2.1
  have hOb := hOO.1 b hb.1 hb.2
  obtain ⟨⟨hI, ⟨dp, hT⟩, hOk⟩, hR, hEe⟩ := id hOb
  have hkr := ch_le hK hI.1 hnd.1
  have hkr0 := (cnI_r (i := 40) (p := fun i => decide (hold (wK w) (wD w b) i = nd)) (by decide)).1
  have hor : 0 ≤ 10 * b ∧ 10 * b + 10 ≤ (30 : Nat) := by omega
  have b0 := hH.1.1
  have gn0 := hH.1.2.2.2.2 0
  have gn1 := hH.1.2.2.2.2 1
  have at404 : ∀ pl sm pa (u27 : Option Value), 0 ≤ pl → pl < 20 → 0 ≤ sm → sm ≤ 3 → 0 ≤ pa → pa < kN (wK w) → En V (d + 9) 0 404 [some (.ref ev_ext), some (.ref 0), some (.ref 82), some (.ref 83), some (.ref 84), some (.ref 85), some (.ref 86), some (.ref 87), some (.ref 88), some (.ref 89), some (.ref 90), some (.ref 91), some (.int (iI 1)), some (.int (iI tn)), some (.int (iI q0)), some (.int (iI kd)), some (.int (iI c)), some (.int (iI b)), some (.int (iI (10 * b))), some (.int (iI nd)), some (.int (iI (b2 io))), some (.int (iI ot)), some (.int (iI tg)), some (.int (iI kc)), some (.int (iI pl)), some (.int (iI sm)), some (.int (iI pa)), u27, u28] [] h P := fun pl sm pa u27 l1 l2 s1 s2 p1 p2 => by
    have fpa := rf' pa p1 p2
    have kpa := kr.2.2.2.1 pa
    have k9 := hH.2.2.2.2.2.2.2.1.1
    have hfu : hs (wD w b) pa = true → kK (wK w) pa ≤ 1 → full (wK w) (wD w b) pa (-1) := fun _ g => full_t hK hI.1 p1 (by omega)
    have hheld : hs (wD w b) pa = true → held (plS (plN (wK w) sm) (kN (wK w)) pa) (putT (wK w) (wD w b) tg) := fun _ => pt_held hK hI.1 (by omega) ⟨htg.1, by omega⟩
    have hcl := (cnI_r (i := 40) (p := fun i => decide (hold (wK w) (wD w b) i = pa)) (by decide))
    refine n_go f_0_404 rfl (pc' := 405) rfl ?_
    refine n_go f_0_405 rfl (pc' := 407) rfl ?_
    refine n_go f_0_407 rfl (pc' := 409) rfl ?_
    refine n_cs (ls' := [_, _, _]) f_0_409 (by decide) m_3 rfl rfl ?_
    refine c_lthere hH.2.1 (by omega) ?_
    show En V _ 0 412 _ [_] _ _
    rw [rD_lt hK hI.1 hR (by omega)]
    refine n_ib_ne f_0_412 rfl rfl (fun g1 => ?_) (fun g1 => ?_)
    · refine n_go f_0_420 rfl (pc' := 422) rfl ?_
      refine n_go f_0_422 rfl (pc' := 423) rfl ?_
      refine n_go f_0_423 rfl (pc' := 424) rfl ?_
      refine n_go f_0_424 rfl (pc' := 426) rfl ?_
      refine n_go f_0_426 rfl (pc' := 428) rfl ?_
      refine n_cs (ls' := [_, _, _, _, _, _]) f_0_428 (by decide) m_4 rfl rfl ?_
      refine c_lkids hH.1 ⟨n0, kn⟩ hH.2.1 hor (by omega) ?_
      show En V _ 0 431 _ [_, _] _ _
      rw [rD_kids hK hI.1 hR p1]
      refine n_ic_le f_0_431 rfl rfl ⟨by omega, by omega⟩ (fun g2 => ?_) (fun g2 => ?_)
      · refine n_go f_0_439 rfl (pc' := 441) rfl ?_
        refine n_go f_0_441 rfl (pc' := 443) rfl ?_
        refine n_ial f_0_443 rfl (k9) (by unfold ev_ext; omega) (by omega) ?_
        refine n_go f_0_444 rfl (pc' := 445) (st' := .int (iI 1) :: _) rfl ?_
        refine n_ic_le f_0_445 rfl rfl ⟨by omega, by omega⟩ (fun g3 => ?_) (fun g3 => ?_)
        · -- edits
          have gk : kK (wK w) pa ≤ 1 := by omega
          refine n_go f_0_453 rfl (pc' := 454) rfl ?_
          refine n_go f_0_454 rfl (pc' := 455) rfl ?_
          refine n_go f_0_455 rfl (pc' := 457) rfl ?_
          refine n_go f_0_457 rfl (pc' := 459) rfl ?_
          refine n_go f_0_459 rfl (pc' := 461) rfl ?_
          refine n_go f_0_461 rfl (pc' := 463) rfl ?_
          refine n_go f_0_463 rfl (pc' := 465) rfl ?_
          refine n_go f_0_465 rfl (pc' := 466) (st' := .int (iI 0) :: _) rfl ?_
          refine n_go f_0_466 rfl (pc' := 467) (st' := .int (iI 0) :: _) rfl ?_
          refine n_go f_0_467 rfl (pc' := 469) rfl ?_
          refine n_go f_0_469 rfl (pc' := 471) rfl ?_
          refine n_go f_0_471 rfl (pc' := 473) rfl ?_
          refine n_go f_0_473 rfl (pc' := 475) rfl ?_
          refine n_cs (ls' := [_, _, _, _, _, _, _, _, _, _, _, _, _, _, _, _, _, _, _, _, _, _, _]) f_0_475 (by decide) m_5 rfl rfl ?_
          refine c_ledP hL (by omega) hb g1 gk ⟨l1, g2⟩ ⟨s1, s2⟩ ⟨htg.1, by omega⟩ hN (by omega) (fun hO h1 d' hW1 hG1 hH1 hr1 ho1 => ?_) (fun hO h1 hW1 hG1 hH1 => ?_)
          · show En V _ _ 478 _ [_] h1 _
            have t1 := hW1.2.2.1.1
            refine n_go f_0_478 rfl (pc' := 480) (ls' := [_, _, _, _, _, _, _, _, _, _, _, _, _, _, _, _, _, _, _, _, _, _, _, _, _, _, _, _, _]) rfl ?_
            refine n_go f_0_480 rfl (pc' := 481) rfl ?_
            refine n_go f_0_481 rfl (pc' := 482) (st' := .int (iI 0) :: _) rfl ?_
            refine n_go f_0_482 rfl (pc' := 484) rfl ?_
            refine n_go f_0_484 rfl (pc' := 486) rfl ?_
            refine n_go f_0_486 rfl (pc' := 488) rfl ?_
            refine n_go f_0_488 rfl (pc' := 490) rfl ?_
            refine n_go f_0_490 rfl (pc' := 492) rfl ?_
            refine n_cs (ls' := [_, _, _, _, _, _, _, _]) f_0_492 (by decide) m_6 rfl rfl ?_
            refine d_put t1 (c_put hW1 hb ⟨p1, by omega⟩ ⟨l1, by omega⟩ ⟨s1, s2⟩ ⟨htg.1, by omega⟩ (by omega) (by omega) hfu hheld (fun x => absurd (g1.symm.trans x) (by decide)) (fun _ x => absurd x (by rw [cn_m1]; omega)) (fun _ _ x => absurd gk x) (fun _ _ _ x => absurd hO x) (fun _ _ _ _ ah u h2 ha hu hW2 hQ2 => ?_))
            show En V _ _ 495 _ [.int (iI (kN (wK w)))] h2 _
            refine n_go f_0_495 rfl (pc' := 497) rfl ?_
            refine n_ic_ne f_0_497 rfl rfl ⟨by omega, by omega⟩ (fun e9 => absurd e9 (by omega)) (fun _ => ?_)
            refine n_go f_0_500 rfl (pc' := 501) (st' := .int (iI 1) :: _) rfl ?_
            refine n_go f_0_501 rfl (pc' := 505) rfl ?_
            refine n_go f_0_505 rfl (pc' := 507) (ls' := [_, _, _, _, _, _, _, _, _, _, _, _, _, _, _, _, _, _, _, _, _, _, _, _, _, _, _, _, _]) rfl ?_
            refine n_go f_0_507 rfl (pc' := 2227) rfl ?_
            have hx := pt_kx (sm := sm) (p := pa) hK hN (by omega) hu
            refine KK h2 _ _ _ _ _ _ _ _ _ _ _ _ _ _ _ _ _ _ _ _ _ (Lst_ds hL hW2 hx ⟨⟨pt_I hK hI hN (by omega) hu g1 gk ⟨htg.1, by omega⟩, ⟨_, pt_T hK hI hT hOk hN (by omega) hu g1 ⟨htg.1, by omega⟩⟩, hO⟩, hr1 ah u ha hu, rE_c (S := wD w b) rfl (kx_E hx hK hI hEe)⟩ (fun i x => ⟨ho1 i x, rfl, uz_ne _ _ (by omega)⟩) ⟨?_, ?_, ?_, ?_, ?_, ?_⟩ rw' (fun i i1 i2 => ?_) (hH1.gm hQ2.gm)) (Int.le_refl _) ((hG1.tr hQ2.gm.gw).le (by omega) (by omega))
            · exact (uz_ne _ _ (by decide)).trans (uz_same _ _ _)
            · exact (uz_ne _ _ (by decide)).trans ((uz_ne _ _ (by decide)).trans n1)
            · exact (uz_ne _ _ (by decide)).trans ((uz_ne _ _ (by decide)).trans n2)
            · exact (uz_ne _ _ (by decide)).trans ((uz_ne _ _ (by decide)).trans n3)
            · refine (uz_same _ _ _).trans ?_
              show kS (wK w) + 2 = kS (wK w) + 1 + 1
              omega
            · intro x x1 x2
              have x2 : x < wB w := x2
              exact (uz_ne _ _ (by omega)).trans ((uz_ne _ _ (by omega)).trans (n4 x x1 x2))
            · have i2 : i < kN (wK w) + 1 := i2
              show uz k (kN (wK w)) sm i = uz (kK (wK w)) (kN (wK w)) sm i
              by_cases x : i = kN (wK w)
              · rw [x, uz_same, uz_same]
              · rw [uz_ne _ _ x, uz_ne _ _ x]
                exact rf' i i1 (by omega)
          · show En V _ _ 478 _ [.int (iI (-13))] h1 _
            have t1 := hW1.2.2.1.1
            refine n_go f_0_478 rfl (pc' := 480) (ls' := [_, _, _, _, _, _, _, _, _, _, _, _, _, _, _, _, _, _, _, _, _, _, _, _, _, _, _, _, _]) rfl ?_
            refine n_go f_0_480 rfl (pc' := 481) rfl ?_
            refine n_go f_0_481 rfl (pc' := 482) (st' := .int (iI 0) :: _) rfl ?_
            refine n_go f_0_482 rfl (pc' := 484) rfl ?_
            refine n_go f_0_484 rfl (pc' := 486) rfl ?_
            refine n_go f_0_486 rfl (pc' := 488) rfl ?_
            refine n_go f_0_488 rfl (pc' := 490) rfl ?_
            refine n_go f_0_490 rfl (pc' := 492) rfl ?_
            refine n_cs (ls' := [_, _, _, _, _, _, _, _]) f_0_492 (by decide) m_6 rfl rfl ?_
            refine d_put t1 (c_put hW1 hb ⟨p1, by omega⟩ ⟨l1, by omega⟩ ⟨s1, s2⟩ ⟨htg.1, by omega⟩ (by omega) (by omega) hfu hheld (fun x => absurd (g1.symm.trans x) (by decide)) (fun _ x => absurd x (by rw [cn_m1]; omega)) (fun _ _ x => absurd gk x) (fun _ _ _ _ h2 hW2 hQ2 => ?_) (fun _ _ _ x => absurd x hO))
            show En V _ _ 495 _ [.int (iI (-13))] (xH h2 13) _
            refine n_go f_0_495 rfl (pc' := 497) rfl ?_
            refine n_ic_ne f_0_497 rfl rfl ⟨by omega, by omega⟩ (fun e9 => absurd e9 (by omega)) (fun _ => ?_)
            refine n_go f_0_500 rfl (pc' := 501) (st' := .int (iI 1) :: _) rfl ?_
            refine n_go f_0_501 rfl (pc' := 505) rfl ?_
            refine n_go f_0_505 rfl (pc' := 507) (ls' := [_, _, _, _, _, _, _, _, _, _, _, _, _, _, _, _, _, _, _, _, _, _, _, _, _, _, _, _, _]) rfl ?_
            refine n_go f_0_507 rfl (pc' := 2227) rfl ?_
            refine KK (xH h2 13) _ _ _ _ _ _ _ _ _ _ _ _ _ _ _ _ _ _ _ _ _ (Lst_kk hL hW2.psh (pl_kx hK) ⟨n0, n1, n2, n3, n7, n4⟩ rw' (fun i i1 i2 => ?_) ((hH1.gm hQ2.gm).gm (Gm.push _ _ _))) (show kS (wK w) ≤ kS (wK w) + 1 by omega) (((hG1.tr hQ2.gm.gw).tr (Gm.push _ _ _).gw).le (by omega) (by omega))
            have i2 : i < kN (wK w) := i2
            show uz k (kN (wK w)) sm i = uz (kK (wK w)) (kN (wK w)) sm i
            rw [uz_ne _ _ (by omega), uz_ne _ _ (by omega)]
            exact rf' i i1 i2
        · refine n_bip (m := (-13)) f_0_448 rfl (by decide) ?_
          refine n_go f_0_450 rfl (pc' := 478) rfl ?_
          refine n_go f_0_478 rfl (pc' := 480) (ls' := [_, _, _, _, _, _, _, _, _, _, _, _, _, _, _, _, _, _, _, _, _, _, _, _, _, _, _, _, _]) rfl ?_
          refine n_go f_0_480 rfl (pc' := 481) rfl ?_
          refine n_go f_0_481 rfl (pc' := 482) (st' := .int (iI 0) :: _) rfl ?_
          refine n_go f_0_482 rfl (pc' := 484) rfl ?_
          refine n_go f_0_484 rfl (pc' := 486) rfl ?_
          refine n_go f_0_486 rfl (pc' := 488) rfl ?_
          refine n_go f_0_488 rfl (pc' := 490) rfl ?_
          refine n_go f_0_490 rfl (pc' := 492) rfl ?_
          refine n_cs (ls' := [_, _, _, _, _, _, _, _]) f_0_492 (by decide) m_6 rfl rfl ?_
          refine d_put t0 (c_put hW hb ⟨p1, by omega⟩ ⟨l1, by omega⟩ ⟨s1, s2⟩ ⟨htg.1, by omega⟩ (by omega) (by omega) hfu hheld (fun x => absurd (g1.symm.trans x) (by decide)) (fun _ x => absurd x (by rw [cn_m1]; omega)) (fun _ _ _ => ?_) (fun _ _ x => absurd x (by omega)) (fun _ _ x => absurd x (by omega)))
          show En V _ _ 495 _ [.int (iI (-13))] (xH h 13) _
          refine n_go f_0_495 rfl (pc' := 497) rfl ?_
          refine n_ic_ne f_0_497 rfl rfl ⟨by omega, by omega⟩ (fun e9 => absurd e9 (by omega)) (fun _ => ?_)
          refine n_go f_0_500 rfl (pc' := 501) (st' := .int (iI 1) :: _) rfl ?_
          refine n_go f_0_501 rfl (pc' := 505) rfl ?_
          refine n_go f_0_505 rfl (pc' := 507) (ls' := [_, _, _, _, _, _, _, _, _, _, _, _, _, _, _, _, _, _, _, _, _, _, _, _, _, _, _, _, _]) rfl ?_
          refine n_go f_0_507 rfl (pc' := 2227) rfl ?_
          exact KK (xH h 13) _ _ _ _ _ _ _ _ _ _ _ _ _ _ _ _ _ _ _ _ _ (hL.gm hW.psh (Gm.push _ _ _)) (by omega) ((Gm.push _ _ _).gw.le (by omega) (by omega))
      · refine n_bip (m := (-12)) f_0_434 rfl (by decide) ?_
        refine n_go f_0_436 rfl (pc' := 478) rfl ?_
        refine n_go f_0_478 rfl (pc' := 480) (ls' := [_, _, _, _, _, _, _, _, _, _, _, _, _, _, _, _, _, _, _, _, _, _, _, _, _, _, _, _, _]) rfl ?_
        refine n_go f_0_480 rfl (pc' := 481) rfl ?_
        refine n_go f_0_481 rfl (pc' := 482) (st' := .int (iI 0) :: _) rfl ?_
        refine n_go f_0_482 rfl (pc' := 484) rfl ?_
        refine n_go f_0_484 rfl (pc' := 486) rfl ?_
        refine n_go f_0_486 rfl (pc' := 488) rfl ?_
        refine n_go f_0_488 rfl (pc' := 490) rfl ?_
        refine n_go f_0_490 rfl (pc' := 492) rfl ?_
        refine n_cs (ls' := [_, _, _, _, _, _, _, _]) f_0_492 (by decide) m_6 rfl rfl ?_
        refine d_put t0 (c_put hW hb ⟨p1, by omega⟩ ⟨l1, by omega⟩ ⟨s1, s2⟩ ⟨htg.1, by omega⟩ (by omega) (by omega) hfu hheld (fun x => absurd (g1.symm.trans x) (by decide)) (fun _ _ => ?_) (fun _ x => absurd x (by rw [cn_m1]; omega)) (fun _ x => absurd x (by rw [cn_m1]; omega)) (fun _ x => absurd x (by rw [cn_m1]; omega)))
        show En V _ _ 495 _ [.int (iI (-12))] (xH h 12) _
        refine n_go f_0_495 rfl (pc' := 497) rfl ?_
        refine n_ic_ne f_0_497 rfl rfl ⟨by omega, by omega⟩ (fun e9 => absurd e9 (by omega)) (fun _ => ?_)
        refine n_go f_0_500 rfl (pc' := 501) (st' := .int (iI 1) :: _) rfl ?_
        refine n_go f_0_501 rfl (pc' := 505) rfl ?_
        refine n_go f_0_505 rfl (pc' := 507) (ls' := [_, _, _, _, _, _, _, _, _, _, _, _, _, _, _, _, _, _, _, _, _, _, _, _, _, _, _, _, _]) rfl ?_
        refine n_go f_0_507 rfl (pc' := 2227) rfl ?_
        exact KK (xH h 12) _ _ _ _ _ _ _ _ _ _ _ _ _ _ _ _ _ _ _ _ _ (hL.gm hW.psh (Gm.push _ _ _)) (by omega) ((Gm.push _ _ _).gw.le (by omega) (by omega))
    · refine n_bip (m := (-11)) f_0_415 rfl (by decide) ?_
      refine n_go f_0_417 rfl (pc' := 478) rfl ?_
      refine n_go f_0_478 rfl (pc' := 480) (ls' := [_, _, _, _, _, _, _, _, _, _, _, _, _, _, _, _, _, _, _, _, _, _, _, _, _, _, _, _, _]) rfl ?_
      refine n_go f_0_480 rfl (pc' := 481) rfl ?_
      refine n_go f_0_481 rfl (pc' := 482) (st' := .int (iI 0) :: _) rfl ?_
      refine n_go f_0_482 rfl (pc' := 484) rfl ?_
      refine n_go f_0_484 rfl (pc' := 486) rfl ?_
      refine n_go f_0_486 rfl (pc' := 488) rfl ?_
      refine n_go f_0_488 rfl (pc' := 490) rfl ?_
      refine n_go f_0_490 rfl (pc' := 492) rfl ?_
      refine n_cs (ls' := [_, _, _, _, _, _, _, _]) f_0_492 (by decide) m_6 rfl rfl ?_
      refine d_put t0 (c_put hW hb ⟨p1, by omega⟩ ⟨l1, by omega⟩ ⟨s1, s2⟩ ⟨htg.1, by omega⟩ (by omega) (by omega) hfu hheld (fun _ => ?_) (fun x => absurd (x.symm.trans g1) (by decide)) (fun x => absurd (x.symm.trans g1) (by decide)) (fun x => absurd (x.symm.trans g1) (by decide)) (fun x => absurd (x.symm.trans g1) (by decide)))
      show En V _ _ 495 _ [.int (iI (-11))] (xH h 11) _
      refine n_go f_0_495 rfl (pc' := 497) rfl ?_
      refine n_ic_ne f_0_497 rfl rfl ⟨by omega, by omega⟩ (fun e9 => absurd e9 (by omega)) (fun _ => ?_)
      refine n_go f_0_500 rfl (pc' := 501) (st' := .int (iI 1) :: _) rfl ?_
      refine n_go f_0_501 rfl (pc' := 505) rfl ?_
      refine n_go f_0_505 rfl (pc' := 507) (ls' := [_, _, _, _, _, _, _, _, _, _, _, _, _, _, _, _, _, _, _, _, _, _, _, _, _, _, _, _, _]) rfl ?_
      refine n_go f_0_507 rfl (pc' := 2227) rfl ?_
      exact KK (xH h 11) _ _ _ _ _ _ _ _ _ _ _ _ _ _ _ _ _ _ _ _ _ (hL.gm hW.psh (Gm.push _ _ _)) (by omega) ((Gm.push _ _ _).gw.le (by omega) (by omega))
  have at402 : ∀ x24 pl sm pa (u27 : Option Value), 0 ≤ pl → pl < 20 → 0 ≤ sm → sm ≤ 3 → 0 ≤ pa → pa < kN (wK w) → En V (d + 9) 0 402 [some (.ref ev_ext), some (.ref 0), some (.ref 82), some (.ref 83), some (.ref 84), some (.ref 85), some (.ref 86), some (.ref 87), some (.ref 88), some (.ref 89), some (.ref 90), some (.ref 91), some (.int (iI 1)), some (.int (iI tn)), some (.int (iI q0)), some (.int (iI kd)), some (.int (iI c)), some (.int (iI b)), some (.int (iI (10 * b))), some (.int (iI nd)), some (.int (iI (b2 io))), some (.int (iI ot)), some (.int (iI tg)), some (.int (iI kc)), some (.int (iI x24)), some (.int (iI sm)), some (.int (iI pa)), u27, u28] [.int (iI pl)] h P := fun x24 pl sm pa u27 l1 l2 s1 s2 p1 p2 => by
    refine n_go f_0_402 rfl (pc' := 404) (ls' := [_, _, _, _, _, _, _, _, _, _, _, _, _, _, _, _, _, _, _, _, _, _, _, _, _, _, _, _, _]) rfl ?_
    exact at404 pl sm pa u27 l1 l2 s1 s2 p1 p2
  have at388 : ∀ pl sm pa (u26 u27 : Option Value), 0 ≤ pl → pl < 20 → 0 ≤ sm → sm ≤ 3 → 0 ≤ pa → pa < kN (wK w) → En V (d + 9) 0 388 [some (.ref ev_ext), some (.ref 0), some (.ref 82), some (.ref 83), some (.ref 84), some (.ref 85), some (.ref 86), some (.ref 87), some (.ref 88), some (.ref 89), some (.ref 90), some (.ref 91), some (.int (iI 1)), some (.int (iI tn)), some (.int (iI q0)), some (.int (iI kd)), some (.int (iI c)), some (.int (iI b)), some (.int (iI (10 * b))), some (.int (iI nd)), some (.int (iI (b2 io))), some (.int (iI ot)), some (.int (iI tg)), some (.int (iI kc)), some (.int (iI pl)), some (.int (iI sm)), u26, u27, u28] [.int (iI pa)] h P := fun pl sm pa u26 u27 l1 l2 s1 s2 p1 p2 => by
    refine n_go f_0_388 rfl (pc' := 390) (ls' := [_, _, _, _, _, _, _, _, _, _, _, _, _, _, _, _, _, _, _, _, _, _, _, _, _, _, _, _, _]) rfl ?_
    refine n_go f_0_390 rfl (pc' := 392) rfl ?_
    refine n_go f_0_392 rfl (pc' := 393) (st' := .int (iI 2) :: _) rfl ?_
    refine n_ic_ge f_0_393 rfl rfl ⟨by omega, by omega⟩ (fun g1 => ?_) (fun g1 => ?_)
    · refine n_go f_0_400 rfl (pc' := 402) rfl ?_
      exact at402 pl pl sm pa u27 l1 l2 s1 s2 p1 p2
    · refine n_go f_0_396 rfl (pc' := 397) (st' := .int (iI 0) :: _) rfl ?_
      refine n_go f_0_397 rfl (pc' := 402) rfl ?_
      exact at402 pl 0 sm pa u27 (by decide) (by decide) s1 s2 p1 p2
  have at374 : ∀ pl sm (u25 u26 u27 : Option Value), 0 ≤ pl → pl < 20 → 0 ≤ sm → sm ≤ 3 → En V (d + 9) 0 374 [some (.ref ev_ext), some (.ref 0), some (.ref 82), some (.ref 83), some (.ref 84), some (.ref 85), some (.ref 86), some (.ref 87), some (.ref 88), some (.ref 89), some (.ref 90), some (.ref 91), some (.int (iI 1)), some (.int (iI tn)), some (.int (iI q0)), some (.int (iI kd)), some (.int (iI c)), some (.int (iI b)), some (.int (iI (10 * b))), some (.int (iI nd)), some (.int (iI (b2 io))), some (.int (iI ot)), some (.int (iI tg)), some (.int (iI kc)), some (.int (iI pl)), u25, u26, u27, u28] [.int (iI sm)] h P := fun pl sm u25 u26 u27 l1 l2 s1 s2 => by
    refine n_go f_0_374 rfl (pc' := 376) (ls' := [_, _, _, _, _, _, _, _, _, _, _, _, _, _, _, _, _, _, _, _, _, _, _, _, _, _, _, _, _]) rfl ?_
    refine n_go f_0_376 rfl (pc' := 378) rfl ?_
    refine n_go f_0_378 rfl (pc' := 379) (st' := .int (iI 2) :: _) rfl ?_
    refine n_ic_ge f_0_379 rfl rfl ⟨by omega, by omega⟩ (fun g1 => ?_) (fun g1 => ?_)
    · refine n_go f_0_386 rfl (pc' := 388) rfl ?_
      exact at388 pl sm nd u26 u27 l1 l2 s1 s2 hnd.1 hnd.2
    · refine n_go f_0_382 rfl (pc' := 383) (st' := .int (iI 0) :: _) rfl ?_
      refine n_go f_0_383 rfl (pc' := 388) rfl ?_
      exact at388 pl sm 0 u26 u27 l1 l2 s1 s2 (by decide) (by omega)
  have at345 : ∀ x, 0 ≤ x → x ≤ 1 → En V (d + 9) 0 345 [some (.ref ev_ext), some (.ref 0), some (.ref 82), some (.ref 83), some (.ref 84), some (.ref 85), some (.ref 86), some (.ref 87), some (.ref 88), some (.ref 89), some (.ref 90), some (.ref 91), some (.int (iI 1)), some (.int (iI tn)), some (.int (iI q0)), some (.int (iI kd)), some (.int (iI c)), some (.int (iI b)), some (.int (iI (10 * b))), some (.int (iI nd)), some (.int (iI (b2 io))), some (.int (iI ot)), some (.int (iI tg)), some (.int (iI kc)), u24, u25, u26, u27, u28] [.int (iI x), .int (iI (kc + 1)), .int (iI (c / 50))] h P := fun x x1 x2 => by
    have hq : 0 ≤ c / 50 % (kc + 1 + x) ∧ c / 50 % (kc + 1 + x) < kc + 1 + x := ⟨Int.emod_nonneg _ (by omega), Int.emod_lt_of_pos _ (by omega)⟩
    refine n_iadd f_0_345 rfl ?_
    refine n_irem f_0_346 rfl (by omega) ?_
    refine n_go f_0_347 rfl (pc' := 349) (ls' := [_, _, _, _, _, _, _, _, _, _, _, _, _, _, _, _, _, _, _, _, _, _, _, _, _, _, _, _, _]) rfl ?_
    generalize c / 50 % (kc + 1 + x) = pl at *
    refine n_go f_0_349 rfl (pc' := 351) rfl ?_
    refine n_if_ne f_0_351 rfl rfl (by omega) (fun g1 => ?_) (fun g1 => ?_)
    · refine n_go f_0_358 rfl (pc' := 360) rfl ?_
      refine n_go f_0_360 rfl (pc' := 361) (st' := .int (iI 1) :: _) rfl ?_
      refine n_ic_ne f_0_361 rfl rfl ⟨by omega, by omega⟩ (fun g2 => ?_) (fun g2 => ?_)
      · refine n_go f_0_368 rfl (pc' := 370) rfl ?_
        refine n_go f_0_370 rfl (pc' := 371) (st' := .int (iI 5) :: _) rfl ?_
        refine n_idiv f_0_371 rfl (by omega) ?_
        refine n_go f_0_372 rfl (pc' := 373) (st' := .int (iI 4) :: _) rfl ?_
        refine n_irem f_0_373 rfl (by omega) ?_
        exact at374 pl _ u25 u26 u27 hq.1 (by omega) (by omega) (by omega)
      · refine n_go f_0_364 rfl (pc' := 365) (st' := .int (iI 2) :: _) rfl ?_
        refine n_go f_0_365 rfl (pc' := 374) rfl ?_
        exact at374 pl 2 u25 u26 u27 hq.1 (by omega) (by decide) (by decide)
    · refine n_go f_0_354 rfl (pc' := 355) (st' := .int (iI 1) :: _) rfl ?_
      refine n_go f_0_355 rfl (pc' := 374) rfl ?_
      exact at374 pl 1 u25 u26 u27 hq.1 (by omega) (by decide) (by decide)
  refine n_go f_0_323 rfl (pc' := 325) rfl ?_
  refine n_bip (m := 50) f_0_325 rfl (by decide) ?_
  refine n_idiv f_0_327 rfl (by omega) ?_
  refine n_go f_0_328 rfl (pc' := 330) rfl ?_
  refine n_go f_0_330 rfl (pc' := 331) (st' := .int (iI 1) :: _) rfl ?_
  refine n_iadd f_0_331 rfl ?_
  refine n_go f_0_332 rfl (pc' := 334) rfl ?_
  refine n_bip (m := 11) f_0_334 rfl (by decide) ?_
  refine n_irem f_0_336 rfl (by omega) ?_
  refine n_if_ne f_0_337 rfl rfl (by omega) (fun g1 => ?_) (fun g1 => ?_)
  · refine n_go f_0_344 rfl (pc' := 345) (st' := .int (iI 0) :: _) rfl ?_
    exact at345 0 (by decide) (by decide)
  · refine n_go f_0_340 rfl (pc' := 341) (st' := .int (iI 1) :: _) rfl ?_
    refine n_go f_0_341 rfl (pc' := 345) rfl ?_
    exact at345 1 (by decide) (by decide)
end LPU
