/-! The law: a word struck. -/
section LPK
variable {V : ev_V} {d : Nat} {h : ev_H} {P : ev_O → ev_H → Prop} {w : dW} {tn q0 kd c b nd ot tg kc : Int} {io : Bool} {n dd e z v f y k q p : Int → Int} {u24 u25 u26 u27 u28 : Option Value}
theorem L_str (hL : Lst h w n dd e z v f y k q p) (hl : 92 ≤ h.1.length ∧ h.1.length < 800000) (htn : 0 ≤ tn ∧ tn < 110) (hc : 0 ≤ c ∧ c < 2147483648) (hb : 0 ≤ b ∧ b < wB w) (hnd : 0 ≤ nd ∧ nd < kN (wK w)) (hio : io = hs (wD w b) nd) (hot : 0 ≤ ot ∧ ot < kN (wK w)) (htg : 0 ≤ tg ∧ tg < 5) (hkc : kc = cnI 40 (fun i => decide (hold (wK w) (wD w b) i = nd))) (hS : kS (wK w) < 111) (KK : ∀ h' w' n' d' e' z' v' f' y' k' q' p' (u19 u20 u21 u22 u23 u24 u25 u26 u27 u28 : Option Value), Lst h' w' n' d' e' z' v' f' y' k' q' p' → kS (wK w') ≤ kS (wK w) + 1 → Gw h h' 100 1000 → En V (d + 9) 0 2227 [some (.ref ev_ext), some (.ref 0), some (.ref 82), some (.ref 83), some (.ref 84), some (.ref 85), some (.ref 86), some (.ref 87), some (.ref 88), some (.ref 89), some (.ref 90), some (.ref 91), some (.int (iI 1)), some (.int (iI tn)), some (.int (iI q0)), some (.int (iI kd)), some (.int (iI c)), some (.int (iI b)), some (.int (iI (10 * b))), u19, u20, u21, u22, u23, u24, u25, u26, u27, u28] [] h' P) : En V (d + 9) 0 1367 [some (.ref ev_ext), some (.ref 0), some (.ref 82), some (.ref 83), some (.ref 84), some (.ref 85), some (.ref 86), some (.ref 87), some (.ref 88), some (.ref 89), some (.ref 90), some (.ref 91), some (.int (iI 1)), some (.int (iI tn)), some (.int (iI q0)), some (.int (iI kd)), some (.int (iI c)), some (.int (iI b)), some (.int (iI (10 * b))), some (.int (iI nd)), some (.int (iI (b2 io))), some (.int (iI ot)), some (.int (iI tg)), some (.int (iI kc)), u24, u25, u26, u27, u28] [] h P := by
  obtain ⟨hW, hK, ⟨n0, n1, n2, n3, n7, n4⟩, hP, hOO, rw', rf', hH, hE, hpp, hbd, hbv⟩ := id hL
  have t0 := hW.2.2.1.1
  have tb := hW.2.2.1.2.2.2.1
  have kr := hW.1.2.2.2.2.2.2.2.2.2.2
  have kn := hK.2.2.1
  have kw := hK.2.2.2.1
  have ks0 := hK.2.2.2.2.1
  have hOb := hOO.1 b hb.1 hb.2
  obtain ⟨⟨hI, ⟨dp, hT⟩, hOk⟩, hR, hEe⟩ := id hOb
  have hkr := ch_le hK hI.1 hnd.1
  have hkr0 := (cnI_r (i := 40) (p := fun i => decide (hold (wK w) (wD w b) i = nd)) (by decide)).1
  have hor : 0 ≤ 10 * b ∧ 10 * b + 10 ≤ (30 : Nat) := by omega
  have b0 := hH.1.1
  have gn0 := hH.1.2.2.2.2 0
  have gn1 := hH.1.2.2.2.2 1
  have e4 := hH.2.2.1.1
  have q9 := hH.2.2.2.2.2.2.2.2.1.1
  have bq := hH.2.2.2.2.2.2.2.2.1.2.2.2.2
  have be := hH.2.2.1.2.2.2.2
  have hwc := cnI_r (i := kW (wK w)) (p := wOk (wK w) (wD w b) nd) kw.1
  refine n_go f_0_1367 rfl (pc' := 1368) rfl ?_
  refine n_go f_0_1368 rfl (pc' := 1370) rfl ?_
  refine n_go f_0_1370 rfl (pc' := 1372) rfl ?_
  refine n_go f_0_1372 rfl (pc' := 1374) rfl ?_
  refine n_go f_0_1374 rfl (pc' := 1376) rfl ?_
  refine n_cs (ls' := [_, _, _, _, _, _, _]) f_0_1376 (by decide) m_9 rfl rfl ?_
  refine c_lwords hH.1 ⟨n1, kw⟩ hH.2.2.1 hH.2.2.2.2.2.2.2.2.1 hor (by omega) ?_
  show En V _ 0 1379 _ [_] _ _
  rw [lu_cn hK rw' hEe]
  generalize hcw : cnI (kW (wK w)) (wOk (wK w) (wD w b) nd) = cw at *
  have hq : 0 ≤ c / 50 % (cw + 1) ∧ c / 50 % (cw + 1) < cw + 1 := ⟨Int.emod_nonneg _ (by omega), Int.emod_lt_of_pos _ (by omega)⟩
  refine n_go f_0_1379 rfl (pc' := 1381) (ls' := [_, _, _, _, _, _, _, _, _, _, _, _, _, _, _, _, _, _, _, _, _, _, _, _, _, _, _, _, _]) rfl ?_
  refine n_go f_0_1381 rfl (pc' := 1383) rfl ?_
  refine n_bip (m := 50) f_0_1383 rfl (by decide) ?_
  refine n_idiv f_0_1385 rfl (by omega) ?_
  refine n_go f_0_1386 rfl (pc' := 1388) rfl ?_
  refine n_go f_0_1388 rfl (pc' := 1389) (st' := .int (iI 1) :: _) rfl ?_
  refine n_iadd f_0_1389 rfl ?_
  refine n_irem f_0_1390 rfl (by omega) ?_
  refine n_go f_0_1391 rfl (pc' := 1393) (ls' := [_, _, _, _, _, _, _, _, _, _, _, _, _, _, _, _, _, _, _, _, _, _, _, _, _, _, _, _, _]) rfl ?_
  generalize c / 50 % (cw + 1) = pl at *
  refine n_go f_0_1393 rfl (pc' := 1394) rfl ?_
  refine n_go f_0_1394 rfl (pc' := 1396) rfl ?_
  refine n_go f_0_1396 rfl (pc' := 1398) rfl ?_
  refine n_go f_0_1398 rfl (pc' := 1400) rfl ?_
  refine n_go f_0_1400 rfl (pc' := 1402) rfl ?_
  refine n_go f_0_1402 rfl (pc' := 1404) rfl ?_
  refine n_cs (ls' := [_, _, _, _, _, _, _, _]) f_0_1404 (by decide) m_10 rfl rfl ?_
  refine c_lword hH.1 ⟨n1, kw⟩ hH.2.2.1 hH.2.2.2.2.2.2.2.2.1 hor (by omega) (by omega) ?_
  show En V _ 0 1407 _ [_] _ _
  have hwr := wdF_r q e (10 * b) nd pl (kW (wK w)).toNat
  -- nothing struck
  have no : ∀ its : Int, -1 ≤ its → its < 10 → (hs (wD w b) nd = true → ∀ j, 0 ≤ j → j < kW (wK w) → uOk (wK w) (wD w b) nd j = true → ¬ cnI j (uOk (wK w) (wD w b) nd) = pl) → En V (d + 9) 0 1419 [some (.ref ev_ext), some (.ref 0), some (.ref 82), some (.ref 83), some (.ref 84), some (.ref 85), some (.ref 86), some (.ref 87), some (.ref 88), some (.ref 89), some (.ref 90), some (.ref 91), some (.int (iI 1)), some (.int (iI tn)), some (.int (iI q0)), some (.int (iI kd)), some (.int (iI c)), some (.int (iI b)), some (.int (iI (10 * b))), some (.int (iI nd)), some (.int (iI (b2 io))), some (.int (iI ot)), some (.int (iI tg)), some (.int (iI kc)), some (.int (iI cw)), some (.int (iI pl)), some (.int (iI its)), u27, u28] [] h P := fun its t0' t1' g1 => by
    have fin : ∀ u28 : Option Value, En V (d + 9) 0 1521 [some (.ref ev_ext), some (.ref 0), some (.ref 82), some (.ref 83), some (.ref 84), some (.ref 85), some (.ref 86), some (.ref 87), some (.ref 88), some (.ref 89), some (.ref 90), some (.ref 91), some (.int (iI 1)), some (.int (iI tn)), some (.int (iI q0)), some (.int (iI kd)), some (.int (iI c)), some (.int (iI b)), some (.int (iI (10 * b))), some (.int (iI nd)), some (.int (iI (b2 io))), some (.int (iI ot)), some (.int (iI tg)), some (.int (iI kc)), some (.int (iI cw)), some (.int (iI pl)), some (.int (iI its)), some (.int (iI ((-11)))), u28] [] h P := fun u28 => by
      refine n_go f_0_1521 rfl (pc' := 1522) rfl ?_
      refine n_bip (m := 6) f_0_1522 rfl (by decide) ?_
      refine n_go f_0_1524 rfl (pc' := 1526) rfl ?_
      refine n_go f_0_1526 rfl (pc' := 1528) rfl ?_
      refine n_go f_0_1528 rfl (pc' := 1530) rfl ?_
      refine n_go f_0_1530 rfl (pc' := 1531) (st' := .int (iI 0) :: _) rfl ?_
      refine n_go f_0_1531 rfl (pc' := 1532) (st' := .int (iI 0) :: _) rfl ?_
      refine n_cs (ls' := [_, _, _, _, _, _, _, _]) f_0_1532 (by decide) m_6 rfl rfl ?_
      refine d_strike t0 (c_strike hW hb ⟨hnd.1, by omega⟩ ⟨hq.1, by omega⟩ (fun _ => ?_) (fun x j j0 j1 j2 j3 => absurd j3 (g1 x j j0 j1 j2)))
      show En V _ _ 1535 _ [.int (iI (-11))] (xH h 11) _
      refine n_go f_0_1535 rfl (pc' := 1537) rfl ?_
      refine n_ic_ne f_0_1537 rfl rfl ⟨by omega, by omega⟩ (fun e9 => absurd e9 (by omega)) (fun _ => ?_)
      refine n_go f_0_1540 rfl (pc' := 1541) (st' := .int (iI 1) :: _) rfl ?_
      refine n_go f_0_1541 rfl (pc' := 1545) rfl ?_
      refine n_go f_0_1545 rfl (pc' := 1547) (ls' := [_, _, _, _, _, _, _, _, _, _, _, _, _, _, _, _, _, _, _, _, _, _, _, _, _, _, _, _, _]) rfl ?_
      refine n_go f_0_1547 rfl (pc' := 2227) rfl ?_
      exact KK (xH h 11) _ _ _ _ _ _ _ _ _ _ _ _ _ _ _ _ _ _ _ _ _ (hL.gm hW.psh (Gm.push _ _ _)) (by omega) ((Gm.push _ _ _).gw.le (by omega) (by omega))
    refine n_bip (m := (-11)) f_0_1419 rfl (by decide) ?_
    refine n_go f_0_1421 rfl (pc' := 1436) rfl ?_
    refine n_go f_0_1436 rfl (pc' := 1438) (ls' := [_, _, _, _, _, _, _, _, _, _, _, _, _, _, _, _, _, _, _, _, _, _, _, _, _, _, _, _, _]) rfl ?_
    refine n_go f_0_1438 rfl (pc' := 1439) (st' := .int (iI 0) :: _) rfl ?_
    refine n_go f_0_1439 rfl (pc' := 1441) (ls' := [_, _, _, _, _, _, _, _, _, _, _, _, _, _, _, _, _, _, _, _, _, _, _, _, _, _, _, _, _]) rfl ?_
    refine n_go f_0_1441 rfl (pc' := 1443) rfl ?_
    refine n_go f_0_1443 rfl (pc' := 1444) rfl ?_
    refine n_go f_0_1444 rfl (pc' := 1445) (st' := .int (iI 1) :: _) rfl ?_
    refine n_ial f_0_1445 rfl (b0) (by unfold ev_ext; omega) (by omega) ?_
    refine n_ic_ge f_0_1446 rfl rfl ⟨by omega, by omega⟩ (fun g2 => ?_) (fun g2 => ?_)
    · exact fin _
    · refine n_go f_0_1449 rfl (pc' := 1451) rfl ?_
      refine n_if_lt f_0_1451 rfl rfl (by omega) (fun _ => ?_) (fun e9 => absurd (by omega) e9)
      exact fin _
  refine n_go f_0_1407 rfl (pc' := 1409) (ls' := [_, _, _, _, _, _, _, _, _, _, _, _, _, _, _, _, _, _, _, _, _, _, _, _, _, _, _, _, _]) rfl ?_
  refine n_go f_0_1409 rfl (pc' := 1411) rfl ?_
  refine n_ib_eq f_0_1411 rfl rfl (fun g0 => ?_) (fun g0 => ?_)
  · have g1 : hs (wD w b) nd = false := hio.symm.trans g0
    exact no _ hwr.1 (by omega) (fun x => absurd (x.symm.trans g1) (by decide))
  · have g1 : hs (wD w b) nd = true := hio.symm.trans g0
    by_cases hpl : pl < cw
    · obtain ⟨j0, p1, p2, p3, p4⟩ := wd_p (S := wD w b) (p := nd) hK rw' hEe (q := pl) ⟨hq.1, by rw [hcw]; exact hpl⟩
      have hj0 := hK.2.1.1 j0 p1.1 p1.2
      have wj := rw' _ hj0.1 hj0.2
      have ke := kr.2.2.2.2.2.2.2.2.1 (kU (wK w) j0)
      have kq := kr.2.2.2.2.2.2.2.2.2.1 (kU (wK w) j0)
      have hwj : wOk (wK w) (wD w b) nd (kU (wK w) j0) = true := p2
      have hrk : rk (kU (wK w)) (kW (wK w)) (wOk (wK w) (wD w b) nd) (kU (wK w) j0) pl := ⟨j0, p1.1, p1.2, rfl, p3⟩
      rw [p4]
      have ejj : ∀ j, 0 ≤ j → j < kW (wK w) → uOk (wK w) (wD w b) nd j = true → cnI j (uOk (wK w) (wD w b) nd) = pl → kU (wK w) j = kU (wK w) j0 := fun j j1 j2 j3 j4 => by
        rw [← p4]
        exact (wd_w hK rw' hEe hq.1 ⟨j1, j2⟩ j3 j4).symm
      generalize kU (wK w) j0 = its at *
      refine n_go f_0_1414 rfl (pc' := 1416) rfl ?_
      refine n_if_ge f_0_1416 rfl rfl (by omega) (fun _ => ?_) (fun e9 => absurd (by omega) e9)
      refine n_go f_0_1424 rfl (pc' := 1426) rfl ?_
      refine n_go f_0_1426 rfl (pc' := 1428) rfl ?_
      refine n_ial f_0_1428 rfl (q9) (by unfold ev_ext; omega) (by omega) ?_
      refine n_bip (m := 16) f_0_1429 rfl (by decide) ?_
      refine n_idiv f_0_1431 rfl (by omega) ?_
      refine n_sip (m := 128) f_0_1432 rfl (by decide) ?_
      refine n_irem f_0_1435 rfl (by omega) ?_
      rw [show q its / 16 % 128 = kE (wK w) its by omega]
      generalize hdu : kE (wK w) its = due at *
      have bu : ∀ j, j ≤ 10 → ∀ i, 0 ≤ dnE e q (10 * b) nd pl its j i ∧ dnE e q (10 * b) nd pl its j i < 1000000 := fun j hj i => by
        have h1 := be i
        unfold dnE
        split
        · next x =>
          have h2 := E_le hK hI hEe (i := i - 10 * b) (by omega)
          rw [show 10 * b + (i - 10 * b) = i by omega] at h2
          split
          · omega
          · split <;> omega
        · omega
      refine n_go f_0_1436 rfl (pc' := 1438) (ls' := [_, _, _, _, _, _, _, _, _, _, _, _, _, _, _, _, _, _, _, _, _, _, _, _, _, _, _, _, _]) rfl ?_
      refine n_go f_0_1438 rfl (pc' := 1439) (st' := .int (iI 0) :: _) rfl ?_
      refine n_go f_0_1439 rfl (pc' := 1441) (ls' := [_, _, _, _, _, _, _, _, _, _, _, _, _, _, _, _, _, _, _, _, _, _, _, _, _, _, _, _, _]) rfl ?_
      refine n_for (lo := 0) (hi := kW (wK w)) (by omega) (fun i ls st h' => ls = [some (.ref ev_ext), some (.ref 0), some (.ref 82), some (.ref 83), some (.ref 84), some (.ref 85), some (.ref 86), some (.ref 87), some (.ref 88), some (.ref 89), some (.ref 90), some (.ref 91), some (.int (iI 1)), some (.int (iI tn)), some (.int (iI q0)), some (.int (iI kd)), some (.int (iI c)), some (.int (iI b)), some (.int (iI (10 * b))), some (.int (iI nd)), some (.int (iI (b2 io))), some (.int (iI ot)), some (.int (iI tg)), some (.int (iI kc)), some (.int (iI cw)), some (.int (iI pl)), some (.int (iI its)), some (.int (iI due)), some (.int (iI i))] ∧ st = [] ∧ Ek h h' ∧ Hp h' n dd (dnE e q (10 * b) nd pl its i) z v f y k q p) ⟨rfl, rfl, Ek.rf h, ?_⟩ ?_ ?_
      · rw [show dnE e q (10 * b) nd pl its 0 = e from by funext j; exact if_neg (fun x => by omega)]
        exact hH
      · rintro i ls st h1 i1 i2 ⟨rfl, rfl, hE1, H1⟩ kk
        have c1 := H1.1.1
        have q1 := H1.2.2.2.2.2.2.2.2.1.1
        have e1 := H1.2.2.1.1
        have hbi := E_le hK hI hEe (i := i) (by omega)
        have bqi := bq i
        have eu : dnE e q (10 * b) nd pl its i (10 * b + i) = e (10 * b + i) := if_neg (fun x => by omega)
        have wri : ∀ x, x = (if i = its then 0 else e (10 * b + i) - (if q i % 16 = nd ∧ pl + 1 < e (10 * b + i) then 1 else 0)) → En V (d + 9) 0 1514 [some (.ref ev_ext), some (.ref 0), some (.ref 82), some (.ref 83), some (.ref 84), some (.ref 85), some (.ref 86), some (.ref 87), some (.ref 88), some (.ref 89), some (.ref 90), some (.ref 91), some (.int (iI 1)), some (.int (iI tn)), some (.int (iI q0)), some (.int (iI kd)), some (.int (iI c)), some (.int (iI b)), some (.int (iI (10 * b))), some (.int (iI nd)), some (.int (iI (b2 io))), some (.int (iI ot)), some (.int (iI tg)), some (.int (iI kc)), some (.int (iI cw)), some (.int (iI pl)), some (.int (iI its)), some (.int (iI due)), some (.int (iI i))] [.int (iI x), .int (iI (10 * b + i)), .ref 84] h1 P := fun x hx => by
          refine n_ias f_0_1514 rfl (e1) (by omega) ?_
          refine n_iinc (m' := 1) (ls' := [_, _, _, _, _, _, _, _, _, _, _, _, _, _, _, _, _, _, _, _, _, _, _, _, _, _, _, _, _]) f_0_1515 rfl rfl rfl rfl ?_
          refine n_go f_0_1518 rfl (pc' := 1441) rfl ?_
          have ef : uz (dnE e q (10 * b) nd pl its i) (10 * b + i) x = dnE e q (10 * b) nd pl its (i + 1) := by
            funext j
            by_cases yy : j = 10 * b + i
            · rw [yy, uz_same, hx]
              unfold dnE
              rw [if_pos (show 10 * b ≤ 10 * b + i ∧ 10 * b + i < 10 * b + (i + 1) by omega), show 10 * b + i - 10 * b = i by omega]
            · rw [uz_ne _ _ yy]
              unfold dnE
              exact ite_c ⟨fun g3 => ⟨g3.1, by omega⟩, fun g3 => ⟨g3.1, by omega⟩⟩ _ _
          rw [ef]
          exact kk _ _ _ ⟨rfl, rfl, hE1.tr (Ek.set (by decide)), Hp_e H1 (bu (i + 1) (by omega))⟩
        refine n_go f_0_1441 rfl (pc' := 1443) rfl ?_
        refine n_go f_0_1443 rfl (pc' := 1444) rfl ?_
        refine n_go f_0_1444 rfl (pc' := 1445) (st' := .int (iI 1) :: _) rfl ?_
        refine n_ial f_0_1445 rfl (c1) (by unfold ev_ext; omega) (by omega) ?_
        refine n_ic_ge f_0_1446 rfl rfl ⟨by omega, by omega⟩ (fun e9 => absurd e9 (by omega)) (fun _ => ?_)
        refine n_go f_0_1449 rfl (pc' := 1451) rfl ?_
        refine n_if_lt f_0_1451 rfl rfl (by omega) (fun e9 => absurd e9 (by omega)) (fun _ => ?_)
        refine n_go f_0_1454 rfl (pc' := 1456) rfl ?_
        refine n_go f_0_1456 rfl (pc' := 1458) rfl ?_
        refine n_go f_0_1458 rfl (pc' := 1460) rfl ?_
        refine n_iadd f_0_1460 rfl ?_
        refine n_go f_0_1461 rfl (pc' := 1463) rfl ?_
        refine n_go f_0_1463 rfl (pc' := 1465) rfl ?_
        refine n_ic_ne f_0_1465 rfl rfl ⟨by omega, by omega⟩ (fun g3 => ?_) (fun g3 => ?_)
        · refine n_go f_0_1472 rfl (pc' := 1474) rfl ?_
          refine n_go f_0_1474 rfl (pc' := 1476) rfl ?_
          refine n_go f_0_1476 rfl (pc' := 1478) rfl ?_
          refine n_iadd f_0_1478 rfl ?_
          refine n_ial f_0_1479 rfl (e1) (by unfold ev_ext; omega) (by omega) ?_
          rw [eu]
          refine n_go f_0_1480 rfl (pc' := 1482) rfl ?_
          refine n_go f_0_1482 rfl (pc' := 1484) rfl ?_
          refine n_ial f_0_1484 rfl (q1) (by unfold ev_ext; omega) (by omega) ?_
          refine n_bip (m := 16) f_0_1485 rfl (by decide) ?_
          refine n_irem f_0_1487 rfl (by omega) ?_
          refine n_go f_0_1488 rfl (pc' := 1490) rfl ?_
          refine n_ic_ne f_0_1490 rfl rfl ⟨by omega, by omega⟩ (fun g4 => ?_) (fun g4 => ?_)
          · refine n_go f_0_1512 rfl (pc' := 1513) (st' := .int (iI 0) :: _) rfl ?_
            refine n_isub f_0_1513 rfl ?_
            exact wri _ (by rw [if_neg g3, if_neg (fun x => g4 (by omega))])
          · refine n_go f_0_1493 rfl (pc' := 1495) rfl ?_
            refine n_go f_0_1495 rfl (pc' := 1497) rfl ?_
            refine n_go f_0_1497 rfl (pc' := 1499) rfl ?_
            refine n_iadd f_0_1499 rfl ?_
            refine n_ial f_0_1500 rfl (e1) (by unfold ev_ext; omega) (by omega) ?_
            rw [eu]
            refine n_go f_0_1501 rfl (pc' := 1503) rfl ?_
            refine n_go f_0_1503 rfl (pc' := 1504) (st' := .int (iI 1) :: _) rfl ?_
            refine n_iadd f_0_1504 rfl ?_
            refine n_ic_le f_0_1505 rfl rfl ⟨by omega, by omega⟩ (fun g5 => ?_) (fun g5 => ?_)
            · refine n_go f_0_1512 rfl (pc' := 1513) (st' := .int (iI 0) :: _) rfl ?_
              refine n_isub f_0_1513 rfl ?_
              exact wri _ (by rw [if_neg g3, if_neg (fun x => by omega)])
            · refine n_go f_0_1508 rfl (pc' := 1509) (st' := .int (iI 1) :: _) rfl ?_
              refine n_go f_0_1509 rfl (pc' := 1513) rfl ?_
              refine n_isub f_0_1513 rfl ?_
              exact wri _ (by rw [if_neg g3, if_pos ⟨by omega, by omega⟩])
        · refine n_go f_0_1468 rfl (pc' := 1469) (st' := .int (iI 0) :: _) rfl ?_
          refine n_go f_0_1469 rfl (pc' := 1514) rfl ?_
          exact wri 0 (by rw [if_pos (by omega)])
      · rintro ls st h1 ⟨rfl, rfl, hE1, H1⟩
        have c1 := H1.1.1
        have hW1 := Wd_ek hW hE1
        have t1 := hW1.2.2.1.1
        have oe : ∀ i, ¬ (10 * b ≤ i ∧ i < 10 * b + 10) → dnE e q (10 * b) nd pl its (kW (wK w)) i = e i := fun i x => if_neg (fun yy => x (by omega))
        have hsk : rE (wK w) (sayT (wD w b) its false) (dnE e q (10 * b) nd pl its (kW (wK w))) (10 * b) := by
          refine sk_E hK hI rw' hEe hj0 hwj hrk (fun x x0 x1 => ?_) (fun x x0 x1 => ?_)
          · unfold dnE
            rw [if_pos (show 10 * b ≤ 10 * b + x ∧ 10 * b + x < 10 * b + kW (wK w) by omega), show 10 * b + x - 10 * b = x by omega]
          · exact if_neg (fun yy => by omega)
        refine n_go f_0_1441 rfl (pc' := 1443) rfl ?_
        refine n_go f_0_1443 rfl (pc' := 1444) rfl ?_
        refine n_go f_0_1444 rfl (pc' := 1445) (st' := .int (iI 1) :: _) rfl ?_
        refine n_ial f_0_1445 rfl (c1) (by unfold ev_ext; omega) (by omega) ?_
        refine n_ic_ge f_0_1446 rfl rfl ⟨by omega, by omega⟩ (fun _ => ?_) (fun e9 => absurd (by omega) e9)
        refine n_go f_0_1521 rfl (pc' := 1522) rfl ?_
        refine n_bip (m := 6) f_0_1522 rfl (by decide) ?_
        refine n_go f_0_1524 rfl (pc' := 1526) rfl ?_
        refine n_go f_0_1526 rfl (pc' := 1528) rfl ?_
        refine n_go f_0_1528 rfl (pc' := 1530) rfl ?_
        refine n_go f_0_1530 rfl (pc' := 1531) (st' := .int (iI 0) :: _) rfl ?_
        refine n_go f_0_1531 rfl (pc' := 1532) (st' := .int (iI 0) :: _) rfl ?_
        refine n_cs (ls' := [_, _, _, _, _, _, _, _]) f_0_1532 (by decide) m_6 rfl rfl ?_
        refine d_strike t1 (c_strike hW1 hb ⟨hnd.1, by omega⟩ ⟨hq.1, by omega⟩ (fun x => absurd p3 (x g1 j0 p1.1 p1.2 p2)) (fun x j j1 j2 j3 j4 h2 hW2 hQ2 => ?_))
        rw [ejj j j1 j2 j3 j4] at hW2
        show En V _ _ 1535 _ [.int (iI (kE (wK w) (kU (wK w) j)))] h2 _
        rw [ejj j j1 j2 j3 j4, hdu]
        refine n_go f_0_1535 rfl (pc' := 1537) rfl ?_
        refine n_ic_ne f_0_1537 rfl rfl ⟨by omega, by omega⟩ (fun e9 => absurd e9 (by omega)) (fun _ => ?_)
        refine n_go f_0_1540 rfl (pc' := 1541) (st' := .int (iI 1) :: _) rfl ?_
        refine n_go f_0_1541 rfl (pc' := 1545) rfl ?_
        refine n_go f_0_1545 rfl (pc' := 1547) (ls' := [_, _, _, _, _, _, _, _, _, _, _, _, _, _, _, _, _, _, _, _, _, _, _, _, _, _, _, _, _]) rfl ?_
        refine n_go f_0_1547 rfl (pc' := 2227) rfl ?_
        exact KK h2 _ _ _ _ _ _ _ _ _ _ _ _ _ _ _ _ _ _ _ _ _ (Lst_ds (K' := wK w) hL hW2 (kx_rf hK) ⟨sk_g ⟨hI, ⟨dp, hT⟩, hOk⟩, rD_vl (n := 0) hK hI.1 hR rfl (fun i => rfl) (fun i x => ⟨rfl, rfl⟩) (by show dd (10 * b + 0) = dd (10 * b + 0) + 256 * ((wD w b).2.1 0 - (wD w b).2.1 0) + 4096 * ((wD w b).2.2.1 0 - (wD w b).2.2.1 0) <;> omega) (fun i x y zz => rfl) hI.2.1, hsk⟩ (fun i x => ⟨rfl, oe i x, rfl⟩) ⟨n0, n1, n2, n3, n7, n4⟩ rw' rf' (H1.gm hQ2.gm)) (show kS (wK w) ≤ kS (wK w) + 1 by omega) ((hE1.gw.tr hQ2.gm.gw).le (by omega) (by omega))
    · have hno : ∀ j, 0 ≤ j → j < kW (wK w) → uOk (wK w) (wD w b) nd j = true → ¬ cnI j (uOk (wK w) (wD w b) nd) = pl := fun j j0 j1 j2 j3 => by
        have h1 := cnI_lt (q := uOk (wK w) (wD w b) nd) j0 j1 j2
        rw [uw_cn hK, hcw] at h1
        omega
      rw [wd_n hK rw' hEe hno hq.1]
      refine n_go f_0_1414 rfl (pc' := 1416) rfl ?_
      refine n_if_ge f_0_1416 rfl rfl (by omega) (fun e9 => absurd e9 (by omega)) (fun _ => ?_)
      exact no _ (by decide) (by decide) (fun _ => hno)
end LPK
