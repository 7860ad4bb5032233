/-! The law: words written and struck. -/
/-- places of words moved behind, ahead -/
def upE (E W : Int → Int) (o l q j : Int) : Int → Int := fun i => if o ≤ i ∧ i < o + j ∧ W (i - o) % 16 = l ∧ q < E i then E i + 1 else E i
def dnE (E W : Int → Int) (o l q t j : Int) : Int → Int := fun i => if o ≤ i ∧ i < o + j then (if i - o = t then 0 else E i - (if W (i - o) % 16 = l ∧ q + 1 < E i then 1 else 0)) else E i
theorem E_le {K : dK} {S : dS} {E : Int → Int} {o i : Int} (hK : kI K) (hI : sI K S) (hE : rE K S E o) (hi : 0 ≤ i ∧ i < 10) : 0 ≤ E (o + i) ∧ E (o + i) ≤ 10 := by
  have h0 := hK.2.2.2.1
  cases e : S.2.2.2 i with
  | true =>
    have h1 := rE_t hE hi e
    have h2 := hI.2.2.2 i e
    have h3 := rk_lt h1.1 (by unfold wOk; rw [e, decide_eq_true rfl]; rfl)
    have h4 := cnI_r (i := kW K) (p := fun j => wOk K S (kL K i) (kU K j)) h0.1
    omega
  | false =>
    have := hE.1 i hi.1 hi.2 e
    omega
section LPW
variable {V : ev_V} {d : Nat} {h : ev_H} {P : ev_O → ev_H → Prop} {w : dW} {tn q0 kd c b nd ot tg kc : Int} {io : Bool} {n dd e z v f y k q p : Int → Int} {u24 u25 u26 u27 u28 : Option Value}
theorem L_wri (hL : Lst h w n dd e z v f y k q p) (hl : 92 ≤ h.1.length ∧ h.1.length < 800000) (htn : 0 ≤ tn ∧ tn < 110) (hc : 0 ≤ c ∧ c < 2147483648) (hb : 0 ≤ b ∧ b < wB w) (hnd : 0 ≤ nd ∧ nd < kN (wK w)) (hio : io = hs (wD w b) nd) (hot : 0 ≤ ot ∧ ot < kN (wK w)) (htg : 0 ≤ tg ∧ tg < 5) (hkc : kc = cnI 40 (fun i => decide (hold (wK w) (wD w b) i = nd))) (hS : kS (wK w) < 111) (hN1 : kW (wK w) < 10) (KK : ∀ h' w' n' d' e' z' v' f' y' k' q' p' (u19 u20 u21 u22 u23 u24 u25 u26 u27 u28 : Option Value), Lst h' w' n' d' e' z' v' f' y' k' q' p' → kS (wK w') ≤ kS (wK w) + 1 → Gw h h' 100 1000 → En V (d + 9) 0 2227 [some (.ref ev_ext), some (.ref 0), some (.ref 82), some (.ref 83), some (.ref 84), some (.ref 85), some (.ref 86), some (.ref 87), some (.ref 88), some (.ref 89), some (.ref 90), some (.ref 91), some (.int (iI 1)), some (.int (iI tn)), some (.int (iI q0)), some (.int (iI kd)), some (.int (iI c)), some (.int (iI b)), some (.int (iI (10 * b))), u19, u20, u21, u22, u23, u24, u25, u26, u27, u28] [] h' P) : En V (d + 9) 0 1080 [some (.ref ev_ext), some (.ref 0), some (.ref 82), some (.ref 83), some (.ref 84), some (.ref 85), some (.ref 86), some (.ref 87), some (.ref 88), some (.ref 89), some (.ref 90), some (.ref 91), some (.int (iI 1)), some (.int (iI tn)), some (.int (iI q0)), some (.int (iI kd)), some (.int (iI c)), some (.int (iI b)), some (.int (iI (10 * b))), some (.int (iI nd)), some (.int (iI (b2 io))), some (.int (iI ot)), some (.int (iI tg)), some (.int (iI kc)), u24, u25, u26, u27, u28] [] h P := by
  obtain ⟨hW, hK, ⟨n0, n1, n2, n3, n7, n4⟩, hP, hOO, rw', rf', hH, hE, hpp, hbd, hbv⟩ := id hL
  have t0 := hW.2.2.1.1
  have tb := hW.2.2.1.2.2.2.1
  have kr := hW.1.2.2.2.2.2.2.2.2.2.2
  have kn := hK.2.2.1
  have kw := hK.2.2.2.1
  have ks0 := hK.2.2.2.2.1
  have hOb := hOO.1 b hb.1 hb.2
  obtain ⟨⟨hI, ⟨dp, hT⟩, hOk⟩, hR, hEe⟩ := id hOb
  have hkr := ch_le hK hI.1 hnd.1
  have hkr0 := (cnI_r (i := 40) (p := fun i => decide (hold (wK w) (wD w b) i = nd)) (by decide)).1
  have hor : 0 ≤ 10 * b ∧ 10 * b + 10 ≤ (30 : Nat) := by omega
  have b0 := hH.1.1
  have gn0 := hH.1.2.2.2.2 0
  have gn1 := hH.1.2.2.2.2 1
  have k9 := hH.2.2.2.2.2.2.2.1.1
  have e4 := hH.2.2.1.1
  have q9 := hH.2.2.2.2.2.2.2.2.1.1
  have bq := hH.2.2.2.2.2.2.2.2.1.2.2.2.2
  have be := hH.2.2.1.2.2.2.2
  have hwx : ∀ x, 0 ≤ x → x < kW (wK w) → q x % 16 = kL (wK w) x := fun x x1 x2 => by
    have h1 := rw' x x1 x2
    have h2 := kr.2.2.2.2.2.2.2.2.1 x
    omega
  have hfu : ∀ nx, hs (wD w b) nx = true → kK (wK w) nx = 2 → cnI (kW (wK w)) (wOk (wK w) (wD w b) nx) = cnI (kW (wK w)) (uOk (wK w) (wD w b) nx) := fun nx _ _ => (uw_cn hK).symm
  have at1123 : ∀ (nx i : Int) (u25 u26 u27 u28 : Option Value), 0 ≤ nx → nx < kN (wK w) → En V (d + 9) 0 1123 [some (.ref ev_ext), some (.ref 0), some (.ref 82), some (.ref 83), some (.ref 84), some (.ref 85), some (.ref 86), some (.ref 87), some (.ref 88), some (.ref 89), some (.ref 90), some (.ref 91), some (.int (iI 1)), some (.int (iI tn)), some (.int (iI q0)), some (.int (iI kd)), some (.int (iI c)), some (.int (iI b)), some (.int (iI (10 * b))), some (.int (iI nx)), some (.int (iI (b2 io))), some (.int (iI ot)), some (.int (iI tg)), some (.int (iI kc)), some (.int (iI i)), u25, u26, u27, u28] [] h P := fun nx i u25 u26 u27 u28 nx0 nx1 => by
    have fnx := rf' nx nx0 nx1
    have knx := kr.2.2.2.1 nx
    have hwc := cnI_r (i := kW (wK w)) (p := wOk (wK w) (wD w b) nx) kw.1
    refine n_go f_0_1123 rfl (pc' := 1124) rfl ?_
    refine n_go f_0_1124 rfl (pc' := 1126) rfl ?_
    refine n_go f_0_1126 rfl (pc' := 1128) rfl ?_
    refine n_go f_0_1128 rfl (pc' := 1130) rfl ?_
    refine n_go f_0_1130 rfl (pc' := 1132) rfl ?_
    refine n_cs (ls' := [_, _, _, _, _, _, _]) f_0_1132 (by decide) m_9 rfl rfl ?_
    refine c_lwords hH.1 ⟨n1, kw⟩ hH.2.2.1 hH.2.2.2.2.2.2.2.2.1 hor (by omega) ?_
    show En V _ 0 1135 _ [_] _ _
    rw [lu_cn hK rw' hEe]
    -- no word written
    have no : ∀ (due pl sn : Int) (u28 : Option Value), 0 ≤ pl → pl < 50 → 0 ≤ sn → sn < 100 → -100 < due → due ≤ 0 → (hs (wD w b) nx = false → due = -11) → (hs (wD w b) nx = true → cnI (kW (wK w)) (wOk (wK w) (wD w b) nx) < pl → due = -12) → (hs (wD w b) nx = true → pl ≤ cnI (kW (wK w)) (wOk (wK w) (wD w b) nx) → ¬ kK (wK w) nx = 2 ∧ due = -13) → En V (d + 9) 0 1219 [some (.ref ev_ext), some (.ref 0), some (.ref 82), some (.ref 83), some (.ref 84), some (.ref 85), some (.ref 86), some (.ref 87), some (.ref 88), some (.ref 89), some (.ref 90), some (.ref 91), some (.int (iI 1)), some (.int (iI tn)), some (.int (iI q0)), some (.int (iI kd)), some (.int (iI c)), some (.int (iI b)), some (.int (iI (10 * b))), some (.int (iI nx)), some (.int (iI (b2 io))), some (.int (iI ot)), some (.int (iI tg)), some (.int (iI kc)), some (.int (iI (cnI (kW (wK w)) (wOk (wK w) (wD w b) nx)))), some (.int (iI pl)), some (.int (iI sn)), u27, u28] [.int (iI due)] h P := fun due pl sn u28 l0 l1 s0 s1 due0 due1 c1 c2 c3 => by
      have fin : ∀ u28 : Option Value, En V (d + 9) 0 1285 [some (.ref ev_ext), some (.ref 0), some (.ref 82), some (.ref 83), some (.ref 84), some (.ref 85), some (.ref 86), some (.ref 87), some (.ref 88), some (.ref 89), some (.ref 90), some (.ref 91), some (.int (iI 1)), some (.int (iI tn)), some (.int (iI q0)), some (.int (iI kd)), some (.int (iI c)), some (.int (iI b)), some (.int (iI (10 * b))), some (.int (iI nx)), some (.int (iI (b2 io))), some (.int (iI ot)), some (.int (iI tg)), some (.int (iI kc)), some (.int (iI (cnI (kW (wK w)) (wOk (wK w) (wD w b) nx)))), some (.int (iI pl)), some (.int (iI sn)), some (.int (iI due)), u28] [] h P := fun u28 => by
        refine n_go f_0_1285 rfl (pc' := 1287) rfl ?_
        refine n_if_le f_0_1287 rfl rfl (by omega) (fun _ => ?_) (fun e9 => absurd (by omega) e9)
        refine n_go f_0_1331 rfl (pc' := 1332) rfl ?_
        refine n_go f_0_1332 rfl (pc' := 1333) (st' := .int (iI 5) :: _) rfl ?_
        refine n_go f_0_1333 rfl (pc' := 1335) rfl ?_
        refine n_go f_0_1335 rfl (pc' := 1337) rfl ?_
        refine n_go f_0_1337 rfl (pc' := 1339) rfl ?_
        refine n_go f_0_1339 rfl (pc' := 1341) rfl ?_
        refine n_go f_0_1341 rfl (pc' := 1342) (st' := .int (iI 0) :: _) rfl ?_
        refine n_cs (ls' := [_, _, _, _, _, _, _, _]) f_0_1342 (by decide) m_6 rfl rfl ?_
        refine d_write t0 (c_write hW hb ⟨nx0, by omega⟩ ⟨l0, by omega⟩ ⟨s0, s1⟩ (by omega) (fun x => ?_) (fun x y => ?_) (fun x y zz => ?_) (hfu nx) (fun x y zz => absurd zz (c3 x y).1))
        · have e1 := c1 x
          show En V _ _ 1345 _ [.int (iI (-11))] (xH h 11) _
          refine n_go f_0_1345 rfl (pc' := 1347) rfl ?_
          refine n_ic_ne f_0_1347 rfl rfl ⟨by omega, by omega⟩ (fun e9 => absurd e9 (by omega)) (fun _ => ?_)
          refine n_go f_0_1350 rfl (pc' := 1351) (st' := .int (iI 1) :: _) rfl ?_
          refine n_go f_0_1351 rfl (pc' := 1355) rfl ?_
          refine n_go f_0_1355 rfl (pc' := 1357) (ls' := [_, _, _, _, _, _, _, _, _, _, _, _, _, _, _, _, _, _, _, _, _, _, _, _, _, _, _, _, _]) rfl ?_
          refine n_go f_0_1357 rfl (pc' := 2227) rfl ?_
          exact KK (xH h 11) _ _ _ _ _ _ _ _ _ _ _ _ _ _ _ _ _ _ _ _ _ (hL.gm hW.psh (Gm.push _ _ _)) (by omega) ((Gm.push _ _ _).gw.le (by omega) (by omega))
        · have e1 := c2 x y
          show En V _ _ 1345 _ [.int (iI (-12))] (xH h 12) _
          refine n_go f_0_1345 rfl (pc' := 1347) rfl ?_
          refine n_ic_ne f_0_1347 rfl rfl ⟨by omega, by omega⟩ (fun e9 => absurd e9 (by omega)) (fun _ => ?_)
          refine n_go f_0_1350 rfl (pc' := 1351) (st' := .int (iI 1) :: _) rfl ?_
          refine n_go f_0_1351 rfl (pc' := 1355) rfl ?_
          refine n_go f_0_1355 rfl (pc' := 1357) (ls' := [_, _, _, _, _, _, _, _, _, _, _, _, _, _, _, _, _, _, _, _, _, _, _, _, _, _, _, _, _]) rfl ?_
          refine n_go f_0_1357 rfl (pc' := 2227) rfl ?_
          exact KK (xH h 12) _ _ _ _ _ _ _ _ _ _ _ _ _ _ _ _ _ _ _ _ _ (hL.gm hW.psh (Gm.push _ _ _)) (by omega) ((Gm.push _ _ _).gw.le (by omega) (by omega))
        · have e1 := (c3 x y).2
          show En V _ _ 1345 _ [.int (iI (-13))] (xH h 13) _
          refine n_go f_0_1345 rfl (pc' := 1347) rfl ?_
          refine n_ic_ne f_0_1347 rfl rfl ⟨by omega, by omega⟩ (fun e9 => absurd e9 (by omega)) (fun _ => ?_)
          refine n_go f_0_1350 rfl (pc' := 1351) (st' := .int (iI 1) :: _) rfl ?_
          refine n_go f_0_1351 rfl (pc' := 1355) rfl ?_
          refine n_go f_0_1355 rfl (pc' := 1357) (ls' := [_, _, _, _, _, _, _, _, _, _, _, _, _, _, _, _, _, _, _, _, _, _, _, _, _, _, _, _, _]) rfl ?_
          refine n_go f_0_1357 rfl (pc' := 2227) rfl ?_
          exact KK (xH h 13) _ _ _ _ _ _ _ _ _ _ _ _ _ _ _ _ _ _ _ _ _ (hL.gm hW.psh (Gm.push _ _ _)) (by omega) ((Gm.push _ _ _).gw.le (by omega) (by omega))
      refine n_go f_0_1219 rfl (pc' := 1221) (ls' := [_, _, _, _, _, _, _, _, _, _, _, _, _, _, _, _, _, _, _, _, _, _, _, _, _, _, _, _, _]) rfl ?_
      refine n_go f_0_1221 rfl (pc' := 1222) (st' := .int (iI 0) :: _) rfl ?_
      refine n_go f_0_1222 rfl (pc' := 1224) (ls' := [_, _, _, _, _, _, _, _, _, _, _, _, _, _, _, _, _, _, _, _, _, _, _, _, _, _, _, _, _]) rfl ?_
      refine n_go f_0_1224 rfl (pc' := 1226) rfl ?_
      refine n_go f_0_1226 rfl (pc' := 1227) rfl ?_
      refine n_go f_0_1227 rfl (pc' := 1228) (st' := .int (iI 1) :: _) rfl ?_
      refine n_ial f_0_1228 rfl (b0) (by unfold ev_ext; omega) (by omega) ?_
      refine n_ic_ge f_0_1229 rfl rfl ⟨by omega, by omega⟩ (fun g1 => ?_) (fun g1 => ?_)
      · exact fin _
      · refine n_go f_0_1232 rfl (pc' := 1234) rfl ?_
        refine n_if_le f_0_1234 rfl rfl (by omega) (fun _ => ?_) (fun e9 => absurd (by omega) e9)
        exact fin _
    -- a word written
    have yes : ∀ (pl sn : Int) (u28 : Option Value), 0 ≤ pl → pl ≤ cnI (kW (wK w)) (wOk (wK w) (wD w b) nx) → 0 ≤ sn → sn < 100 → hs (wD w b) nx = true → kK (wK w) nx = 2 → En V (d + 9) 0 1219 [some (.ref ev_ext), some (.ref 0), some (.ref 82), some (.ref 83), some (.ref 84), some (.ref 85), some (.ref 86), some (.ref 87), some (.ref 88), some (.ref 89), some (.ref 90), some (.ref 91), some (.int (iI 1)), some (.int (iI tn)), some (.int (iI q0)), some (.int (iI kd)), some (.int (iI c)), some (.int (iI b)), some (.int (iI (10 * b))), some (.int (iI nx)), some (.int (iI (b2 io))), some (.int (iI ot)), some (.int (iI tg)), some (.int (iI kc)), some (.int (iI (cnI (kW (wK w)) (wOk (wK w) (wD w b) nx)))), some (.int (iI pl)), some (.int (iI sn)), u27, u28] [.int (iI (cnI (kW (wK w)) (wOk (wK w) (wD w b) nx) + 1))] h P := fun pl sn u28 l0 l1 s0 s1 g1 g2 => by
      generalize hcw : cnI (kW (wK w)) (wOk (wK w) (wD w b) nx) = cw at *
      have bu : ∀ j, j ≤ 10 → ∀ i, 0 ≤ upE e q (10 * b) nx pl j i ∧ upE e q (10 * b) nx pl j i < 1000000 := fun j hj i => by
        have h1 := be i
        unfold upE
        split
        · next x =>
          have h2 := E_le hK hI hEe (i := i - 10 * b) (by omega)
          rw [show 10 * b + (i - 10 * b) = i by omega] at h2
          omega
        · omega
      refine n_go f_0_1219 rfl (pc' := 1221) (ls' := [_, _, _, _, _, _, _, _, _, _, _, _, _, _, _, _, _, _, _, _, _, _, _, _, _, _, _, _, _]) rfl ?_
      refine n_go f_0_1221 rfl (pc' := 1222) (st' := .int (iI 0) :: _) rfl ?_
      refine n_go f_0_1222 rfl (pc' := 1224) (ls' := [_, _, _, _, _, _, _, _, _, _, _, _, _, _, _, _, _, _, _, _, _, _, _, _, _, _, _, _, _]) rfl ?_
      refine n_for (lo := 0) (hi := kW (wK w)) (by omega) (fun i ls st h' => ls = [some (.ref ev_ext), some (.ref 0), some (.ref 82), some (.ref 83), some (.ref 84), some (.ref 85), some (.ref 86), some (.ref 87), some (.ref 88), some (.ref 89), some (.ref 90), some (.ref 91), some (.int (iI 1)), some (.int (iI tn)), some (.int (iI q0)), some (.int (iI kd)), some (.int (iI c)), some (.int (iI b)), some (.int (iI (10 * b))), some (.int (iI nx)), some (.int (iI (b2 io))), some (.int (iI ot)), some (.int (iI tg)), some (.int (iI kc)), some (.int (iI cw)), some (.int (iI pl)), some (.int (iI sn)), some (.int (iI ((cw + 1)))), some (.int (iI i))] ∧ st = [] ∧ Ek h h' ∧ Hp h' n dd (upE e q (10 * b) nx pl i) z v f y k q p) ⟨rfl, rfl, Ek.rf h, ?_⟩ ?_ ?_
      · rw [show upE e q (10 * b) nx pl 0 = e from by funext j; exact if_neg (fun x => by omega)]
        exact hH
      · rintro i ls st h1 i1 i2 ⟨rfl, rfl, hE1, H1⟩ kk
        have c1 := H1.1.1
        have q1 := H1.2.2.2.2.2.2.2.2.1.1
        have e1 := H1.2.2.1.1
        have hbi := E_le hK hI hEe (i := i) (by omega)
        have bqi := bq i
        have eu : upE e q (10 * b) nx pl i (10 * b + i) = e (10 * b + i) := if_neg (fun x => by omega)
        have wri : ∀ x, 0 ≤ x → x ≤ 1 → (x = 1 ↔ (q i % 16 = nx ∧ pl < e (10 * b + i))) → En V (d + 9) 0 1277 [some (.ref ev_ext), some (.ref 0), some (.ref 82), some (.ref 83), some (.ref 84), some (.ref 85), some (.ref 86), some (.ref 87), some (.ref 88), some (.ref 89), some (.ref 90), some (.ref 91), some (.int (iI 1)), some (.int (iI tn)), some (.int (iI q0)), some (.int (iI kd)), some (.int (iI c)), some (.int (iI b)), some (.int (iI (10 * b))), some (.int (iI nx)), some (.int (iI (b2 io))), some (.int (iI ot)), some (.int (iI tg)), some (.int (iI kc)), some (.int (iI cw)), some (.int (iI pl)), some (.int (iI sn)), some (.int (iI ((cw + 1)))), some (.int (iI i))] [.int (iI x), .int (iI (upE e q (10 * b) nx pl i (10 * b + i))), .int (iI (10 * b + i)), .ref 84] h1 P := fun x x0 x1 hx => by
          refine n_iadd f_0_1277 rfl ?_
          refine n_ias f_0_1278 rfl (e1) (by omega) ?_
          refine n_iinc (m' := 1) (ls' := [_, _, _, _, _, _, _, _, _, _, _, _, _, _, _, _, _, _, _, _, _, _, _, _, _, _, _, _, _]) f_0_1279 rfl rfl rfl rfl ?_
          refine n_go f_0_1282 rfl (pc' := 1224) rfl ?_
          have ef : uz (upE e q (10 * b) nx pl i) (10 * b + i) (upE e q (10 * b) nx pl i (10 * b + i) + x) = upE e q (10 * b) nx pl (i + 1) := by
            funext j
            by_cases y : j = 10 * b + i
            · rw [y, uz_same, eu]
              unfold upE
              rw [show 10 * b + i - 10 * b = i by omega]
              by_cases g3 : q i % 16 = nx ∧ pl < e (10 * b + i)
              · rw [if_pos ⟨by omega, by omega, g3.1, g3.2⟩, hx.mpr g3]
              · rw [if_neg (fun g4 => g3 ⟨g4.2.2.1, g4.2.2.2⟩)]
                have : ¬ x = 1 := fun g4 => g3 (hx.mp g4)
                omega
            · rw [uz_ne _ _ y]
              unfold upE
              exact ite_c ⟨fun g3 => ⟨g3.1, by omega, g3.2.2⟩, fun g3 => ⟨g3.1, by omega, g3.2.2⟩⟩ _ _
          rw [ef]
          exact kk _ _ _ ⟨rfl, rfl, hE1.tr (Ek.set (by decide)), Hp_e H1 (bu (i + 1) (by omega))⟩
        refine n_go f_0_1224 rfl (pc' := 1226) rfl ?_
        refine n_go f_0_1226 rfl (pc' := 1227) rfl ?_
        refine n_go f_0_1227 rfl (pc' := 1228) (st' := .int (iI 1) :: _) rfl ?_
        refine n_ial f_0_1228 rfl (c1) (by unfold ev_ext; omega) (by omega) ?_
        refine n_ic_ge f_0_1229 rfl rfl ⟨by omega, by omega⟩ (fun e9 => absurd e9 (by omega)) (fun _ => ?_)
        refine n_go f_0_1232 rfl (pc' := 1234) rfl ?_
        refine n_if_le f_0_1234 rfl rfl (by omega) (fun e9 => absurd e9 (by omega)) (fun _ => ?_)
        refine n_go f_0_1237 rfl (pc' := 1239) rfl ?_
        refine n_go f_0_1239 rfl (pc' := 1241) rfl ?_
        refine n_go f_0_1241 rfl (pc' := 1243) rfl ?_
        refine n_iadd f_0_1243 rfl ?_
        refine n_go f_0_1244 rfl (pc' := 1245) rfl ?_
        refine n_ial f_0_1245 rfl (e1) (by unfold ev_ext; omega) (by omega) ?_
        refine n_go f_0_1246 rfl (pc' := 1248) rfl ?_
        refine n_go f_0_1248 rfl (pc' := 1250) rfl ?_
        refine n_ial f_0_1250 rfl (q1) (by unfold ev_ext; omega) (by omega) ?_
        refine n_bip (m := 16) f_0_1251 rfl (by decide) ?_
        refine n_irem f_0_1253 rfl (by omega) ?_
        refine n_go f_0_1254 rfl (pc' := 1256) rfl ?_
        refine n_ic_ne f_0_1256 rfl rfl ⟨by omega, by omega⟩ (fun g3 => ?_) (fun g3 => ?_)
        · refine n_go f_0_1276 rfl (pc' := 1277) (st' := .int (iI 0) :: _) rfl ?_
          exact wri 0 (by decide) (by decide) ⟨fun x => by omega, fun x => by omega⟩
        · refine n_go f_0_1259 rfl (pc' := 1261) rfl ?_
          refine n_go f_0_1261 rfl (pc' := 1263) rfl ?_
          refine n_go f_0_1263 rfl (pc' := 1265) rfl ?_
          refine n_iadd f_0_1265 rfl ?_
          refine n_ial f_0_1266 rfl (e1) (by unfold ev_ext; omega) (by omega) ?_
          refine n_go f_0_1267 rfl (pc' := 1269) rfl ?_
          rw [eu]
          refine n_ic_le f_0_1269 rfl rfl ⟨by omega, by omega⟩ (fun g4 => ?_) (fun g4 => ?_)
          · refine n_go f_0_1276 rfl (pc' := 1277) (st' := .int (iI 0) :: _) rfl ?_
            have w0 := wri 0 (by decide) (by decide) ⟨fun x => by omega, fun x => by omega⟩
            rw [eu] at w0
            exact w0
          · refine n_go f_0_1272 rfl (pc' := 1273) (st' := .int (iI 1) :: _) rfl ?_
            refine n_go f_0_1273 rfl (pc' := 1277) rfl ?_
            have w0 := wri 1 (by decide) (by decide) ⟨fun x => ⟨by omega, by omega⟩, fun x => rfl⟩
            rw [eu] at w0
            exact w0
      · rintro ls st h1 ⟨rfl, rfl, hE1, H1⟩
        have c1 := H1.1.1
        have e1 := H1.2.2.1.1
        have bu2 : ∀ i, 0 ≤ uz (upE e q (10 * b) nx pl (kW (wK w))) (10 * b + kW (wK w)) (pl + 1) i ∧ uz (upE e q (10 * b) nx pl (kW (wK w))) (10 * b + kW (wK w)) (pl + 1) i < 1000000 := fun i => by
          have := bu (kW (wK w)) (by omega) i
          unfold uz
          split <;> omega
        have oe : ∀ i, ¬ (10 * b ≤ i ∧ i < 10 * b + 10) → uz (upE e q (10 * b) nx pl (kW (wK w))) (10 * b + kW (wK w)) (pl + 1) i = e i := fun i x => by
          rw [uz_ne _ _ (by omega)]
          exact if_neg (fun y => x (by omega))
        have hwr : ∀ ah u, ((pl = 0 ∧ ah = -1) ∨ (¬ pl = 0 ∧ ∃ j, 0 ≤ j ∧ j < kW (wK w) ∧ uOk (wK w) (wD w b) nx j = true ∧ cnI j (uOk (wK w) (wD w b) nx) = pl - 1 ∧ ah = kU (wK w) j)) → insd (kU (wK w)) (kW (wK w)) ah u → rE (adW (wK w) nx sn b u) (sayT (wD w b) (kW (wK w)) true) (uz (upE e q (10 * b) nx pl (kW (wK w))) (10 * b + kW (wK w)) (pl + 1)) (10 * b) := fun ah u ha hu => by
          refine wr_E hK hI rw' hEe hN1 hu ⟨nx0, by omega⟩ l0 ha (fun x x0 x1 => ?_) (uz_same _ _ _) (fun x x0 x1 => ?_)
          · rw [uz_ne _ _ (by omega)]
            unfold upE
            rw [show 10 * b + x - 10 * b = x by omega]
            by_cases g3 : q x % 16 = nx ∧ pl < e (10 * b + x)
            · rw [if_pos g3, if_pos ⟨by omega, by omega, g3⟩]
            · rw [if_neg g3, if_neg (fun g4 => g3 g4.2.2), Int.add_zero]
          · rw [uz_ne _ _ (by omega)]
            exact if_neg (fun y => by omega)
        have bq2 : ∀ i, 0 ≤ uz q (kW (wK w)) (nx + 16 * sn + 2048 * b) i ∧ uz q (kW (wK w)) (nx + 16 * sn + 2048 * b) i < 1000000 := fun i => by
          have := bq i
          unfold uz
          split <;> omega
        refine n_go f_0_1224 rfl (pc' := 1226) rfl ?_
        refine n_go f_0_1226 rfl (pc' := 1227) rfl ?_
        refine n_go f_0_1227 rfl (pc' := 1228) (st' := .int (iI 1) :: _) rfl ?_
        refine n_ial f_0_1228 rfl (c1) (by unfold ev_ext; omega) (by omega) ?_
        refine n_ic_ge f_0_1229 rfl rfl ⟨by omega, by omega⟩ (fun _ => ?_) (fun e9 => absurd (by omega) e9)
        refine n_go f_0_1285 rfl (pc' := 1287) rfl ?_
        refine n_if_le f_0_1287 rfl rfl (by omega) (fun e9 => absurd e9 (by omega)) (fun _ => ?_)
        refine n_go f_0_1290 rfl (pc' := 1292) rfl ?_
        refine n_go f_0_1292 rfl (pc' := 1294) rfl ?_
        refine n_go f_0_1294 rfl (pc' := 1295) rfl ?_
        refine n_go f_0_1295 rfl (pc' := 1296) (st' := .int (iI 1) :: _) rfl ?_
        refine n_ial f_0_1296 rfl (c1) (by unfold ev_ext; omega) (by omega) ?_
        rw [n1]
        refine n_iadd f_0_1297 rfl ?_
        refine n_go f_0_1298 rfl (pc' := 1300) rfl ?_
        refine n_go f_0_1300 rfl (pc' := 1301) (st' := .int (iI 1) :: _) rfl ?_
        refine n_iadd f_0_1301 rfl ?_
        refine n_ias f_0_1302 rfl (e1) (by omega) ?_
        have H2 := Hp_e H1 bu2
        have E2 : Ek h (ev_set h1 84 (aI 30 (uz (upE e q (10 * b) nx pl (kW (wK w))) (10 * b + kW (wK w)) (pl + 1)))) := hE1.tr (Ek.set (by decide))
        generalize uz (upE e q (10 * b) nx pl (kW (wK w))) (10 * b + kW (wK w)) (pl + 1) = e' at *
        generalize ev_set h1 84 (aI 30 e') = h2 at *
        have c2 := H2.1.1
        have q2 := H2.2.2.2.2.2.2.2.2.1.1
        refine n_go f_0_1303 rfl (pc' := 1305) rfl ?_
        refine n_go f_0_1305 rfl (pc' := 1306) rfl ?_
        refine n_go f_0_1306 rfl (pc' := 1307) (st' := .int (iI 1) :: _) rfl ?_
        refine n_ial f_0_1307 rfl (c2) (by unfold ev_ext; omega) (by omega) ?_
        rw [n1]
        refine n_go f_0_1308 rfl (pc' := 1310) rfl ?_
        refine n_bip (m := 16) f_0_1310 rfl (by decide) ?_
        refine n_go f_0_1312 rfl (pc' := 1314) rfl ?_
        refine n_imul f_0_1314 rfl ?_
        refine n_iadd f_0_1315 rfl ?_
        refine n_sip (m := 2048) f_0_1316 rfl (by decide) ?_
        refine n_go f_0_1319 rfl (pc' := 1321) rfl ?_
        refine n_imul f_0_1321 rfl ?_
        refine n_iadd f_0_1322 rfl ?_
        refine n_ias f_0_1323 rfl (q2) (by omega) ?_
        have H3 := Hp_q H2 bq2
        have E3 : Ek h (ev_set h2 90 (aI 10 (uz q (kW (wK w)) (nx + 16 * sn + 2048 * b)))) := E2.tr (Ek.set (by decide))
        generalize ev_set h2 90 (aI 10 (uz q (kW (wK w)) (nx + 16 * sn + 2048 * b))) = h3 at *
        have c3 := H3.1.1
        refine n_go f_0_1324 rfl (pc' := 1325) rfl ?_
        refine n_go f_0_1325 rfl (pc' := 1326) (st' := .int (iI 1) :: _) rfl ?_
        refine n_go f_0_1326 rfl (pc' := 1327) rfl ?_
        refine n_ial f_0_1327 rfl (c3) (by unfold ev_ext; omega) (by omega) ?_
        refine n_go f_0_1328 rfl (pc' := 1329) (st' := .int (iI 1) :: _) rfl ?_
        refine n_iadd f_0_1329 rfl ?_
        refine n_ias f_0_1330 rfl (c3) (by omega) ?_
        rw [n1]
        have H4 := Hp_n H3 (g := uz n 1 (kW (wK w) + 1)) (fun i => by have := hH.1.2.2.2.2 i; unfold uz; split <;> omega)
        have E4 : Ek h (ev_set h3 82 (aI 8 (uz n 1 (kW (wK w) + 1)))) := E3.tr (Ek.set (by decide))
        have hW4 := Wd_ek hW E4
        generalize ev_set h3 82 (aI 8 (uz n 1 (kW (wK w) + 1))) = h4 at *
        have t4 := hW4.2.2.1.1
        refine n_go f_0_1331 rfl (pc' := 1332) rfl ?_
        refine n_go f_0_1332 rfl (pc' := 1333) (st' := .int (iI 5) :: _) rfl ?_
        refine n_go f_0_1333 rfl (pc' := 1335) rfl ?_
        refine n_go f_0_1335 rfl (pc' := 1337) rfl ?_
        refine n_go f_0_1337 rfl (pc' := 1339) rfl ?_
        refine n_go f_0_1339 rfl (pc' := 1341) rfl ?_
        refine n_go f_0_1341 rfl (pc' := 1342) (st' := .int (iI 0) :: _) rfl ?_
        refine n_cs (ls' := [_, _, _, _, _, _, _, _]) f_0_1342 (by decide) m_6 rfl rfl ?_
        refine d_write t4 (c_write hW4 hb ⟨nx0, by omega⟩ ⟨l0, by omega⟩ ⟨s0, s1⟩ (by omega) (fun x => absurd (g1.symm.trans x) (by decide)) (fun _ x => absurd x (by omega)) (fun _ _ x => absurd g2 x) (hfu nx) (fun _ _ _ ah u h5 ha hu hW5 hQ5 => ?_))
        show En V _ _ 1345 _ [.int (iI (cnI (kW (wK w)) (wOk (wK w) (wD w b) nx) + 1))] h5 _
        rw [hcw]
        refine n_go f_0_1345 rfl (pc' := 1347) rfl ?_
        refine n_ic_ne f_0_1347 rfl rfl ⟨by omega, by omega⟩ (fun e9 => absurd e9 (by omega)) (fun _ => ?_)
        refine n_go f_0_1350 rfl (pc' := 1351) (st' := .int (iI 1) :: _) rfl ?_
        refine n_go f_0_1351 rfl (pc' := 1355) rfl ?_
        refine n_go f_0_1355 rfl (pc' := 1357) (ls' := [_, _, _, _, _, _, _, _, _, _, _, _, _, _, _, _, _, _, _, _, _, _, _, _, _, _, _, _, _]) rfl ?_
        refine n_go f_0_1357 rfl (pc' := 2227) rfl ?_
        have hx := wr_kx (n := nx) (s := sn) (b := b) hK hN1 hu
        refine KK h5 _ _ _ _ _ _ _ _ _ _ _ _ _ _ _ _ _ _ _ _ _ (Lst_ds hL hW5 hx ⟨wr_g hK ⟨hI, ⟨dp, hT⟩, hOk⟩ hN1 hu g1 g2, rD_cp (kx_D (S := sayT (wD w b) (kW (wK w)) true) hx hK hI.1 hR) (fun i _ _ => ⟨rfl, rfl⟩), hwr ah u ha hu⟩ (fun i x => ⟨rfl, oe i x, rfl⟩) ⟨?_, ?_, ?_, ?_, ?_, ?_⟩ (wr_W rw' ⟨nx0, by omega⟩ (uz_same _ _ _) (fun x x0 x1 => uz_ne _ _ (by omega))) rf' (H4.gm hQ5.gm)) (show kS (wK w) ≤ kS (wK w) + 1 by omega) ((E4.gw.tr hQ5.gm.gw).le (by omega) (by omega))
        · exact (uz_ne _ _ (by decide)).trans n0
        · exact uz_same _ _ _
        · exact (uz_ne _ _ (by decide)).trans n2
        · exact (uz_ne _ _ (by decide)).trans n3
        · exact (uz_ne _ _ (by decide)).trans n7
        · intro x x1 x2
          have x2 : x < wB w := x2
          exact (uz_ne _ _ (by omega)).trans (n4 x x1 x2)
    have at1158 : ∀ x, 0 ≤ x → x ≤ 1 → En V (d + 9) 0 1159 [some (.ref ev_ext), some (.ref 0), some (.ref 82), some (.ref 83), some (.ref 84), some (.ref 85), some (.ref 86), some (.ref 87), some (.ref 88), some (.ref 89), some (.ref 90), some (.ref 91), some (.int (iI 1)), some (.int (iI tn)), some (.int (iI q0)), some (.int (iI kd)), some (.int (iI c)), some (.int (iI b)), some (.int (iI (10 * b))), some (.int (iI nx)), some (.int (iI (b2 io))), some (.int (iI ot)), some (.int (iI tg)), some (.int (iI kc)), some (.int (iI (cnI (kW (wK w)) (wOk (wK w) (wD w b) nx)))), u25, u26, u27, u28] [.int (iI x), .int (iI (cnI (kW (wK w)) (wOk (wK w) (wD w b) nx) + 1)), .int (iI (c / 50))] h P := fun x x0 x1 => by
      have hq : 0 ≤ c / 50 % (cnI (kW (wK w)) (wOk (wK w) (wD w b) nx) + 1 + x) ∧ c / 50 % (cnI (kW (wK w)) (wOk (wK w) (wD w b) nx) + 1 + x) < cnI (kW (wK w)) (wOk (wK w) (wD w b) nx) + 1 + x := ⟨Int.emod_nonneg _ (by omega), Int.emod_lt_of_pos _ (by omega)⟩
      refine n_iadd f_0_1159 rfl ?_
      refine n_irem f_0_1160 rfl (by omega) ?_
      refine n_go f_0_1161 rfl (pc' := 1163) (ls' := [_, _, _, _, _, _, _, _, _, _, _, _, _, _, _, _, _, _, _, _, _, _, _, _, _, _, _, _, _]) rfl ?_
      generalize c / 50 % (cnI (kW (wK w)) (wOk (wK w) (wD w b) nx) + 1 + x) = pl at *
      have hsn : 0 ≤ c / 9 % 100 ∧ c / 9 % 100 < 100 := by omega
      refine n_go f_0_1163 rfl (pc' := 1165) rfl ?_
      refine n_bip (m := 9) f_0_1165 rfl (by decide) ?_
      refine n_idiv f_0_1167 rfl (by omega) ?_
      refine n_bip (m := 100) f_0_1168 rfl (by decide) ?_
      refine n_irem f_0_1170 rfl (by omega) ?_
      refine n_go f_0_1171 rfl (pc' := 1173) (ls' := [_, _, _, _, _, _, _, _, _, _, _, _, _, _, _, _, _, _, _, _, _, _, _, _, _, _, _, _, _]) rfl ?_
      generalize c / 9 % 100 = sn at *
      refine n_go f_0_1173 rfl (pc' := 1174) rfl ?_
      refine n_go f_0_1174 rfl (pc' := 1176) rfl ?_
      refine n_go f_0_1176 rfl (pc' := 1178) rfl ?_
      refine n_cs (ls' := [_, _, _]) f_0_1178 (by decide) m_3 rfl rfl ?_
      refine c_lthere hH.2.1 (by omega) ?_
      show En V _ 0 1181 _ [_] _ _
      rw [rD_lt hK hI.1 hR (by omega)]
      refine n_ib_ne f_0_1181 rfl rfl (fun g1 => ?_) (fun g1 => ?_)
      · refine n_go f_0_1189 rfl (pc' := 1191) rfl ?_
        refine n_go f_0_1191 rfl (pc' := 1193) rfl ?_
        refine n_ic_le f_0_1193 rfl rfl ⟨by omega, by omega⟩ (fun g2 => ?_) (fun g2 => ?_)
        · refine n_go f_0_1201 rfl (pc' := 1203) rfl ?_
          refine n_go f_0_1203 rfl (pc' := 1205) rfl ?_
          refine n_ial f_0_1205 rfl (k9) (by unfold ev_ext; omega) (by omega) ?_
          refine n_go f_0_1206 rfl (pc' := 1207) (st' := .int (iI 2) :: _) rfl ?_
          refine n_ic_eq f_0_1207 rfl rfl ⟨by omega, by omega⟩ (fun g3 => ?_) (fun g3 => ?_)
          · refine n_go f_0_1215 rfl (pc' := 1217) rfl ?_
            refine n_go f_0_1217 rfl (pc' := 1218) (st' := .int (iI 1) :: _) rfl ?_
            refine n_iadd f_0_1218 rfl ?_
            exact yes pl sn u28 hq.1 g2 hsn.1 hsn.2 g1 (by omega)
          · refine n_bip (m := (-13)) f_0_1210 rfl (by decide) ?_
            refine n_go f_0_1212 rfl (pc' := 1219) rfl ?_
            exact no _ pl sn u28 hq.1 (by omega) hsn.1 hsn.2 (by decide) (by decide) (fun y => absurd (g1.symm.trans y) (by decide)) (fun _ y => absurd y (by omega)) (fun _ _ => ⟨by omega, rfl⟩)
        · refine n_bip (m := (-12)) f_0_1196 rfl (by decide) ?_
          refine n_go f_0_1198 rfl (pc' := 1219) rfl ?_
          exact no _ pl sn u28 hq.1 (by omega) hsn.1 hsn.2 (by decide) (by decide) (fun y => absurd (g1.symm.trans y) (by decide)) (fun _ _ => rfl) (fun _ y => absurd y (by omega))
      · refine n_bip (m := (-11)) f_0_1184 rfl (by decide) ?_
        refine n_go f_0_1186 rfl (pc' := 1219) rfl ?_
        exact no _ pl sn u28 hq.1 (by omega) hsn.1 hsn.2 (by decide) (by decide) (fun _ => rfl) (fun y => absurd (y.symm.trans g1) (by decide)) (fun y => absurd (y.symm.trans g1) (by decide))
    refine n_go f_0_1135 rfl (pc' := 1137) (ls' := [_, _, _, _, _, _, _, _, _, _, _, _, _, _, _, _, _, _, _, _, _, _, _, _, _, _, _, _, _]) rfl ?_
    refine n_go f_0_1137 rfl (pc' := 1139) rfl ?_
    refine n_bip (m := 50) f_0_1139 rfl (by decide) ?_
    refine n_idiv f_0_1141 rfl (by omega) ?_
    refine n_go f_0_1142 rfl (pc' := 1144) rfl ?_
    refine n_go f_0_1144 rfl (pc' := 1145) (st' := .int (iI 1) :: _) rfl ?_
    refine n_iadd f_0_1145 rfl ?_
    refine n_go f_0_1146 rfl (pc' := 1148) rfl ?_
    refine n_bip (m := 11) f_0_1148 rfl (by decide) ?_
    refine n_irem f_0_1150 rfl (by omega) ?_
    refine n_if_ne f_0_1151 rfl rfl (by omega) (fun g1 => ?_) (fun g1 => ?_)
    · refine n_go f_0_1158 rfl (pc' := 1159) (st' := .int (iI 0) :: _) rfl ?_
      exact at1158 0 (by decide) (by decide)
    · refine n_go f_0_1154 rfl (pc' := 1155) (st' := .int (iI 1) :: _) rfl ?_
      refine n_go f_0_1155 rfl (pc' := 1159) rfl ?_
      exact at1158 1 (by decide) (by decide)
  refine n_go f_0_1080 rfl (pc' := 1081) (st' := .int (iI 0) :: _) rfl ?_
  refine n_go f_0_1081 rfl (pc' := 1083) (ls' := [_, _, _, _, _, _, _, _, _, _, _, _, _, _, _, _, _, _, _, _, _, _, _, _, _, _, _, _, _]) rfl ?_
  refine n_for (lo := 0) (hi := kN (wK w)) (by omega) (fun i ls st h' => (∃ nx, (0 ≤ nx ∧ nx < kN (wK w)) ∧ ls = [some (.ref ev_ext), some (.ref 0), some (.ref 82), some (.ref 83), some (.ref 84), some (.ref 85), some (.ref 86), some (.ref 87), some (.ref 88), some (.ref 89), some (.ref 90), some (.ref 91), some (.int (iI 1)), some (.int (iI tn)), some (.int (iI q0)), some (.int (iI kd)), some (.int (iI c)), some (.int (iI b)), some (.int (iI (10 * b))), some (.int (iI nx)), some (.int (iI (b2 io))), some (.int (iI ot)), some (.int (iI tg)), some (.int (iI kc)), some (.int (iI i)), u25, u26, u27, u28]) ∧ st = [] ∧ h' = h) ⟨⟨nd, hnd, rfl⟩, rfl, rfl⟩ ?_ ?_
  · rintro i ls st h' i1 i2 ⟨⟨nx, nx0, rfl⟩, rfl, rfl⟩ kk
    have fnx := rf' nx nx0.1 nx0.2
    have knx := kr.2.2.2.1 nx
    refine n_go f_0_1083 rfl (pc' := 1085) rfl ?_
    refine n_go f_0_1085 rfl (pc' := 1086) rfl ?_
    refine n_go f_0_1086 rfl (pc' := 1087) (st' := .int (iI 0) :: _) rfl ?_
    refine n_ial f_0_1087 rfl (b0) (by unfold ev_ext; omega) (by omega) ?_
    refine n_ic_ge f_0_1088 rfl rfl ⟨by omega, by omega⟩ (fun e9 => absurd e9 (by omega)) (fun _ => ?_)
    refine n_go f_0_1091 rfl (pc' := 1093) rfl ?_
    refine n_go f_0_1093 rfl (pc' := 1094) (st' := .int (iI 5) :: _) rfl ?_
    refine n_irem f_0_1094 rfl (by omega) ?_
    refine n_if_le f_0_1095 rfl rfl (by omega) (fun g1 => ?_) (fun g1 => ?_)
    · exact at1123 nx i u25 u26 u27 u28 nx0.1 nx0.2
    · refine n_go f_0_1098 rfl (pc' := 1100) rfl ?_
      refine n_go f_0_1100 rfl (pc' := 1102) rfl ?_
      refine n_ial f_0_1102 rfl (k9) (by unfold ev_ext; omega) (by omega) ?_
      refine n_go f_0_1103 rfl (pc' := 1104) (st' := .int (iI 2) :: _) rfl ?_
      refine n_ic_eq f_0_1104 rfl rfl ⟨by omega, by omega⟩ (fun g2 => ?_) (fun g2 => ?_)
      · exact at1123 nx i u25 u26 u27 u28 nx0.1 nx0.2
      · have hq : 0 ≤ (nx + 1) % n 0 ∧ (nx + 1) % n 0 < n 0 := ⟨Int.emod_nonneg _ (by omega), Int.emod_lt_of_pos _ (by omega)⟩
        refine n_go f_0_1107 rfl (pc' := 1109) rfl ?_
        refine n_go f_0_1109 rfl (pc' := 1110) (st' := .int (iI 1) :: _) rfl ?_
        refine n_iadd f_0_1110 rfl ?_
        refine n_go f_0_1111 rfl (pc' := 1112) rfl ?_
        refine n_go f_0_1112 rfl (pc' := 1113) (st' := .int (iI 0) :: _) rfl ?_
        refine n_ial f_0_1113 rfl (b0) (by unfold ev_ext; omega) (by omega) ?_
        refine n_irem f_0_1114 rfl (by omega) ?_
        refine n_go f_0_1115 rfl (pc' := 1117) (ls' := [_, _, _, _, _, _, _, _, _, _, _, _, _, _, _, _, _, _, _, _, _, _, _, _, _, _, _, _, _]) rfl ?_
        refine n_iinc (m' := 1) (ls' := [_, _, _, _, _, _, _, _, _, _, _, _, _, _, _, _, _, _, _, _, _, _, _, _, _, _, _, _, _]) f_0_1117 rfl rfl rfl rfl ?_
        refine n_go f_0_1120 rfl (pc' := 1083) rfl ?_
        exact kk _ _ _ ⟨⟨_, ⟨hq.1, by omega⟩, rfl⟩, rfl, rfl⟩
  · rintro ls st h' ⟨⟨nx, nx0, rfl⟩, rfl, rfl⟩
    refine n_go f_0_1083 rfl (pc' := 1085) rfl ?_
    refine n_go f_0_1085 rfl (pc' := 1086) rfl ?_
    refine n_go f_0_1086 rfl (pc' := 1087) (st' := .int (iI 0) :: _) rfl ?_
    refine n_ial f_0_1087 rfl (b0) (by unfold ev_ext; omega) (by omega) ?_
    refine n_ic_ge f_0_1088 rfl rfl ⟨by omega, by omega⟩ (fun _ => ?_) (fun e9 => absurd (by omega) e9)
    exact at1123 nx _ u25 u26 u27 u28 nx0.1 nx0.2
end LPW
