/-! The law: an aim. -/
theorem uz_self {A : Type} (f : Int → A) (i : Int) : uz f i (f i) = f := by
  funext j
  by_cases e : j = i
  · rw [e, uz_same]
  · rw [uz_ne _ _ e]
section LPA
variable {V : ev_V} {d : Nat} {h : ev_H} {P : ev_O → ev_H → Prop} {w : dW} {tn q0 kd c b nd ot tg kc : Int} {io : Bool} {n dd e z v f y k q p : Int → Int} {u24 u25 u26 u27 u28 : Option Value}
theorem L_aim (hL : Lst h w n dd e z v f y k q p) (hl : 92 ≤ h.1.length ∧ h.1.length < 800000) (htn : 0 ≤ tn ∧ tn < 110) (hc : 0 ≤ c ∧ c < 2147483648) (hb : 0 ≤ b ∧ b < wB w) (hnd : 0 ≤ nd ∧ nd < kN (wK w)) (hio : io = hs (wD w b) nd) (hot : 0 ≤ ot ∧ ot < kN (wK w)) (htg : 0 ≤ tg ∧ tg < 5) (hkc : kc = cnI 40 (fun i => decide (hold (wK w) (wD w b) i = nd))) (hS : kS (wK w) < 111) (KK : ∀ h' w' n' d' e' z' v' f' y' k' q' p' (u19 u20 u21 u22 u23 u24 u25 u26 u27 u28 : Option Value), Lst h' w' n' d' e' z' v' f' y' k' q' p' → kS (wK w') ≤ kS (wK w) + 1 → Gw h h' 100 1000 → En V (d + 9) 0 2227 [some (.ref ev_ext), some (.ref 0), some (.ref 82), some (.ref 83), some (.ref 84), some (.ref 85), some (.ref 86), some (.ref 87), some (.ref 88), some (.ref 89), some (.ref 90), some (.ref 91), some (.int (iI 1)), some (.int (iI tn)), some (.int (iI q0)), some (.int (iI kd)), some (.int (iI c)), some (.int (iI b)), some (.int (iI (10 * b))), u19, u20, u21, u22, u23, u24, u25, u26, u27, u28] [] h' P) : En V (d + 9) 0 876 [some (.ref ev_ext), some (.ref 0), some (.ref 82), some (.ref 83), some (.ref 84), some (.ref 85), some (.ref 86), some (.ref 87), some (.ref 88), some (.ref 89), some (.ref 90), some (.ref 91), some (.int (iI 1)), some (.int (iI tn)), some (.int (iI q0)), some (.int (iI kd)), some (.int (iI c)), some (.int (iI b)), some (.int (iI (10 * b))), some (.int (iI nd)), some (.int (iI (b2 io))), some (.int (iI ot)), some (.int (iI tg)), some (.int (iI kc)), u24, u25, u26, u27, u28] [] h P := by
  obtain ⟨hW, hK, ⟨n0, n1, n2, n3, n7, n4⟩, hP, hOO, rw', rf', hH, hE, hpp, hbd, hbv⟩ := id hL
  have t0 := hW.2.2.1.1
  have tb := hW.2.2.1.2.2.2.1
  have kr := hW.1.2.2.2.2.2.2.2.2.2.2
  have kn := hK.2.2.1
  have kw := hK.2.2.2.1
  have ks0 := hK.2.2.2.2.1
  have hOb := hOO.1 b hb.1 hb.2
  obtain ⟨⟨hI, ⟨dp, hT⟩, hOk⟩, hR, hEe⟩ := id hOb
  have hkr := ch_le hK hI.1 hnd.1
  have hkr0 := (cnI_r (i := 40) (p := fun i => decide (hold (wK w) (wD w b) i = nd)) (by decide)).1
  have hor : 0 ≤ 10 * b ∧ 10 * b + 10 ≤ (30 : Nat) := by omega
  have b0 := hH.1.1
  have gn0 := hH.1.2.2.2.2 0
  have gn1 := hH.1.2.2.2.2 1
  have k9 := hH.2.2.2.2.2.2.2.1.1
  have d0 := hH.2.1.1
  -- behind the search
  have at934 : ∀ (m : Int) (nx i : Int) (u26 u27 : Option Value), (m = -1 ∨ (0 ≤ m ∧ m < kN (wK w))) → 0 ≤ nx → nx < kN (wK w) → En V (d + 9) 0 934 [some (.ref ev_ext), some (.ref 0), some (.ref 82), some (.ref 83), some (.ref 84), some (.ref 85), some (.ref 86), some (.ref 87), some (.ref 88), some (.ref 89), some (.ref 90), some (.ref 91), some (.int (iI 1)), some (.int (iI tn)), some (.int (iI q0)), some (.int (iI kd)), some (.int (iI c)), some (.int (iI b)), some (.int (iI (10 * b))), some (.int (iI nx)), some (.int (iI (b2 io))), some (.int (iI ot)), some (.int (iI tg)), some (.int (iI kc)), some (.int (iI m)), some (.int (iI i)), u26, u27, u28] [] h P := fun m nx i u26 u27 hm nx0 nx1 => by
    have fnx := rf' nx nx0 nx1
    have knx := kr.2.2.2.1 nx
    have bd0 := hbd (10 * b + nx)
    have bd1 := hH.2.1.2.2.2.2 (10 * b + nx)
    -- what is due, and the row then
    have at1005 : ∀ (due : Int) (cb : Bool), -100 < due → due < 100 → ((hs (wD w b) nx = true ∧ (m = -1 ∨ hs (wD w b) m = true) ∧ kK (wK w) nx = 3 ∧ due = (wD w b).2.2.1 nx) ∨ (¬ (hs (wD w b) nx = true ∧ (m = -1 ∨ hs (wD w b) m = true)) ∧ due = -11) ∨ ((hs (wD w b) nx = true ∧ (m = -1 ∨ hs (wD w b) m = true)) ∧ ¬ kK (wK w) nx = 3 ∧ due = -13)) → En V (d + 9) 0 1005 [some (.ref ev_ext), some (.ref 0), some (.ref 82), some (.ref 83), some (.ref 84), some (.ref 85), some (.ref 86), some (.ref 87), some (.ref 88), some (.ref 89), some (.ref 90), some (.ref 91), some (.int (iI 1)), some (.int (iI tn)), some (.int (iI q0)), some (.int (iI kd)), some (.int (iI c)), some (.int (iI b)), some (.int (iI (10 * b))), some (.int (iI nx)), some (.int (iI (b2 io))), some (.int (iI ot)), some (.int (iI tg)), some (.int (iI kc)), some (.int (iI m)), some (.int (iI (b2 cb))), u26, u27, u28] [.int (iI due)] h P := fun due cb due0 due1 hdue => by
      refine n_go f_0_1005 rfl (pc' := 1007) (ls' := [_, _, _, _, _, _, _, _, _, _, _, _, _, _, _, _, _, _, _, _, _, _, _, _, _, _, _, _, _]) rfl ?_
      refine n_go f_0_1007 rfl (pc' := 1008) rfl ?_
      refine n_go f_0_1008 rfl (pc' := 1010) rfl ?_
      refine n_go f_0_1010 rfl (pc' := 1012) rfl ?_
      refine n_iadd f_0_1012 rfl ?_
      refine n_go f_0_1013 rfl (pc' := 1014) rfl ?_
      refine n_ial f_0_1014 rfl (d0) (by unfold ev_ext; omega) (by omega) ?_
      refine n_go f_0_1015 rfl (pc' := 1017) rfl ?_
      refine n_bip (m := (-2)) f_0_1017 rfl (by decide) ?_
      refine n_ic_ge f_0_1019 rfl rfl ⟨by omega, by omega⟩ (fun g1 => ?_) (fun g1 => ?_)
      · have g2 : hs (wD w b) nx = true ∧ (m = -1 ∨ hs (wD w b) m = true) ∧ kK (wK w) nx = 3 ∧ due = (wD w b).2.2.1 nx := by
          rcases hdue with x | x | x
          · exact x
          · omega
          · omega
        obtain ⟨g3, g4, g5, g6⟩ := g2
        have rn := (rD_t hK hI.1 hR g3).1
        have jn := hI.1.1 nx nx0 (by omega) g3
        have hr2 : rD (wK w) (aimT (wD w b) nx m) (uz dd (10 * b + nx) (dd (10 * b + nx) + 4096 * (m - due))) z (10 * b) := by
          refine rD_vl (n := nx) hK hI.1 hR rfl (fun i => rfl) (fun i x => ⟨rfl, uz_ne _ _ x⟩) ?_ (fun i i1 i2 x => uz_ne _ _ (by omega)) g3
          rw [uz_same, show (aimT (wD w b) nx m).2.1 nx = (wD w b).2.1 nx from rfl, show (aimT (wD w b) nx m).2.2.1 nx = m from uz_same _ _ _, g6]
          omega
        have hg2 := am_g (m := m) ⟨hI, ⟨dp, hT⟩, hOk⟩ g3 g4
        have ho2 : ∀ i, ¬ (10 * b ≤ i ∧ i < 10 * b + 10) → uz dd (10 * b + nx) (dd (10 * b + nx) + 4096 * (m - due)) i = dd i := fun i x => uz_ne _ _ (by omega)
        have hb2 := bd_D hK hg2.1.1 hr2 (fun i => ⟨(hH.2.1.2.2.2.2 i).1, hbd i⟩) ho2
        refine n_sip (m := 4096) f_0_1026 rfl (by decide) ?_
        refine n_go f_0_1029 rfl (pc' := 1031) rfl ?_
        refine n_go f_0_1031 rfl (pc' := 1033) rfl ?_
        refine n_isub f_0_1033 rfl ?_
        refine n_imul f_0_1034 rfl ?_
        refine n_iadd f_0_1035 rfl ?_
        refine n_ias f_0_1036 rfl (d0) (by omega) ?_
        generalize uz dd (10 * b + nx) (dd (10 * b + nx) + 4096 * (m - due)) = d' at *
        have H1 := Hp_d hH (g := d') (fun i => by have := hb2 i; omega)
        have E1 : Ek h (ev_set h 83 (aI 30 d')) := Ek.set (by decide)
        have hW1 := Wd_ek hW E1
        generalize ev_set h 83 (aI 30 d') = h1 at *
        have t1 := hW1.2.2.1.1
        refine n_go f_0_1037 rfl (pc' := 1038) rfl ?_
        refine n_go f_0_1038 rfl (pc' := 1039) (st' := .int (iI 4) :: _) rfl ?_
        refine n_go f_0_1039 rfl (pc' := 1041) rfl ?_
        refine n_go f_0_1041 rfl (pc' := 1043) rfl ?_
        refine n_go f_0_1043 rfl (pc' := 1045) rfl ?_
        refine n_go f_0_1045 rfl (pc' := 1046) (st' := .int (iI 0) :: _) rfl ?_
        refine n_go f_0_1046 rfl (pc' := 1047) (st' := .int (iI 0) :: _) rfl ?_
        refine n_cs (ls' := [_, _, _, _, _, _, _, _]) f_0_1047 (by decide) m_6 rfl rfl ?_
        refine d_aim t1 (c_aim hW1 hb ⟨nx0, by omega⟩ ⟨by omega, by omega⟩ (fun x => absurd ⟨g3, g4⟩ x) (fun _ _ x => absurd g5 x) (fun _ _ _ h2 hW2 hQ2 => ?_))
        show En V _ _ 1050 _ [.int (iI ((wD w b).2.2.1 nx))] h2 _
        refine n_go f_0_1050 rfl (pc' := 1052) rfl ?_
        refine n_ic_ne f_0_1052 rfl rfl ⟨by omega, by omega⟩ (fun e9 => absurd e9 (by omega)) (fun _ => ?_)
        refine n_go f_0_1055 rfl (pc' := 1056) (st' := .int (iI 1) :: _) rfl ?_
        refine n_go f_0_1056 rfl (pc' := 1060) rfl ?_
        refine n_go f_0_1060 rfl (pc' := 1062) (ls' := [_, _, _, _, _, _, _, _, _, _, _, _, _, _, _, _, _, _, _, _, _, _, _, _, _, _, _, _, _]) rfl ?_
        refine n_go f_0_1062 rfl (pc' := 2227) rfl ?_
        exact KK h2 _ _ _ _ _ _ _ _ _ _ _ _ _ _ _ _ _ _ _ _ _ (Lst_ds (K' := wK w) hL hW2 (kx_rf hK) ⟨hg2, hr2, rE_c (S := wD w b) rfl hEe⟩ (fun i x => ⟨ho2 i x, rfl, rfl⟩) ⟨n0, n1, n2, n3, n7, n4⟩ rw' rf' (H1.gm hQ2.gm)) (show kS (wK w) ≤ kS (wK w) + 1 by omega) ((E1.gw.tr hQ2.gm.gw).le (by omega) (by omega))
      · refine n_go f_0_1022 rfl (pc' := 1023) (st' := .int (iI 0) :: _) rfl ?_
        refine n_go f_0_1023 rfl (pc' := 1035) rfl ?_
        refine n_iadd f_0_1035 rfl ?_
        refine n_ias f_0_1036 rfl (d0) (by omega) ?_
        rw [Int.add_zero, uz_self, g_sf d0]
        refine n_go f_0_1037 rfl (pc' := 1038) rfl ?_
        refine n_go f_0_1038 rfl (pc' := 1039) (st' := .int (iI 4) :: _) rfl ?_
        refine n_go f_0_1039 rfl (pc' := 1041) rfl ?_
        refine n_go f_0_1041 rfl (pc' := 1043) rfl ?_
        refine n_go f_0_1043 rfl (pc' := 1045) rfl ?_
        refine n_go f_0_1045 rfl (pc' := 1046) (st' := .int (iI 0) :: _) rfl ?_
        refine n_go f_0_1046 rfl (pc' := 1047) (st' := .int (iI 0) :: _) rfl ?_
        refine n_cs (ls' := [_, _, _, _, _, _, _, _]) f_0_1047 (by decide) m_6 rfl rfl ?_
        refine d_aim t0 (c_aim hW hb ⟨nx0, by omega⟩ ⟨by omega, by omega⟩ (fun x => ?_) (fun x1 x2 x3 => ?_) (fun x1 x2 x3 h2 hW2 hQ2 => ?_))
        · show En V _ _ 1050 _ [.int (iI (-11))] (xH h 11) _
          have e1 : due = -11 := by
            rcases hdue with y | y | y
            · exact absurd ⟨y.1, y.2.1⟩ x
            · exact y.2
            · exact absurd y.1 x
          refine n_go f_0_1050 rfl (pc' := 1052) rfl ?_
          refine n_ic_ne f_0_1052 rfl rfl ⟨by omega, by omega⟩ (fun e9 => absurd e9 (by omega)) (fun _ => ?_)
          refine n_go f_0_1055 rfl (pc' := 1056) (st' := .int (iI 1) :: _) rfl ?_
          refine n_go f_0_1056 rfl (pc' := 1060) rfl ?_
          refine n_go f_0_1060 rfl (pc' := 1062) (ls' := [_, _, _, _, _, _, _, _, _, _, _, _, _, _, _, _, _, _, _, _, _, _, _, _, _, _, _, _, _]) rfl ?_
          refine n_go f_0_1062 rfl (pc' := 2227) rfl ?_
          exact KK (xH h 11) _ _ _ _ _ _ _ _ _ _ _ _ _ _ _ _ _ _ _ _ _ (hL.gm hW.psh (Gm.push _ _ _)) (by omega) ((Gm.push _ _ _).gw.le (by omega) (by omega))
        · show En V _ _ 1050 _ [.int (iI (-13))] (xH h 13) _
          have e1 : due = -13 := by
            rcases hdue with y | y | y
            · exact absurd y.2.2.1 x3
            · exact absurd ⟨x1, x2⟩ y.1
            · exact y.2.2
          refine n_go f_0_1050 rfl (pc' := 1052) rfl ?_
          refine n_ic_ne f_0_1052 rfl rfl ⟨by omega, by omega⟩ (fun e9 => absurd e9 (by omega)) (fun _ => ?_)
          refine n_go f_0_1055 rfl (pc' := 1056) (st' := .int (iI 1) :: _) rfl ?_
          refine n_go f_0_1056 rfl (pc' := 1060) rfl ?_
          refine n_go f_0_1060 rfl (pc' := 1062) (ls' := [_, _, _, _, _, _, _, _, _, _, _, _, _, _, _, _, _, _, _, _, _, _, _, _, _, _, _, _, _]) rfl ?_
          refine n_go f_0_1062 rfl (pc' := 2227) rfl ?_
          exact KK (xH h 13) _ _ _ _ _ _ _ _ _ _ _ _ _ _ _ _ _ _ _ _ _ (hL.gm hW.psh (Gm.push _ _ _)) (by omega) ((Gm.push _ _ _).gw.le (by omega) (by omega))
        · exfalso
          rcases hdue with y | y | y
          · have jn := hI.1.1 nx nx0 (by omega) y.1
            omega
          · exact y.1 ⟨x1, x2⟩
          · exact y.2.1 x3
    have at966 : ∀ (can : Bool) (u25 : Option Value), (can = true ↔ (hs (wD w b) nx = true ∧ (m = -1 ∨ hs (wD w b) m = true))) → En V (d + 9) 0 966 [some (.ref ev_ext), some (.ref 0), some (.ref 82), some (.ref 83), some (.ref 84), some (.ref 85), some (.ref 86), some (.ref 87), some (.ref 88), some (.ref 89), some (.ref 90), some (.ref 91), some (.int (iI 1)), some (.int (iI tn)), some (.int (iI q0)), some (.int (iI kd)), some (.int (iI c)), some (.int (iI b)), some (.int (iI (10 * b))), some (.int (iI nx)), some (.int (iI (b2 io))), some (.int (iI ot)), some (.int (iI tg)), some (.int (iI kc)), some (.int (iI m)), some (.int (iI i)), u26, u27, u28] [.int (iI (b2 can))] h P := fun can u25 hcan => by
      refine n_go f_0_966 rfl (pc' := 968) (ls' := [_, _, _, _, _, _, _, _, _, _, _, _, _, _, _, _, _, _, _, _, _, _, _, _, _, _, _, _, _]) rfl ?_
      refine n_go f_0_968 rfl (pc' := 970) rfl ?_
      refine n_ib_ne f_0_970 rfl rfl (fun g1 => ?_) (fun g1 => ?_)
      · have g2 := hcan.mp g1
        have rn := (rD_t hK hI.1 hR g2.1).1
        have jn := hI.1.1 nx nx0 (by omega) g2.1
        refine n_go f_0_978 rfl (pc' := 980) rfl ?_
        refine n_go f_0_980 rfl (pc' := 982) rfl ?_
        refine n_ial f_0_982 rfl (k9) (by unfold ev_ext; omega) (by omega) ?_
        refine n_go f_0_983 rfl (pc' := 984) (st' := .int (iI 3) :: _) rfl ?_
        refine n_ic_eq f_0_984 rfl rfl ⟨by omega, by omega⟩ (fun g3 => ?_) (fun g3 => ?_)
        · refine n_go f_0_992 rfl (pc' := 993) rfl ?_
          refine n_go f_0_993 rfl (pc' := 995) rfl ?_
          refine n_go f_0_995 rfl (pc' := 997) rfl ?_
          refine n_iadd f_0_997 rfl ?_
          refine n_ial f_0_998 rfl (d0) (by unfold ev_ext; omega) (by omega) ?_
          refine n_sip (m := 4096) f_0_999 rfl (by decide) ?_
          refine n_idiv f_0_1002 rfl (by omega) ?_
          refine n_go f_0_1003 rfl (pc' := 1004) (st' := .int (iI 1) :: _) rfl ?_
          refine n_isub f_0_1004 rfl ?_
          exact at1005 _ _ (by omega) (by omega) (Or.inl ⟨g2.1, g2.2, by omega, by omega⟩)
        · refine n_bip (m := (-13)) f_0_987 rfl (by decide) ?_
          refine n_go f_0_989 rfl (pc' := 1005) rfl ?_
          exact at1005 _ _ (by omega) (by omega) (Or.inr (Or.inr ⟨g2, by omega, rfl⟩))
      · have g2 : ¬ (hs (wD w b) nx = true ∧ (m = -1 ∨ hs (wD w b) m = true)) := fun x => by
          have := hcan.mpr x
          rw [g1] at this
          cases this
        refine n_bip (m := (-11)) f_0_973 rfl (by decide) ?_
        refine n_go f_0_975 rfl (pc' := 1005) rfl ?_
        exact at1005 _ _ (by omega) (by omega) (Or.inr (Or.inl ⟨g2, rfl⟩))
    refine n_go f_0_934 rfl (pc' := 935) rfl ?_
    refine n_go f_0_935 rfl (pc' := 937) rfl ?_
    refine n_go f_0_937 rfl (pc' := 939) rfl ?_
    refine n_cs (ls' := [_, _, _]) f_0_939 (by decide) m_3 rfl rfl ?_
    refine c_lthere hH.2.1 (by omega) ?_
    show En V _ 0 942 _ [_] _ _
    rw [rD_lt hK hI.1 hR (by omega)]
    refine n_ib_eq f_0_942 rfl rfl (fun g1 => ?_) (fun g1 => ?_)
    · refine n_go f_0_965 rfl (pc' := 966) (st' := .int (iI 0) :: _) rfl ?_
      exact at966 false none ⟨fun x => (by cases x), fun x => absurd (x.1.symm.trans g1) (by decide)⟩
    · refine n_go f_0_945 rfl (pc' := 947) rfl ?_
      refine n_if_lt f_0_947 rfl rfl (by omega) (fun g2 => ?_) (fun g2 => ?_)
      · refine n_go f_0_961 rfl (pc' := 962) (st' := .int (iI 1) :: _) rfl ?_
        refine n_go f_0_962 rfl (pc' := 966) rfl ?_
        exact at966 true none ⟨fun _ => ⟨g1, Or.inl (by omega)⟩, fun _ => rfl⟩
      · refine n_go f_0_950 rfl (pc' := 951) rfl ?_
        refine n_go f_0_951 rfl (pc' := 953) rfl ?_
        refine n_go f_0_953 rfl (pc' := 955) rfl ?_
        refine n_cs (ls' := [_, _, _]) f_0_955 (by decide) m_3 rfl rfl ?_
        refine c_lthere hH.2.1 (by omega) ?_
        show En V _ 0 958 _ [_] _ _
        rw [rD_lt hK hI.1 hR (by omega)]
        refine n_ib_eq f_0_958 rfl rfl (fun g3 => ?_) (fun g3 => ?_)
        · refine n_go f_0_965 rfl (pc' := 966) (st' := .int (iI 0) :: _) rfl ?_
          exact at966 false none ⟨fun x => (by cases x), fun x => by rcases x.2 with y | y; omega; rw [g3] at y; cases y⟩
        · refine n_go f_0_961 rfl (pc' := 962) (st' := .int (iI 1) :: _) rfl ?_
          refine n_go f_0_962 rfl (pc' := 966) rfl ?_
          exact at966 true none ⟨fun _ => ⟨g1, Or.inr g3⟩, fun _ => rfl⟩
  have at889 : ∀ (m : Int) (u24 : Option Value), (m = -1 ∨ (0 ≤ m ∧ m < kN (wK w))) → En V (d + 9) 0 889 [some (.ref ev_ext), some (.ref 0), some (.ref 82), some (.ref 83), some (.ref 84), some (.ref 85), some (.ref 86), some (.ref 87), some (.ref 88), some (.ref 89), some (.ref 90), some (.ref 91), some (.int (iI 1)), some (.int (iI tn)), some (.int (iI q0)), some (.int (iI kd)), some (.int (iI c)), some (.int (iI b)), some (.int (iI (10 * b))), some (.int (iI nd)), some (.int (iI (b2 io))), some (.int (iI ot)), some (.int (iI tg)), some (.int (iI kc)), u24, u25, u26, u27, u28] [.int (iI m)] h P := fun m u24 hm => by
    refine n_go f_0_889 rfl (pc' := 891) (ls' := [_, _, _, _, _, _, _, _, _, _, _, _, _, _, _, _, _, _, _, _, _, _, _, _, _, _, _, _, _]) rfl ?_
    refine n_go f_0_891 rfl (pc' := 892) (st' := .int (iI 0) :: _) rfl ?_
    refine n_go f_0_892 rfl (pc' := 894) (ls' := [_, _, _, _, _, _, _, _, _, _, _, _, _, _, _, _, _, _, _, _, _, _, _, _, _, _, _, _, _]) rfl ?_
    refine n_for (lo := 0) (hi := kN (wK w)) (by omega) (fun i ls st h' => (∃ nx, (0 ≤ nx ∧ nx < kN (wK w)) ∧ ls = [some (.ref ev_ext), some (.ref 0), some (.ref 82), some (.ref 83), some (.ref 84), some (.ref 85), some (.ref 86), some (.ref 87), some (.ref 88), some (.ref 89), some (.ref 90), some (.ref 91), some (.int (iI 1)), some (.int (iI tn)), some (.int (iI q0)), some (.int (iI kd)), some (.int (iI c)), some (.int (iI b)), some (.int (iI (10 * b))), some (.int (iI nx)), some (.int (iI (b2 io))), some (.int (iI ot)), some (.int (iI tg)), some (.int (iI kc)), some (.int (iI m)), some (.int (iI i)), u26, u27, u28]) ∧ st = [] ∧ h' = h) ⟨⟨nd, hnd, rfl⟩, rfl, rfl⟩ ?_ ?_
    · rintro i ls st h' i1 i2 ⟨⟨nx, nx0, rfl⟩, rfl, rfl⟩ kk
      have fnx := rf' nx nx0.1 nx0.2
      have knx := kr.2.2.2.1 nx
      refine n_go f_0_894 rfl (pc' := 896) rfl ?_
      refine n_go f_0_896 rfl (pc' := 897) rfl ?_
      refine n_go f_0_897 rfl (pc' := 898) (st' := .int (iI 0) :: _) rfl ?_
      refine n_ial f_0_898 rfl (b0) (by unfold ev_ext; omega) (by omega) ?_
      refine n_ic_ge f_0_899 rfl rfl ⟨by omega, by omega⟩ (fun e9 => absurd e9 (by omega)) (fun _ => ?_)
      refine n_go f_0_902 rfl (pc' := 904) rfl ?_
      refine n_go f_0_904 rfl (pc' := 905) (st' := .int (iI 5) :: _) rfl ?_
      refine n_irem f_0_905 rfl (by omega) ?_
      refine n_if_le f_0_906 rfl rfl (by omega) (fun g1 => ?_) (fun g1 => ?_)
      · exact at934 m nx i u26 u27 hm nx0.1 nx0.2
      · refine n_go f_0_909 rfl (pc' := 911) rfl ?_
        refine n_go f_0_911 rfl (pc' := 913) rfl ?_
        refine n_ial f_0_913 rfl (k9) (by unfold ev_ext; omega) (by omega) ?_
        refine n_go f_0_914 rfl (pc' := 915) (st' := .int (iI 3) :: _) rfl ?_
        refine n_ic_eq f_0_915 rfl rfl ⟨by omega, by omega⟩ (fun g2 => ?_) (fun g2 => ?_)
        · exact at934 m nx i u26 u27 hm nx0.1 nx0.2
        · have hq : 0 ≤ (nx + 1) % n 0 ∧ (nx + 1) % n 0 < n 0 := ⟨Int.emod_nonneg _ (by omega), Int.emod_lt_of_pos _ (by omega)⟩
          refine n_go f_0_918 rfl (pc' := 920) rfl ?_
          refine n_go f_0_920 rfl (pc' := 921) (st' := .int (iI 1) :: _) rfl ?_
          refine n_iadd f_0_921 rfl ?_
          refine n_go f_0_922 rfl (pc' := 923) rfl ?_
          refine n_go f_0_923 rfl (pc' := 924) (st' := .int (iI 0) :: _) rfl ?_
          refine n_ial f_0_924 rfl (b0) (by unfold ev_ext; omega) (by omega) ?_
          refine n_irem f_0_925 rfl (by omega) ?_
          refine n_go f_0_926 rfl (pc' := 928) (ls' := [_, _, _, _, _, _, _, _, _, _, _, _, _, _, _, _, _, _, _, _, _, _, _, _, _, _, _, _, _]) rfl ?_
          refine n_iinc (m' := 1) (ls' := [_, _, _, _, _, _, _, _, _, _, _, _, _, _, _, _, _, _, _, _, _, _, _, _, _, _, _, _, _]) f_0_928 rfl rfl rfl rfl ?_
          refine n_go f_0_931 rfl (pc' := 894) rfl ?_
          exact kk _ _ _ ⟨⟨_, ⟨hq.1, by omega⟩, rfl⟩, rfl, rfl⟩
    · rintro ls st h' ⟨⟨nx, nx0, rfl⟩, rfl, rfl⟩
      refine n_go f_0_894 rfl (pc' := 896) rfl ?_
      refine n_go f_0_896 rfl (pc' := 897) rfl ?_
      refine n_go f_0_897 rfl (pc' := 898) (st' := .int (iI 0) :: _) rfl ?_
      refine n_ial f_0_898 rfl (b0) (by unfold ev_ext; omega) (by omega) ?_
      refine n_ic_ge f_0_899 rfl rfl ⟨by omega, by omega⟩ (fun _ => ?_) (fun e9 => absurd (by omega) e9)
      exact at934 m nx _ u26 u27 hm nx0.1 nx0.2
  refine n_go f_0_876 rfl (pc' := 878) rfl ?_
  refine n_go f_0_878 rfl (pc' := 879) (st' := .int (iI 4) :: _) rfl ?_
  refine n_irem f_0_879 rfl (by omega) ?_
  refine n_if_ne f_0_880 rfl rfl (by omega) (fun g1 => ?_) (fun g1 => ?_)
  · refine n_go f_0_887 rfl (pc' := 889) rfl ?_
    exact at889 ot u24 (Or.inr hot)
  · refine n_go f_0_883 rfl (pc' := 884) (st' := .int (iI (-1)) :: _) rfl ?_
    refine n_go f_0_884 rfl (pc' := 889) rfl ?_
    exact at889 (-1) u24 (Or.inl rfl)
end LPA
