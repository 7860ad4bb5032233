/-! The law's isScript holds where the class's script is the law's list. -/
section LV
variable {V : ev_V} {d : Nat} {h : ev_H} {P : ev_O → ev_H → Prop} {w : dW} {A B C N M I J O L : Nat} {D W E F Z Y G : Int → Int} {o t v v' m m1 : Int}
theorem c_lscript (hWd : Wd h w) (hv : vwO w v) (ho : vwO w v') (hd : dlo (vwS w v) (vwS w v')) (hvr : -10 ≤ v ∧ v < 10) (hor : -10 ≤ v' ∧ v' < 10) (hB : Rw h B 8 G) (hm : G 0 = m ∧ 1 ≤ m ∧ m ≤ 10) (hm1 : G 1 = m1 ∧ 0 ≤ m1 ∧ m1 ≤ 10) (hD : Rw h A N D) (hE : Rw h C N E) (hZ : Rw h I N Z) (hW : Rw h J M W) (hF : Rw h O M F) (hY : Rw h L M Y) (hr : 0 ≤ o ∧ o + 10 ≤ N) (ht : 0 ≤ t ∧ t + 10 ≤ M) (hL : edk (vwS w v) (vwS w v') 8 = llL (lsd D W E F Z Y o t) (fun k => (if k = 4 ∨ k = 5 then m1 else m).toNat) 7) (KK : ∀ h', Wd h' w → Gr h h' 1 6 → P (.inl (some (.int (iI 1)))) h') : En V (d + 7) 14 0 [some (.ref 0), some (.int (iI v)), some (.int (iI v')), some (.ref B), some (.ref A), some (.ref C), some (.ref I), some (.int (iI o)), some (.ref J), some (.ref O), some (.ref L), some (.int (iI t)), none, none, none, none, none, none, none] [] h P := by
  have hsm := edk_small hd
  have hs1 := hsm.1
  generalize hc : lsd D W E F Z Y o t = c at *
  generalize hcn : (fun k => (if k = 4 ∨ k = 5 then m1 else m).toNat) = cn at *
  have hcn4 : ∀ k : Nat, (cn k : Int) = if k = 4 ∨ k = 5 then m1 else m := fun k => by
    rw [← hcn]
    show (((if k = 4 ∨ k = 5 then m1 else m).toNat : Nat) : Int) = _
    split <;> omega
  have bB := hB.2.2.1
  refine n_go f_14_0 rfl (pc' := 1) (st' := .int (iI 0) :: _) rfl ?_
  refine n_go f_14_1 rfl (pc' := 3) (ls' := [_, _, _, _, _, _, _, _, _, _, _, _, _, _, _, _, _, _, _]) rfl ?_
  refine n_go f_14_3 rfl (pc' := 4) (st' := .int (iI 0) :: _) rfl ?_
  refine n_go f_14_4 rfl (pc' := 6) (ls' := [_, _, _, _, _, _, _, _, _, _, _, _, _, _, _, _, _, _, _]) rfl ?_
  refine n_go f_14_6 rfl (pc' := 7) (st' := .int (iI 0) :: _) rfl ?_
  refine n_go f_14_7 rfl (pc' := 9) (ls' := [_, _, _, _, _, _, _, _, _, _, _, _, _, _, _, _, _, _, _]) rfl ?_
  refine n_for (lo := 0) (hi := 7) (by decide) (fun kd ls st h' => (∃ u15 u16 u17 u18, ls = [some (.ref 0), some (.int (iI v)), some (.int (iI v')), some (.ref B), some (.ref A), some (.ref C), some (.ref I), some (.int (iI o)), some (.ref J), some (.ref O), some (.ref L), some (.int (iI t)), some (.int (iI (3 * ((llL c cn kd.toNat).length : Int)))), some (.int (iI (((llL c cn kd.toNat).length : Int)))), some (.int (iI kd)), u15, u16, u17, u18]) ∧ st = [] ∧ Wd h' w ∧ Qk h h') ⟨⟨_, _, _, _, rfl⟩, rfl, hWd, Qk.rf h⟩ ?_ ?_
  · rintro kd ls st h1 k1 k2 ⟨⟨u15, u16, u17, u18, rfl⟩, rfl, hW1, hQ1⟩ kk
    have eks : (kd + 1).toNat = kd.toNat + 1 := by omega
    have ek : ((kd.toNat : Nat) : Int) = kd := by omega
    have hcnk := hcn4 kd.toNat
    have inner : ∀ u17 u18, En V (d + 7) 14 88 [some (.ref 0), some (.int (iI v)), some (.int (iI v')), some (.ref B), some (.ref A), some (.ref C), some (.ref I), some (.int (iI o)), some (.ref J), some (.ref O), some (.ref L), some (.int (iI t)), some (.int (iI (3 * ((llL c cn kd.toNat).length : Int)))), some (.int (iI (((llL c cn kd.toNat).length : Int)))), some (.int (iI kd)), some (.int (iI (sgn (ckk kd.toNat)))), some (.int (iI 0)), u17, u18] [] h1 P := fun u17 u18 => by
      refine n_for (lo := 0) (hi := (cn kd.toNat : Int)) (by omega) (fun i ls st h' => (∃ u17 u18, ls = [some (.ref 0), some (.int (iI v)), some (.int (iI v')), some (.ref B), some (.ref A), some (.ref C), some (.ref I), some (.int (iI o)), some (.ref J), some (.ref O), some (.ref L), some (.int (iI t)), some (.int (iI (3 * (((llL c cn kd.toNat) ++ rlL c kd.toNat i.toNat).length : Int)))), some (.int (iI ((((llL c cn kd.toNat) ++ rlL c kd.toNat i.toNat).length : Int)))), some (.int (iI kd)), some (.int (iI (sgn (ckk kd.toNat)))), some (.int (iI i)), u17, u18]) ∧ st = [] ∧ Wd h' w ∧ Qk h h') ⟨⟨u17, u18, ?_⟩, rfl, hW1, hQ1⟩ ?_ ?_
      · rw [show rlL c kd.toNat (0 : Int).toNat = [] from rfl, List.append_nil]
      · rintro i ls st h2 i1 i2 ⟨⟨u17, u18, rfl⟩, rfl, hW2, hQ2⟩ k3
        have eis : (i + 1).toNat = i.toNat + 1 := by omega
        have ei : ((i.toNat : Nat) : Int) = i := by omega
        have hi10 : i < 10 := by
          split at hcnk <;> omega
        have b1 := (hB.qk hQ2).1
        have main : En V (d + 7) 14 114 [some (.ref 0), some (.int (iI v)), some (.int (iI v')), some (.ref B), some (.ref A), some (.ref C), some (.ref I), some (.int (iI o)), some (.ref J), some (.ref O), some (.ref L), some (.int (iI t)), some (.int (iI (3 * (((llL c cn kd.toNat) ++ rlL c kd.toNat i.toNat).length : Int)))), some (.int (iI ((((llL c cn kd.toNat) ++ rlL c kd.toNat i.toNat).length : Int)))), some (.int (iI kd)), some (.int (iI (sgn (ckk kd.toNat)))), some (.int (iI i)), u17, u18] [] h2 P := by
          refine c_ldue (hD.qk hQ2) (hE.qk hQ2) (hZ.qk hQ2) (hW.qk hQ2) (hF.qk hQ2) (hY.qk hQ2) hr ht ⟨i1, hi10⟩ ⟨k1, k2⟩ (fun b17 => ?_)
          rw [hc]
          refine n_go f_14_419 rfl (pc' := 421) (ls' := [_, _, _, _, _, _, _, _, _, _, _, _, _, _, _, _, _, _, _]) rfl ?_
          refine n_go f_14_421 rfl (pc' := 423) rfl ?_
          refine n_ib_eq f_14_423 rfl rfl (fun e1 => ?_) (fun e1 => ?_)
          · refine n_iinc (m' := 1) (ls' := [_, _, _, _, _, _, _, _, _, _, _, _, _, _, _, _, _, _, _]) f_14_443 rfl rfl rfl rfl ?_
            refine n_go f_14_446 rfl (pc' := 88) rfl ?_
            have e8 : rlL c kd.toNat (i + 1).toNat = rlL c kd.toNat i.toNat := by
              rw [eis]
              show rlL c kd.toNat i.toNat ++ (if c kd.toNat (i.toNat : Nat) = true then _ else _) = _
              rw [ek, ei, e1, if_neg (by decide), List.append_nil]
            exact k3 _ _ _ ⟨⟨_, _, by rw [e8]⟩, rfl, hW2, hQ2⟩
          · have t0 := hW2.2.2.1.1
            have hx := ll_at c cn kd.toNat i.toNat (by omega) (by omega) (by rw [ek, ei]; exact e1)
            rw [← hL, ei] at hx
            have hlen : ((llL c cn kd.toNat) ++ rlL c kd.toNat i.toNat).length < (edk (vwS w v) (vwS w v') 8).length := (List.getElem?_eq_some_iff.mp hx).1
            refine n_go f_14_426 rfl (pc' := 427) rfl ?_
            refine n_go f_14_427 rfl (pc' := 428) rfl ?_
            refine n_go f_14_428 rfl (pc' := 429) rfl ?_
            refine n_go f_14_429 rfl (pc' := 431) rfl ?_
            refine n_go f_14_431 rfl (pc' := 433) rfl ?_
            refine n_go f_14_433 rfl (pc' := 435) rfl ?_
            refine n_cs (ls' := [_, _, _, _, _, _, _]) f_14_435 (by decide) m_58 rfl rfl ?_
            refine c_lstands hW2 hv ho hd hvr hor hx ⟨i1, hi10⟩ (fun h3 hW3 hQ3 => ?_)
            show En V _ _ 438 _ [_] _ _
            refine n_go f_14_438 rfl (pc' := 440) (ls' := [_, _, _, _, _, _, _, _, _, _, _, _, _, _, _, _, _, _, _]) rfl ?_
            refine n_iinc (m' := 1) (ls' := [_, _, _, _, _, _, _, _, _, _, _, _, _, _, _, _, _, _, _]) f_14_440 rfl rfl rfl rfl ?_
            refine n_iinc (m' := 1) (ls' := [_, _, _, _, _, _, _, _, _, _, _, _, _, _, _, _, _, _, _]) f_14_443 rfl rfl rfl rfl ?_
            refine n_go f_14_446 rfl (pc' := 88) rfl ?_
            have e9 : ((((llL c cn kd.toNat) ++ rlL c kd.toNat (i + 1).toNat).length : Nat) : Int) = (((llL c cn kd.toNat) ++ rlL c kd.toNat i.toNat).length : Int) + 1 := by
              rw [eis, show rlL c kd.toNat (i.toNat + 1) = rlL c kd.toNat i.toNat ++ [(ckk kd.toNat, ((i.toNat : Nat) : Int))] from by show rlL c kd.toNat i.toNat ++ (if c kd.toNat (i.toNat : Nat) = true then _ else _) = _; rw [ek, ei, e1, if_pos rfl]]
              simp only [List.length_append, List.length_cons, List.length_nil]
              omega
            have e10 : 3 * ((((llL c cn kd.toNat) ++ rlL c kd.toNat i.toNat).length : Int) + 1) = 3 * (((llL c cn kd.toNat) ++ rlL c kd.toNat i.toNat).length : Int) + 3 := by omega
            exact k3 _ _ _ ⟨⟨_, _, by rw [e9, e10]⟩, rfl, hW3, hQ2.tr hQ3⟩
        have i2x := i2
        clear i2
        rcases (by omega : kd = 0 ∨ kd = 1 ∨ kd = 2 ∨ kd = 3 ∨ kd = 4 ∨ kd = 5 ∨ kd = 6) with rfl | rfl | rfl | rfl | rfl | rfl | rfl
        · refine n_go f_14_88 rfl (pc' := 90) rfl ?_
          refine n_go f_14_90 rfl (pc' := 92) rfl ?_
          refine n_go f_14_92 rfl (pc' := 93) (st' := .int (iI 4) :: _) rfl ?_
          refine n_ic_eq f_14_93 rfl rfl ⟨by omega, by omega⟩ (fun e9 => absurd e9 (by omega)) (fun _ => ?_)
          refine n_go f_14_96 rfl (pc' := 98) rfl ?_
          refine n_go f_14_98 rfl (pc' := 99) (st' := .int (iI 5) :: _) rfl ?_
          refine n_ic_ne f_14_99 rfl rfl ⟨by omega, by omega⟩ (fun _ => ?_) (fun e9 => absurd (by omega) e9)
          refine n_go f_14_108 rfl (pc' := 109) rfl ?_
          refine n_go f_14_109 rfl (pc' := 110) (st' := .int (iI 0) :: _) rfl ?_
          refine n_ial f_14_110 rfl (b1) (by unfold ev_ext; omega) (by omega) ?_
          show En V _ _ 111 _ [.int (iI (G 0)), .int (iI i)] _ _
          rw [hm.1]
          have hq : (cn 0 : Int) = m := hcnk
          have i2 : i < (cn 0 : Int) := i2x
          refine n_ic_ge f_14_111 rfl rfl ⟨by omega, by omega⟩ (fun e9 => absurd e9 (by omega)) (fun _ => ?_)
          exact main
        · refine n_go f_14_88 rfl (pc' := 90) rfl ?_
          refine n_go f_14_90 rfl (pc' := 92) rfl ?_
          refine n_go f_14_92 rfl (pc' := 93) (st' := .int (iI 4) :: _) rfl ?_
          refine n_ic_eq f_14_93 rfl rfl ⟨by omega, by omega⟩ (fun e9 => absurd e9 (by omega)) (fun _ => ?_)
          refine n_go f_14_96 rfl (pc' := 98) rfl ?_
          refine n_go f_14_98 rfl (pc' := 99) (st' := .int (iI 5) :: _) rfl ?_
          refine n_ic_ne f_14_99 rfl rfl ⟨by omega, by omega⟩ (fun _ => ?_) (fun e9 => absurd (by omega) e9)
          refine n_go f_14_108 rfl (pc' := 109) rfl ?_
          refine n_go f_14_109 rfl (pc' := 110) (st' := .int (iI 0) :: _) rfl ?_
          refine n_ial f_14_110 rfl (b1) (by unfold ev_ext; omega) (by omega) ?_
          show En V _ _ 111 _ [.int (iI (G 0)), .int (iI i)] _ _
          rw [hm.1]
          have hq : (cn 1 : Int) = m := hcnk
          have i2 : i < (cn 1 : Int) := i2x
          refine n_ic_ge f_14_111 rfl rfl ⟨by omega, by omega⟩ (fun e9 => absurd e9 (by omega)) (fun _ => ?_)
          exact main
        · refine n_go f_14_88 rfl (pc' := 90) rfl ?_
          refine n_go f_14_90 rfl (pc' := 92) rfl ?_
          refine n_go f_14_92 rfl (pc' := 93) (st' := .int (iI 4) :: _) rfl ?_
          refine n_ic_eq f_14_93 rfl rfl ⟨by omega, by omega⟩ (fun e9 => absurd e9 (by omega)) (fun _ => ?_)
          refine n_go f_14_96 rfl (pc' := 98) rfl ?_
          refine n_go f_14_98 rfl (pc' := 99) (st' := .int (iI 5) :: _) rfl ?_
          refine n_ic_ne f_14_99 rfl rfl ⟨by omega, by omega⟩ (fun _ => ?_) (fun e9 => absurd (by omega) e9)
          refine n_go f_14_108 rfl (pc' := 109) rfl ?_
          refine n_go f_14_109 rfl (pc' := 110) (st' := .int (iI 0) :: _) rfl ?_
          refine n_ial f_14_110 rfl (b1) (by unfold ev_ext; omega) (by omega) ?_
          show En V _ _ 111 _ [.int (iI (G 0)), .int (iI i)] _ _
          rw [hm.1]
          have hq : (cn 2 : Int) = m := hcnk
          have i2 : i < (cn 2 : Int) := i2x
          refine n_ic_ge f_14_111 rfl rfl ⟨by omega, by omega⟩ (fun e9 => absurd e9 (by omega)) (fun _ => ?_)
          exact main
        · refine n_go f_14_88 rfl (pc' := 90) rfl ?_
          refine n_go f_14_90 rfl (pc' := 92) rfl ?_
          refine n_go f_14_92 rfl (pc' := 93) (st' := .int (iI 4) :: _) rfl ?_
          refine n_ic_eq f_14_93 rfl rfl ⟨by omega, by omega⟩ (fun e9 => absurd e9 (by omega)) (fun _ => ?_)
          refine n_go f_14_96 rfl (pc' := 98) rfl ?_
          refine n_go f_14_98 rfl (pc' := 99) (st' := .int (iI 5) :: _) rfl ?_
          refine n_ic_ne f_14_99 rfl rfl ⟨by omega, by omega⟩ (fun _ => ?_) (fun e9 => absurd (by omega) e9)
          refine n_go f_14_108 rfl (pc' := 109) rfl ?_
          refine n_go f_14_109 rfl (pc' := 110) (st' := .int (iI 0) :: _) rfl ?_
          refine n_ial f_14_110 rfl (b1) (by unfold ev_ext; omega) (by omega) ?_
          show En V _ _ 111 _ [.int (iI (G 0)), .int (iI i)] _ _
          rw [hm.1]
          have hq : (cn 3 : Int) = m := hcnk
          have i2 : i < (cn 3 : Int) := i2x
          refine n_ic_ge f_14_111 rfl rfl ⟨by omega, by omega⟩ (fun e9 => absurd e9 (by omega)) (fun _ => ?_)
          exact main
        · refine n_go f_14_88 rfl (pc' := 90) rfl ?_
          refine n_go f_14_90 rfl (pc' := 92) rfl ?_
          refine n_go f_14_92 rfl (pc' := 93) (st' := .int (iI 4) :: _) rfl ?_
          refine n_ic_eq f_14_93 rfl rfl ⟨by omega, by omega⟩ (fun _ => ?_) (fun e9 => absurd (by omega) e9)
          refine n_go f_14_102 rfl (pc' := 103) rfl ?_
          refine n_go f_14_103 rfl (pc' := 104) (st' := .int (iI 1) :: _) rfl ?_
          refine n_ial f_14_104 rfl (b1) (by unfold ev_ext; omega) (by omega) ?_
          refine n_go f_14_105 rfl (pc' := 111) rfl ?_
          show En V _ _ 111 _ [.int (iI (G 1)), .int (iI i)] _ _
          rw [hm1.1]
          have hq : (cn 4 : Int) = m1 := hcnk
          have i2 : i < (cn 4 : Int) := i2x
          refine n_ic_ge f_14_111 rfl rfl ⟨by omega, by omega⟩ (fun e9 => absurd e9 (by omega)) (fun _ => ?_)
          exact main
        · refine n_go f_14_88 rfl (pc' := 90) rfl ?_
          refine n_go f_14_90 rfl (pc' := 92) rfl ?_
          refine n_go f_14_92 rfl (pc' := 93) (st' := .int (iI 4) :: _) rfl ?_
          refine n_ic_eq f_14_93 rfl rfl ⟨by omega, by omega⟩ (fun e9 => absurd e9 (by omega)) (fun _ => ?_)
          refine n_go f_14_96 rfl (pc' := 98) rfl ?_
          refine n_go f_14_98 rfl (pc' := 99) (st' := .int (iI 5) :: _) rfl ?_
          refine n_ic_ne f_14_99 rfl rfl ⟨by omega, by omega⟩ (fun e9 => absurd e9 (by omega)) (fun _ => ?_)
          refine n_go f_14_102 rfl (pc' := 103) rfl ?_
          refine n_go f_14_103 rfl (pc' := 104) (st' := .int (iI 1) :: _) rfl ?_
          refine n_ial f_14_104 rfl (b1) (by unfold ev_ext; omega) (by omega) ?_
          refine n_go f_14_105 rfl (pc' := 111) rfl ?_
          show En V _ _ 111 _ [.int (iI (G 1)), .int (iI i)] _ _
          rw [hm1.1]
          have hq : (cn 5 : Int) = m1 := hcnk
          have i2 : i < (cn 5 : Int) := i2x
          refine n_ic_ge f_14_111 rfl rfl ⟨by omega, by omega⟩ (fun e9 => absurd e9 (by omega)) (fun _ => ?_)
          exact main
        · refine n_go f_14_88 rfl (pc' := 90) rfl ?_
          refine n_go f_14_90 rfl (pc' := 92) rfl ?_
          refine n_go f_14_92 rfl (pc' := 93) (st' := .int (iI 4) :: _) rfl ?_
          refine n_ic_eq f_14_93 rfl rfl ⟨by omega, by omega⟩ (fun e9 => absurd e9 (by omega)) (fun _ => ?_)
          refine n_go f_14_96 rfl (pc' := 98) rfl ?_
          refine n_go f_14_98 rfl (pc' := 99) (st' := .int (iI 5) :: _) rfl ?_
          refine n_ic_ne f_14_99 rfl rfl ⟨by omega, by omega⟩ (fun _ => ?_) (fun e9 => absurd (by omega) e9)
          refine n_go f_14_108 rfl (pc' := 109) rfl ?_
          refine n_go f_14_109 rfl (pc' := 110) (st' := .int (iI 0) :: _) rfl ?_
          refine n_ial f_14_110 rfl (b1) (by unfold ev_ext; omega) (by omega) ?_
          show En V _ _ 111 _ [.int (iI (G 0)), .int (iI i)] _ _
          rw [hm.1]
          have hq : (cn 6 : Int) = m := hcnk
          have i2 : i < (cn 6 : Int) := i2x
          refine n_ic_ge f_14_111 rfl rfl ⟨by omega, by omega⟩ (fun e9 => absurd e9 (by omega)) (fun _ => ?_)
          exact main
      · rintro ls st h2 ⟨⟨u17, u18, rfl⟩, rfl, hW2, hQ2⟩
        have b1 := (hB.qk hQ2).1
        have main : En V (d + 7) 14 449 [some (.ref 0), some (.int (iI v)), some (.int (iI v')), some (.ref B), some (.ref A), some (.ref C), some (.ref I), some (.int (iI o)), some (.ref J), some (.ref O), some (.ref L), some (.int (iI t)), some (.int (iI (3 * (((llL c cn kd.toNat) ++ rlL c kd.toNat (cn kd.toNat : Int).toNat).length : Int)))), some (.int (iI ((((llL c cn kd.toNat) ++ rlL c kd.toNat (cn kd.toNat : Int).toNat).length : Int)))), some (.int (iI kd)), some (.int (iI (sgn (ckk kd.toNat)))), some (.int (iI (cn kd.toNat : Int))), u17, u18] [] h2 P := by
          refine n_iinc (m' := 1) (ls' := [_, _, _, _, _, _, _, _, _, _, _, _, _, _, _, _, _, _, _]) f_14_449 rfl rfl rfl rfl ?_
          refine n_go f_14_452 rfl (pc' := 9) rfl ?_
          have e8 : llL c cn (kd + 1).toNat = llL c cn kd.toNat ++ rlL c kd.toNat (cn kd.toNat : Int).toNat := by
            rw [eks, show (cn kd.toNat : Int).toNat = cn kd.toNat by omega]
            rfl
          exact kk _ _ _ ⟨⟨_, _, _, _, by rw [e8]⟩, rfl, hW2, hQ2⟩
        rcases (by omega : kd = 0 ∨ kd = 1 ∨ kd = 2 ∨ kd = 3 ∨ kd = 4 ∨ kd = 5 ∨ kd = 6) with rfl | rfl | rfl | rfl | rfl | rfl | rfl
        · refine n_go f_14_88 rfl (pc' := 90) rfl ?_
          refine n_go f_14_90 rfl (pc' := 92) rfl ?_
          refine n_go f_14_92 rfl (pc' := 93) (st' := .int (iI 4) :: _) rfl ?_
          refine n_ic_eq f_14_93 rfl rfl ⟨by omega, by omega⟩ (fun e9 => absurd e9 (by omega)) (fun _ => ?_)
          refine n_go f_14_96 rfl (pc' := 98) rfl ?_
          refine n_go f_14_98 rfl (pc' := 99) (st' := .int (iI 5) :: _) rfl ?_
          refine n_ic_ne f_14_99 rfl rfl ⟨by omega, by omega⟩ (fun _ => ?_) (fun e9 => absurd (by omega) e9)
          refine n_go f_14_108 rfl (pc' := 109) rfl ?_
          refine n_go f_14_109 rfl (pc' := 110) (st' := .int (iI 0) :: _) rfl ?_
          refine n_ial f_14_110 rfl (b1) (by unfold ev_ext; omega) (by omega) ?_
          show En V _ _ 111 _ [.int (iI (G 0)), .int (iI (cn 0 : Int))] _ _
          rw [hm.1]
          have hq : (cn 0 : Int) = m := hcnk
          refine n_ic_ge f_14_111 rfl rfl ⟨by omega, by omega⟩ (fun _ => ?_) (fun e9 => absurd (by omega) e9)
          exact main
        · refine n_go f_14_88 rfl (pc' := 90) rfl ?_
          refine n_go f_14_90 rfl (pc' := 92) rfl ?_
          refine n_go f_14_92 rfl (pc' := 93) (st' := .int (iI 4) :: _) rfl ?_
          refine n_ic_eq f_14_93 rfl rfl ⟨by omega, by omega⟩ (fun e9 => absurd e9 (by omega)) (fun _ => ?_)
          refine n_go f_14_96 rfl (pc' := 98) rfl ?_
          refine n_go f_14_98 rfl (pc' := 99) (st' := .int (iI 5) :: _) rfl ?_
          refine n_ic_ne f_14_99 rfl rfl ⟨by omega, by omega⟩ (fun _ => ?_) (fun e9 => absurd (by omega) e9)
          refine n_go f_14_108 rfl (pc' := 109) rfl ?_
          refine n_go f_14_109 rfl (pc' := 110) (st' := .int (iI 0) :: _) rfl ?_
          refine n_ial f_14_110 rfl (b1) (by unfold ev_ext; omega) (by omega) ?_
          show En V _ _ 111 _ [.int (iI (G 0)), .int (iI (cn 1 : Int))] _ _
          rw [hm.1]
          have hq : (cn 1 : Int) = m := hcnk
          refine n_ic_ge f_14_111 rfl rfl ⟨by omega, by omega⟩ (fun _ => ?_) (fun e9 => absurd (by omega) e9)
          exact main
        · refine n_go f_14_88 rfl (pc' := 90) rfl ?_
          refine n_go f_14_90 rfl (pc' := 92) rfl ?_
          refine n_go f_14_92 rfl (pc' := 93) (st' := .int (iI 4) :: _) rfl ?_
          refine n_ic_eq f_14_93 rfl rfl ⟨by omega, by omega⟩ (fun e9 => absurd e9 (by omega)) (fun _ => ?_)
          refine n_go f_14_96 rfl (pc' := 98) rfl ?_
          refine n_go f_14_98 rfl (pc' := 99) (st' := .int (iI 5) :: _) rfl ?_
          refine n_ic_ne f_14_99 rfl rfl ⟨by omega, by omega⟩ (fun _ => ?_) (fun e9 => absurd (by omega) e9)
          refine n_go f_14_108 rfl (pc' := 109) rfl ?_
          refine n_go f_14_109 rfl (pc' := 110) (st' := .int (iI 0) :: _) rfl ?_
          refine n_ial f_14_110 rfl (b1) (by unfold ev_ext; omega) (by omega) ?_
          show En V _ _ 111 _ [.int (iI (G 0)), .int (iI (cn 2 : Int))] _ _
          rw [hm.1]
          have hq : (cn 2 : Int) = m := hcnk
          refine n_ic_ge f_14_111 rfl rfl ⟨by omega, by omega⟩ (fun _ => ?_) (fun e9 => absurd (by omega) e9)
          exact main
        · refine n_go f_14_88 rfl (pc' := 90) rfl ?_
          refine n_go f_14_90 rfl (pc' := 92) rfl ?_
          refine n_go f_14_92 rfl (pc' := 93) (st' := .int (iI 4) :: _) rfl ?_
          refine n_ic_eq f_14_93 rfl rfl ⟨by omega, by omega⟩ (fun e9 => absurd e9 (by omega)) (fun _ => ?_)
          refine n_go f_14_96 rfl (pc' := 98) rfl ?_
          refine n_go f_14_98 rfl (pc' := 99) (st' := .int (iI 5) :: _) rfl ?_
          refine n_ic_ne f_14_99 rfl rfl ⟨by omega, by omega⟩ (fun _ => ?_) (fun e9 => absurd (by omega) e9)
          refine n_go f_14_108 rfl (pc' := 109) rfl ?_
          refine n_go f_14_109 rfl (pc' := 110) (st' := .int (iI 0) :: _) rfl ?_
          refine n_ial f_14_110 rfl (b1) (by unfold ev_ext; omega) (by omega) ?_
          show En V _ _ 111 _ [.int (iI (G 0)), .int (iI (cn 3 : Int))] _ _
          rw [hm.1]
          have hq : (cn 3 : Int) = m := hcnk
          refine n_ic_ge f_14_111 rfl rfl ⟨by omega, by omega⟩ (fun _ => ?_) (fun e9 => absurd (by omega) e9)
          exact main
        · refine n_go f_14_88 rfl (pc' := 90) rfl ?_
          refine n_go f_14_90 rfl (pc' := 92) rfl ?_
          refine n_go f_14_92 rfl (pc' := 93) (st' := .int (iI 4) :: _) rfl ?_
          refine n_ic_eq f_14_93 rfl rfl ⟨by omega, by omega⟩ (fun _ => ?_) (fun e9 => absurd (by omega) e9)
          refine n_go f_14_102 rfl (pc' := 103) rfl ?_
          refine n_go f_14_103 rfl (pc' := 104) (st' := .int (iI 1) :: _) rfl ?_
          refine n_ial f_14_104 rfl (b1) (by unfold ev_ext; omega) (by omega) ?_
          refine n_go f_14_105 rfl (pc' := 111) rfl ?_
          show En V _ _ 111 _ [.int (iI (G 1)), .int (iI (cn 4 : Int))] _ _
          rw [hm1.1]
          have hq : (cn 4 : Int) = m1 := hcnk
          refine n_ic_ge f_14_111 rfl rfl ⟨by omega, by omega⟩ (fun _ => ?_) (fun e9 => absurd (by omega) e9)
          exact main
        · refine n_go f_14_88 rfl (pc' := 90) rfl ?_
          refine n_go f_14_90 rfl (pc' := 92) rfl ?_
          refine n_go f_14_92 rfl (pc' := 93) (st' := .int (iI 4) :: _) rfl ?_
          refine n_ic_eq f_14_93 rfl rfl ⟨by omega, by omega⟩ (fun e9 => absurd e9 (by omega)) (fun _ => ?_)
          refine n_go f_14_96 rfl (pc' := 98) rfl ?_
          refine n_go f_14_98 rfl (pc' := 99) (st' := .int (iI 5) :: _) rfl ?_
          refine n_ic_ne f_14_99 rfl rfl ⟨by omega, by omega⟩ (fun e9 => absurd e9 (by omega)) (fun _ => ?_)
          refine n_go f_14_102 rfl (pc' := 103) rfl ?_
          refine n_go f_14_103 rfl (pc' := 104) (st' := .int (iI 1) :: _) rfl ?_
          refine n_ial f_14_104 rfl (b1) (by unfold ev_ext; omega) (by omega) ?_
          refine n_go f_14_105 rfl (pc' := 111) rfl ?_
          show En V _ _ 111 _ [.int (iI (G 1)), .int (iI (cn 5 : Int))] _ _
          rw [hm1.1]
          have hq : (cn 5 : Int) = m1 := hcnk
          refine n_ic_ge f_14_111 rfl rfl ⟨by omega, by omega⟩ (fun _ => ?_) (fun e9 => absurd (by omega) e9)
          exact main
        · refine n_go f_14_88 rfl (pc' := 90) rfl ?_
          refine n_go f_14_90 rfl (pc' := 92) rfl ?_
          refine n_go f_14_92 rfl (pc' := 93) (st' := .int (iI 4) :: _) rfl ?_
          refine n_ic_eq f_14_93 rfl rfl ⟨by omega, by omega⟩ (fun e9 => absurd e9 (by omega)) (fun _ => ?_)
          refine n_go f_14_96 rfl (pc' := 98) rfl ?_
          refine n_go f_14_98 rfl (pc' := 99) (st' := .int (iI 5) :: _) rfl ?_
          refine n_ic_ne f_14_99 rfl rfl ⟨by omega, by omega⟩ (fun _ => ?_) (fun e9 => absurd (by omega) e9)
          refine n_go f_14_108 rfl (pc' := 109) rfl ?_
          refine n_go f_14_109 rfl (pc' := 110) (st' := .int (iI 0) :: _) rfl ?_
          refine n_ial f_14_110 rfl (b1) (by unfold ev_ext; omega) (by omega) ?_
          show En V _ _ 111 _ [.int (iI (G 0)), .int (iI (cn 6 : Int))] _ _
          rw [hm.1]
          have hq : (cn 6 : Int) = m := hcnk
          refine n_ic_ge f_14_111 rfl rfl ⟨by omega, by omega⟩ (fun _ => ?_) (fun e9 => absurd (by omega) e9)
          exact main
    rcases (by omega : kd = 0 ∨ kd = 1 ∨ kd = 2 ∨ kd = 3 ∨ kd = 4 ∨ kd = 5 ∨ kd = 6) with rfl | rfl | rfl | rfl | rfl | rfl | rfl
    · refine n_go f_14_9 rfl (pc' := 11) rfl ?_
      refine n_bip (m := 7) f_14_11 rfl (by decide) ?_
      refine n_ic_ge f_14_13 rfl rfl ⟨by omega, by omega⟩ (fun e9 => absurd e9 (by omega)) (fun _ => ?_)
      refine n_go f_14_16 rfl (pc' := 18) rfl ?_
      refine n_if_ne f_14_18 rfl rfl (by omega) (fun e9 => absurd e9 (by omega)) (fun _ => ?_)
      refine n_bip (m := 43) f_14_21 rfl (by decide) ?_
      refine n_go f_14_23 rfl (pc' := 83) rfl ?_
      refine n_go f_14_83 rfl (pc' := 85) (ls' := [_, _, _, _, _, _, _, _, _, _, _, _, _, _, _, _, _, _, _]) rfl ?_
      refine n_go f_14_85 rfl (pc' := 86) (st' := .int (iI 0) :: _) rfl ?_
      refine n_go f_14_86 rfl (pc' := 88) (ls' := [_, _, _, _, _, _, _, _, _, _, _, _, _, _, _, _, _, _, _]) rfl ?_
      exact inner _ _
    · refine n_go f_14_9 rfl (pc' := 11) rfl ?_
      refine n_bip (m := 7) f_14_11 rfl (by decide) ?_
      refine n_ic_ge f_14_13 rfl rfl ⟨by omega, by omega⟩ (fun e9 => absurd e9 (by omega)) (fun _ => ?_)
      refine n_go f_14_16 rfl (pc' := 18) rfl ?_
      refine n_if_ne f_14_18 rfl rfl (by omega) (fun _ => ?_) (fun e9 => absurd (by omega) e9)
      refine n_go f_14_26 rfl (pc' := 28) rfl ?_
      refine n_go f_14_28 rfl (pc' := 29) (st' := .int (iI 1) :: _) rfl ?_
      refine n_ic_ne f_14_29 rfl rfl ⟨by omega, by omega⟩ (fun e9 => absurd e9 (by omega)) (fun _ => ?_)
      refine n_bip (m := 42) f_14_32 rfl (by decide) ?_
      refine n_go f_14_34 rfl (pc' := 83) rfl ?_
      refine n_go f_14_83 rfl (pc' := 85) (ls' := [_, _, _, _, _, _, _, _, _, _, _, _, _, _, _, _, _, _, _]) rfl ?_
      refine n_go f_14_85 rfl (pc' := 86) (st' := .int (iI 0) :: _) rfl ?_
      refine n_go f_14_86 rfl (pc' := 88) (ls' := [_, _, _, _, _, _, _, _, _, _, _, _, _, _, _, _, _, _, _]) rfl ?_
      exact inner _ _
    · refine n_go f_14_9 rfl (pc' := 11) rfl ?_
      refine n_bip (m := 7) f_14_11 rfl (by decide) ?_
      refine n_ic_ge f_14_13 rfl rfl ⟨by omega, by omega⟩ (fun e9 => absurd e9 (by omega)) (fun _ => ?_)
      refine n_go f_14_16 rfl (pc' := 18) rfl ?_
      refine n_if_ne f_14_18 rfl rfl (by omega) (fun _ => ?_) (fun e9 => absurd (by omega) e9)
      refine n_go f_14_26 rfl (pc' := 28) rfl ?_
      refine n_go f_14_28 rfl (pc' := 29) (st' := .int (iI 1) :: _) rfl ?_
      refine n_ic_ne f_14_29 rfl rfl ⟨by omega, by omega⟩ (fun _ => ?_) (fun e9 => absurd (by omega) e9)
      refine n_go f_14_37 rfl (pc' := 39) rfl ?_
      refine n_go f_14_39 rfl (pc' := 40) (st' := .int (iI 2) :: _) rfl ?_
      refine n_ic_ne f_14_40 rfl rfl ⟨by omega, by omega⟩ (fun e9 => absurd e9 (by omega)) (fun _ => ?_)
      refine n_bip (m := 35) f_14_43 rfl (by decide) ?_
      refine n_go f_14_45 rfl (pc' := 83) rfl ?_
      refine n_go f_14_83 rfl (pc' := 85) (ls' := [_, _, _, _, _, _, _, _, _, _, _, _, _, _, _, _, _, _, _]) rfl ?_
      refine n_go f_14_85 rfl (pc' := 86) (st' := .int (iI 0) :: _) rfl ?_
      refine n_go f_14_86 rfl (pc' := 88) (ls' := [_, _, _, _, _, _, _, _, _, _, _, _, _, _, _, _, _, _, _]) rfl ?_
      exact inner _ _
    · refine n_go f_14_9 rfl (pc' := 11) rfl ?_
      refine n_bip (m := 7) f_14_11 rfl (by decide) ?_
      refine n_ic_ge f_14_13 rfl rfl ⟨by omega, by omega⟩ (fun e9 => absurd e9 (by omega)) (fun _ => ?_)
      refine n_go f_14_16 rfl (pc' := 18) rfl ?_
      refine n_if_ne f_14_18 rfl rfl (by omega) (fun _ => ?_) (fun e9 => absurd (by omega) e9)
      refine n_go f_14_26 rfl (pc' := 28) rfl ?_
      refine n_go f_14_28 rfl (pc' := 29) (st' := .int (iI 1) :: _) rfl ?_
      refine n_ic_ne f_14_29 rfl rfl ⟨by omega, by omega⟩ (fun _ => ?_) (fun e9 => absurd (by omega) e9)
      refine n_go f_14_37 rfl (pc' := 39) rfl ?_
      refine n_go f_14_39 rfl (pc' := 40) (st' := .int (iI 2) :: _) rfl ?_
      refine n_ic_ne f_14_40 rfl rfl ⟨by omega, by omega⟩ (fun _ => ?_) (fun e9 => absurd (by omega) e9)
      refine n_go f_14_48 rfl (pc' := 50) rfl ?_
      refine n_go f_14_50 rfl (pc' := 51) (st' := .int (iI 3) :: _) rfl ?_
      refine n_ic_ne f_14_51 rfl rfl ⟨by omega, by omega⟩ (fun e9 => absurd e9 (by omega)) (fun _ => ?_)
      refine n_bip (m := 64) f_14_54 rfl (by decide) ?_
      refine n_go f_14_56 rfl (pc' := 83) rfl ?_
      refine n_go f_14_83 rfl (pc' := 85) (ls' := [_, _, _, _, _, _, _, _, _, _, _, _, _, _, _, _, _, _, _]) rfl ?_
      refine n_go f_14_85 rfl (pc' := 86) (st' := .int (iI 0) :: _) rfl ?_
      refine n_go f_14_86 rfl (pc' := 88) (ls' := [_, _, _, _, _, _, _, _, _, _, _, _, _, _, _, _, _, _, _]) rfl ?_
      exact inner _ _
    · refine n_go f_14_9 rfl (pc' := 11) rfl ?_
      refine n_bip (m := 7) f_14_11 rfl (by decide) ?_
      refine n_ic_ge f_14_13 rfl rfl ⟨by omega, by omega⟩ (fun e9 => absurd e9 (by omega)) (fun _ => ?_)
      refine n_go f_14_16 rfl (pc' := 18) rfl ?_
      refine n_if_ne f_14_18 rfl rfl (by omega) (fun _ => ?_) (fun e9 => absurd (by omega) e9)
      refine n_go f_14_26 rfl (pc' := 28) rfl ?_
      refine n_go f_14_28 rfl (pc' := 29) (st' := .int (iI 1) :: _) rfl ?_
      refine n_ic_ne f_14_29 rfl rfl ⟨by omega, by omega⟩ (fun _ => ?_) (fun e9 => absurd (by omega) e9)
      refine n_go f_14_37 rfl (pc' := 39) rfl ?_
      refine n_go f_14_39 rfl (pc' := 40) (st' := .int (iI 2) :: _) rfl ?_
      refine n_ic_ne f_14_40 rfl rfl ⟨by omega, by omega⟩ (fun _ => ?_) (fun e9 => absurd (by omega) e9)
      refine n_go f_14_48 rfl (pc' := 50) rfl ?_
      refine n_go f_14_50 rfl (pc' := 51) (st' := .int (iI 3) :: _) rfl ?_
      refine n_ic_ne f_14_51 rfl rfl ⟨by omega, by omega⟩ (fun _ => ?_) (fun e9 => absurd (by omega) e9)
      refine n_go f_14_59 rfl (pc' := 61) rfl ?_
      refine n_go f_14_61 rfl (pc' := 62) (st' := .int (iI 4) :: _) rfl ?_
      refine n_ic_ne f_14_62 rfl rfl ⟨by omega, by omega⟩ (fun e9 => absurd e9 (by omega)) (fun _ => ?_)
      refine n_bip (m := 33) f_14_65 rfl (by decide) ?_
      refine n_go f_14_67 rfl (pc' := 83) rfl ?_
      refine n_go f_14_83 rfl (pc' := 85) (ls' := [_, _, _, _, _, _, _, _, _, _, _, _, _, _, _, _, _, _, _]) rfl ?_
      refine n_go f_14_85 rfl (pc' := 86) (st' := .int (iI 0) :: _) rfl ?_
      refine n_go f_14_86 rfl (pc' := 88) (ls' := [_, _, _, _, _, _, _, _, _, _, _, _, _, _, _, _, _, _, _]) rfl ?_
      exact inner _ _
    · refine n_go f_14_9 rfl (pc' := 11) rfl ?_
      refine n_bip (m := 7) f_14_11 rfl (by decide) ?_
      refine n_ic_ge f_14_13 rfl rfl ⟨by omega, by omega⟩ (fun e9 => absurd e9 (by omega)) (fun _ => ?_)
      refine n_go f_14_16 rfl (pc' := 18) rfl ?_
      refine n_if_ne f_14_18 rfl rfl (by omega) (fun _ => ?_) (fun e9 => absurd (by omega) e9)
      refine n_go f_14_26 rfl (pc' := 28) rfl ?_
      refine n_go f_14_28 rfl (pc' := 29) (st' := .int (iI 1) :: _) rfl ?_
      refine n_ic_ne f_14_29 rfl rfl ⟨by omega, by omega⟩ (fun _ => ?_) (fun e9 => absurd (by omega) e9)
      refine n_go f_14_37 rfl (pc' := 39) rfl ?_
      refine n_go f_14_39 rfl (pc' := 40) (st' := .int (iI 2) :: _) rfl ?_
      refine n_ic_ne f_14_40 rfl rfl ⟨by omega, by omega⟩ (fun _ => ?_) (fun e9 => absurd (by omega) e9)
      refine n_go f_14_48 rfl (pc' := 50) rfl ?_
      refine n_go f_14_50 rfl (pc' := 51) (st' := .int (iI 3) :: _) rfl ?_
      refine n_ic_ne f_14_51 rfl rfl ⟨by omega, by omega⟩ (fun _ => ?_) (fun e9 => absurd (by omega) e9)
      refine n_go f_14_59 rfl (pc' := 61) rfl ?_
      refine n_go f_14_61 rfl (pc' := 62) (st' := .int (iI 4) :: _) rfl ?_
      refine n_ic_ne f_14_62 rfl rfl ⟨by omega, by omega⟩ (fun _ => ?_) (fun e9 => absurd (by omega) e9)
      refine n_go f_14_70 rfl (pc' := 72) rfl ?_
      refine n_go f_14_72 rfl (pc' := 73) (st' := .int (iI 5) :: _) rfl ?_
      refine n_ic_ne f_14_73 rfl rfl ⟨by omega, by omega⟩ (fun e9 => absurd e9 (by omega)) (fun _ => ?_)
      refine n_bip (m := 126) f_14_76 rfl (by decide) ?_
      refine n_go f_14_78 rfl (pc' := 83) rfl ?_
      refine n_go f_14_83 rfl (pc' := 85) (ls' := [_, _, _, _, _, _, _, _, _, _, _, _, _, _, _, _, _, _, _]) rfl ?_
      refine n_go f_14_85 rfl (pc' := 86) (st' := .int (iI 0) :: _) rfl ?_
      refine n_go f_14_86 rfl (pc' := 88) (ls' := [_, _, _, _, _, _, _, _, _, _, _, _, _, _, _, _, _, _, _]) rfl ?_
      exact inner _ _
    · refine n_go f_14_9 rfl (pc' := 11) rfl ?_
      refine n_bip (m := 7) f_14_11 rfl (by decide) ?_
      refine n_ic_ge f_14_13 rfl rfl ⟨by omega, by omega⟩ (fun e9 => absurd e9 (by omega)) (fun _ => ?_)
      refine n_go f_14_16 rfl (pc' := 18) rfl ?_
      refine n_if_ne f_14_18 rfl rfl (by omega) (fun _ => ?_) (fun e9 => absurd (by omega) e9)
      refine n_go f_14_26 rfl (pc' := 28) rfl ?_
      refine n_go f_14_28 rfl (pc' := 29) (st' := .int (iI 1) :: _) rfl ?_
      refine n_ic_ne f_14_29 rfl rfl ⟨by omega, by omega⟩ (fun _ => ?_) (fun e9 => absurd (by omega) e9)
      refine n_go f_14_37 rfl (pc' := 39) rfl ?_
      refine n_go f_14_39 rfl (pc' := 40) (st' := .int (iI 2) :: _) rfl ?_
      refine n_ic_ne f_14_40 rfl rfl ⟨by omega, by omega⟩ (fun _ => ?_) (fun e9 => absurd (by omega) e9)
      refine n_go f_14_48 rfl (pc' := 50) rfl ?_
      refine n_go f_14_50 rfl (pc' := 51) (st' := .int (iI 3) :: _) rfl ?_
      refine n_ic_ne f_14_51 rfl rfl ⟨by omega, by omega⟩ (fun _ => ?_) (fun e9 => absurd (by omega) e9)
      refine n_go f_14_59 rfl (pc' := 61) rfl ?_
      refine n_go f_14_61 rfl (pc' := 62) (st' := .int (iI 4) :: _) rfl ?_
      refine n_ic_ne f_14_62 rfl rfl ⟨by omega, by omega⟩ (fun _ => ?_) (fun e9 => absurd (by omega) e9)
      refine n_go f_14_70 rfl (pc' := 72) rfl ?_
      refine n_go f_14_72 rfl (pc' := 73) (st' := .int (iI 5) :: _) rfl ?_
      refine n_ic_ne f_14_73 rfl rfl ⟨by omega, by omega⟩ (fun _ => ?_) (fun e9 => absurd (by omega) e9)
      refine n_bip (m := 45) f_14_81 rfl (by decide) ?_
      refine n_go f_14_83 rfl (pc' := 85) (ls' := [_, _, _, _, _, _, _, _, _, _, _, _, _, _, _, _, _, _, _]) rfl ?_
      refine n_go f_14_85 rfl (pc' := 86) (st' := .int (iI 0) :: _) rfl ?_
      refine n_go f_14_86 rfl (pc' := 88) (ls' := [_, _, _, _, _, _, _, _, _, _, _, _, _, _, _, _, _, _, _]) rfl ?_
      exact inner _ _
  · rintro ls st h1 ⟨⟨u15, u16, u17, u18, rfl⟩, rfl, hW1, hQ1⟩
    have hlen : (llL c cn (7 : Int).toNat).length = (edk (vwS w v) (vwS w v') 8).length := by rw [hL]; rfl
    rw [hlen]
    have t0 := hW1.2.2.1.1
    refine n_go f_14_9 rfl (pc' := 11) rfl ?_
    refine n_bip (m := 7) f_14_11 rfl (by decide) ?_
    refine n_ic_ge f_14_13 rfl rfl ⟨by omega, by omega⟩ (fun _ => ?_) (fun e9 => absurd (by omega) e9)
    refine n_go f_14_455 rfl (pc' := 457) rfl ?_
    refine n_go f_14_457 rfl (pc' := 458) (st' := .int (iI 3) :: _) rfl ?_
    refine n_go f_14_458 rfl (pc' := 460) rfl ?_
    refine n_imul f_14_460 rfl ?_
    refine n_ic_ne f_14_461 rfl rfl ⟨by omega, by omega⟩ (fun e9 => absurd e9 (by omega)) (fun _ => ?_)
    refine n_go f_14_464 rfl (pc' := 465) rfl ?_
    refine n_go f_14_465 rfl (pc' := 466) rfl ?_
    refine n_go f_14_466 rfl (pc' := 467) rfl ?_
    refine n_cv (ls' := [_, _, _]) f_14_467 (by decide) m_13 rfl rfl (by assumption) rfl ?_
    refine c_edits hW1 hv ho hd (fun h2 hW2 hQ2 => ?_)
    have u0 := hW2.2.2.1.1
    show En V _ _ 470 _ [_] _ _
    refine n_go f_14_470 rfl (pc' := 472) rfl ?_
    refine n_ic_ne f_14_472 rfl rfl ⟨by omega, by omega⟩ (fun e9 => absurd e9 (by omega)) (fun _ => ?_)
    refine n_go f_14_475 rfl (pc' := 476) rfl ?_
    refine n_bip (m := 12) f_14_476 rfl (by decide) ?_
    refine n_go f_14_478 rfl (pc' := 479) rfl ?_
    refine n_go f_14_479 rfl (pc' := 480) rfl ?_
    refine n_go f_14_480 rfl (pc' := 482) rfl ?_
    refine n_go f_14_482 rfl (pc' := 483) (st' := .int (iI 0) :: _) rfl ?_
    refine n_go f_14_483 rfl (pc' := 484) (st' := .int (iI 0) :: _) rfl ?_
    refine n_cs (ls' := [_, _, _, _, _, _, _, _]) f_14_484 (by decide) m_6 rfl rfl ?_
    refine d_scriptAt u0 (c_scriptAt hW2 hv ho hd (by omega) (fun e x r q1 q2 q3 q4 _ _ _ => ?_) (fun _ h3 hW3 hQ3 => ?_))
    · have := (List.getElem?_eq_some_iff.mp q4).1
      omega
    · show En V _ _ 487 _ [_] (xH h3 14) _
      refine n_bip (m := (-14)) f_14_487 rfl (by decide) ?_
      refine n_ic_ne f_14_489 rfl rfl ⟨by omega, by omega⟩ (fun e9 => absurd e9 (by omega)) (fun _ => ?_)
      refine n_go f_14_492 rfl (pc' := 493) (st' := .int (iI 1) :: _) rfl ?_
      refine n_go f_14_493 rfl (pc' := 497) rfl ?_
      first | refine n_rtz f_14_497 rfl ?_ | refine n_rt0 f_14_497 rfl ?_ | refine n_rt1 f_14_497 rfl ?_
      exact KK _ hW3.psh ((((hQ1.tr hQ2).tr hQ3).gr).tr (Gr.push _ _ _))
end LV
