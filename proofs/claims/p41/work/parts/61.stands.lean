/-! The law's stands. -/
section LT
variable {V : ev_V} {d : Nat} {h : ev_H} {P : ev_O → ev_H → Prop} {w : dW} {v o : Int}
theorem sc_at (hW : Wd h w) (hv : vwO w v) (ho : vwO w o) (hd : dlo (vwS w v) (vwS w o)) {e : Nat} {x : Int × Int} (hx : (edk (vwS w v) (vwS w o) 8)[e]? = some x) {r : Int} (hr : 0 ≤ r ∧ r < 3) {m : Int} (hm : m = 3 * (e : Int) + r) (KK : ∀ h', Wd h' w → Qk h h' → P (.inl (some (.int (iI (chr x r))))) h') : En V (d + 5) 54 0 [some (.ref 0), some (.int (iI v)), some (.int (iI o)), some (.int (iI m))] [] h P := by
  have hsm := edk_small hd
  have hl : e < (edk (vwS w v) (vwS w o) 8).length := (List.getElem?_eq_some_iff.mp hx).1
  have hs1 := hsm.1
  refine c_scriptAt hW hv ho hd (by omega) (fun e' x' r' q1 q2 q3 q4 h' g1 g2 => ?_) (fun q => by omega)
  have e1 : e' = e := by omega
  have e2 : r' = r := by omega
  subst e1 e2
  rw [hx] at q4
  have q5 : x = x' := by simpa using q4
  subst q5
  exact KK h' g1 g2
theorem c_lstands (hW : Wd h w) (hv : vwO w v) (ho : vwO w o) (hd : dlo (vwS w v) (vwS w o)) (hvr : -10 ≤ v ∧ v < 10) (hor : -10 ≤ o ∧ o < 10) {e : Nat} {x : Int × Int} (hx : (edk (vwS w v) (vwS w o) 8)[e]? = some x) (hn : 0 ≤ x.2 ∧ x.2 < 10) (KK : ∀ h', Wd h' w → Qk h h' → P (.inl (some (.int (iI (3 * (e : Int) + 3))))) h') : En V (d + 6) 58 0 [some (.ref 0), some (.int (iI v)), some (.int (iI o)), some (.int (iI (3 * (e : Int)))), some (.int (iI (sgn x.1))), some (.int (iI x.2)), none] [] h P := by
  have hsm := edk_small hd
  have hl : e < (edk (vwS w v) (vwS w o) 8).length := (List.getElem?_eq_some_iff.mp hx).1
  have hs1 := hsm.1
  have sg := sgn_r x.1
  have t0 := hW.2.2.1.1
  have c0 : chr x 0 = sgn x.1 := rfl
  have c1 : chr x 1 = 48 + x.2 := rfl
  have c2 : chr x 2 = 59 := rfl
  refine n_go f_58_0 rfl (pc' := 1) rfl ?_
  refine n_if_ge f_58_1 rfl rfl (by omega) (fun _ => ?_) (fun e9 => absurd (by omega) e9)
  refine n_go f_58_6 rfl (pc' := 7) rfl ?_
  refine n_go f_58_7 rfl (pc' := 8) rfl ?_
  refine n_go f_58_8 rfl (pc' := 9) rfl ?_
  refine n_go f_58_9 rfl (pc' := 10) rfl ?_
  refine n_cv (ls' := [_, _, _, _]) f_58_10 (by decide) m_54 rfl rfl (by assumption) rfl ?_
  refine sc_at hW hv ho hd hx (r := 0) (by decide) (by omega) (fun h1 hW1 hQ1 => ?_)
  have u0 := hW1.2.2.1.1
  show En V _ _ 13 _ [_] _ _
  refine n_go f_58_13 rfl (pc' := 15) rfl ?_
  refine n_i2c f_58_15 rfl (by omega) ?_
  refine n_ic_ne f_58_16 rfl rfl ⟨by omega, by omega⟩ (fun e9 => absurd e9 (by omega)) (fun _ => ?_)
  refine n_go f_58_19 rfl (pc' := 20) rfl ?_
  refine n_go f_58_20 rfl (pc' := 21) rfl ?_
  refine n_go f_58_21 rfl (pc' := 22) rfl ?_
  refine n_go f_58_22 rfl (pc' := 23) rfl ?_
  refine n_go f_58_23 rfl (pc' := 24) (st' := .int (iI 1) :: _) rfl ?_
  refine n_iadd f_58_24 rfl ?_
  refine n_cv (ls' := [_, _, _, _]) f_58_25 (by decide) m_54 rfl rfl (by assumption) rfl ?_
  refine sc_at hW1 hv ho hd hx (r := 1) (by decide) rfl (fun h2 hW2 hQ2 => ?_)
  have v0 := hW2.2.2.1.1
  show En V _ _ 28 _ [_] _ _
  have fin : ∀ h', Wd h' w → Qk h h' → En V (d + 6) 58 59 [some (.ref 0), some (.int (iI v)), some (.int (iI o)), some (.int (iI (3 * (e : Int)))), some (.int (iI (sgn x.1))), some (.int (iI x.2)), none] [] h' P := fun h' g1 g2 => by
    refine n_go f_58_59 rfl (pc' := 60) (st' := .int (iI 1) :: _) rfl ?_
    refine n_go f_58_60 rfl (pc' := 64) rfl ?_
    show En V _ _ 64 _ [.int (iI 1)] _ _
    refine n_go f_58_64 rfl (pc' := 66) (ls' := [_, _, _, _, _, _, _]) rfl ?_
    refine n_go f_58_66 rfl (pc' := 68) rfl ?_
    refine n_if_eq f_58_68 rfl rfl (by omega) (fun e9 => absurd e9 (by omega)) (fun _ => ?_)
    refine n_go f_58_71 rfl (pc' := 72) rfl ?_
    refine n_go f_58_72 rfl (pc' := 73) (st' := .int (iI 3) :: _) rfl ?_
    refine n_iadd f_58_73 rfl ?_
    refine n_go f_58_74 rfl (pc' := 78) rfl ?_
    refine n_ret f_58_78 rfl rfl ?_
    exact KK h' g1 g2
  refine n_bip (m := 48) f_58_28 rfl (by decide) ?_
  refine n_go f_58_30 rfl (pc' := 32) rfl ?_
  refine n_bip (m := 10) f_58_32 rfl (by decide) ?_
  refine n_irem f_58_34 rfl (by omega) ?_
  refine n_iadd f_58_35 rfl ?_
  refine n_i2c f_58_36 rfl (by omega) ?_
  refine n_ic_ne f_58_37 rfl rfl ⟨by omega, by omega⟩ (fun e9 => absurd e9 (by omega)) (fun _ => ?_)
  refine n_go f_58_40 rfl (pc' := 42) rfl ?_
  refine n_if_gt f_58_42 rfl rfl (by omega) (fun e3 => ?_) (fun e3 => ?_)
  · exact fin h2 hW2 (hQ1.tr hQ2)
  · refine n_go f_58_45 rfl (pc' := 46) rfl ?_
    refine n_go f_58_46 rfl (pc' := 47) rfl ?_
    refine n_go f_58_47 rfl (pc' := 48) rfl ?_
    refine n_go f_58_48 rfl (pc' := 49) rfl ?_
    refine n_go f_58_49 rfl (pc' := 50) (st' := .int (iI 2) :: _) rfl ?_
    refine n_iadd f_58_50 rfl ?_
    refine n_cv (ls' := [_, _, _, _]) f_58_51 (by decide) m_54 rfl rfl (by assumption) rfl ?_
    refine sc_at hW2 hv ho hd hx (r := 2) (by decide) rfl (fun h3 hW3 hQ3 => ?_)
    show En V _ _ 54 _ [_] _ _
    refine n_bip (m := 59) f_58_54 rfl (by decide) ?_
    refine n_ic_ne f_58_56 rfl rfl ⟨by omega, by omega⟩ (fun e9 => absurd e9 (by omega)) (fun _ => ?_)
    exact fin h3 hW3 ((hQ1.tr hQ2).tr hQ3)
end LT
