/-! The law's does: calls with their exceptions caught. -/
def dO (P : ev_O → ev_H → Prop) : ev_O → ev_H → Prop
  | .inl (some (.int v)), h => P (.inl (some (.int v))) h
  | .inr 11, h => P (.inl (some (.int (iI (-11))))) h
  | .inr 12, h => P (.inl (some (.int (iI (-12))))) h
  | .inr 13, h => P (.inl (some (.int (iI (-13))))) h
  | .inr 14, h => P (.inl (some (.int (iI (-14))))) h
  | _, _ => False
section LD
variable {V : ev_V} {d : Nat} {h : ev_H} {P : ev_O → ev_H → Prop} {x y z a b : Int}
theorem d_end {v : Int32} {l1 l2 l3 l4 l5 l6 l7 : Option Value} (K : P (.inl (some (.int v))) h) : En V d 6 203 [some (.ref 0), l1, l2, l3, l4, l5, l6, l7] [.int v] h P := n_ret f_6_203 rfl rfl K
theorem d_put {fs : List Value} (h0 : h.1[0]? = some (.inr (0, fs))) (C : En V d 42 0 [some (.ref 0), some (.int (iI x)), some (.int (iI y)), some (.int (iI z)), some (.int (iI a)), some (.int (iI b)), none, none, none] [] h (dO P)) : En V (d + 1) 6 0 [some (.ref 0), some (.int (iI 0)), some (.int (iI x)), some (.int (iI y)), some (.int (iI z)), some (.int (iI a)), some (.int (iI b)), none] [] h P := by
  refine n_go f_6_0 rfl (pc' := 1) rfl ?_
  refine n_if_ne f_6_1 rfl rfl (by omega) (fun e9 => absurd e9 (by omega)) (fun _ => ?_)
  refine n_go f_6_4 rfl (pc' := 5) rfl ?_
  refine n_go f_6_5 rfl (pc' := 6) rfl ?_
  refine n_go f_6_6 rfl (pc' := 7) rfl ?_
  refine n_go f_6_7 rfl (pc' := 9) rfl ?_
  refine n_go f_6_9 rfl (pc' := 11) rfl ?_
  refine n_go f_6_11 rfl (pc' := 13) rfl ?_
  refine n_cv (ls' := [_, _, _, _, _, _, _, _, _]) f_6_13 (by decide) m_42 rfl rfl (by assumption) rfl ?_
  refine En.imp C (fun o h1 hP => ?_)
  match o, hP with
  | .inl (some (.int v)), hP =>
    show En V _ _ 16 _ [.int v] h1 _
    refine n_go f_6_16 rfl (pc' := 203) rfl ?_
    exact d_end hP
  | .inr 11, hP =>
    refine n_hd (t := 209) (pc' := 211) (ls' := [_, _, _, _, _, _, _, _]) rfl rfl ?_
    refine n_bip (m := (-11)) f_6_211 rfl (by decide) ?_
    refine n_ret f_6_213 rfl rfl ?_
    exact hP
  | .inr 12, hP =>
    refine n_hd (t := 214) (pc' := 216) (ls' := [_, _, _, _, _, _, _, _]) rfl rfl ?_
    refine n_bip (m := (-12)) f_6_216 rfl (by decide) ?_
    refine n_ret f_6_218 rfl rfl ?_
    exact hP
  | .inr 13, hP =>
    refine n_hd (t := 219) (pc' := 221) (ls' := [_, _, _, _, _, _, _, _]) rfl rfl ?_
    refine n_bip (m := (-13)) f_6_221 rfl (by decide) ?_
    refine n_ret f_6_223 rfl rfl ?_
    exact hP
  | .inr 14, hP =>
    refine n_hd (t := 204) (pc' := 206) (ls' := [_, _, _, _, _, _, _, _]) rfl rfl ?_
    refine n_bip (m := (-14)) f_6_206 rfl (by decide) ?_
    refine n_ret f_6_208 rfl rfl ?_
    exact hP
theorem d_remove {fs : List Value} (h0 : h.1[0]? = some (.inr (0, fs))) (C : En V d 43 0 [some (.ref 0), some (.int (iI x)), some (.int (iI y)), none, none] [] h (dO P)) : En V (d + 1) 6 0 [some (.ref 0), some (.int (iI 1)), some (.int (iI x)), some (.int (iI y)), some (.int (iI z)), some (.int (iI a)), some (.int (iI b)), none] [] h P := by
  refine n_go f_6_0 rfl (pc' := 1) rfl ?_
  refine n_if_ne f_6_1 rfl rfl (by omega) (fun _ => ?_) (fun e9 => absurd (by omega) e9)
  refine n_go f_6_19 rfl (pc' := 20) rfl ?_
  refine n_go f_6_20 rfl (pc' := 21) (st' := .int (iI 1) :: _) rfl ?_
  refine n_ic_ne f_6_21 rfl rfl ⟨by omega, by omega⟩ (fun e9 => absurd e9 (by omega)) (fun _ => ?_)
  refine n_go f_6_24 rfl (pc' := 25) rfl ?_
  refine n_go f_6_25 rfl (pc' := 26) rfl ?_
  refine n_go f_6_26 rfl (pc' := 27) rfl ?_
  refine n_cv (ls' := [_, _, _, _, _]) f_6_27 (by decide) m_43 rfl rfl (by assumption) rfl ?_
  refine En.imp C (fun o h1 hP => ?_)
  match o, hP with
  | .inl (some (.int v)), hP =>
    show En V _ _ 30 _ [.int v] h1 _
    refine n_go f_6_30 rfl (pc' := 203) rfl ?_
    exact d_end hP
  | .inr 11, hP =>
    refine n_hd (t := 209) (pc' := 211) (ls' := [_, _, _, _, _, _, _, _]) rfl rfl ?_
    refine n_bip (m := (-11)) f_6_211 rfl (by decide) ?_
    refine n_ret f_6_213 rfl rfl ?_
    exact hP
  | .inr 12, hP =>
    refine n_hd (t := 214) (pc' := 216) (ls' := [_, _, _, _, _, _, _, _]) rfl rfl ?_
    refine n_bip (m := (-12)) f_6_216 rfl (by decide) ?_
    refine n_ret f_6_218 rfl rfl ?_
    exact hP
  | .inr 13, hP =>
    refine n_hd (t := 219) (pc' := 221) (ls' := [_, _, _, _, _, _, _, _]) rfl rfl ?_
    refine n_bip (m := (-13)) f_6_221 rfl (by decide) ?_
    refine n_ret f_6_223 rfl rfl ?_
    exact hP
  | .inr 14, hP =>
    refine n_hd (t := 204) (pc' := 206) (ls' := [_, _, _, _, _, _, _, _]) rfl rfl ?_
    refine n_bip (m := (-14)) f_6_206 rfl (by decide) ?_
    refine n_ret f_6_208 rfl rfl ?_
    exact hP
theorem d_moves {fs : List Value} (h0 : h.1[0]? = some (.inr (0, fs))) (C : En V d 44 0 [some (.ref 0), some (.int (iI x)), some (.int (iI y)), some (.int (iI z)), some (.int (iI a))] [] h (dO P)) : En V (d + 1) 6 0 [some (.ref 0), some (.int (iI 2)), some (.int (iI x)), some (.int (iI y)), some (.int (iI z)), some (.int (iI a)), some (.int (iI b)), none] [] h P := by
  refine n_go f_6_0 rfl (pc' := 1) rfl ?_
  refine n_if_ne f_6_1 rfl rfl (by omega) (fun _ => ?_) (fun e9 => absurd (by omega) e9)
  refine n_go f_6_19 rfl (pc' := 20) rfl ?_
  refine n_go f_6_20 rfl (pc' := 21) (st' := .int (iI 1) :: _) rfl ?_
  refine n_ic_ne f_6_21 rfl rfl ⟨by omega, by omega⟩ (fun _ => ?_) (fun e9 => absurd (by omega) e9)
  refine n_go f_6_33 rfl (pc' := 34) rfl ?_
  refine n_go f_6_34 rfl (pc' := 35) (st' := .int (iI 2) :: _) rfl ?_
  refine n_ic_ne f_6_35 rfl rfl ⟨by omega, by omega⟩ (fun e9 => absurd e9 (by omega)) (fun _ => ?_)
  refine n_go f_6_38 rfl (pc' := 39) rfl ?_
  refine n_go f_6_39 rfl (pc' := 40) rfl ?_
  refine n_go f_6_40 rfl (pc' := 41) rfl ?_
  refine n_go f_6_41 rfl (pc' := 43) rfl ?_
  refine n_go f_6_43 rfl (pc' := 45) rfl ?_
  refine n_cs (ls' := [_, _, _, _, _]) f_6_45 (by decide) m_44 rfl rfl ?_
  refine En.imp C (fun o h1 hP => ?_)
  match o, hP with
  | .inl (some (.int v)), hP =>
    show En V _ _ 48 _ [.int v] h1 _
    refine n_go f_6_48 rfl (pc' := 203) rfl ?_
    exact d_end hP
  | .inr 11, hP =>
    refine n_hd (t := 209) (pc' := 211) (ls' := [_, _, _, _, _, _, _, _]) rfl rfl ?_
    refine n_bip (m := (-11)) f_6_211 rfl (by decide) ?_
    refine n_ret f_6_213 rfl rfl ?_
    exact hP
  | .inr 12, hP =>
    refine n_hd (t := 214) (pc' := 216) (ls' := [_, _, _, _, _, _, _, _]) rfl rfl ?_
    refine n_bip (m := (-12)) f_6_216 rfl (by decide) ?_
    refine n_ret f_6_218 rfl rfl ?_
    exact hP
  | .inr 13, hP =>
    refine n_hd (t := 219) (pc' := 221) (ls' := [_, _, _, _, _, _, _, _]) rfl rfl ?_
    refine n_bip (m := (-13)) f_6_221 rfl (by decide) ?_
    refine n_ret f_6_223 rfl rfl ?_
    exact hP
  | .inr 14, hP =>
    refine n_hd (t := 204) (pc' := 206) (ls' := [_, _, _, _, _, _, _, _]) rfl rfl ?_
    refine n_bip (m := (-14)) f_6_206 rfl (by decide) ?_
    refine n_ret f_6_208 rfl rfl ?_
    exact hP
theorem d_retag {fs : List Value} (h0 : h.1[0]? = some (.inr (0, fs))) (C : En V d 45 0 [some (.ref 0), some (.int (iI x)), some (.int (iI y)), some (.int (iI z)), none, none] [] h (dO P)) : En V (d + 1) 6 0 [some (.ref 0), some (.int (iI 3)), some (.int (iI x)), some (.int (iI y)), some (.int (iI z)), some (.int (iI a)), some (.int (iI b)), none] [] h P := by
  refine n_go f_6_0 rfl (pc' := 1) rfl ?_
  refine n_if_ne f_6_1 rfl rfl (by omega) (fun _ => ?_) (fun e9 => absurd (by omega) e9)
  refine n_go f_6_19 rfl (pc' := 20) rfl ?_
  refine n_go f_6_20 rfl (pc' := 21) (st' := .int (iI 1) :: _) rfl ?_
  refine n_ic_ne f_6_21 rfl rfl ⟨by omega, by omega⟩ (fun _ => ?_) (fun e9 => absurd (by omega) e9)
  refine n_go f_6_33 rfl (pc' := 34) rfl ?_
  refine n_go f_6_34 rfl (pc' := 35) (st' := .int (iI 2) :: _) rfl ?_
  refine n_ic_ne f_6_35 rfl rfl ⟨by omega, by omega⟩ (fun _ => ?_) (fun e9 => absurd (by omega) e9)
  refine n_go f_6_51 rfl (pc' := 52) rfl ?_
  refine n_go f_6_52 rfl (pc' := 53) (st' := .int (iI 3) :: _) rfl ?_
  refine n_ic_ne f_6_53 rfl rfl ⟨by omega, by omega⟩ (fun e9 => absurd e9 (by omega)) (fun _ => ?_)
  refine n_go f_6_56 rfl (pc' := 57) rfl ?_
  refine n_go f_6_57 rfl (pc' := 58) rfl ?_
  refine n_go f_6_58 rfl (pc' := 59) rfl ?_
  refine n_go f_6_59 rfl (pc' := 61) rfl ?_
  refine n_cv (ls' := [_, _, _, _, _, _]) f_6_61 (by decide) m_45 rfl rfl (by assumption) rfl ?_
  refine En.imp C (fun o h1 hP => ?_)
  match o, hP with
  | .inl (some (.int v)), hP =>
    show En V _ _ 64 _ [.int v] h1 _
    refine n_go f_6_64 rfl (pc' := 203) rfl ?_
    exact d_end hP
  | .inr 11, hP =>
    refine n_hd (t := 209) (pc' := 211) (ls' := [_, _, _, _, _, _, _, _]) rfl rfl ?_
    refine n_bip (m := (-11)) f_6_211 rfl (by decide) ?_
    refine n_ret f_6_213 rfl rfl ?_
    exact hP
  | .inr 12, hP =>
    refine n_hd (t := 214) (pc' := 216) (ls' := [_, _, _, _, _, _, _, _]) rfl rfl ?_
    refine n_bip (m := (-12)) f_6_216 rfl (by decide) ?_
    refine n_ret f_6_218 rfl rfl ?_
    exact hP
  | .inr 13, hP =>
    refine n_hd (t := 219) (pc' := 221) (ls' := [_, _, _, _, _, _, _, _]) rfl rfl ?_
    refine n_bip (m := (-13)) f_6_221 rfl (by decide) ?_
    refine n_ret f_6_223 rfl rfl ?_
    exact hP
  | .inr 14, hP =>
    refine n_hd (t := 204) (pc' := 206) (ls' := [_, _, _, _, _, _, _, _]) rfl rfl ?_
    refine n_bip (m := (-14)) f_6_206 rfl (by decide) ?_
    refine n_ret f_6_208 rfl rfl ?_
    exact hP
theorem d_aim {fs : List Value} (h0 : h.1[0]? = some (.inr (0, fs))) (C : En V d 46 0 [some (.ref 0), some (.int (iI x)), some (.int (iI y)), some (.int (iI z)), none, none] [] h (dO P)) : En V (d + 1) 6 0 [some (.ref 0), some (.int (iI 4)), some (.int (iI x)), some (.int (iI y)), some (.int (iI z)), some (.int (iI a)), some (.int (iI b)), none] [] h P := by
  refine n_go f_6_0 rfl (pc' := 1) rfl ?_
  refine n_if_ne f_6_1 rfl rfl (by omega) (fun _ => ?_) (fun e9 => absurd (by omega) e9)
  refine n_go f_6_19 rfl (pc' := 20) rfl ?_
  refine n_go f_6_20 rfl (pc' := 21) (st' := .int (iI 1) :: _) rfl ?_
  refine n_ic_ne f_6_21 rfl rfl ⟨by omega, by omega⟩ (fun _ => ?_) (fun e9 => absurd (by omega) e9)
  refine n_go f_6_33 rfl (pc' := 34) rfl ?_
  refine n_go f_6_34 rfl (pc' := 35) (st' := .int (iI 2) :: _) rfl ?_
  refine n_ic_ne f_6_35 rfl rfl ⟨by omega, by omega⟩ (fun _ => ?_) (fun e9 => absurd (by omega) e9)
  refine n_go f_6_51 rfl (pc' := 52) rfl ?_
  refine n_go f_6_52 rfl (pc' := 53) (st' := .int (iI 3) :: _) rfl ?_
  refine n_ic_ne f_6_53 rfl rfl ⟨by omega, by omega⟩ (fun _ => ?_) (fun e9 => absurd (by omega) e9)
  refine n_go f_6_67 rfl (pc' := 68) rfl ?_
  refine n_go f_6_68 rfl (pc' := 69) (st' := .int (iI 4) :: _) rfl ?_
  refine n_ic_ne f_6_69 rfl rfl ⟨by omega, by omega⟩ (fun e9 => absurd e9 (by omega)) (fun _ => ?_)
  refine n_go f_6_72 rfl (pc' := 73) rfl ?_
  refine n_go f_6_73 rfl (pc' := 74) rfl ?_
  refine n_go f_6_74 rfl (pc' := 75) rfl ?_
  refine n_go f_6_75 rfl (pc' := 77) rfl ?_
  refine n_cv (ls' := [_, _, _, _, _, _]) f_6_77 (by decide) m_46 rfl rfl (by assumption) rfl ?_
  refine En.imp C (fun o h1 hP => ?_)
  match o, hP with
  | .inl (some (.int v)), hP =>
    show En V _ _ 80 _ [.int v] h1 _
    refine n_go f_6_80 rfl (pc' := 203) rfl ?_
    exact d_end hP
  | .inr 11, hP =>
    refine n_hd (t := 209) (pc' := 211) (ls' := [_, _, _, _, _, _, _, _]) rfl rfl ?_
    refine n_bip (m := (-11)) f_6_211 rfl (by decide) ?_
    refine n_ret f_6_213 rfl rfl ?_
    exact hP
  | .inr 12, hP =>
    refine n_hd (t := 214) (pc' := 216) (ls' := [_, _, _, _, _, _, _, _]) rfl rfl ?_
    refine n_bip (m := (-12)) f_6_216 rfl (by decide) ?_
    refine n_ret f_6_218 rfl rfl ?_
    exact hP
  | .inr 13, hP =>
    refine n_hd (t := 219) (pc' := 221) (ls' := [_, _, _, _, _, _, _, _]) rfl rfl ?_
    refine n_bip (m := (-13)) f_6_221 rfl (by decide) ?_
    refine n_ret f_6_223 rfl rfl ?_
    exact hP
  | .inr 14, hP =>
    refine n_hd (t := 204) (pc' := 206) (ls' := [_, _, _, _, _, _, _, _]) rfl rfl ?_
    refine n_bip (m := (-14)) f_6_206 rfl (by decide) ?_
    refine n_ret f_6_208 rfl rfl ?_
    exact hP
theorem d_write {fs : List Value} (h0 : h.1[0]? = some (.inr (0, fs))) (C : En V d 47 0 [some (.ref 0), some (.int (iI x)), some (.int (iI y)), some (.int (iI z)), some (.int (iI a)), none, none, none] [] h (dO P)) : En V (d + 1) 6 0 [some (.ref 0), some (.int (iI 5)), some (.int (iI x)), some (.int (iI y)), some (.int (iI z)), some (.int (iI a)), some (.int (iI b)), none] [] h P := by
  refine n_go f_6_0 rfl (pc' := 1) rfl ?_
  refine n_if_ne f_6_1 rfl rfl (by omega) (fun _ => ?_) (fun e9 => absurd (by omega) e9)
  refine n_go f_6_19 rfl (pc' := 20) rfl ?_
  refine n_go f_6_20 rfl (pc' := 21) (st' := .int (iI 1) :: _) rfl ?_
  refine n_ic_ne f_6_21 rfl rfl ⟨by omega, by omega⟩ (fun _ => ?_) (fun e9 => absurd (by omega) e9)
  refine n_go f_6_33 rfl (pc' := 34) rfl ?_
  refine n_go f_6_34 rfl (pc' := 35) (st' := .int (iI 2) :: _) rfl ?_
  refine n_ic_ne f_6_35 rfl rfl ⟨by omega, by omega⟩ (fun _ => ?_) (fun e9 => absurd (by omega) e9)
  refine n_go f_6_51 rfl (pc' := 52) rfl ?_
  refine n_go f_6_52 rfl (pc' := 53) (st' := .int (iI 3) :: _) rfl ?_
  refine n_ic_ne f_6_53 rfl rfl ⟨by omega, by omega⟩ (fun _ => ?_) (fun e9 => absurd (by omega) e9)
  refine n_go f_6_67 rfl (pc' := 68) rfl ?_
  refine n_go f_6_68 rfl (pc' := 69) (st' := .int (iI 4) :: _) rfl ?_
  refine n_ic_ne f_6_69 rfl rfl ⟨by omega, by omega⟩ (fun _ => ?_) (fun e9 => absurd (by omega) e9)
  refine n_go f_6_83 rfl (pc' := 84) rfl ?_
  refine n_go f_6_84 rfl (pc' := 85) (st' := .int (iI 5) :: _) rfl ?_
  refine n_ic_ne f_6_85 rfl rfl ⟨by omega, by omega⟩ (fun e9 => absurd e9 (by omega)) (fun _ => ?_)
  refine n_go f_6_88 rfl (pc' := 89) rfl ?_
  refine n_go f_6_89 rfl (pc' := 90) rfl ?_
  refine n_go f_6_90 rfl (pc' := 91) rfl ?_
  refine n_go f_6_91 rfl (pc' := 93) rfl ?_
  refine n_go f_6_93 rfl (pc' := 95) rfl ?_
  refine n_cv (ls' := [_, _, _, _, _, _, _, _]) f_6_95 (by decide) m_47 rfl rfl (by assumption) rfl ?_
  refine En.imp C (fun o h1 hP => ?_)
  match o, hP with
  | .inl (some (.int v)), hP =>
    show En V _ _ 98 _ [.int v] h1 _
    refine n_go f_6_98 rfl (pc' := 203) rfl ?_
    exact d_end hP
  | .inr 11, hP =>
    refine n_hd (t := 209) (pc' := 211) (ls' := [_, _, _, _, _, _, _, _]) rfl rfl ?_
    refine n_bip (m := (-11)) f_6_211 rfl (by decide) ?_
    refine n_ret f_6_213 rfl rfl ?_
    exact hP
  | .inr 12, hP =>
    refine n_hd (t := 214) (pc' := 216) (ls' := [_, _, _, _, _, _, _, _]) rfl rfl ?_
    refine n_bip (m := (-12)) f_6_216 rfl (by decide) ?_
    refine n_ret f_6_218 rfl rfl ?_
    exact hP
  | .inr 13, hP =>
    refine n_hd (t := 219) (pc' := 221) (ls' := [_, _, _, _, _, _, _, _]) rfl rfl ?_
    refine n_bip (m := (-13)) f_6_221 rfl (by decide) ?_
    refine n_ret f_6_223 rfl rfl ?_
    exact hP
  | .inr 14, hP =>
    refine n_hd (t := 204) (pc' := 206) (ls' := [_, _, _, _, _, _, _, _]) rfl rfl ?_
    refine n_bip (m := (-14)) f_6_206 rfl (by decide) ?_
    refine n_ret f_6_208 rfl rfl ?_
    exact hP
theorem d_strike {fs : List Value} (h0 : h.1[0]? = some (.inr (0, fs))) (C : En V d 48 0 [some (.ref 0), some (.int (iI x)), some (.int (iI y)), some (.int (iI z)), none, none] [] h (dO P)) : En V (d + 1) 6 0 [some (.ref 0), some (.int (iI 6)), some (.int (iI x)), some (.int (iI y)), some (.int (iI z)), some (.int (iI a)), some (.int (iI b)), none] [] h P := by
  refine n_go f_6_0 rfl (pc' := 1) rfl ?_
  refine n_if_ne f_6_1 rfl rfl (by omega) (fun _ => ?_) (fun e9 => absurd (by omega) e9)
  refine n_go f_6_19 rfl (pc' := 20) rfl ?_
  refine n_go f_6_20 rfl (pc' := 21) (st' := .int (iI 1) :: _) rfl ?_
  refine n_ic_ne f_6_21 rfl rfl ⟨by omega, by omega⟩ (fun _ => ?_) (fun e9 => absurd (by omega) e9)
  refine n_go f_6_33 rfl (pc' := 34) rfl ?_
  refine n_go f_6_34 rfl (pc' := 35) (st' := .int (iI 2) :: _) rfl ?_
  refine n_ic_ne f_6_35 rfl rfl ⟨by omega, by omega⟩ (fun _ => ?_) (fun e9 => absurd (by omega) e9)
  refine n_go f_6_51 rfl (pc' := 52) rfl ?_
  refine n_go f_6_52 rfl (pc' := 53) (st' := .int (iI 3) :: _) rfl ?_
  refine n_ic_ne f_6_53 rfl rfl ⟨by omega, by omega⟩ (fun _ => ?_) (fun e9 => absurd (by omega) e9)
  refine n_go f_6_67 rfl (pc' := 68) rfl ?_
  refine n_go f_6_68 rfl (pc' := 69) (st' := .int (iI 4) :: _) rfl ?_
  refine n_ic_ne f_6_69 rfl rfl ⟨by omega, by omega⟩ (fun _ => ?_) (fun e9 => absurd (by omega) e9)
  refine n_go f_6_83 rfl (pc' := 84) rfl ?_
  refine n_go f_6_84 rfl (pc' := 85) (st' := .int (iI 5) :: _) rfl ?_
  refine n_ic_ne f_6_85 rfl rfl ⟨by omega, by omega⟩ (fun _ => ?_) (fun e9 => absurd (by omega) e9)
  refine n_go f_6_101 rfl (pc' := 102) rfl ?_
  refine n_bip (m := 6) f_6_102 rfl (by decide) ?_
  refine n_ic_ne f_6_104 rfl rfl ⟨by omega, by omega⟩ (fun e9 => absurd e9 (by omega)) (fun _ => ?_)
  refine n_go f_6_107 rfl (pc' := 108) rfl ?_
  refine n_go f_6_108 rfl (pc' := 109) rfl ?_
  refine n_go f_6_109 rfl (pc' := 110) rfl ?_
  refine n_go f_6_110 rfl (pc' := 112) rfl ?_
  refine n_cv (ls' := [_, _, _, _, _, _]) f_6_112 (by decide) m_48 rfl rfl (by assumption) rfl ?_
  refine En.imp C (fun o h1 hP => ?_)
  match o, hP with
  | .inl (some (.int v)), hP =>
    show En V _ _ 115 _ [.int v] h1 _
    refine n_go f_6_115 rfl (pc' := 203) rfl ?_
    exact d_end hP
  | .inr 11, hP =>
    refine n_hd (t := 209) (pc' := 211) (ls' := [_, _, _, _, _, _, _, _]) rfl rfl ?_
    refine n_bip (m := (-11)) f_6_211 rfl (by decide) ?_
    refine n_ret f_6_213 rfl rfl ?_
    exact hP
  | .inr 12, hP =>
    refine n_hd (t := 214) (pc' := 216) (ls' := [_, _, _, _, _, _, _, _]) rfl rfl ?_
    refine n_bip (m := (-12)) f_6_216 rfl (by decide) ?_
    refine n_ret f_6_218 rfl rfl ?_
    exact hP
  | .inr 13, hP =>
    refine n_hd (t := 219) (pc' := 221) (ls' := [_, _, _, _, _, _, _, _]) rfl rfl ?_
    refine n_bip (m := (-13)) f_6_221 rfl (by decide) ?_
    refine n_ret f_6_223 rfl rfl ?_
    exact hP
  | .inr 14, hP =>
    refine n_hd (t := 204) (pc' := 206) (ls' := [_, _, _, _, _, _, _, _]) rfl rfl ?_
    refine n_bip (m := (-14)) f_6_206 rfl (by decide) ?_
    refine n_ret f_6_208 rfl rfl ?_
    exact hP
theorem d_settles {fs : List Value} (h0 : h.1[0]? = some (.inr (0, fs))) (C : En V d 49 0 [some (.ref 0), some (.int (iI x)), some (.int (iI y)), some (.int (iI z)), some (.int (iI a))] [] h (dO P)) : En V (d + 1) 6 0 [some (.ref 0), some (.int (iI 7)), some (.int (iI x)), some (.int (iI y)), some (.int (iI z)), some (.int (iI a)), some (.int (iI b)), none] [] h P := by
  refine n_go f_6_0 rfl (pc' := 1) rfl ?_
  refine n_if_ne f_6_1 rfl rfl (by omega) (fun _ => ?_) (fun e9 => absurd (by omega) e9)
  refine n_go f_6_19 rfl (pc' := 20) rfl ?_
  refine n_go f_6_20 rfl (pc' := 21) (st' := .int (iI 1) :: _) rfl ?_
  refine n_ic_ne f_6_21 rfl rfl ⟨by omega, by omega⟩ (fun _ => ?_) (fun e9 => absurd (by omega) e9)
  refine n_go f_6_33 rfl (pc' := 34) rfl ?_
  refine n_go f_6_34 rfl (pc' := 35) (st' := .int (iI 2) :: _) rfl ?_
  refine n_ic_ne f_6_35 rfl rfl ⟨by omega, by omega⟩ (fun _ => ?_) (fun e9 => absurd (by omega) e9)
  refine n_go f_6_51 rfl (pc' := 52) rfl ?_
  refine n_go f_6_52 rfl (pc' := 53) (st' := .int (iI 3) :: _) rfl ?_
  refine n_ic_ne f_6_53 rfl rfl ⟨by omega, by omega⟩ (fun _ => ?_) (fun e9 => absurd (by omega) e9)
  refine n_go f_6_67 rfl (pc' := 68) rfl ?_
  refine n_go f_6_68 rfl (pc' := 69) (st' := .int (iI 4) :: _) rfl ?_
  refine n_ic_ne f_6_69 rfl rfl ⟨by omega, by omega⟩ (fun _ => ?_) (fun e9 => absurd (by omega) e9)
  refine n_go f_6_83 rfl (pc' := 84) rfl ?_
  refine n_go f_6_84 rfl (pc' := 85) (st' := .int (iI 5) :: _) rfl ?_
  refine n_ic_ne f_6_85 rfl rfl ⟨by omega, by omega⟩ (fun _ => ?_) (fun e9 => absurd (by omega) e9)
  refine n_go f_6_101 rfl (pc' := 102) rfl ?_
  refine n_bip (m := 6) f_6_102 rfl (by decide) ?_
  refine n_ic_ne f_6_104 rfl rfl ⟨by omega, by omega⟩ (fun _ => ?_) (fun e9 => absurd (by omega) e9)
  refine n_go f_6_118 rfl (pc' := 119) rfl ?_
  refine n_bip (m := 7) f_6_119 rfl (by decide) ?_
  refine n_ic_ne f_6_121 rfl rfl ⟨by omega, by omega⟩ (fun e9 => absurd e9 (by omega)) (fun _ => ?_)
  refine n_go f_6_124 rfl (pc' := 125) rfl ?_
  refine n_go f_6_125 rfl (pc' := 126) rfl ?_
  refine n_go f_6_126 rfl (pc' := 127) rfl ?_
  refine n_go f_6_127 rfl (pc' := 129) rfl ?_
  refine n_go f_6_129 rfl (pc' := 131) rfl ?_
  refine n_cs (ls' := [_, _, _, _, _]) f_6_131 (by decide) m_49 rfl rfl ?_
  refine En.imp C (fun o h1 hP => ?_)
  match o, hP with
  | .inl (some (.int v)), hP =>
    show En V _ _ 134 _ [.int v] h1 _
    refine n_go f_6_134 rfl (pc' := 203) rfl ?_
    exact d_end hP
  | .inr 11, hP =>
    refine n_hd (t := 209) (pc' := 211) (ls' := [_, _, _, _, _, _, _, _]) rfl rfl ?_
    refine n_bip (m := (-11)) f_6_211 rfl (by decide) ?_
    refine n_ret f_6_213 rfl rfl ?_
    exact hP
  | .inr 12, hP =>
    refine n_hd (t := 214) (pc' := 216) (ls' := [_, _, _, _, _, _, _, _]) rfl rfl ?_
    refine n_bip (m := (-12)) f_6_216 rfl (by decide) ?_
    refine n_ret f_6_218 rfl rfl ?_
    exact hP
  | .inr 13, hP =>
    refine n_hd (t := 219) (pc' := 221) (ls' := [_, _, _, _, _, _, _, _]) rfl rfl ?_
    refine n_bip (m := (-13)) f_6_221 rfl (by decide) ?_
    refine n_ret f_6_223 rfl rfl ?_
    exact hP
  | .inr 14, hP =>
    refine n_hd (t := 204) (pc' := 206) (ls' := [_, _, _, _, _, _, _, _]) rfl rfl ?_
    refine n_bip (m := (-14)) f_6_206 rfl (by decide) ?_
    refine n_ret f_6_208 rfl rfl ?_
    exact hP
theorem d_commit {fs : List Value} (h0 : h.1[0]? = some (.inr (0, fs))) (C : En V d 50 0 [some (.ref 0), some (.int (iI x)), none, none] [] h (dO P)) : En V (d + 1) 6 0 [some (.ref 0), some (.int (iI 8)), some (.int (iI x)), some (.int (iI y)), some (.int (iI z)), some (.int (iI a)), some (.int (iI b)), none] [] h P := by
  refine n_go f_6_0 rfl (pc' := 1) rfl ?_
  refine n_if_ne f_6_1 rfl rfl (by omega) (fun _ => ?_) (fun e9 => absurd (by omega) e9)
  refine n_go f_6_19 rfl (pc' := 20) rfl ?_
  refine n_go f_6_20 rfl (pc' := 21) (st' := .int (iI 1) :: _) rfl ?_
  refine n_ic_ne f_6_21 rfl rfl ⟨by omega, by omega⟩ (fun _ => ?_) (fun e9 => absurd (by omega) e9)
  refine n_go f_6_33 rfl (pc' := 34) rfl ?_
  refine n_go f_6_34 rfl (pc' := 35) (st' := .int (iI 2) :: _) rfl ?_
  refine n_ic_ne f_6_35 rfl rfl ⟨by omega, by omega⟩ (fun _ => ?_) (fun e9 => absurd (by omega) e9)
  refine n_go f_6_51 rfl (pc' := 52) rfl ?_
  refine n_go f_6_52 rfl (pc' := 53) (st' := .int (iI 3) :: _) rfl ?_
  refine n_ic_ne f_6_53 rfl rfl ⟨by omega, by omega⟩ (fun _ => ?_) (fun e9 => absurd (by omega) e9)
  refine n_go f_6_67 rfl (pc' := 68) rfl ?_
  refine n_go f_6_68 rfl (pc' := 69) (st' := .int (iI 4) :: _) rfl ?_
  refine n_ic_ne f_6_69 rfl rfl ⟨by omega, by omega⟩ (fun _ => ?_) (fun e9 => absurd (by omega) e9)
  refine n_go f_6_83 rfl (pc' := 84) rfl ?_
  refine n_go f_6_84 rfl (pc' := 85) (st' := .int (iI 5) :: _) rfl ?_
  refine n_ic_ne f_6_85 rfl rfl ⟨by omega, by omega⟩ (fun _ => ?_) (fun e9 => absurd (by omega) e9)
  refine n_go f_6_101 rfl (pc' := 102) rfl ?_
  refine n_bip (m := 6) f_6_102 rfl (by decide) ?_
  refine n_ic_ne f_6_104 rfl rfl ⟨by omega, by omega⟩ (fun _ => ?_) (fun e9 => absurd (by omega) e9)
  refine n_go f_6_118 rfl (pc' := 119) rfl ?_
  refine n_bip (m := 7) f_6_119 rfl (by decide) ?_
  refine n_ic_ne f_6_121 rfl rfl ⟨by omega, by omega⟩ (fun _ => ?_) (fun e9 => absurd (by omega) e9)
  refine n_go f_6_137 rfl (pc' := 138) rfl ?_
  refine n_bip (m := 8) f_6_138 rfl (by decide) ?_
  refine n_ic_ne f_6_140 rfl rfl ⟨by omega, by omega⟩ (fun e9 => absurd e9 (by omega)) (fun _ => ?_)
  refine n_go f_6_143 rfl (pc' := 144) rfl ?_
  refine n_go f_6_144 rfl (pc' := 145) rfl ?_
  refine n_cv (ls' := [_, _, _, _]) f_6_145 (by decide) m_50 rfl rfl (by assumption) rfl ?_
  refine En.imp C (fun o h1 hP => ?_)
  match o, hP with
  | .inl (some (.int v)), hP =>
    show En V _ _ 148 _ [.int v] h1 _
    refine n_go f_6_148 rfl (pc' := 203) rfl ?_
    exact d_end hP
  | .inr 11, hP =>
    refine n_hd (t := 209) (pc' := 211) (ls' := [_, _, _, _, _, _, _, _]) rfl rfl ?_
    refine n_bip (m := (-11)) f_6_211 rfl (by decide) ?_
    refine n_ret f_6_213 rfl rfl ?_
    exact hP
  | .inr 12, hP =>
    refine n_hd (t := 214) (pc' := 216) (ls' := [_, _, _, _, _, _, _, _]) rfl rfl ?_
    refine n_bip (m := (-12)) f_6_216 rfl (by decide) ?_
    refine n_ret f_6_218 rfl rfl ?_
    exact hP
  | .inr 13, hP =>
    refine n_hd (t := 219) (pc' := 221) (ls' := [_, _, _, _, _, _, _, _]) rfl rfl ?_
    refine n_bip (m := (-13)) f_6_221 rfl (by decide) ?_
    refine n_ret f_6_223 rfl rfl ?_
    exact hP
  | .inr 14, hP =>
    refine n_hd (t := 204) (pc' := 206) (ls' := [_, _, _, _, _, _, _, _]) rfl rfl ?_
    refine n_bip (m := (-14)) f_6_206 rfl (by decide) ?_
    refine n_ret f_6_208 rfl rfl ?_
    exact hP
theorem d_fork {fs : List Value} (h0 : h.1[0]? = some (.inr (0, fs))) (C : En V d 51 0 [some (.ref 0), some (.int (iI x)), none] [] h (dO P)) : En V (d + 1) 6 0 [some (.ref 0), some (.int (iI 9)), some (.int (iI x)), some (.int (iI y)), some (.int (iI z)), some (.int (iI a)), some (.int (iI b)), none] [] h P := by
  refine n_go f_6_0 rfl (pc' := 1) rfl ?_
  refine n_if_ne f_6_1 rfl rfl (by omega) (fun _ => ?_) (fun e9 => absurd (by omega) e9)
  refine n_go f_6_19 rfl (pc' := 20) rfl ?_
  refine n_go f_6_20 rfl (pc' := 21) (st' := .int (iI 1) :: _) rfl ?_
  refine n_ic_ne f_6_21 rfl rfl ⟨by omega, by omega⟩ (fun _ => ?_) (fun e9 => absurd (by omega) e9)
  refine n_go f_6_33 rfl (pc' := 34) rfl ?_
  refine n_go f_6_34 rfl (pc' := 35) (st' := .int (iI 2) :: _) rfl ?_
  refine n_ic_ne f_6_35 rfl rfl ⟨by omega, by omega⟩ (fun _ => ?_) (fun e9 => absurd (by omega) e9)
  refine n_go f_6_51 rfl (pc' := 52) rfl ?_
  refine n_go f_6_52 rfl (pc' := 53) (st' := .int (iI 3) :: _) rfl ?_
  refine n_ic_ne f_6_53 rfl rfl ⟨by omega, by omega⟩ (fun _ => ?_) (fun e9 => absurd (by omega) e9)
  refine n_go f_6_67 rfl (pc' := 68) rfl ?_
  refine n_go f_6_68 rfl (pc' := 69) (st' := .int (iI 4) :: _) rfl ?_
  refine n_ic_ne f_6_69 rfl rfl ⟨by omega, by omega⟩ (fun _ => ?_) (fun e9 => absurd (by omega) e9)
  refine n_go f_6_83 rfl (pc' := 84) rfl ?_
  refine n_go f_6_84 rfl (pc' := 85) (st' := .int (iI 5) :: _) rfl ?_
  refine n_ic_ne f_6_85 rfl rfl ⟨by omega, by omega⟩ (fun _ => ?_) (fun e9 => absurd (by omega) e9)
  refine n_go f_6_101 rfl (pc' := 102) rfl ?_
  refine n_bip (m := 6) f_6_102 rfl (by decide) ?_
  refine n_ic_ne f_6_104 rfl rfl ⟨by omega, by omega⟩ (fun _ => ?_) (fun e9 => absurd (by omega) e9)
  refine n_go f_6_118 rfl (pc' := 119) rfl ?_
  refine n_bip (m := 7) f_6_119 rfl (by decide) ?_
  refine n_ic_ne f_6_121 rfl rfl ⟨by omega, by omega⟩ (fun _ => ?_) (fun e9 => absurd (by omega) e9)
  refine n_go f_6_137 rfl (pc' := 138) rfl ?_
  refine n_bip (m := 8) f_6_138 rfl (by decide) ?_
  refine n_ic_ne f_6_140 rfl rfl ⟨by omega, by omega⟩ (fun _ => ?_) (fun e9 => absurd (by omega) e9)
  refine n_go f_6_151 rfl (pc' := 152) rfl ?_
  refine n_bip (m := 9) f_6_152 rfl (by decide) ?_
  refine n_ic_ne f_6_154 rfl rfl ⟨by omega, by omega⟩ (fun e9 => absurd e9 (by omega)) (fun _ => ?_)
  refine n_go f_6_157 rfl (pc' := 158) rfl ?_
  refine n_go f_6_158 rfl (pc' := 159) rfl ?_
  refine n_cv (ls' := [_, _, _]) f_6_159 (by decide) m_51 rfl rfl (by assumption) rfl ?_
  refine En.imp C (fun o h1 hP => ?_)
  match o, hP with
  | .inl (some (.int v)), hP =>
    show En V _ _ 162 _ [.int v] h1 _
    refine n_go f_6_162 rfl (pc' := 203) rfl ?_
    exact d_end hP
  | .inr 11, hP =>
    refine n_hd (t := 209) (pc' := 211) (ls' := [_, _, _, _, _, _, _, _]) rfl rfl ?_
    refine n_bip (m := (-11)) f_6_211 rfl (by decide) ?_
    refine n_ret f_6_213 rfl rfl ?_
    exact hP
  | .inr 12, hP =>
    refine n_hd (t := 214) (pc' := 216) (ls' := [_, _, _, _, _, _, _, _]) rfl rfl ?_
    refine n_bip (m := (-12)) f_6_216 rfl (by decide) ?_
    refine n_ret f_6_218 rfl rfl ?_
    exact hP
  | .inr 13, hP =>
    refine n_hd (t := 219) (pc' := 221) (ls' := [_, _, _, _, _, _, _, _]) rfl rfl ?_
    refine n_bip (m := (-13)) f_6_221 rfl (by decide) ?_
    refine n_ret f_6_223 rfl rfl ?_
    exact hP
  | .inr 14, hP =>
    refine n_hd (t := 204) (pc' := 206) (ls' := [_, _, _, _, _, _, _, _]) rfl rfl ?_
    refine n_bip (m := (-14)) f_6_206 rfl (by decide) ?_
    refine n_ret f_6_208 rfl rfl ?_
    exact hP
theorem d_merge {fs : List Value} (h0 : h.1[0]? = some (.inr (0, fs))) (C : En V d 52 0 [some (.ref 0), some (.int (iI x)), some (.int (iI y)), none] [] h (dO P)) : En V (d + 1) 6 0 [some (.ref 0), some (.int (iI 10)), some (.int (iI x)), some (.int (iI y)), some (.int (iI z)), some (.int (iI a)), some (.int (iI b)), none] [] h P := by
  refine n_go f_6_0 rfl (pc' := 1) rfl ?_
  refine n_if_ne f_6_1 rfl rfl (by omega) (fun _ => ?_) (fun e9 => absurd (by omega) e9)
  refine n_go f_6_19 rfl (pc' := 20) rfl ?_
  refine n_go f_6_20 rfl (pc' := 21) (st' := .int (iI 1) :: _) rfl ?_
  refine n_ic_ne f_6_21 rfl rfl ⟨by omega, by omega⟩ (fun _ => ?_) (fun e9 => absurd (by omega) e9)
  refine n_go f_6_33 rfl (pc' := 34) rfl ?_
  refine n_go f_6_34 rfl (pc' := 35) (st' := .int (iI 2) :: _) rfl ?_
  refine n_ic_ne f_6_35 rfl rfl ⟨by omega, by omega⟩ (fun _ => ?_) (fun e9 => absurd (by omega) e9)
  refine n_go f_6_51 rfl (pc' := 52) rfl ?_
  refine n_go f_6_52 rfl (pc' := 53) (st' := .int (iI 3) :: _) rfl ?_
  refine n_ic_ne f_6_53 rfl rfl ⟨by omega, by omega⟩ (fun _ => ?_) (fun e9 => absurd (by omega) e9)
  refine n_go f_6_67 rfl (pc' := 68) rfl ?_
  refine n_go f_6_68 rfl (pc' := 69) (st' := .int (iI 4) :: _) rfl ?_
  refine n_ic_ne f_6_69 rfl rfl ⟨by omega, by omega⟩ (fun _ => ?_) (fun e9 => absurd (by omega) e9)
  refine n_go f_6_83 rfl (pc' := 84) rfl ?_
  refine n_go f_6_84 rfl (pc' := 85) (st' := .int (iI 5) :: _) rfl ?_
  refine n_ic_ne f_6_85 rfl rfl ⟨by omega, by omega⟩ (fun _ => ?_) (fun e9 => absurd (by omega) e9)
  refine n_go f_6_101 rfl (pc' := 102) rfl ?_
  refine n_bip (m := 6) f_6_102 rfl (by decide) ?_
  refine n_ic_ne f_6_104 rfl rfl ⟨by omega, by omega⟩ (fun _ => ?_) (fun e9 => absurd (by omega) e9)
  refine n_go f_6_118 rfl (pc' := 119) rfl ?_
  refine n_bip (m := 7) f_6_119 rfl (by decide) ?_
  refine n_ic_ne f_6_121 rfl rfl ⟨by omega, by omega⟩ (fun _ => ?_) (fun e9 => absurd (by omega) e9)
  refine n_go f_6_137 rfl (pc' := 138) rfl ?_
  refine n_bip (m := 8) f_6_138 rfl (by decide) ?_
  refine n_ic_ne f_6_140 rfl rfl ⟨by omega, by omega⟩ (fun _ => ?_) (fun e9 => absurd (by omega) e9)
  refine n_go f_6_151 rfl (pc' := 152) rfl ?_
  refine n_bip (m := 9) f_6_152 rfl (by decide) ?_
  refine n_ic_ne f_6_154 rfl rfl ⟨by omega, by omega⟩ (fun _ => ?_) (fun e9 => absurd (by omega) e9)
  refine n_go f_6_165 rfl (pc' := 166) rfl ?_
  refine n_bip (m := 10) f_6_166 rfl (by decide) ?_
  refine n_ic_ne f_6_168 rfl rfl ⟨by omega, by omega⟩ (fun e9 => absurd e9 (by omega)) (fun _ => ?_)
  refine n_go f_6_171 rfl (pc' := 172) rfl ?_
  refine n_go f_6_172 rfl (pc' := 173) rfl ?_
  refine n_go f_6_173 rfl (pc' := 174) rfl ?_
  refine n_cv (ls' := [_, _, _, _]) f_6_174 (by decide) m_52 rfl rfl (by assumption) rfl ?_
  refine En.imp C (fun o h1 hP => ?_)
  match o, hP with
  | .inl (some (.int v)), hP =>
    show En V _ _ 177 _ [.int v] h1 _
    refine n_go f_6_177 rfl (pc' := 203) rfl ?_
    exact d_end hP
  | .inr 11, hP =>
    refine n_hd (t := 209) (pc' := 211) (ls' := [_, _, _, _, _, _, _, _]) rfl rfl ?_
    refine n_bip (m := (-11)) f_6_211 rfl (by decide) ?_
    refine n_ret f_6_213 rfl rfl ?_
    exact hP
  | .inr 12, hP =>
    refine n_hd (t := 214) (pc' := 216) (ls' := [_, _, _, _, _, _, _, _]) rfl rfl ?_
    refine n_bip (m := (-12)) f_6_216 rfl (by decide) ?_
    refine n_ret f_6_218 rfl rfl ?_
    exact hP
  | .inr 13, hP =>
    refine n_hd (t := 219) (pc' := 221) (ls' := [_, _, _, _, _, _, _, _]) rfl rfl ?_
    refine n_bip (m := (-13)) f_6_221 rfl (by decide) ?_
    refine n_ret f_6_223 rfl rfl ?_
    exact hP
  | .inr 14, hP =>
    refine n_hd (t := 204) (pc' := 206) (ls' := [_, _, _, _, _, _, _, _]) rfl rfl ?_
    refine n_bip (m := (-14)) f_6_206 rfl (by decide) ?_
    refine n_ret f_6_208 rfl rfl ?_
    exact hP
theorem d_holder {fs : List Value} (h0 : h.1[0]? = some (.inr (0, fs))) (C : En V d 53 0 [some (.ref 0), some (.int (iI x)), some (.int (iI y)), none] [] h (dO P)) : En V (d + 1) 6 0 [some (.ref 0), some (.int (iI 11)), some (.int (iI x)), some (.int (iI y)), some (.int (iI z)), some (.int (iI a)), some (.int (iI b)), none] [] h P := by
  refine n_go f_6_0 rfl (pc' := 1) rfl ?_
  refine n_if_ne f_6_1 rfl rfl (by omega) (fun _ => ?_) (fun e9 => absurd (by omega) e9)
  refine n_go f_6_19 rfl (pc' := 20) rfl ?_
  refine n_go f_6_20 rfl (pc' := 21) (st' := .int (iI 1) :: _) rfl ?_
  refine n_ic_ne f_6_21 rfl rfl ⟨by omega, by omega⟩ (fun _ => ?_) (fun e9 => absurd (by omega) e9)
  refine n_go f_6_33 rfl (pc' := 34) rfl ?_
  refine n_go f_6_34 rfl (pc' := 35) (st' := .int (iI 2) :: _) rfl ?_
  refine n_ic_ne f_6_35 rfl rfl ⟨by omega, by omega⟩ (fun _ => ?_) (fun e9 => absurd (by omega) e9)
  refine n_go f_6_51 rfl (pc' := 52) rfl ?_
  refine n_go f_6_52 rfl (pc' := 53) (st' := .int (iI 3) :: _) rfl ?_
  refine n_ic_ne f_6_53 rfl rfl ⟨by omega, by omega⟩ (fun _ => ?_) (fun e9 => absurd (by omega) e9)
  refine n_go f_6_67 rfl (pc' := 68) rfl ?_
  refine n_go f_6_68 rfl (pc' := 69) (st' := .int (iI 4) :: _) rfl ?_
  refine n_ic_ne f_6_69 rfl rfl ⟨by omega, by omega⟩ (fun _ => ?_) (fun e9 => absurd (by omega) e9)
  refine n_go f_6_83 rfl (pc' := 84) rfl ?_
  refine n_go f_6_84 rfl (pc' := 85) (st' := .int (iI 5) :: _) rfl ?_
  refine n_ic_ne f_6_85 rfl rfl ⟨by omega, by omega⟩ (fun _ => ?_) (fun e9 => absurd (by omega) e9)
  refine n_go f_6_101 rfl (pc' := 102) rfl ?_
  refine n_bip (m := 6) f_6_102 rfl (by decide) ?_
  refine n_ic_ne f_6_104 rfl rfl ⟨by omega, by omega⟩ (fun _ => ?_) (fun e9 => absurd (by omega) e9)
  refine n_go f_6_118 rfl (pc' := 119) rfl ?_
  refine n_bip (m := 7) f_6_119 rfl (by decide) ?_
  refine n_ic_ne f_6_121 rfl rfl ⟨by omega, by omega⟩ (fun _ => ?_) (fun e9 => absurd (by omega) e9)
  refine n_go f_6_137 rfl (pc' := 138) rfl ?_
  refine n_bip (m := 8) f_6_138 rfl (by decide) ?_
  refine n_ic_ne f_6_140 rfl rfl ⟨by omega, by omega⟩ (fun _ => ?_) (fun e9 => absurd (by omega) e9)
  refine n_go f_6_151 rfl (pc' := 152) rfl ?_
  refine n_bip (m := 9) f_6_152 rfl (by decide) ?_
  refine n_ic_ne f_6_154 rfl rfl ⟨by omega, by omega⟩ (fun _ => ?_) (fun e9 => absurd (by omega) e9)
  refine n_go f_6_165 rfl (pc' := 166) rfl ?_
  refine n_bip (m := 10) f_6_166 rfl (by decide) ?_
  refine n_ic_ne f_6_168 rfl rfl ⟨by omega, by omega⟩ (fun _ => ?_) (fun e9 => absurd (by omega) e9)
  refine n_go f_6_180 rfl (pc' := 181) rfl ?_
  refine n_bip (m := 11) f_6_181 rfl (by decide) ?_
  refine n_ic_ne f_6_183 rfl rfl ⟨by omega, by omega⟩ (fun e9 => absurd e9 (by omega)) (fun _ => ?_)
  refine n_go f_6_186 rfl (pc' := 187) rfl ?_
  refine n_go f_6_187 rfl (pc' := 188) rfl ?_
  refine n_go f_6_188 rfl (pc' := 189) rfl ?_
  refine n_cv (ls' := [_, _, _, _]) f_6_189 (by decide) m_53 rfl rfl (by assumption) rfl ?_
  refine En.imp C (fun o h1 hP => ?_)
  match o, hP with
  | .inl (some (.int v)), hP =>
    show En V _ _ 192 _ [.int v] h1 _
    refine n_go f_6_192 rfl (pc' := 203) rfl ?_
    exact d_end hP
  | .inr 11, hP =>
    refine n_hd (t := 209) (pc' := 211) (ls' := [_, _, _, _, _, _, _, _]) rfl rfl ?_
    refine n_bip (m := (-11)) f_6_211 rfl (by decide) ?_
    refine n_ret f_6_213 rfl rfl ?_
    exact hP
  | .inr 12, hP =>
    refine n_hd (t := 214) (pc' := 216) (ls' := [_, _, _, _, _, _, _, _]) rfl rfl ?_
    refine n_bip (m := (-12)) f_6_216 rfl (by decide) ?_
    refine n_ret f_6_218 rfl rfl ?_
    exact hP
  | .inr 13, hP =>
    refine n_hd (t := 219) (pc' := 221) (ls' := [_, _, _, _, _, _, _, _]) rfl rfl ?_
    refine n_bip (m := (-13)) f_6_221 rfl (by decide) ?_
    refine n_ret f_6_223 rfl rfl ?_
    exact hP
  | .inr 14, hP =>
    refine n_hd (t := 204) (pc' := 206) (ls' := [_, _, _, _, _, _, _, _]) rfl rfl ?_
    refine n_bip (m := (-14)) f_6_206 rfl (by decide) ?_
    refine n_ret f_6_208 rfl rfl ?_
    exact hP
theorem d_scriptAt {fs : List Value} (h0 : h.1[0]? = some (.inr (0, fs))) (C : En V d 54 0 [some (.ref 0), some (.int (iI x)), some (.int (iI y)), some (.int (iI z))] [] h (dO P)) : En V (d + 1) 6 0 [some (.ref 0), some (.int (iI 12)), some (.int (iI x)), some (.int (iI y)), some (.int (iI z)), some (.int (iI a)), some (.int (iI b)), none] [] h P := by
  refine n_go f_6_0 rfl (pc' := 1) rfl ?_
  refine n_if_ne f_6_1 rfl rfl (by omega) (fun _ => ?_) (fun e9 => absurd (by omega) e9)
  refine n_go f_6_19 rfl (pc' := 20) rfl ?_
  refine n_go f_6_20 rfl (pc' := 21) (st' := .int (iI 1) :: _) rfl ?_
  refine n_ic_ne f_6_21 rfl rfl ⟨by omega, by omega⟩ (fun _ => ?_) (fun e9 => absurd (by omega) e9)
  refine n_go f_6_33 rfl (pc' := 34) rfl ?_
  refine n_go f_6_34 rfl (pc' := 35) (st' := .int (iI 2) :: _) rfl ?_
  refine n_ic_ne f_6_35 rfl rfl ⟨by omega, by omega⟩ (fun _ => ?_) (fun e9 => absurd (by omega) e9)
  refine n_go f_6_51 rfl (pc' := 52) rfl ?_
  refine n_go f_6_52 rfl (pc' := 53) (st' := .int (iI 3) :: _) rfl ?_
  refine n_ic_ne f_6_53 rfl rfl ⟨by omega, by omega⟩ (fun _ => ?_) (fun e9 => absurd (by omega) e9)
  refine n_go f_6_67 rfl (pc' := 68) rfl ?_
  refine n_go f_6_68 rfl (pc' := 69) (st' := .int (iI 4) :: _) rfl ?_
  refine n_ic_ne f_6_69 rfl rfl ⟨by omega, by omega⟩ (fun _ => ?_) (fun e9 => absurd (by omega) e9)
  refine n_go f_6_83 rfl (pc' := 84) rfl ?_
  refine n_go f_6_84 rfl (pc' := 85) (st' := .int (iI 5) :: _) rfl ?_
  refine n_ic_ne f_6_85 rfl rfl ⟨by omega, by omega⟩ (fun _ => ?_) (fun e9 => absurd (by omega) e9)
  refine n_go f_6_101 rfl (pc' := 102) rfl ?_
  refine n_bip (m := 6) f_6_102 rfl (by decide) ?_
  refine n_ic_ne f_6_104 rfl rfl ⟨by omega, by omega⟩ (fun _ => ?_) (fun e9 => absurd (by omega) e9)
  refine n_go f_6_118 rfl (pc' := 119) rfl ?_
  refine n_bip (m := 7) f_6_119 rfl (by decide) ?_
  refine n_ic_ne f_6_121 rfl rfl ⟨by omega, by omega⟩ (fun _ => ?_) (fun e9 => absurd (by omega) e9)
  refine n_go f_6_137 rfl (pc' := 138) rfl ?_
  refine n_bip (m := 8) f_6_138 rfl (by decide) ?_
  refine n_ic_ne f_6_140 rfl rfl ⟨by omega, by omega⟩ (fun _ => ?_) (fun e9 => absurd (by omega) e9)
  refine n_go f_6_151 rfl (pc' := 152) rfl ?_
  refine n_bip (m := 9) f_6_152 rfl (by decide) ?_
  refine n_ic_ne f_6_154 rfl rfl ⟨by omega, by omega⟩ (fun _ => ?_) (fun e9 => absurd (by omega) e9)
  refine n_go f_6_165 rfl (pc' := 166) rfl ?_
  refine n_bip (m := 10) f_6_166 rfl (by decide) ?_
  refine n_ic_ne f_6_168 rfl rfl ⟨by omega, by omega⟩ (fun _ => ?_) (fun e9 => absurd (by omega) e9)
  refine n_go f_6_180 rfl (pc' := 181) rfl ?_
  refine n_bip (m := 11) f_6_181 rfl (by decide) ?_
  refine n_ic_ne f_6_183 rfl rfl ⟨by omega, by omega⟩ (fun _ => ?_) (fun e9 => absurd (by omega) e9)
  refine n_go f_6_195 rfl (pc' := 196) rfl ?_
  refine n_go f_6_196 rfl (pc' := 197) rfl ?_
  refine n_go f_6_197 rfl (pc' := 198) rfl ?_
  refine n_go f_6_198 rfl (pc' := 200) rfl ?_
  refine n_cv (ls' := [_, _, _, _]) f_6_200 (by decide) m_54 rfl rfl (by assumption) rfl ?_
  refine En.imp C (fun o h1 hP => ?_)
  match o, hP with
  | .inl (some (.int v)), hP =>
    show En V _ _ 203 _ [.int v] h1 _
    exact d_end hP
  | .inr 11, hP =>
    refine n_hd (t := 209) (pc' := 211) (ls' := [_, _, _, _, _, _, _, _]) rfl rfl ?_
    refine n_bip (m := (-11)) f_6_211 rfl (by decide) ?_
    refine n_ret f_6_213 rfl rfl ?_
    exact hP
  | .inr 12, hP =>
    refine n_hd (t := 214) (pc' := 216) (ls' := [_, _, _, _, _, _, _, _]) rfl rfl ?_
    refine n_bip (m := (-12)) f_6_216 rfl (by decide) ?_
    refine n_ret f_6_218 rfl rfl ?_
    exact hP
  | .inr 13, hP =>
    refine n_hd (t := 219) (pc' := 221) (ls' := [_, _, _, _, _, _, _, _]) rfl rfl ?_
    refine n_bip (m := (-13)) f_6_221 rfl (by decide) ?_
    refine n_ret f_6_223 rfl rfl ?_
    exact hP
  | .inr 14, hP =>
    refine n_hd (t := 204) (pc' := 206) (ls' := [_, _, _, _, _, _, _, _]) rfl rfl ?_
    refine n_bip (m := (-14)) f_6_206 rfl (by decide) ?_
    refine n_ret f_6_208 rfl rfl ?_
    exact hP
end LD
