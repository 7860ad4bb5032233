/-! The constructor walked. -/
theorem c_line0 {V : ev_V} {d : Nat} {h : ev_H} {P : ev_O → ev_H → Prop} {fs : List Value} (h12 : h.1[12]? = some (.inr (3, fs))) (KK : P (.inl (some (.long (l64 0)))) h) : En V (d + 1) 67 0 [some (.ref 12), some (.int (iI (-1)))] [] h P := by
  refine n_go f_67_0 rfl (pc' := 1) rfl ?_
  refine n_go f_67_1 rfl (pc' := 2) rfl ?_
  refine n_cv (ls' := [_, _]) f_67_2 (by decide) m_126 rfl rfl (h12) rfl ?_
  show En V _ _ 0 [some (.ref 12), some (.int (iI (-1)))] [] h _
  refine n_go f_126_0 rfl (pc' := 1) rfl ?_
  refine n_if_lt f_126_1 rfl rfl (by omega) (fun _ => ?_) (fun e9 => absurd (by omega) e9)
  refine n_go f_126_25 rfl (pc' := 26) (st' := .int (iI 0) :: _) rfl ?_
  first | refine n_rtz f_126_26 rfl ?_ | refine n_rt0 f_126_26 rfl ?_ | refine n_rt1 f_126_26 rfl ?_
  show En V _ _ 5 _ [.int (iI 0)] h _
  refine n_if_eq f_67_5 rfl rfl (by omega) (fun _ => ?_) (fun e9 => absurd (by omega) e9)
  refine n_go f_67_21 rfl (pc' := 22) rfl ?_
  refine n_ret f_67_22 rfl rfl ?_
  exact KK
theorem fl1 : (fx_dft 1).length = 11 := rfl
theorem fl2 : (fx_dft 2).length = 2 := rfl
theorem fl3 : (fx_dft 3).length = 5 := rfl
theorem fl4 : (fx_dft 4).length = 3 := rfl
theorem fl5 : (fx_dft 5).length = 5 := rfl
theorem fl6 : (fx_dft 6).length = 3 := rfl
theorem fl7 : (fx_dft 7).length = 3 := rfl
theorem fl8 : (fx_dft 8).length = 3 := rfl
theorem fl9 : (fx_dft 9).length = 8 := rfl
theorem K0_r : rK K0 := ⟨by decide, by decide, by decide, fun _ => (by decide : (0 : Int) ≤ 0 ∧ (0 : Int) ≤ 3), fun _ => (by decide : (0 : Int) ≤ 0 ∧ (0 : Int) < 40), fun _ => (by decide : (0 : Int) ≤ 0 ∧ (0 : Int) < 40), fun _ => (by decide : (0 : Int) ≤ 0 ∧ (0 : Int) < 120), fun _ => (by decide : (0 : Int) ≤ 0 ∧ (0 : Int) < 40), fun _ => (by decide : (0 : Int) ≤ 0 ∧ (0 : Int) < 100), fun _ => (by decide : (0 : Int) ≤ 0 ∧ (0 : Int) < 5), fun _ => (by decide : (0 : Int) ≤ 0 ∧ (0 : Int) < 120)⟩
theorem H0_r : rH H0 := by
  have hf : ∀ v : Int, -1 ≤ (if v = 0 then (-1 : Int) else 0) ∧ (if v = 0 then (-1 : Int) else 0) < 6 := fun v => by split <;> decide
  exact ⟨by decide, fun _ => (by decide : 0 < 64), hf, hf, fun _ _ _ => Or.inl rfl⟩
def dkU : Int → Option Nat := uz (uz (uz (uz (uz (fun _ => none) 0 (some 45)) 1 (some 51)) 2 (some 57)) 3 (some 63)) 4 (some 69)
theorem dk_eq {h : ev_H} (e : h.1[36]? = some (aR 3 5 dkU)) : h.1[36]? = some (aR 3 5 dkA) := by
  rw [e, aR_congr (f' := dkA) (fun i i1 i2 => ?_)]
  rcases (by omega : i = 0 ∨ i = 1 ∨ i = 2 ∨ i = 3 ∨ i = 4) with rfl | rfl | rfl | rfl | rfl <;> rfl
theorem hf_eq {h : ev_H} {a : Nat} (e : h.1[a]? = some (aI 40 (uz (fun _ => 0) 0 (-1)))) : h.1[a]? = some (aI 40 (fun i => if i = 0 then -1 else 0)) := e
theorem hl_eq {h : ev_H} {a : Nat} (e : h.1[a]? = some (aL 40 (uz (fun _ => (0 : Int64)) 0 (l64 0 ||| l64 0)))) : h.1[a]? = some (aL 40 (fun _ => l64 0)) := by
  rw [e, aL_congr (f' := fun _ => l64 0) (fun i _ _ => by unfold uz; split <;> rfl)]
section CC
variable {V : ev_V} {d : Nat} {h : ev_H} {P : ev_O → ev_H → Prop} {s : Nat}
theorem c_new0 (M : Ht h [(0, .inr (0, fx_dft 0))] 1 s) (KK : ∀ h', Wd h' w0 → h'.1.length = 82 → h'.2.2 = s + 5501 → P (.inl none) h') : En V (d + 6) 1 0 [some (.ref 0), none] [] h P := by
  refine n_go f_1_0 rfl (pc' := 1) rfl ?_
  refine n_ob f_1_1 rfl rfl ?_
  refine n_go f_1_4 rfl (pc' := 5) rfl ?_
  refine H_new (n' := 2) f_1_5 (by decide) rfl M (fun h M => ?_)
  refine n_go f_1_8 rfl (pc' := 9) rfl ?_
  refine n_ci (ls' := [_]) f_1_9 (by decide) m_18 rfl rfl rfl ?_
  show En V _ _ 0 [some (.ref 1)] [] h _
  refine n_go f_18_0 rfl (pc' := 1) rfl ?_
  refine n_ob f_18_1 rfl rfl ?_
  refine n_go f_18_4 rfl (pc' := 5) rfl ?_
  refine n_go f_18_5 rfl (pc' := 6) (st' := .int (iI 1) :: _) rfl ?_
  refine H_pf f_18_6 rfl M rfl rfl (fun h M => ?_)
  refine n_go f_18_9 rfl (pc' := 10) rfl ?_
  refine n_bip (m := 40) f_18_10 rfl (by decide) ?_
  refine H_nai (n' := 3) f_18_12 rfl (by decide) rfl M (fun h M => ?_)
  refine H_pf f_18_14 rfl M rfl rfl (fun h M => ?_)
  refine n_go f_18_17 rfl (pc' := 18) rfl ?_
  refine n_bip (m := 120) f_18_18 rfl (by decide) ?_
  refine H_nai (n' := 4) f_18_20 rfl (by decide) rfl M (fun h M => ?_)
  refine H_pf f_18_22 rfl M rfl rfl (fun h M => ?_)
  refine n_go f_18_25 rfl (pc' := 26) rfl ?_
  refine n_bip (m := 120) f_18_26 rfl (by decide) ?_
  refine H_nai (n' := 5) f_18_28 rfl (by decide) rfl M (fun h M => ?_)
  refine H_pf f_18_30 rfl M rfl rfl (fun h M => ?_)
  refine n_go f_18_33 rfl (pc' := 34) rfl ?_
  refine n_bip (m := 120) f_18_34 rfl (by decide) ?_
  refine H_nai (n' := 6) f_18_36 rfl (by decide) rfl M (fun h M => ?_)
  refine H_pf f_18_38 rfl M rfl rfl (fun h M => ?_)
  refine n_go f_18_41 rfl (pc' := 42) rfl ?_
  refine n_bip (m := 120) f_18_42 rfl (by decide) ?_
  refine H_nai (n' := 7) f_18_44 rfl (by decide) rfl M (fun h M => ?_)
  refine H_pf f_18_46 rfl M rfl rfl (fun h M => ?_)
  refine n_go f_18_49 rfl (pc' := 50) rfl ?_
  refine n_bip (m := 120) f_18_50 rfl (by decide) ?_
  refine H_nai (n' := 8) f_18_52 rfl (by decide) rfl M (fun h M => ?_)
  refine H_pf f_18_54 rfl M rfl rfl (fun h M => ?_)
  refine n_go f_18_57 rfl (pc' := 58) rfl ?_
  refine n_bip (m := 120) f_18_58 rfl (by decide) ?_
  refine H_nai (n' := 9) f_18_60 rfl (by decide) rfl M (fun h M => ?_)
  refine H_pf f_18_62 rfl M rfl rfl (fun h M => ?_)
  refine n_go f_18_65 rfl (pc' := 66) rfl ?_
  refine n_bip (m := 120) f_18_66 rfl (by decide) ?_
  refine H_nai (n' := 10) f_18_68 rfl (by decide) rfl M (fun h M => ?_)
  refine H_pf f_18_70 rfl M rfl rfl (fun h M => ?_)
  refine n_ret f_18_73 rfl rfl ?_
  show En V _ 1 12 _ [.ref 1, .ref 0] h _
  refine H_pf f_1_12 rfl M rfl rfl (fun h M => ?_)
  refine n_go f_1_15 rfl (pc' := 16) rfl ?_
  refine H_new (n' := 11) f_1_16 (by decide) rfl M (fun h M => ?_)
  refine n_go f_1_19 rfl (pc' := 20) rfl ?_
  refine n_go f_1_20 rfl (pc' := 21) rfl ?_
  refine n_gf f_1_21 rfl (M.get rfl) rfl ?_
  refine n_ci (ls' := [_, _]) f_1_24 (by decide) m_19 rfl rfl rfl ?_
  show En V _ _ 0 [some (.ref 10), some (.ref 1)] [] h _
  refine n_go f_19_0 rfl (pc' := 1) rfl ?_
  refine n_ob f_19_1 rfl rfl ?_
  refine n_go f_19_4 rfl (pc' := 5) rfl ?_
  refine n_bip (m := 40) f_19_5 rfl (by decide) ?_
  refine H_nai (n' := 12) f_19_7 rfl (by decide) rfl M (fun h M => ?_)
  refine H_pf f_19_9 rfl M rfl rfl (fun h M => ?_)
  refine n_go f_19_12 rfl (pc' := 13) rfl ?_
  refine n_go f_19_13 rfl (pc' := 14) rfl ?_
  refine H_pf f_19_14 rfl M rfl rfl (fun h M => ?_)
  refine n_ret f_19_17 rfl rfl ?_
  show En V _ 1 27 _ [.ref 10, .ref 0] h _
  refine H_pf f_1_27 rfl M rfl rfl (fun h M => ?_)
  refine n_go f_1_30 rfl (pc' := 31) rfl ?_
  refine H_new (n' := 13) f_1_31 (by decide) rfl M (fun h M => ?_)
  refine n_go f_1_34 rfl (pc' := 35) rfl ?_
  refine n_ci (ls' := [_]) f_1_35 (by decide) m_20 rfl rfl rfl ?_
  show En V _ _ 0 [some (.ref 12)] [] h _
  refine n_go f_20_0 rfl (pc' := 1) rfl ?_
  refine n_ob f_20_1 rfl rfl ?_
  refine n_go f_20_4 rfl (pc' := 5) rfl ?_
  refine H_new (n' := 14) f_20_5 (by decide) rfl M (fun h M => ?_)
  refine n_go f_20_8 rfl (pc' := 9) rfl ?_
  refine n_ci (ls' := [_]) f_20_9 (by decide) m_63 rfl rfl rfl ?_
  refine H_list M rfl (fun h M => ?_)
  show En V _ _ 12 _ [.ref 13, .ref 12] h _
  refine H_pf f_20_12 rfl M rfl rfl (fun h M => ?_)
  refine n_go f_20_15 rfl (pc' := 16) rfl ?_
  refine n_bip (m := 40) f_20_16 rfl (by decide) ?_
  refine H_nai (n' := 15) f_20_18 rfl (by decide) rfl M (fun h M => ?_)
  refine H_pf f_20_20 rfl M rfl rfl (fun h M => ?_)
  refine n_go f_20_23 rfl (pc' := 24) rfl ?_
  refine n_bip (m := 40) f_20_24 rfl (by decide) ?_
  refine H_nai (n' := 16) f_20_26 rfl (by decide) rfl M (fun h M => ?_)
  refine H_pf f_20_28 rfl M rfl rfl (fun h M => ?_)
  refine n_go f_20_31 rfl (pc' := 32) rfl ?_
  refine n_bip (m := 40) f_20_32 rfl (by decide) ?_
  refine H_nal (n' := 17) f_20_34 rfl (by decide) rfl M (fun h M => ?_)
  refine H_pf f_20_36 rfl M rfl rfl (fun h M => ?_)
  refine n_go f_20_39 rfl (pc' := 40) rfl ?_
  refine H_new (n' := 18) f_20_40 (by decide) rfl M (fun h M => ?_)
  refine n_go f_20_43 rfl (pc' := 44) rfl ?_
  refine n_ci (ls' := [_]) f_20_44 (by decide) m_25 rfl rfl rfl ?_
  refine c_newState (M.get rfl) M.1 M.2.1 (by decide) (fun h1 hS n1 n2 n3 n4 => ?_)
  have M := M.sub hS (fun j j1 j2 => n1 j (by omega)) n2 n3 (n4.trans (congrArg (· + 440) M.2.2.1))
  clear hS
  clear n1 n2 n3 n4
  generalize hx : h1 = h at *
  show En V _ 20 47 _ [.ref 17, .ref 12] h _
  refine H_pf f_20_47 rfl M rfl rfl (fun h M => ?_)
  refine n_ret f_20_50 rfl rfl ?_
  show En V _ 1 38 _ [.ref 12, .ref 0] h _
  refine H_pf f_1_38 rfl M rfl rfl (fun h M => ?_)
  refine n_go f_1_41 rfl (pc' := 42) rfl ?_
  refine H_new (n' := 24) f_1_42 (by decide) rfl M (fun h M => ?_)
  refine n_go f_1_45 rfl (pc' := 46) rfl ?_
  refine n_go f_1_46 rfl (pc' := 47) rfl ?_
  refine n_gf f_1_47 rfl (M.get rfl) rfl ?_
  refine n_go f_1_50 rfl (pc' := 51) rfl ?_
  refine n_gf f_1_51 rfl (M.get rfl) rfl ?_
  refine n_ci (ls' := [_, _, _]) f_1_54 (by decide) m_21 rfl rfl rfl ?_
  show En V _ _ 0 [some (.ref 23), some (.ref 10), some (.ref 12)] [] h _
  refine n_go f_21_0 rfl (pc' := 1) rfl ?_
  refine n_ob f_21_1 rfl rfl ?_
  refine n_go f_21_4 rfl (pc' := 5) rfl ?_
  refine H_new (n' := 25) f_21_5 (by decide) rfl M (fun h M => ?_)
  refine n_go f_21_8 rfl (pc' := 9) rfl ?_
  refine n_ci (ls' := [_]) f_21_9 (by decide) m_63 rfl rfl rfl ?_
  refine H_list M rfl (fun h M => ?_)
  show En V _ _ 12 _ [.ref 24, .ref 23] h _
  refine H_pf f_21_12 rfl M rfl rfl (fun h M => ?_)
  refine n_go f_21_15 rfl (pc' := 16) rfl ?_
  refine n_go f_21_16 rfl (pc' := 17) rfl ?_
  refine H_pf f_21_17 rfl M rfl rfl (fun h M => ?_)
  refine n_go f_21_20 rfl (pc' := 21) rfl ?_
  refine n_go f_21_21 rfl (pc' := 22) rfl ?_
  refine H_pf f_21_22 rfl M rfl rfl (fun h M => ?_)
  refine n_ret f_21_25 rfl rfl ?_
  show En V _ 1 57 _ [.ref 23, .ref 0] h _
  refine H_pf f_1_57 rfl M rfl rfl (fun h M => ?_)
  refine n_go f_1_60 rfl (pc' := 61) rfl ?_
  refine H_new (n' := 26) f_1_61 (by decide) rfl M (fun h M => ?_)
  refine n_go f_1_64 rfl (pc' := 65) rfl ?_
  refine n_ci (ls' := [_]) f_1_65 (by decide) m_22 rfl rfl rfl ?_
  show En V _ _ 0 [some (.ref 25)] [] h _
  refine n_go f_22_0 rfl (pc' := 1) rfl ?_
  refine n_ob f_22_1 rfl rfl ?_
  refine n_go f_22_4 rfl (pc' := 5) rfl ?_
  refine n_sip (m := 280) f_22_5 rfl (by decide) ?_
  refine H_nai (n' := 27) f_22_8 rfl (by decide) rfl M (fun h M => ?_)
  refine H_pf f_22_10 rfl M rfl rfl (fun h M => ?_)
  refine n_go f_22_13 rfl (pc' := 14) rfl ?_
  refine n_sip (m := 280) f_22_14 rfl (by decide) ?_
  refine H_nai (n' := 28) f_22_17 rfl (by decide) rfl M (fun h M => ?_)
  refine H_pf f_22_19 rfl M rfl rfl (fun h M => ?_)
  refine n_ret f_22_22 rfl rfl ?_
  show En V _ 1 68 _ [.ref 25, .ref 0] h _
  refine H_pf f_1_68 rfl M rfl rfl (fun h M => ?_)
  refine n_go f_1_71 rfl (pc' := 72) rfl ?_
  refine H_new (n' := 29) f_1_72 (by decide) rfl M (fun h M => ?_)
  refine n_go f_1_75 rfl (pc' := 76) rfl ?_
  refine n_go f_1_76 rfl (pc' := 77) rfl ?_
  refine n_gf f_1_77 rfl (M.get rfl) rfl ?_
  refine n_go f_1_80 rfl (pc' := 81) rfl ?_
  refine n_gf f_1_81 rfl (M.get rfl) rfl ?_
  refine n_ci (ls' := [_, _, _]) f_1_84 (by decide) m_23 rfl rfl rfl ?_
  show En V _ _ 0 [some (.ref 28), some (.ref 1), some (.ref 10)] [] h _
  refine n_go f_23_0 rfl (pc' := 1) rfl ?_
  refine n_ob f_23_1 rfl rfl ?_
  refine n_go f_23_4 rfl (pc' := 5) rfl ?_
  refine n_bip (m := 40) f_23_5 rfl (by decide) ?_
  refine H_nai (n' := 30) f_23_7 rfl (by decide) rfl M (fun h M => ?_)
  refine H_pf f_23_9 rfl M rfl rfl (fun h M => ?_)
  refine n_go f_23_12 rfl (pc' := 13) rfl ?_
  refine n_go f_23_13 rfl (pc' := 14) rfl ?_
  refine H_pf f_23_14 rfl M rfl rfl (fun h M => ?_)
  refine n_go f_23_17 rfl (pc' := 18) rfl ?_
  refine n_go f_23_18 rfl (pc' := 19) rfl ?_
  refine H_pf f_23_19 rfl M rfl rfl (fun h M => ?_)
  refine n_ret f_23_22 rfl rfl ?_
  show En V _ 1 87 _ [.ref 28, .ref 0] h _
  refine H_pf f_1_87 rfl M rfl rfl (fun h M => ?_)
  refine n_go f_1_90 rfl (pc' := 91) rfl ?_
  refine H_new (n' := 31) f_1_91 (by decide) rfl M (fun h M => ?_)
  refine n_go f_1_94 rfl (pc' := 95) rfl ?_
  refine n_go f_1_95 rfl (pc' := 96) rfl ?_
  refine n_gf f_1_96 rfl (M.get rfl) rfl ?_
  refine n_go f_1_99 rfl (pc' := 100) rfl ?_
  refine n_gf f_1_100 rfl (M.get rfl) rfl ?_
  refine n_go f_1_103 rfl (pc' := 104) rfl ?_
  refine n_gf f_1_104 rfl (M.get rfl) rfl ?_
  refine n_ci (ls' := [_, _, _, _]) f_1_107 (by decide) m_24 rfl rfl rfl ?_
  show En V _ _ 0 [some (.ref 30), some (.ref 1), some (.ref 10), some (.ref 28)] [] h _
  refine n_go f_24_0 rfl (pc' := 1) rfl ?_
  refine n_ob f_24_1 rfl rfl ?_
  refine n_go f_24_4 rfl (pc' := 5) rfl ?_
  refine n_bip (m := 40) f_24_5 rfl (by decide) ?_
  refine H_nal (n' := 32) f_24_7 rfl (by decide) rfl M (fun h M => ?_)
  refine H_pf f_24_9 rfl M rfl rfl (fun h M => ?_)
  refine n_go f_24_12 rfl (pc' := 13) rfl ?_
  refine n_bip (m := 40) f_24_13 rfl (by decide) ?_
  refine H_nal (n' := 33) f_24_15 rfl (by decide) rfl M (fun h M => ?_)
  refine H_pf f_24_17 rfl M rfl rfl (fun h M => ?_)
  refine n_go f_24_20 rfl (pc' := 21) rfl ?_
  refine n_bip (m := 40) f_24_21 rfl (by decide) ?_
  refine H_nab (n' := 34) f_24_23 rfl (by decide) rfl M (fun h M => ?_)
  refine H_pf f_24_25 rfl M rfl rfl (fun h M => ?_)
  refine n_go f_24_28 rfl (pc' := 29) rfl ?_
  refine n_bip (m := 40) f_24_29 rfl (by decide) ?_
  refine H_nab (n' := 35) f_24_31 rfl (by decide) rfl M (fun h M => ?_)
  refine H_pf f_24_33 rfl M rfl rfl (fun h M => ?_)
  refine n_go f_24_36 rfl (pc' := 37) rfl ?_
  refine n_bip (m := 40) f_24_37 rfl (by decide) ?_
  refine H_nai (n' := 36) f_24_39 rfl (by decide) rfl M (fun h M => ?_)
  refine H_pf f_24_41 rfl M rfl rfl (fun h M => ?_)
  refine n_go f_24_44 rfl (pc' := 45) rfl ?_
  refine n_go f_24_45 rfl (pc' := 46) rfl ?_
  refine H_pf f_24_46 rfl M rfl rfl (fun h M => ?_)
  refine n_go f_24_49 rfl (pc' := 50) rfl ?_
  refine n_go f_24_50 rfl (pc' := 51) rfl ?_
  refine H_pf f_24_51 rfl M rfl rfl (fun h M => ?_)
  refine n_go f_24_54 rfl (pc' := 55) rfl ?_
  refine n_go f_24_55 rfl (pc' := 56) rfl ?_
  refine H_pf f_24_56 rfl M rfl rfl (fun h M => ?_)
  refine n_ret f_24_59 rfl rfl ?_
  show En V _ 1 110 _ [.ref 30, .ref 0] h _
  refine H_pf f_1_110 rfl M rfl rfl (fun h M => ?_)
  refine n_go f_1_113 rfl (pc' := 114) rfl ?_
  refine n_go f_1_114 rfl (pc' := 115) (st' := .int (iI 5) :: _) rfl ?_
  refine H_nar (n' := 37) f_1_115 rfl (by decide) rfl M (fun h M => ?_)
  refine H_pf f_1_118 rfl M rfl rfl (fun h M => ?_)
  refine n_go f_1_121 rfl (pc' := 122) rfl ?_
  refine n_go f_1_122 rfl (pc' := 123) (st' := .int (iI 5) :: _) rfl ?_
  refine H_nai (n' := 38) f_1_123 rfl (by decide) rfl M (fun h M => ?_)
  refine H_pf f_1_125 rfl M rfl rfl (fun h M => ?_)
  refine n_go f_1_128 rfl (pc' := 129) rfl ?_
  refine n_go f_1_129 rfl (pc' := 130) (st' := .int (iI 1) :: _) rfl ?_
  refine H_pf f_1_130 rfl M rfl rfl (fun h M => ?_)
  refine n_go f_1_133 rfl (pc' := 134) rfl ?_
  refine H_new (n' := 39) f_1_134 (by decide) rfl M (fun h M => ?_)
  refine n_go f_1_137 rfl (pc' := 138) rfl ?_
  refine n_ci (ls' := [_]) f_1_138 (by decide) m_25 rfl rfl rfl ?_
  refine c_newState (M.get rfl) M.1 M.2.1 (by decide) (fun h1 hS n1 n2 n3 n4 => ?_)
  have M := M.sub hS (fun j j1 j2 => n1 j (by omega)) n2 n3 (n4.trans (congrArg (· + 440) M.2.2.1))
  clear hS
  clear n1 n2 n3 n4
  generalize hx : h1 = h at *
  show En V _ 1 141 _ [.ref 38, .ref 0] h _
  refine H_pf f_1_141 rfl M rfl rfl (fun h M => ?_)
  refine n_go f_1_144 rfl (pc' := 145) rfl ?_
  refine n_bip (m := 40) f_1_145 rfl (by decide) ?_
  refine H_nal (n' := 45) f_1_147 rfl (by decide) rfl M (fun h M => ?_)
  refine H_pf f_1_149 rfl M rfl rfl (fun h M => ?_)
  refine n_go f_1_152 rfl (pc' := 153) (st' := .int (iI 0) :: _) rfl ?_
  refine n_go f_1_153 rfl (pc' := 154) (ls' := [_, _]) rfl ?_
  show En V _ _ 154 [some (.ref 0), some (.int (iI 0))] [] h _
  refine n_go f_1_154 rfl (pc' := 155) rfl ?_
  refine n_go f_1_155 rfl (pc' := 156) (st' := .int (iI 5) :: _) rfl ?_
  refine n_ic_ge f_1_156 rfl rfl ⟨by omega, by omega⟩ (fun e9 => absurd e9 (by omega)) (fun _ => ?_)
  refine n_go f_1_159 rfl (pc' := 160) rfl ?_
  refine n_gf f_1_160 rfl (M.get rfl) rfl ?_
  refine n_go f_1_163 rfl (pc' := 164) rfl ?_
  refine H_new (n' := 46) f_1_164 (by decide) rfl M (fun h M => ?_)
  refine n_go f_1_167 rfl (pc' := 168) rfl ?_
  refine n_ci (ls' := [_]) f_1_168 (by decide) m_25 rfl rfl rfl ?_
  refine c_newState (M.get rfl) M.1 M.2.1 (by decide) (fun h1 hS n1 n2 n3 n4 => ?_)
  have M := M.sub hS (fun j j1 j2 => n1 j (by omega)) n2 n3 (n4.trans (congrArg (· + 440) M.2.2.1))
  clear hS
  clear n1 n2 n3 n4
  generalize hx : h1 = h at *
  show En V _ 1 171 _ [.ref 45, .int (iI 0), .ref 36] h _
  refine H_aas f_1_171 rfl M rfl (by omega) rfl (fun h M => ?_)
  refine n_iinc (m' := 1) (ls' := [_, _]) f_1_172 rfl rfl rfl rfl ?_
  refine n_go f_1_175 rfl (pc' := 154) rfl ?_
  show En V _ _ 154 [some (.ref 0), some (.int (iI 1))] [] h _
  refine n_go f_1_154 rfl (pc' := 155) rfl ?_
  refine n_go f_1_155 rfl (pc' := 156) (st' := .int (iI 5) :: _) rfl ?_
  refine n_ic_ge f_1_156 rfl rfl ⟨by omega, by omega⟩ (fun e9 => absurd e9 (by omega)) (fun _ => ?_)
  refine n_go f_1_159 rfl (pc' := 160) rfl ?_
  refine n_gf f_1_160 rfl (M.get rfl) rfl ?_
  refine n_go f_1_163 rfl (pc' := 164) rfl ?_
  refine H_new (n' := 52) f_1_164 (by decide) rfl M (fun h M => ?_)
  refine n_go f_1_167 rfl (pc' := 168) rfl ?_
  refine n_ci (ls' := [_]) f_1_168 (by decide) m_25 rfl rfl rfl ?_
  refine c_newState (M.get rfl) M.1 M.2.1 (by decide) (fun h1 hS n1 n2 n3 n4 => ?_)
  have M := M.sub hS (fun j j1 j2 => n1 j (by omega)) n2 n3 (n4.trans (congrArg (· + 440) M.2.2.1))
  clear hS
  clear n1 n2 n3 n4
  generalize hx : h1 = h at *
  show En V _ 1 171 _ [.ref 51, .int (iI 1), .ref 36] h _
  refine H_aas f_1_171 rfl M rfl (by omega) rfl (fun h M => ?_)
  refine n_iinc (m' := 1) (ls' := [_, _]) f_1_172 rfl rfl rfl rfl ?_
  refine n_go f_1_175 rfl (pc' := 154) rfl ?_
  show En V _ _ 154 [some (.ref 0), some (.int (iI 2))] [] h _
  refine n_go f_1_154 rfl (pc' := 155) rfl ?_
  refine n_go f_1_155 rfl (pc' := 156) (st' := .int (iI 5) :: _) rfl ?_
  refine n_ic_ge f_1_156 rfl rfl ⟨by omega, by omega⟩ (fun e9 => absurd e9 (by omega)) (fun _ => ?_)
  refine n_go f_1_159 rfl (pc' := 160) rfl ?_
  refine n_gf f_1_160 rfl (M.get rfl) rfl ?_
  refine n_go f_1_163 rfl (pc' := 164) rfl ?_
  refine H_new (n' := 58) f_1_164 (by decide) rfl M (fun h M => ?_)
  refine n_go f_1_167 rfl (pc' := 168) rfl ?_
  refine n_ci (ls' := [_]) f_1_168 (by decide) m_25 rfl rfl rfl ?_
  refine c_newState (M.get rfl) M.1 M.2.1 (by decide) (fun h1 hS n1 n2 n3 n4 => ?_)
  have M := M.sub hS (fun j j1 j2 => n1 j (by omega)) n2 n3 (n4.trans (congrArg (· + 440) M.2.2.1))
  clear hS
  clear n1 n2 n3 n4
  generalize hx : h1 = h at *
  show En V _ 1 171 _ [.ref 57, .int (iI 2), .ref 36] h _
  refine H_aas f_1_171 rfl M rfl (by omega) rfl (fun h M => ?_)
  refine n_iinc (m' := 1) (ls' := [_, _]) f_1_172 rfl rfl rfl rfl ?_
  refine n_go f_1_175 rfl (pc' := 154) rfl ?_
  show En V _ _ 154 [some (.ref 0), some (.int (iI 3))] [] h _
  refine n_go f_1_154 rfl (pc' := 155) rfl ?_
  refine n_go f_1_155 rfl (pc' := 156) (st' := .int (iI 5) :: _) rfl ?_
  refine n_ic_ge f_1_156 rfl rfl ⟨by omega, by omega⟩ (fun e9 => absurd e9 (by omega)) (fun _ => ?_)
  refine n_go f_1_159 rfl (pc' := 160) rfl ?_
  refine n_gf f_1_160 rfl (M.get rfl) rfl ?_
  refine n_go f_1_163 rfl (pc' := 164) rfl ?_
  refine H_new (n' := 64) f_1_164 (by decide) rfl M (fun h M => ?_)
  refine n_go f_1_167 rfl (pc' := 168) rfl ?_
  refine n_ci (ls' := [_]) f_1_168 (by decide) m_25 rfl rfl rfl ?_
  refine c_newState (M.get rfl) M.1 M.2.1 (by decide) (fun h1 hS n1 n2 n3 n4 => ?_)
  have M := M.sub hS (fun j j1 j2 => n1 j (by omega)) n2 n3 (n4.trans (congrArg (· + 440) M.2.2.1))
  clear hS
  clear n1 n2 n3 n4
  generalize hx : h1 = h at *
  show En V _ 1 171 _ [.ref 63, .int (iI 3), .ref 36] h _
  refine H_aas f_1_171 rfl M rfl (by omega) rfl (fun h M => ?_)
  refine n_iinc (m' := 1) (ls' := [_, _]) f_1_172 rfl rfl rfl rfl ?_
  refine n_go f_1_175 rfl (pc' := 154) rfl ?_
  show En V _ _ 154 [some (.ref 0), some (.int (iI 4))] [] h _
  refine n_go f_1_154 rfl (pc' := 155) rfl ?_
  refine n_go f_1_155 rfl (pc' := 156) (st' := .int (iI 5) :: _) rfl ?_
  refine n_ic_ge f_1_156 rfl rfl ⟨by omega, by omega⟩ (fun e9 => absurd e9 (by omega)) (fun _ => ?_)
  refine n_go f_1_159 rfl (pc' := 160) rfl ?_
  refine n_gf f_1_160 rfl (M.get rfl) rfl ?_
  refine n_go f_1_163 rfl (pc' := 164) rfl ?_
  refine H_new (n' := 70) f_1_164 (by decide) rfl M (fun h M => ?_)
  refine n_go f_1_167 rfl (pc' := 168) rfl ?_
  refine n_ci (ls' := [_]) f_1_168 (by decide) m_25 rfl rfl rfl ?_
  refine c_newState (M.get rfl) M.1 M.2.1 (by decide) (fun h1 hS n1 n2 n3 n4 => ?_)
  have M := M.sub hS (fun j j1 j2 => n1 j (by omega)) n2 n3 (n4.trans (congrArg (· + 440) M.2.2.1))
  clear hS
  clear n1 n2 n3 n4
  generalize hx : h1 = h at *
  show En V _ 1 171 _ [.ref 69, .int (iI 4), .ref 36] h _
  refine H_aas f_1_171 rfl M rfl (by omega) rfl (fun h M => ?_)
  refine n_iinc (m' := 1) (ls' := [_, _]) f_1_172 rfl rfl rfl rfl ?_
  refine n_go f_1_175 rfl (pc' := 154) rfl ?_
  show En V _ _ 154 [some (.ref 0), some (.int (iI 5))] [] h _
  refine n_go f_1_154 rfl (pc' := 155) rfl ?_
  refine n_go f_1_155 rfl (pc' := 156) (st' := .int (iI 5) :: _) rfl ?_
  refine n_ic_ge f_1_156 rfl rfl ⟨by omega, by omega⟩ (fun _ => ?_) (fun e9 => absurd (by omega) e9)
  refine H_new (n' := 76) f_1_178 (by decide) rfl M (fun h M => ?_)
  refine n_go f_1_181 rfl (pc' := 182) rfl ?_
  refine n_ci (ls' := [_]) f_1_182 (by decide) m_25 rfl rfl rfl ?_
  refine c_newState (M.get rfl) M.1 M.2.1 (by decide) (fun h1 hS n1 n2 n3 n4 => ?_)
  have M := M.sub hS (fun j j1 j2 => n1 j (by omega)) n2 n3 (n4.trans (congrArg (· + 440) M.2.2.1))
  clear n1 n2 n3 n4
  generalize hx : h1 = h at *
  show En V _ 1 185 _ [.ref 75] h _
  refine n_go f_1_185 rfl (pc' := 186) (ls' := [_, _]) rfl ?_
  refine n_go f_1_186 rfl (pc' := 187) rfl ?_
  refine n_go f_1_187 rfl (pc' := 188) (st' := .int (iI 0) :: _) rfl ?_
  refine n_go f_1_188 rfl (pc' := 189) (st' := .int (iI (-1)) :: _) rfl ?_
  refine n_go f_1_189 rfl (pc' := 190) (st' := .int (iI 0) :: _) rfl ?_
  refine n_cv (ls' := [_, _, _, _]) f_1_190 (by decide) m_26 rfl rfl (M.get rfl) rfl ?_
  refine c_seat hS (by decide) (by decide) (by decide) ?_
  have hS2 : St (wS h 75 S0) 75 S0 := wS_St hS S0_r
  have M := M.sub hS2 (fun j j1 j2 => wS_out (by omega)) (wS_len.trans M.1) M.2.1 M.2.2.1
  show En V _ _ 193 _ [] (wS h 75 S0) _
  clear hS hS2
  generalize hx : wS h 75 S0 = h at *
  refine n_go f_1_193 rfl (pc' := 194) rfl ?_
  refine n_gf f_1_194 rfl (M.get rfl) rfl ?_
  refine n_go f_1_197 rfl (pc' := 198) rfl ?_
  refine n_go f_1_198 rfl (pc' := 199) (st' := .int (iI (-1)) :: _) rfl ?_
  refine n_go f_1_199 rfl (pc' := 200) (st' := .int (iI (-1)) :: _) rfl ?_
  refine n_cv (ls' := [_, _, _, _, _]) f_1_200 (by decide) m_27 rfl rfl (M.get rfl) rfl ?_
  show En V _ _ 0 [some (.ref 12), some (.ref 75), some (.int (iI (-1))), some (.int (iI (-1))), none] [] h _
  refine n_go f_27_0 rfl (pc' := 1) rfl ?_
  refine n_gf f_27_1 rfl (M.get rfl) rfl ?_
  refine n_cv (ls' := [_]) f_27_4 (by decide) m_66 rfl rfl (M.get rfl) rfl ?_
  show En V _ _ 0 [some (.ref 13)] [] h _
  refine n_go f_66_0 rfl (pc' := 1) rfl ?_
  refine n_gf f_66_1 rfl (M.get rfl) rfl ?_
  refine n_ret f_66_4 rfl rfl ?_
  show En V _ 27 7 _ [.int (iI 0)] h _
  refine n_go f_27_7 rfl (pc' := 9) (ls' := [_, _, _, _, _]) rfl ?_
  refine n_go f_27_9 rfl (pc' := 11) rfl ?_
  refine n_bip (m := 40) f_27_11 rfl (by decide) ?_
  refine n_ic_lt f_27_13 rfl rfl ⟨by omega, by omega⟩ (fun _ => ?_) (fun e9 => absurd (by omega) e9)
  refine n_go f_27_18 rfl (pc' := 19) rfl ?_
  refine n_gf f_27_19 rfl (M.get rfl) rfl ?_
  refine n_go f_27_22 rfl (pc' := 24) rfl ?_
  refine n_go f_27_24 rfl (pc' := 25) rfl ?_
  refine H_ias f_27_25 rfl M rfl (by omega) (fun h M => ?_)
  refine n_go f_27_26 rfl (pc' := 27) rfl ?_
  refine n_gf f_27_27 rfl (M.get rfl) rfl ?_
  refine n_go f_27_30 rfl (pc' := 32) rfl ?_
  refine n_go f_27_32 rfl (pc' := 33) rfl ?_
  refine H_ias f_27_33 rfl M rfl (by omega) (fun h M => ?_)
  refine n_go f_27_34 rfl (pc' := 35) rfl ?_
  refine n_gf f_27_35 rfl (M.get rfl) rfl ?_
  refine n_go f_27_38 rfl (pc' := 40) rfl ?_
  refine n_go f_27_40 rfl (pc' := 41) rfl ?_
  refine n_go f_27_41 rfl (pc' := 42) rfl ?_
  refine n_cv (ls' := [_, _]) f_27_42 (by decide) m_67 rfl rfl (M.get rfl) rfl ?_
  refine c_line0 (M.get rfl) ?_
  show En V _ 27 45 _ [_, _, _] _ _
  refine n_go f_27_45 rfl (pc' := 46) rfl ?_
  refine n_go f_27_46 rfl (pc' := 47) rfl ?_
  refine n_cv (ls' := [_, _]) f_27_47 (by decide) m_67 rfl rfl (M.get rfl) rfl ?_
  refine c_line0 (M.get rfl) ?_
  show En V _ 27 50 _ [_, _, _, _] _ _
  show En V _ _ 50 _ [.long (l64 0), .long (l64 0), .int (iI 0), .ref 16] h _
  refine n_go f_27_50 rfl (pc' := 51) rfl ?_
  refine H_las f_27_51 rfl M rfl (by omega) (fun h M => ?_)
  refine n_go f_27_52 rfl (pc' := 53) rfl ?_
  refine n_gf f_27_53 rfl (M.get rfl) rfl ?_
  refine n_go f_27_56 rfl (pc' := 57) rfl ?_
  refine n_cv (ls' := [_, _]) f_27_57 (by decide) m_68 rfl rfl (M.get rfl) rfl ?_
  show En V _ 68 0 [some (.ref 13), some (.ref 75)] [] h _
  refine n_go f_68_0 rfl (pc' := 1) rfl ?_
  refine n_go f_68_1 rfl (pc' := 2) rfl ?_
  refine n_gf f_68_2 rfl (M.get rfl) rfl ?_
  refine n_go f_68_5 rfl (pc' := 6) (st' := .int (iI 1) :: _) rfl ?_
  show En V _ _ 6 _ [.int (iI 1), .int (iI 0), .ref 13] h _
  refine n_iadd f_68_6 rfl ?_
  refine H_pf f_68_7 rfl M rfl rfl (fun h M => ?_)
  refine n_go f_68_10 rfl (pc' := 11) rfl ?_
  refine n_go f_68_11 rfl (pc' := 12) rfl ?_
  refine n_go f_68_12 rfl (pc' := 13) rfl ?_
  refine n_gf f_68_13 rfl (M.get rfl) rfl ?_
  refine n_go f_68_16 rfl (pc' := 17) rfl ?_
  refine n_gf f_68_17 rfl (M.get rfl) rfl ?_
  refine n_cv (ls' := [_, _, _, _]) f_68_20 (by decide) m_130 rfl rfl (M.get rfl) rfl ?_
  show En V _ 130 0 [some (.ref 13), some (.ref 75), some (.ref (ev_ext + 1)), some (.int (iI 0))] [] h _
  refine n_go f_130_0 rfl (pc' := 1) rfl ?_
  refine n_go f_130_1 rfl (pc' := 2) rfl ?_
  refine n_go f_130_2 rfl (pc' := 3) (st' := .int (iI 0) :: _) rfl ?_
  refine n_ic_ne f_130_3 rfl rfl ⟨by omega, by omega⟩ (fun e9 => absurd e9 (by omega)) (fun _ => ?_)
  refine n_go f_130_6 rfl (pc' := 7) rfl ?_
  refine n_cv (ls' := [_]) f_130_7 (by decide) m_167 rfl rfl (M.get rfl) rfl ?_
  show En V _ 167 0 [some (.ref 13)] [] h _
  refine n_go f_167_0 rfl (pc' := 1) rfl ?_
  refine n_go f_167_1 rfl (pc' := 2) rfl ?_
  refine n_gf f_167_2 rfl (M.get rfl) rfl ?_
  refine n_go f_167_5 rfl (pc' := 6) (st' := .int (iI 1) :: _) rfl ?_
  show En V _ _ 6 _ [.int (iI 1), .int (iI 0), .ref 13] h _
  refine n_iadd f_167_6 rfl ?_
  refine n_cv (ls' := [_, _, _, _]) f_167_7 (by decide) m_178 rfl rfl (M.get rfl) rfl ?_
  show En V _ 178 0 [some (.ref 13), some (.int (iI 1)), none, none] [] h _
  refine n_go f_178_0 rfl (pc' := 1) rfl ?_
  refine n_gf f_178_1 rfl (M.get rfl) rfl ?_
  refine n_go f_178_4 rfl (pc' := 5) (st' := .int (iI 0) :: _) rfl ?_
  refine n_go f_178_5 rfl (pc' := 6) (ls' := [_, _, _, _]) rfl ?_
  refine n_go f_178_6 rfl (pc' := 7) rfl ?_
  refine n_if_gt f_178_7 rfl rfl (by omega) (fun e9 => absurd e9 (by omega)) (fun _ => ?_)
  refine n_go f_178_10 rfl (pc' := 11) rfl ?_
  refine n_gf f_178_11 rfl (M.get rfl) rfl ?_
  refine n_go f_178_14 rfl (pc' := 17) (st' := .ref (ev_ext + 1) :: _) rfl ?_
  refine n_go f_178_17 rfl (pc' := 45) rfl ?_
  refine n_go f_178_45 rfl (pc' := 46) rfl ?_
  refine n_bip (m := 10) f_178_46 rfl (by decide) ?_
  refine n_go f_178_48 rfl (pc' := 49) rfl ?_
  refine n_cs (ls' := [_, _]) f_178_49 (by decide) m_174 rfl rfl ?_
  refine c_max (by decide) (by decide) ?_
  show En V _ 178 52 _ [.int (iI 10), .ref 13] h _
  refine H_nar (n' := 82) f_178_52 rfl (by decide) rfl M (fun h M => ?_)
  refine n_go f_178_55 rfl (pc' := 56) rfl ?_
  refine H_pf f_178_56 rfl M rfl rfl (fun h M => ?_)
  refine n_ret f_178_59 rfl rfl ?_
  show En V _ 167 10 _ [.ref 81] h _
  refine n_ret f_167_10 rfl rfl ?_
  show En V _ 130 10 _ [.ref 81] h _
  refine n_go f_130_10 rfl (pc' := 11) (ls' := [_, _, _, _]) rfl ?_
  refine n_go f_130_11 rfl (pc' := 12) rfl ?_
  refine n_go f_130_12 rfl (pc' := 13) rfl ?_
  refine n_go f_130_13 rfl (pc' := 14) rfl ?_
  refine H_aas f_130_14 rfl M rfl (by omega) rfl (fun h M => ?_)
  refine n_go f_130_15 rfl (pc' := 16) rfl ?_
  refine n_go f_130_16 rfl (pc' := 17) rfl ?_
  refine n_go f_130_17 rfl (pc' := 18) (st' := .int (iI 1) :: _) rfl ?_
  refine n_iadd f_130_18 rfl ?_
  refine H_pf f_130_19 rfl M rfl rfl (fun h M => ?_)
  refine n_ret f_130_22 rfl rfl ?_
  show En V _ 68 23 _ [] h _
  refine n_go f_68_23 rfl (pc' := 24) (st' := .int (iI 1) :: _) rfl ?_
  first | refine n_rtz f_68_24 rfl ?_ | refine n_rt0 f_68_24 rfl ?_ | refine n_rt1 f_68_24 rfl ?_
  show En V _ 27 60 _ [.int (iI 1)] h _
  refine n_go f_27_60 rfl (pc' := 61) rfl ?_
  refine n_go f_27_61 rfl (pc' := 63) rfl ?_
  refine n_ret f_27_63 rfl rfl ?_
  show En V _ 1 203 _ [.int (iI 0)] h _
  refine n_go f_1_203 rfl (pc' := 204) rfl ?_
  refine n_go f_1_204 rfl (pc' := 205) rfl ?_
  refine n_gf f_1_205 rfl (M.get rfl) rfl ?_
  refine n_go f_1_208 rfl (pc' := 209) (st' := .int (iI 0) :: _) rfl ?_
  show En V _ _ 209 [some (.ref 0), some (.ref 75)] [.int (iI 0), .ref 36] h _
  refine n_aal (f := dkA) f_1_209 rfl (dk_eq (M.get rfl)) (by decide) rfl ?_
  show En V _ _ 210 _ [.ref 45] h _
  have hS45 : St h 45 mtS := ⟨M.get rfl, M.get rfl, M.get rfl, M.get rfl, M.get rfl, M.get rfl, mtS_r, by decide⟩
  have hS75 : St h 75 S0 := ⟨M.get rfl, M.get rfl, M.get rfl, M.get rfl, M.get rfl, M.get rfl, S0_r, by decide⟩
  refine n_go f_1_210 rfl (pc' := 211) rfl ?_
  refine n_cv (ls' := [_, _]) f_1_211 (by decide) m_28 rfl rfl (M.get rfl) rfl ?_
  refine c_copyFrom hS45 hS75 (by decide) ?_
  show En V _ 1 214 _ [] _ _
  have hS2 : St (wS h 45 S0) 45 S0 := wS_St hS45 S0_r
  have M := M.sub hS2 (fun j j1 j2 => wS_out (by omega)) (wS_len.trans M.1) M.2.1 M.2.2.1
  show En V _ _ 214 _ [] (wS h 45 S0) _
  clear hS2 hS45 hS75
  generalize hx : wS h 45 S0 = h at *
  refine n_ret f_1_214 rfl rfl ?_
  have hs : ∀ b : Int, 0 ≤ b → b < 5 → St h (45 + 6 * b.toNat) (if b = 0 then S0 else mtS) := fun b b1 b2 => by
    rcases (by omega : b = 0 ∨ b = 1 ∨ b = 2 ∨ b = 3 ∨ b = 4) with rfl | rfl | rfl | rfl | rfl
    · exact ⟨M.get rfl, M.get rfl, M.get rfl, M.get rfl, M.get rfl, M.get rfl, S0_r, by decide⟩
    · exact ⟨M.get rfl, M.get rfl, M.get rfl, M.get rfl, M.get rfl, M.get rfl, mtS_r, by decide⟩
    · exact ⟨M.get rfl, M.get rfl, M.get rfl, M.get rfl, M.get rfl, M.get rfl, mtS_r, by decide⟩
    · exact ⟨M.get rfl, M.get rfl, M.get rfl, M.get rfl, M.get rfl, M.get rfl, mtS_r, by decide⟩
    · exact ⟨M.get rfl, M.get rfl, M.get rfl, M.get rfl, M.get rfl, M.get rfl, mtS_r, by decide⟩
  have hS38 : St h 38 mtS := ⟨M.get rfl, M.get rfl, M.get rfl, M.get rfl, M.get rfl, M.get rfl, mtS_r, by decide⟩
  have hS75 : St h 75 S0 := ⟨M.get rfl, M.get rfl, M.get rfl, M.get rfl, M.get rfl, M.get rfl, S0_r, by decide⟩
  refine KK h ⟨⟨M.get rfl, M.get rfl, M.get rfl, M.get rfl, M.get rfl, M.get rfl, M.get rfl, M.get rfl, M.get rfl, M.get rfl, K0_r⟩, ⟨M.get rfl, ⟨1, M.get rfl⟩, ⟨_, M.get rfl, fun v v1 v2 => ?_⟩, hf_eq (M.get rfl), hf_eq (M.get rfl), hl_eq (M.get rfl), fun v _ _ => hS75, H0_r⟩, ⟨M.get rfl, dk_eq (M.get rfl), M.get rfl, by decide, fun _ => (by decide : (0 : Int) ≤ 0 ∧ (0 : Int) < 6)⟩, hs, ⟨⟨_, M.get rfl⟩, ⟨mtS, hS38⟩, ⟨0, _, _, M.get rfl, M.get rfl, M.get rfl⟩, ⟨_, M.get rfl⟩, ⟨_, M.get rfl⟩⟩, M.get rfl, M.get rfl, fun _ _ _ => (by decide : (0 : Int) < 1), M.2.1.trans M.1.symm⟩ M.1 (M.2.2.1.trans (by
    simp only [fl1, fl2, fl3, fl4, fl5, fl6, fl7, fl8, fl9]
    omega))
  have e0 : v = 0 := by
    have v2 : v < 1 := v2
    omega
  subst e0
  rfl
end CC
