/-! Scripts: which edits are due, in their order; their text. -/
def due (F T : dS) (k n : Int) : Bool := if k = 0 then !hs F n && hs T n else if k = 1 then (hs F n && hs T n) && !decide (F.1 n = T.1 n) else if k = 2 then (hs F n && hs T n) && !decide (F.2.1 n = T.2.1 n) else if k = 3 then (hs F n && hs T n) && !decide (F.2.2.1 n = T.2.2.1 n) else if k = 4 then false else if k = 5 then !F.2.2.2 n && T.2.2.2 n else if k = 6 then F.2.2.2 n && !T.2.2.2 n else hs F n && !hs T n
def lim (k : Int) : Int := if k = 5 ∨ k = 6 then 120 else 40
def edn (F T : dS) (k : Int) (n : Nat) : List (Int × Int) := match n with
  | 0 => []
  | n + 1 => edn F T k n ++ (if due F T k n = true then [(k, (n : Int))] else [])
def edk (F T : dS) (k : Nat) : List (Int × Int) := match k with
  | 0 => []
  | k + 1 => edk F T k ++ edn F T k (lim k).toNat
/-- all that is due has a number below 10 -/
def dlo (F T : dS) : Prop := ∀ k n, 10 ≤ n → due F T k n = false
theorem edn_le (F T : dS) (k : Int) (n : Nat) (hd : dlo F T) : (edn F T k n).length ≤ 10 ∧ (edn F T k n).length ≤ n := by
  have h1 : ∀ n : Nat, (edn F T k n).length ≤ n ∧ (10 ≤ n → edn F T k n = edn F T k 10) := by
    intro n
    induction n with
    | zero => exact ⟨Nat.le_refl _, fun h => absurd h (by decide)⟩
    | succ n ih =>
      have e : edn F T k (n + 1) = edn F T k n ++ (if due F T k n = true then [(k, (n : Int))] else []) := rfl
      refine ⟨?_, fun h => ?_⟩
      · rw [e, List.length_append]
        have := ih.1
        split <;> simp <;> omega
      · by_cases hn : n = 9
        · rw [hn]
        · rw [e, hd k n (by omega), if_neg (by decide), List.append_nil]
          exact ih.2 (by omega)
  refine ⟨?_, (h1 n).1⟩
  by_cases hn : 10 ≤ n
  · rw [(h1 n).2 hn]; exact (h1 10).1
  · have := (h1 n).1; omega
theorem edk_le (F T : dS) (hd : dlo F T) (k : Nat) : (edk F T k).length ≤ 10 * k := by
  induction k with
  | zero => exact Nat.le_refl _
  | succ k ih =>
    have e : edk F T (k + 1) = edk F T k ++ edn F T k (lim k).toNat := rfl
    rw [e, List.length_append]
    have := (edn_le F T k (lim k).toNat hd).1
    omega
/-- the cells of a script, as it stands -/
def wC (h : ev_H) (s : Int) (fk fn : Int → Int) : ev_H := ev_set (ev_set (ev_set h 25 (.inr (7, [.ref 26, .ref 27, .int (iI s)]))) 26 (aI 280 fk)) 27 (aI 280 fn)
def Sc (h : ev_H) : Prop := ∃ s fk fn, h.1[25]? = some (.inr (7, [.ref 26, .ref 27, .int (iI s)])) ∧ h.1[26]? = some (aI 280 fk) ∧ h.1[27]? = some (aI 280 fn)
def ScL (h : ev_H) (L : List (Int × Int)) : Prop := ∃ fk fn, h.1[25]? = some (.inr (7, [.ref 26, .ref 27, .int (iI L.length)])) ∧ h.1[26]? = some (aI 280 fk) ∧ h.1[27]? = some (aI 280 fn) ∧ ∀ (e : Nat) (x : Int × Int), L[e]? = some x → fk e = x.1 ∧ fn e = x.2
section WC
variable {h : ev_H} {s s' : Int} {fk fn fk' fn' : Int → Int} {a j : Nat} {S : dS} {K : dK}
theorem wC_o (hj : j < 25 ∨ 27 < j) : (wC h s fk fn).1[j]? = h.1[j]? := by
  unfold wC
  rw [g_ne (by omega), g_ne (by omega), g_ne (by omega)]
theorem wC_w : wC (wC h s fk fn) s' fk' fn' = wC h s' fk' fn' := by
  unfold wC
  rw [g_cm (a := 27) (b := 25) (by decide), g_cm (a := 26) (b := 25) (by decide), g_ss, g_cm (a := 27) (b := 26) (by decide), g_ss, g_ss]
theorem wC_St (hS : St h a S) (ha : a + 5 < 25 ∨ 27 < a) : St (wC h s fk fn) a S := hS.of (fun _ _ _ => wC_o (by omega))
theorem wC_Sk (hK : Sk h K) : Sk (wC h s fk fn) K := hK.of (fun _ _ _ => wC_o (by omega))
theorem wC_25 (hC : Sc h) : (wC h s fk fn).1[25]? = some (.inr (7, [.ref 26, .ref 27, .int (iI s)])) := by
  obtain ⟨s0, f0, f1, c1, c2, c3⟩ := hC
  unfold wC
  rw [g_ne (by decide), g_ne (by decide)]
  exact g_eq c1
theorem wC_26 (hC : Sc h) : (wC h s fk fn).1[26]? = some (aI 280 fk) := by
  obtain ⟨s0, f0, f1, c1, c2, c3⟩ := hC
  unfold wC
  rw [g_ne (by decide)]
  exact g_eq (by rw [g_ne (by decide)]; exact c2)
theorem wC_27 (hC : Sc h) : (wC h s fk fn).1[27]? = some (aI 280 fn) := by
  obtain ⟨s0, f0, f1, c1, c2, c3⟩ := hC
  unfold wC
  exact g_eq (by rw [g_ne (by decide), g_ne (by decide)]; exact c3)
theorem wC_Sc (hC : Sc h) : Sc (wC h s fk fn) := ⟨s, fk, fn, wC_25 hC, wC_26 hC, wC_27 hC⟩
theorem Sc.of {h' : ev_H} (hC : Sc h) (he : ∀ j, 25 ≤ j → j ≤ 27 → h'.1[j]? = h.1[j]?) : Sc h' := by
  obtain ⟨s0, f0, f1, c1, c2, c3⟩ := hC
  exact ⟨s0, f0, f1, (he 25 (by decide) (by decide)).trans c1, (he 26 (by decide) (by decide)).trans c2, (he 27 (by decide) (by decide)).trans c3⟩
theorem ScL.of {h' : ev_H} {L : List (Int × Int)} (hC : ScL h L) (he : ∀ j, 25 ≤ j → j ≤ 27 → h'.1[j]? = h.1[j]?) : ScL h' L := by
  obtain ⟨f0, f1, c1, c2, c3, c4⟩ := hC
  exact ⟨f0, f1, (he 25 (by decide) (by decide)).trans c1, (he 26 (by decide) (by decide)).trans c2, (he 27 (by decide) (by decide)).trans c3, c4⟩
theorem ScL.sc {L : List (Int × Int)} (hC : ScL h L) : Sc h := by
  obtain ⟨f0, f1, c1, c2, c3, c4⟩ := hC
  exact ⟨_, f0, f1, c1, c2, c3⟩
end WC
section CS
variable {V : ev_V} {d : Nat} {h : ev_H} {P : ev_O → ev_H → Prop} {a b : Nat} {F T : dS} {n k m e : Int} {L : List (Int × Int)}
theorem c_hasConflictsOf (hS : St h a F) (hT : St h b T) (hn : 0 ≤ n ∧ n < 40) (KK : P (.inl (some (.int (iI 1)))) h) : En V d 163 0 [some (.ref a), some (.ref b), some (.int (iI n)), none, none] [] h P := by
  obtain ⟨s0, s1, s2, s3, s4, s5, sr, sx⟩ := hS
  obtain ⟨t0, t1, t2, t3, t4, t5, tr, tx⟩ := hT
  refine n_go f_163_0 rfl (pc' := 1) rfl ?_
  refine n_if_lt f_163_1 rfl rfl (by omega) (fun e9 => absurd e9 (by omega)) (fun _ => ?_)
  refine n_go f_163_4 rfl (pc' := 5) rfl ?_
  refine n_bip (m := 40) f_163_5 rfl (by decide) ?_
  refine n_ic_lt f_163_7 rfl rfl ⟨by omega, by omega⟩ (fun _ => ?_) (fun e9 => absurd (by omega) e9)
  refine n_go f_163_12 rfl (pc' := 13) rfl ?_
  refine n_go f_163_13 rfl (pc' := 14) (st' := .int (iI 5) :: _) rfl ?_
  refine n_imul f_163_14 rfl ?_
  refine n_go f_163_15 rfl (pc' := 16) (ls' := [_, _, _, _, _]) rfl ?_
  refine n_go f_163_16 rfl (pc' := 17) rfl ?_
  refine n_go f_163_17 rfl (pc' := 19) (ls' := [_, _, _, _, _]) rfl ?_
  refine n_for (lo := n * 5) (hi := n * 5 + 5) (by omega) (fun i ls st h' => ls = [some (.ref a), some (.ref b), some (.int (iI n)), some (.int (iI (n * 5))), some (.int (iI i))] ∧ st = [] ∧ h' = h) ⟨rfl, rfl, rfl⟩ ?_ ?_
  · rintro i ls st h' h1 h2 ⟨rfl, rfl, rfl⟩ kk
    refine n_go f_163_19 rfl (pc' := 21) rfl ?_
    refine n_go f_163_21 rfl (pc' := 22) rfl ?_
    refine n_go f_163_22 rfl (pc' := 23) (st' := .int (iI 5) :: _) rfl ?_
    refine n_iadd f_163_23 rfl ?_
    refine n_ic_ge f_163_24 rfl rfl ⟨by omega, by omega⟩ (fun e9 => absurd e9 (by omega)) (fun _ => ?_)
    refine n_go f_163_27 rfl (pc' := 28) rfl ?_
    refine n_gf f_163_28 rfl (by assumption) rfl ?_
    refine n_go f_163_31 rfl (pc' := 33) rfl ?_
    refine n_ial f_163_33 rfl (by assumption) (by unfold ev_ext; omega) (by omega) ?_
    refine n_go f_163_34 rfl (pc' := 35) rfl ?_
    refine n_gf f_163_35 rfl (by assumption) rfl ?_
    refine n_go f_163_38 rfl (pc' := 40) rfl ?_
    refine n_ial f_163_40 rfl (by assumption) (by unfold ev_ext; omega) (by omega) ?_
    refine n_ic_eq f_163_41 rfl rfl ⟨by omega, by omega⟩ (fun _ => ?_) (fun e9 => absurd (by omega) e9)
    refine n_iinc (m' := 1) (ls' := [_, _, _, _, _]) f_163_46 rfl rfl rfl rfl ?_
    refine n_go f_163_49 rfl (pc' := 19) rfl ?_
    exact kk _ _ _ ⟨rfl, rfl, rfl⟩
  · rintro ls st h' ⟨rfl, rfl, rfl⟩
    refine n_go f_163_19 rfl (pc' := 21) rfl ?_
    refine n_go f_163_21 rfl (pc' := 22) rfl ?_
    refine n_go f_163_22 rfl (pc' := 23) (st' := .int (iI 5) :: _) rfl ?_
    refine n_iadd f_163_23 rfl ?_
    refine n_ic_ge f_163_24 rfl rfl ⟨by omega, by omega⟩ (fun _ => ?_) (fun e9 => absurd (by omega) e9)
    refine n_go f_163_52 rfl (pc' := 53) (st' := .int (iI 1) :: _) rfl ?_
    first | refine n_rt0 f_163_53 rfl ?_ | refine n_rt1 f_163_53 rfl ?_ | refine n_rtz f_163_53 rfl ?_
    exact KK
theorem c_isDue (hS : St h a F) (hT : St h b T) (hk : 0 ≤ k ∧ k < 8) (hn : 0 ≤ n ∧ n < lim k) (KK : P (.inl (some (.int (iI (b2 (due F T k n)))))) h) : En V (d + 1) 125 0 [some (.int (iI k)), some (.int (iI n)), some (.ref a), some (.ref b), none] [] h P := by
  have s0 := hS.1
  have t0 := hT.1
  have sr := hS.2.2.2.2.2.2.1 n
  have tr := hT.2.2.2.2.2.2.1 n
  have hn2 : n < 120 := by unfold lim at hn; split at hn <;> omega
  have hn4 : ¬ (k = 5 ∨ k = 6) → n < 40 := fun q => by unfold lim at hn; rw [if_neg q] at hn; omega
  have key : ∀ c : Bool, c = (hs F n && hs T n) → En V (d + 1) 125 23 [some (.int (iI k)), some (.int (iI n)), some (.ref a), some (.ref b), some (.int (iI (b2 c)))] [] h P := by
    intro c hc
    rcases (by omega : k = 0 ∨ k = 1 ∨ k = 2 ∨ k = 3 ∨ k = 4 ∨ k = 5 ∨ k = 6 ∨ k = 7) with rfl | rfl | rfl | rfl | rfl | rfl | rfl | rfl
    · have KK : P (.inl (some (.int (iI (b2 (!hs F n && hs T n)))))) h := KK
      refine n_go f_125_23 rfl (pc' := 24) rfl ?_
      refine n_tsw (t := 68) f_125_24 (by omega) rfl rfl ?_
      refine n_go f_125_68 rfl (pc' := 69) rfl ?_
      refine n_go f_125_69 rfl (pc' := 70) rfl ?_
      refine n_cv (ls' := [_, _]) f_125_70 (by decide) m_133 rfl rfl (by assumption) rfl ?_
      refine c_has hS (by omega) ?_
      show En V _ 125 73 _ [_] _ _
      refine n_ib_ne f_125_73 rfl rfl (fun e1 => ?_) (fun e1 => ?_)
      · rw [e1] at KK
        refine n_go f_125_88 rfl (pc' := 89) (st' := .int (iI 0) :: _) rfl ?_
        first | refine n_rt0 f_125_89 rfl ?_ | refine n_rt1 f_125_89 rfl ?_ | refine n_rtz f_125_89 rfl ?_
        exact KK
      refine n_go f_125_76 rfl (pc' := 77) rfl ?_
      refine n_go f_125_77 rfl (pc' := 78) rfl ?_
      refine n_cv (ls' := [_, _]) f_125_78 (by decide) m_133 rfl rfl (by assumption) rfl ?_
      refine c_has hT (by omega) ?_
      show En V _ 125 81 _ [_] _ _
      refine n_ib_eq f_125_81 rfl rfl (fun e2 => ?_) (fun e2 => ?_)
      · rw [e1, e2] at KK
        refine n_go f_125_88 rfl (pc' := 89) (st' := .int (iI 0) :: _) rfl ?_
        first | refine n_rt0 f_125_89 rfl ?_ | refine n_rt1 f_125_89 rfl ?_ | refine n_rtz f_125_89 rfl ?_
        exact KK
      rw [e1, e2] at KK
      refine n_go f_125_84 rfl (pc' := 85) (st' := .int (iI 1) :: _) rfl ?_
      refine n_go f_125_85 rfl (pc' := 89) rfl ?_
      first | refine n_rt0 f_125_89 rfl ?_ | refine n_rt1 f_125_89 rfl ?_ | refine n_rtz f_125_89 rfl ?_
      exact KK
    · have KK : P (.inl (some (.int (iI (b2 ((hs F n && hs T n) && !decide (F.1 n = T.1 n))))))) h := KK
      rw [← hc] at KK
      have g1 : gS F.1 n = F.1 n := if_pos ⟨hn.1, hn4 (by omega)⟩
      have g2 : gS T.1 n = T.1 n := if_pos ⟨hn.1, hn4 (by omega)⟩
      refine n_go f_125_23 rfl (pc' := 24) rfl ?_
      refine n_tsw (t := 90) f_125_24 (by omega) rfl rfl ?_
      refine n_go f_125_90 rfl (pc' := 92) rfl ?_
      refine n_ib_eq f_125_92 rfl rfl (fun e1 => ?_) (fun e1 => ?_)
      · rw [e1] at KK
        refine n_go f_125_112 rfl (pc' := 113) (st' := .int (iI 0) :: _) rfl ?_
        first | refine n_rt0 f_125_113 rfl ?_ | refine n_rt1 f_125_113 rfl ?_ | refine n_rtz f_125_113 rfl ?_
        exact KK
      rw [e1] at KK
      refine n_go f_125_95 rfl (pc' := 96) rfl ?_
      refine n_go f_125_96 rfl (pc' := 97) rfl ?_
      refine n_cv (ls' := [_, _]) f_125_97 (by decide) m_147 rfl rfl (by assumption) rfl ?_
      refine c_spotOf hS (by omega) ?_
      show En V _ 125 100 _ [_] _ _
      refine n_go f_125_100 rfl (pc' := 101) rfl ?_
      refine n_go f_125_101 rfl (pc' := 102) rfl ?_
      refine n_cv (ls' := [_, _]) f_125_102 (by decide) m_147 rfl rfl (by assumption) rfl ?_
      refine c_spotOf hT (by omega) ?_
      show En V _ 125 105 _ [_, _] _ _
      rw [g1, g2]
      refine n_ic_eq f_125_105 rfl rfl ⟨by omega, by omega⟩ (fun e2 => ?_) (fun e2 => ?_)
      · rw [decide_eq_true e2] at KK
        refine n_go f_125_112 rfl (pc' := 113) (st' := .int (iI 0) :: _) rfl ?_
        first | refine n_rt0 f_125_113 rfl ?_ | refine n_rt1 f_125_113 rfl ?_ | refine n_rtz f_125_113 rfl ?_
        exact KK
      rw [decide_eq_false e2] at KK
      refine n_go f_125_108 rfl (pc' := 109) (st' := .int (iI 1) :: _) rfl ?_
      refine n_go f_125_109 rfl (pc' := 113) rfl ?_
      first | refine n_rt0 f_125_113 rfl ?_ | refine n_rt1 f_125_113 rfl ?_ | refine n_rtz f_125_113 rfl ?_
      exact KK
    · have KK : P (.inl (some (.int (iI (b2 ((hs F n && hs T n) && !decide (F.2.1 n = T.2.1 n))))))) h := KK
      rw [← hc] at KK
      have g1 : gS F.2.1 n = F.2.1 n := if_pos ⟨hn.1, hn4 (by omega)⟩
      have g2 : gS T.2.1 n = T.2.1 n := if_pos ⟨hn.1, hn4 (by omega)⟩
      refine n_go f_125_23 rfl (pc' := 24) rfl ?_
      refine n_tsw (t := 114) f_125_24 (by omega) rfl rfl ?_
      refine n_go f_125_114 rfl (pc' := 116) rfl ?_
      refine n_ib_eq f_125_116 rfl rfl (fun e1 => ?_) (fun e1 => ?_)
      · rw [e1] at KK
        refine n_go f_125_136 rfl (pc' := 137) (st' := .int (iI 0) :: _) rfl ?_
        first | refine n_rt0 f_125_137 rfl ?_ | refine n_rt1 f_125_137 rfl ?_ | refine n_rtz f_125_137 rfl ?_
        exact KK
      rw [e1] at KK
      refine n_go f_125_119 rfl (pc' := 120) rfl ?_
      refine n_go f_125_120 rfl (pc' := 121) rfl ?_
      refine n_cv (ls' := [_, _]) f_125_121 (by decide) m_107 rfl rfl (by assumption) rfl ?_
      refine c_tagOf hS (by omega) ?_
      show En V _ 125 124 _ [_] _ _
      refine n_go f_125_124 rfl (pc' := 125) rfl ?_
      refine n_go f_125_125 rfl (pc' := 126) rfl ?_
      refine n_cv (ls' := [_, _]) f_125_126 (by decide) m_107 rfl rfl (by assumption) rfl ?_
      refine c_tagOf hT (by omega) ?_
      show En V _ 125 129 _ [_, _] _ _
      rw [g1, g2]
      refine n_ic_eq f_125_129 rfl rfl ⟨by omega, by omega⟩ (fun e2 => ?_) (fun e2 => ?_)
      · rw [decide_eq_true e2] at KK
        refine n_go f_125_136 rfl (pc' := 137) (st' := .int (iI 0) :: _) rfl ?_
        first | refine n_rt0 f_125_137 rfl ?_ | refine n_rt1 f_125_137 rfl ?_ | refine n_rtz f_125_137 rfl ?_
        exact KK
      rw [decide_eq_false e2] at KK
      refine n_go f_125_132 rfl (pc' := 133) (st' := .int (iI 1) :: _) rfl ?_
      refine n_go f_125_133 rfl (pc' := 137) rfl ?_
      first | refine n_rt0 f_125_137 rfl ?_ | refine n_rt1 f_125_137 rfl ?_ | refine n_rtz f_125_137 rfl ?_
      exact KK
    · have KK : P (.inl (some (.int (iI (b2 ((hs F n && hs T n) && !decide (F.2.2.1 n = T.2.2.1 n))))))) h := KK
      rw [← hc] at KK
      have g1 : gS (vS F 2) n = F.2.2.1 n := if_pos ⟨hn.1, hn4 (by omega)⟩
      have g2 : gS (vS T 2) n = T.2.2.1 n := if_pos ⟨hn.1, hn4 (by omega)⟩
      refine n_go f_125_23 rfl (pc' := 24) rfl ?_
      refine n_tsw (t := 138) f_125_24 (by omega) rfl rfl ?_
      refine n_go f_125_138 rfl (pc' := 140) rfl ?_
      refine n_ib_eq f_125_140 rfl rfl (fun e1 => ?_) (fun e1 => ?_)
      · rw [e1] at KK
        refine n_go f_125_162 rfl (pc' := 163) (st' := .int (iI 0) :: _) rfl ?_
        first | refine n_rt0 f_125_163 rfl ?_ | refine n_rt1 f_125_163 rfl ?_ | refine n_rtz f_125_163 rfl ?_
        exact KK
      rw [e1] at KK
      refine n_go f_125_143 rfl (pc' := 144) rfl ?_
      refine n_go f_125_144 rfl (pc' := 145) rfl ?_
      refine n_go f_125_145 rfl (pc' := 146) (st' := .int (iI 2) :: _) rfl ?_
      refine n_cv (ls' := [_, _, _]) f_125_146 (by decide) m_109 rfl rfl (by assumption) rfl ?_
      refine c_valueOf hS (by omega) (by omega) ?_
      show En V _ 125 149 _ [_] _ _
      refine n_go f_125_149 rfl (pc' := 150) rfl ?_
      refine n_go f_125_150 rfl (pc' := 151) rfl ?_
      refine n_go f_125_151 rfl (pc' := 152) (st' := .int (iI 2) :: _) rfl ?_
      refine n_cv (ls' := [_, _, _]) f_125_152 (by decide) m_109 rfl rfl (by assumption) rfl ?_
      refine c_valueOf hT (by omega) (by omega) ?_
      show En V _ 125 155 _ [_, _] _ _
      rw [g1, g2]
      refine n_ic_eq f_125_155 rfl rfl ⟨by omega, by omega⟩ (fun e2 => ?_) (fun e2 => ?_)
      · rw [decide_eq_true e2] at KK
        refine n_go f_125_162 rfl (pc' := 163) (st' := .int (iI 0) :: _) rfl ?_
        first | refine n_rt0 f_125_163 rfl ?_ | refine n_rt1 f_125_163 rfl ?_ | refine n_rtz f_125_163 rfl ?_
        exact KK
      rw [decide_eq_false e2] at KK
      refine n_go f_125_158 rfl (pc' := 159) (st' := .int (iI 1) :: _) rfl ?_
      refine n_go f_125_159 rfl (pc' := 163) rfl ?_
      first | refine n_rt0 f_125_163 rfl ?_ | refine n_rt1 f_125_163 rfl ?_ | refine n_rtz f_125_163 rfl ?_
      exact KK
    · have KK : P (.inl (some (.int (iI (b2 false))))) h := KK
      refine n_go f_125_23 rfl (pc' := 24) rfl ?_
      refine n_tsw (t := 164) f_125_24 (by omega) rfl rfl ?_
      refine n_go f_125_164 rfl (pc' := 166) rfl ?_
      refine n_ib_eq f_125_166 rfl rfl (fun e1 => ?_) (fun e1 => ?_)
      · refine n_go f_125_182 rfl (pc' := 183) (st' := .int (iI 0) :: _) rfl ?_
        first | refine n_rt0 f_125_183 rfl ?_ | refine n_rt1 f_125_183 rfl ?_ | refine n_rtz f_125_183 rfl ?_
        exact KK
      refine n_go f_125_169 rfl (pc' := 170) rfl ?_
      refine n_go f_125_170 rfl (pc' := 171) rfl ?_
      refine n_go f_125_171 rfl (pc' := 172) rfl ?_
      refine n_cv (ls' := [_, _, _, _, _]) f_125_172 (by decide) m_163 rfl rfl (by assumption) rfl ?_
      refine c_hasConflictsOf hS hT ⟨hn.1, hn4 (by omega)⟩ ?_
      show En V _ 125 175 _ [_] _ _
      refine n_if_ne f_125_175 rfl rfl (by omega) (fun _ => ?_) (fun e9 => absurd (by omega) e9)
      refine n_go f_125_182 rfl (pc' := 183) (st' := .int (iI 0) :: _) rfl ?_
      first | refine n_rt0 f_125_183 rfl ?_ | refine n_rt1 f_125_183 rfl ?_ | refine n_rtz f_125_183 rfl ?_
      exact KK
    · have KK : P (.inl (some (.int (iI (b2 (!F.2.2.2 n && T.2.2.2 n)))))) h := KK
      refine n_go f_125_23 rfl (pc' := 24) rfl ?_
      refine n_tsw (t := 184) f_125_24 (by omega) rfl rfl ?_
      refine n_go f_125_184 rfl (pc' := 185) rfl ?_
      refine n_go f_125_185 rfl (pc' := 186) rfl ?_
      refine n_cv (ls' := [_, _]) f_125_186 (by decide) m_156 rfl rfl (by assumption) rfl ?_
      refine c_says hS (by omega) ?_
      show En V _ 125 189 _ [_] _ _
      refine n_ib_ne f_125_189 rfl rfl (fun e1 => ?_) (fun e1 => ?_)
      · rw [e1] at KK
        refine n_go f_125_204 rfl (pc' := 205) (st' := .int (iI 0) :: _) rfl ?_
        first | refine n_rt0 f_125_205 rfl ?_ | refine n_rt1 f_125_205 rfl ?_ | refine n_rtz f_125_205 rfl ?_
        exact KK
      refine n_go f_125_192 rfl (pc' := 193) rfl ?_
      refine n_go f_125_193 rfl (pc' := 194) rfl ?_
      refine n_cv (ls' := [_, _]) f_125_194 (by decide) m_156 rfl rfl (by assumption) rfl ?_
      refine c_says hT (by omega) ?_
      show En V _ 125 197 _ [_] _ _
      refine n_ib_eq f_125_197 rfl rfl (fun e2 => ?_) (fun e2 => ?_)
      · rw [e1, e2] at KK
        refine n_go f_125_204 rfl (pc' := 205) (st' := .int (iI 0) :: _) rfl ?_
        first | refine n_rt0 f_125_205 rfl ?_ | refine n_rt1 f_125_205 rfl ?_ | refine n_rtz f_125_205 rfl ?_
        exact KK
      rw [e1, e2] at KK
      refine n_go f_125_200 rfl (pc' := 201) (st' := .int (iI 1) :: _) rfl ?_
      refine n_go f_125_201 rfl (pc' := 205) rfl ?_
      first | refine n_rt0 f_125_205 rfl ?_ | refine n_rt1 f_125_205 rfl ?_ | refine n_rtz f_125_205 rfl ?_
      exact KK
    · have KK : P (.inl (some (.int (iI (b2 (F.2.2.2 n && !T.2.2.2 n)))))) h := KK
      refine n_go f_125_23 rfl (pc' := 24) rfl ?_
      refine n_tsw (t := 206) f_125_24 (by omega) rfl rfl ?_
      refine n_go f_125_206 rfl (pc' := 207) rfl ?_
      refine n_go f_125_207 rfl (pc' := 208) rfl ?_
      refine n_cv (ls' := [_, _]) f_125_208 (by decide) m_156 rfl rfl (by assumption) rfl ?_
      refine c_says hS (by omega) ?_
      show En V _ 125 211 _ [_] _ _
      refine n_ib_eq f_125_211 rfl rfl (fun e1 => ?_) (fun e1 => ?_)
      · rw [e1] at KK
        refine n_go f_125_226 rfl (pc' := 227) (st' := .int (iI 0) :: _) rfl ?_
        first | refine n_rt0 f_125_227 rfl ?_ | refine n_rt1 f_125_227 rfl ?_ | refine n_rtz f_125_227 rfl ?_
        exact KK
      refine n_go f_125_214 rfl (pc' := 215) rfl ?_
      refine n_go f_125_215 rfl (pc' := 216) rfl ?_
      refine n_cv (ls' := [_, _]) f_125_216 (by decide) m_156 rfl rfl (by assumption) rfl ?_
      refine c_says hT (by omega) ?_
      show En V _ 125 219 _ [_] _ _
      refine n_ib_ne f_125_219 rfl rfl (fun e2 => ?_) (fun e2 => ?_)
      · rw [e1, e2] at KK
        refine n_go f_125_226 rfl (pc' := 227) (st' := .int (iI 0) :: _) rfl ?_
        first | refine n_rt0 f_125_227 rfl ?_ | refine n_rt1 f_125_227 rfl ?_ | refine n_rtz f_125_227 rfl ?_
        exact KK
      rw [e1, e2] at KK
      refine n_go f_125_222 rfl (pc' := 223) (st' := .int (iI 1) :: _) rfl ?_
      refine n_go f_125_223 rfl (pc' := 227) rfl ?_
      first | refine n_rt0 f_125_227 rfl ?_ | refine n_rt1 f_125_227 rfl ?_ | refine n_rtz f_125_227 rfl ?_
      exact KK
    · have KK : P (.inl (some (.int (iI (b2 (hs F n && !hs T n)))))) h := KK
      refine n_go f_125_23 rfl (pc' := 24) rfl ?_
      refine n_tsw (t := 228) f_125_24 (by omega) rfl rfl ?_
      refine n_go f_125_228 rfl (pc' := 229) rfl ?_
      refine n_go f_125_229 rfl (pc' := 230) rfl ?_
      refine n_cv (ls' := [_, _]) f_125_230 (by decide) m_133 rfl rfl (by assumption) rfl ?_
      refine c_has hS (by omega) ?_
      show En V _ 125 233 _ [_] _ _
      refine n_ib_eq f_125_233 rfl rfl (fun e1 => ?_) (fun e1 => ?_)
      · rw [e1] at KK
        refine n_go f_125_248 rfl (pc' := 249) (st' := .int (iI 0) :: _) rfl ?_
        first | refine n_rt0 f_125_249 rfl ?_ | refine n_rt1 f_125_249 rfl ?_ | refine n_rtz f_125_249 rfl ?_
        exact KK
      refine n_go f_125_236 rfl (pc' := 237) rfl ?_
      refine n_go f_125_237 rfl (pc' := 238) rfl ?_
      refine n_cv (ls' := [_, _]) f_125_238 (by decide) m_133 rfl rfl (by assumption) rfl ?_
      refine c_has hT (by omega) ?_
      show En V _ 125 241 _ [_] _ _
      refine n_ib_ne f_125_241 rfl rfl (fun e2 => ?_) (fun e2 => ?_)
      · rw [e1, e2] at KK
        refine n_go f_125_248 rfl (pc' := 249) (st' := .int (iI 0) :: _) rfl ?_
        first | refine n_rt0 f_125_249 rfl ?_ | refine n_rt1 f_125_249 rfl ?_ | refine n_rtz f_125_249 rfl ?_
        exact KK
      rw [e1, e2] at KK
      refine n_go f_125_244 rfl (pc' := 245) (st' := .int (iI 1) :: _) rfl ?_
      refine n_go f_125_245 rfl (pc' := 249) rfl ?_
      first | refine n_rt0 f_125_249 rfl ?_ | refine n_rt1 f_125_249 rfl ?_ | refine n_rtz f_125_249 rfl ?_
      exact KK
  refine n_go f_125_0 rfl (pc' := 1) rfl ?_
  refine n_go f_125_1 rfl (pc' := 2) rfl ?_
  refine n_cv (ls' := [_, _]) f_125_2 (by decide) m_133 rfl rfl (by assumption) rfl ?_
  refine c_has hS (by omega) ?_
  show En V _ 125 5 _ [_] _ _
  refine n_ib_eq f_125_5 rfl rfl (fun e1 => ?_) (fun e1 => ?_)
  · refine n_go f_125_20 rfl (pc' := 21) (st' := .int (iI 0) :: _) rfl ?_
    refine n_go f_125_21 rfl (pc' := 23) (ls' := [_, _, _, _, _]) rfl ?_
    exact key false (by rw [e1]; rfl)
  refine n_go f_125_8 rfl (pc' := 9) rfl ?_
  refine n_go f_125_9 rfl (pc' := 10) rfl ?_
  refine n_cv (ls' := [_, _]) f_125_10 (by decide) m_133 rfl rfl (by assumption) rfl ?_
  refine c_has hT (by omega) ?_
  show En V _ 125 13 _ [_] _ _
  refine n_ib_eq f_125_13 rfl rfl (fun e2 => ?_) (fun e2 => ?_)
  · refine n_go f_125_20 rfl (pc' := 21) (st' := .int (iI 0) :: _) rfl ?_
    refine n_go f_125_21 rfl (pc' := 23) (ls' := [_, _, _, _, _]) rfl ?_
    exact key false (by rw [e1, e2]; rfl)
  refine n_go f_125_16 rfl (pc' := 17) (st' := .int (iI 1) :: _) rfl ?_
  refine n_go f_125_17 rfl (pc' := 21) rfl ?_
  refine n_go f_125_21 rfl (pc' := 23) (ls' := [_, _, _, _, _]) rfl ?_
  exact key true (by rw [e1, e2]; rfl)
/-- arrays that hold a list -/
def holds (L : List (Int × Int)) (fk fn : Int → Int) : Prop := ∀ (e : Nat) (x : Int × Int), L[e]? = some x → fk e = x.1 ∧ fn e = x.2
theorem holds_push {fk fn : Int → Int} (hL : holds L fk fn) : holds (L ++ [(k, n)]) (uz fk L.length k) (uz fn L.length n) := by
  intro e x hx
  by_cases he : e < L.length
  · rw [List.getElem?_append_left he] at hx
    rw [uz_ne _ _ (by omega), uz_ne _ _ (by omega)]
    exact hL e x hx
  · have hlen : e < (L ++ [(k, n)]).length := (List.getElem?_eq_some_iff.mp hx).1
    rw [List.length_append] at hlen
    have he : e = L.length := by simp at hlen; omega
    subst he
    rw [List.getElem?_append_right (Nat.le_refl _), Nat.sub_self] at hx
    cases hx
    exact ⟨uz_same _ _ _, uz_same _ _ _⟩
theorem c_tell (hC : Sc h) (hS : St h a F) (hT : St h b T) (ha : a + 5 < 25 ∨ 27 < a) (hb : b + 5 < 25 ∨ 27 < b) (hd : dlo F T) (KK : ∀ fk fn, holds (edk F T 8) fk fn → P (.inl none) (wC h (edk F T 8).length fk fn)) : En V (d + 2) 56 0 [some (.ref 25), some (.ref a), some (.ref b), none, none, none] [] h P := by
  obtain ⟨sz, f0, f1, c1, c2, c3⟩ := id hC
  refine n_go f_56_0 rfl (pc' := 1) rfl ?_
  refine n_go f_56_1 rfl (pc' := 2) (st' := .int (iI 0) :: _) rfl ?_
  refine n_pf f_56_2 rfl (by assumption) rfl ?_
  refine n_go f_56_5 rfl (pc' := 6) (st' := .int (iI 0) :: _) rfl ?_
  refine n_go f_56_6 rfl (pc' := 7) (ls' := [_, _, _, _, _, _]) rfl ?_
  refine n_for (lo := 0) (hi := 8) (by decide) (fun k ls st h' => (∃ u v, ls = [some (.ref 25), some (.ref a), some (.ref b), some (.int (iI k)), u, v]) ∧ st = [] ∧ ∃ fk fn, h' = wC h (edk F T k.toNat).length fk fn ∧ holds (edk F T k.toNat) fk fn) ⟨⟨_, _, rfl⟩, rfl, f0, f1, ?_, fun e x hx => by cases hx⟩ ?_ ?_
  · unfold wC
    rw [g_sf (a := 26) (by rw [g_ne (by decide)]; exact c2), g_sf (a := 27) (by rw [g_ne (by decide)]; exact c3)]
    rfl
  · rintro k ls st h' hk1 hk2 ⟨⟨u, v, rfl⟩, rfl, fk, fn, rfl, hL⟩ kk
    have inner : En V (d + 2) 56 36 [some (.ref 25), some (.ref a), some (.ref b), some (.int (iI k)), some (.int (iI (lim k))), some (.int (iI 0))] [] (wC h (edk F T k.toNat).length fk fn) P := by
      have hl : 0 ≤ lim k ∧ lim k ≤ 120 := by unfold lim; split <;> omega
      refine n_for (lo := 0) (hi := lim k) hl.1 (fun n ls st h' => ls = [some (.ref 25), some (.ref a), some (.ref b), some (.int (iI k)), some (.int (iI (lim k))), some (.int (iI n))] ∧ st = [] ∧ ∃ fk fn, h' = wC h (edk F T k.toNat ++ edn F T k n.toNat).length fk fn ∧ holds (edk F T k.toNat ++ edn F T k n.toNat) fk fn) ⟨rfl, rfl, fk, fn, ?_, ?_⟩ ?_ ?_
      · show _ = wC h (edk F T k.toNat ++ []).length fk fn
        rw [List.append_nil]
      · show holds (edk F T k.toNat ++ []) fk fn
        rw [List.append_nil]
        exact hL
      · rintro n ls st h' h1 h2 ⟨rfl, rfl, fk, fn, rfl, hL⟩ k2
        have e1 : edn F T k (n + 1).toNat = edn F T k n.toNat ++ (if due F T k n = true then [(k, n)] else []) := by
          rw [show (n + 1).toNat = n.toNat + 1 by omega]
          show edn F T k n.toNat ++ (if due F T k (n.toNat : Nat) = true then [(k, ((n.toNat : Nat) : Int))] else []) = _
          rw [show ((n.toNat : Nat) : Int) = n by omega]
        have b1 := edk_le F T hd k.toNat
        have b2' := (edn_le F T k n.toNat hd).1
        have hlen : (edk F T k.toNat ++ edn F T k n.toNat).length < 280 := by rw [List.length_append]; omega
        generalize hLe : edk F T k.toNat ++ edn F T k n.toNat = L at *
        have d25 := wC_25 (s := L.length) (fk := fk) (fn := fn) hC
        have d26 := wC_26 (s := L.length) (fk := fk) (fn := fn) hC
        have d27 := wC_27 (s := L.length) (fk := fk) (fn := fn) hC
        refine n_go f_56_36 rfl (pc' := 38) rfl ?_
        refine n_go f_56_38 rfl (pc' := 40) rfl ?_
        refine n_ic_ge f_56_40 rfl rfl ⟨by omega, by omega⟩ (fun e9 => absurd e9 (by omega)) (fun _ => ?_)
        refine n_go f_56_43 rfl (pc' := 44) rfl ?_
        refine n_go f_56_44 rfl (pc' := 46) rfl ?_
        refine n_go f_56_46 rfl (pc' := 47) rfl ?_
        refine n_go f_56_47 rfl (pc' := 48) rfl ?_
        refine n_cs (ls' := [_, _, _, _, _]) f_56_48 (by decide) m_125 rfl rfl ?_
        refine c_isDue (wC_St hS ha) (wC_St hT hb) ⟨hk1, hk2⟩ ⟨h1, h2⟩ ?_
        show En V _ 56 51 _ [_] _ _
        refine n_ib_eq f_56_51 rfl rfl (fun e => ?_) (fun e => ?_)
        · refine n_iinc (m' := 1) (ls' := [_, _, _, _, _, _]) f_56_95 rfl rfl rfl rfl ?_
          refine n_go f_56_98 rfl (pc' := 36) rfl ?_
          refine k2 _ _ _ ⟨rfl, rfl, fk, fn, ?_, ?_⟩
          · rw [e1, e, if_neg (by decide), List.append_nil, hLe]
          · rw [e1, e, if_neg (by decide), List.append_nil, hLe]; exact hL
        have x26 : (ev_set (wC h L.length fk fn) 26 (aI 280 (uz fk L.length k))).1[27]? = some (aI 280 fn) := by rw [g_ne (by decide)]; exact d27
        have x25 : (ev_set (wC h L.length fk fn) 26 (aI 280 (uz fk L.length k))).1[25]? = some (.inr (7, [.ref 26, .ref 27, .int (iI L.length)])) := by rw [g_ne (by decide)]; exact d25
        have x25' : (ev_set (ev_set (wC h L.length fk fn) 26 (aI 280 (uz fk L.length k))) 27 (aI 280 (uz fn L.length n))).1[25]? = some (.inr (7, [.ref 26, .ref 27, .int (iI L.length)])) := by rw [g_ne (by decide)]; exact x25
        refine n_go f_56_54 rfl (pc' := 55) rfl ?_
        refine n_gf f_56_55 rfl (by assumption) rfl ?_
        refine n_sip (m := 280) f_56_58 rfl (by decide) ?_
        refine n_ic_ge f_56_61 rfl rfl ⟨by omega, by omega⟩ (fun e9 => absurd e9 (by omega)) (fun _ => ?_)
        refine n_go f_56_64 rfl (pc' := 65) rfl ?_
        refine n_gf f_56_65 rfl (by assumption) rfl ?_
        refine n_go f_56_68 rfl (pc' := 69) rfl ?_
        refine n_gf f_56_69 rfl (by assumption) rfl ?_
        refine n_go f_56_72 rfl (pc' := 73) rfl ?_
        refine n_ias f_56_73 rfl (by assumption) (by omega) ?_
        refine n_go f_56_74 rfl (pc' := 75) rfl ?_
        refine n_gf f_56_75 rfl (by assumption) rfl ?_
        refine n_go f_56_78 rfl (pc' := 79) rfl ?_
        refine n_gf f_56_79 rfl (by assumption) rfl ?_
        refine n_go f_56_82 rfl (pc' := 84) rfl ?_
        refine n_ias f_56_84 rfl (by assumption) (by omega) ?_
        refine n_go f_56_85 rfl (pc' := 86) rfl ?_
        refine n_go f_56_86 rfl (pc' := 87) rfl ?_
        refine n_gf f_56_87 rfl (by assumption) rfl ?_
        refine n_go f_56_90 rfl (pc' := 91) (st' := .int (iI 1) :: _) rfl ?_
        refine n_iadd f_56_91 rfl ?_
        refine n_pf f_56_92 rfl (by assumption) rfl ?_
        refine n_iinc (m' := 1) (ls' := [_, _, _, _, _, _]) f_56_95 rfl rfl rfl rfl ?_
        refine n_go f_56_98 rfl (pc' := 36) rfl ?_
        refine k2 _ _ _ ⟨rfl, rfl, uz fk L.length k, uz fn L.length n, ?_, ?_⟩
        · rw [e1, e, if_pos rfl, ← List.append_assoc, hLe]
          unfold wC
          show ev_set _ 25 (.inr (7, [.ref 26, .ref 27, .int (iI (L.length + 1))])) = _
          rw [show ((L ++ [(k, n)]).length : Int) = (L.length : Int) + 1 by simp]
          rw [g_cm (a := 27) (b := 26) (by decide), g_ss, g_ss, g_cm (a := 27) (b := 25) (by decide), g_cm (a := 26) (b := 25) (by decide), g_ss]
        · rw [e1, e, if_pos rfl, ← List.append_assoc, hLe]
          exact holds_push hL
      · rintro ls st h' ⟨rfl, rfl, fk, fn, rfl, hL⟩
        refine n_go f_56_36 rfl (pc' := 38) rfl ?_
        refine n_go f_56_38 rfl (pc' := 40) rfl ?_
        refine n_ic_ge f_56_40 rfl rfl ⟨by omega, by omega⟩ (fun _ => ?_) (fun e9 => absurd (by omega) e9)
        refine n_iinc (m' := 1) (ls' := [_, _, _, _, _, _]) f_56_101 rfl rfl rfl rfl ?_
        refine n_go f_56_104 rfl (pc' := 7) rfl ?_
        refine kk _ _ _ ⟨⟨_, _, rfl⟩, rfl, fk, fn, ?_, ?_⟩
        · rw [show (k + 1).toNat = k.toNat + 1 by omega]
          show _ = wC h (edk F T k.toNat ++ edn F T (k.toNat : Nat) (lim (k.toNat : Nat)).toNat).length fk fn
          rw [show ((k.toNat : Nat) : Int) = k by omega]
        · rw [show (k + 1).toNat = k.toNat + 1 by omega]
          show holds (edk F T k.toNat ++ edn F T (k.toNat : Nat) (lim (k.toNat : Nat)).toNat) fk fn
          rw [show ((k.toNat : Nat) : Int) = k by omega]
          exact hL
    refine n_go f_56_7 rfl (pc' := 8) rfl ?_
    refine n_bip (m := 8) f_56_8 rfl (by decide) ?_
    refine n_ic_ge f_56_10 rfl rfl ⟨by omega, by omega⟩ (fun e9 => absurd e9 (by omega)) (fun _ => ?_)
    refine n_go f_56_13 rfl (pc' := 14) rfl ?_
    refine n_go f_56_14 rfl (pc' := 15) (st' := .int (iI 5) :: _) rfl ?_
    refine n_ic_eq f_56_15 rfl rfl ⟨by omega, by omega⟩ (fun e => ?_) (fun e => ?_)
    · rw [show lim k = 120 from if_pos (Or.inl e)] at inner
      refine n_bip (m := 120) f_56_24 rfl (by decide) ?_
      refine n_go f_56_26 rfl (pc' := 31) rfl ?_
      refine n_go f_56_31 rfl (pc' := 33) (ls' := [_, _, _, _, _, _]) rfl ?_
      refine n_go f_56_33 rfl (pc' := 34) (st' := .int (iI 0) :: _) rfl ?_
      refine n_go f_56_34 rfl (pc' := 36) (ls' := [_, _, _, _, _, _]) rfl ?_
      exact inner
    refine n_go f_56_18 rfl (pc' := 19) rfl ?_
    refine n_bip (m := 6) f_56_19 rfl (by decide) ?_
    refine n_ic_ne f_56_21 rfl rfl ⟨by omega, by omega⟩ (fun e2 => ?_) (fun e2 => ?_)
    · rw [show lim k = 40 from if_neg (by omega)] at inner
      refine n_bip (m := 40) f_56_29 rfl (by decide) ?_
      refine n_go f_56_31 rfl (pc' := 33) (ls' := [_, _, _, _, _, _]) rfl ?_
      refine n_go f_56_33 rfl (pc' := 34) (st' := .int (iI 0) :: _) rfl ?_
      refine n_go f_56_34 rfl (pc' := 36) (ls' := [_, _, _, _, _, _]) rfl ?_
      exact inner
    rw [show lim k = 120 from if_pos (Or.inr (by omega))] at inner
    refine n_bip (m := 120) f_56_24 rfl (by decide) ?_
    refine n_go f_56_26 rfl (pc' := 31) rfl ?_
    refine n_go f_56_31 rfl (pc' := 33) (ls' := [_, _, _, _, _, _]) rfl ?_
    refine n_go f_56_33 rfl (pc' := 34) (st' := .int (iI 0) :: _) rfl ?_
    refine n_go f_56_34 rfl (pc' := 36) (ls' := [_, _, _, _, _, _]) rfl ?_
    exact inner
  · rintro ls st h' ⟨⟨u, v, rfl⟩, rfl, fk, fn, rfl, hL⟩
    refine n_go f_56_7 rfl (pc' := 8) rfl ?_
    refine n_bip (m := 8) f_56_8 rfl (by decide) ?_
    refine n_ic_ge f_56_10 rfl rfl ⟨by omega, by omega⟩ (fun _ => ?_) (fun e9 => absurd (by omega) e9)
    refine n_ret f_56_107 rfl rfl ?_
    exact KK fk fn hL
end CS
