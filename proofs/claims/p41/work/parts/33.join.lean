/-! Joining a state with a later one over itself. -/
def Jn (h : ev_H) (j x y o r : Nat) : Prop := h.1[j]? = some (.inr (10, [.ref 1, .ref 10, .ref x, .ref y, .ref o, .ref r]))
/-- a state in which no word is said of what is not there, and what is not there has nothing -/
def tidy (K : dK) (S : dS) : Prop := (∀ w, 0 ≤ w → w < 120 → S.2.2.2 w = true → hs S (kL K w) = true) ∧ ∀ n, 0 ≤ n → n < 40 → hs S n = false → S.1 n = -2 ∧ S.2.1 n = -2 ∧ S.2.2.1 n = -2
/-- no rings, and each holder is there -/
def roots (K : dK) (S : dS) : Prop := ∀ n, 0 ≤ n → n < 40 → ¬ hold K S n = -1 → hs S (hold K S n) = true ∧ wth (hold K S) 40 (hold K S n) n = false
section CJ
variable {V : ev_V} {d : Nat} {h : ev_H} {P : ev_O → ev_H → Prop} {j x y o r : Nat} {K : dK} {X Y R Z : dS} {n k a b c : Int}
theorem c_min (ha : -2147483648 ≤ a ∧ a < 2147483648) (hb : -2147483648 ≤ b ∧ b < 2147483648) (KK : ∀ m, (m = a ∨ m = b) → P (.inl (some (.int (iI m)))) h) : En V d 191 0 [some (.int (iI a)), some (.int (iI b))] [] h P := by
  refine n_go f_191_0 rfl (pc' := 1) rfl ?_
  refine n_go f_191_1 rfl (pc' := 2) rfl ?_
  refine n_ic_gt f_191_2 rfl rfl ⟨by omega, by omega⟩ (fun e => ?_) (fun e => ?_)
  · refine n_go f_191_9 rfl (pc' := 10) rfl ?_
    refine n_ret f_191_10 rfl rfl ?_
    exact KK b (Or.inr rfl)
  · refine n_go f_191_5 rfl (pc' := 6) rfl ?_
    refine n_go f_191_6 rfl (pc' := 10) rfl ?_
    refine n_ret f_191_10 rfl rfl ?_
    exact KK a (Or.inl rfl)
theorem c_max (ha : -2147483648 ≤ a ∧ a < 2147483648) (hb : -2147483648 ≤ b ∧ b < 2147483648) (KK : P (.inl (some (.int (iI (if a < b then b else a))))) h) : En V d 174 0 [some (.int (iI a)), some (.int (iI b))] [] h P := by
  refine n_go f_174_0 rfl (pc' := 1) rfl ?_
  refine n_go f_174_1 rfl (pc' := 2) rfl ?_
  refine n_ic_lt f_174_2 rfl rfl ⟨by omega, by omega⟩ (fun e => ?_) (fun e => ?_)
  · rw [if_pos e] at KK
    refine n_go f_174_9 rfl (pc' := 10) rfl ?_
    refine n_ret f_174_10 rfl rfl ?_
    exact KK
  · rw [if_neg e] at KK
    refine n_go f_174_5 rfl (pc' := 6) rfl ?_
    refine n_go f_174_6 rfl (pc' := 10) rfl ?_
    refine n_ret f_174_10 rfl rfl ?_
    exact KK
/-- the base is the one side: the other one is taken -/
theorem c_taken (ha : -2147483648 ≤ a ∧ a < 2147483648) (hb : -2147483648 ≤ b ∧ b < 2147483648) (KK : P (.inl (some (.int (iI b)))) h) : En V (d + 1) 189 0 [some (.int (iI a)), some (.int (iI a)), some (.int (iI b))] [] h P := by
  refine n_go f_189_0 rfl (pc' := 1) rfl ?_
  refine n_go f_189_1 rfl (pc' := 2) rfl ?_
  refine n_ic_eq f_189_2 rfl rfl ⟨by omega, by omega⟩ (fun e => ?_) (fun e => ?_)
  · subst e
    refine n_go f_189_10 rfl (pc' := 11) rfl ?_
    refine n_ret f_189_11 rfl rfl ?_
    exact KK
  refine n_go f_189_5 rfl (pc' := 6) rfl ?_
  refine n_go f_189_6 rfl (pc' := 7) rfl ?_
  refine n_ic_ne f_189_7 rfl rfl ⟨by omega, by omega⟩ (fun e2 => ?_) (fun e2 => ?_)
  · refine n_go f_189_12 rfl (pc' := 13) rfl ?_
    refine n_go f_189_13 rfl (pc' := 14) rfl ?_
    refine n_ic_ne f_189_14 rfl rfl ⟨by omega, by omega⟩ (fun e9 => absurd e9 (by omega)) (fun _ => ?_)
    refine n_go f_189_17 rfl (pc' := 18) rfl ?_
    refine n_go f_189_18 rfl (pc' := 26) rfl ?_
    refine n_ret f_189_26 rfl rfl ?_
    exact KK
  · exact absurd (by omega) e
theorem c_atOdds (hJ : Jn h j x y o r) (hX : St h x X) (hO : St h o X) (hY : St h y Y) (hn : 0 ≤ n ∧ n < 40) (hk : 0 ≤ k ∧ k < 5) (KK : P (.inl (some (.int (iI 0)))) h) : En V (d + 1) 190 0 [some (.ref j), some (.int (iI n)), some (.int (iI k)), none, none, none] [] h P := by
  have hJ : h.1[j]? = _ := hJ
  have x0 := hX.1
  have o0 := hO.1
  have y0 := hY.1
  have xr := vS_r (k := k) hX.2.2.2.2.2.2.1 n
  have yr := vS_r (k := k) hY.2.2.2.2.2.2.1 n
  have ex : gS (vS X k) n = vS X k n := if_pos hn
  have ey : gS (vS Y k) n = vS Y k n := if_pos hn
  refine n_go f_190_0 rfl (pc' := 1) rfl ?_
  refine n_gf f_190_1 rfl (by assumption) rfl ?_
  refine n_go f_190_4 rfl (pc' := 5) rfl ?_
  refine n_go f_190_5 rfl (pc' := 6) rfl ?_
  refine n_cv (ls' := [_, _, _]) f_190_6 (by decide) m_109 rfl rfl (by assumption) rfl ?_
  refine c_valueOf hO (by omega) hk ?_
  show En V _ 190 9 _ [_] _ _
  refine n_go f_190_9 rfl (pc' := 10) (ls' := [_, _, _, _, _, _]) rfl ?_
  refine n_go f_190_10 rfl (pc' := 11) rfl ?_
  refine n_gf f_190_11 rfl (by assumption) rfl ?_
  refine n_go f_190_14 rfl (pc' := 15) rfl ?_
  refine n_go f_190_15 rfl (pc' := 16) rfl ?_
  refine n_cv (ls' := [_, _, _]) f_190_16 (by decide) m_109 rfl rfl (by assumption) rfl ?_
  refine c_valueOf hX (by omega) hk ?_
  show En V _ 190 19 _ [_] _ _
  refine n_go f_190_19 rfl (pc' := 21) (ls' := [_, _, _, _, _, _]) rfl ?_
  refine n_go f_190_21 rfl (pc' := 22) rfl ?_
  refine n_gf f_190_22 rfl (by assumption) rfl ?_
  refine n_go f_190_25 rfl (pc' := 26) rfl ?_
  refine n_go f_190_26 rfl (pc' := 27) rfl ?_
  refine n_cv (ls' := [_, _, _]) f_190_27 (by decide) m_109 rfl rfl (by assumption) rfl ?_
  refine c_valueOf hY (by omega) hk ?_
  show En V _ 190 30 _ [_] _ _
  refine n_go f_190_30 rfl (pc' := 32) (ls' := [_, _, _, _, _, _]) rfl ?_
  refine n_go f_190_32 rfl (pc' := 34) rfl ?_
  refine n_go f_190_34 rfl (pc' := 36) rfl ?_
  rw [ex, ey]
  refine n_ic_eq f_190_36 rfl rfl ⟨by omega, by omega⟩ (fun e => ?_) (fun e => ?_)
  · refine n_go f_190_55 rfl (pc' := 56) (st' := .int (iI 0) :: _) rfl ?_
    first | refine n_rt0 f_190_56 rfl ?_ | refine n_rt1 f_190_56 rfl ?_ | refine n_rtz f_190_56 rfl ?_
    exact KK
  refine n_go f_190_39 rfl (pc' := 40) rfl ?_
  refine n_go f_190_40 rfl (pc' := 42) rfl ?_
  refine n_ic_eq f_190_42 rfl rfl ⟨by omega, by omega⟩ (fun _ => ?_) (fun e9 => absurd (by omega) e9)
  refine n_go f_190_55 rfl (pc' := 56) (st' := .int (iI 0) :: _) rfl ?_
  first | refine n_rt0 f_190_56 rfl ?_ | refine n_rt1 f_190_56 rfl ?_ | refine n_rtz f_190_56 rfl ?_
  exact KK
theorem c_joinNode (hJ : Jn h j x y o r) (hX : St h x X) (hO : St h o X) (hY : St h y Y) (hR : St h r R) (dx : r + 6 ≤ x ∨ x + 6 ≤ r) (do' : r + 6 ≤ o ∨ o + 6 ≤ r) (dy : r + 6 ≤ y ∨ y + 6 ≤ r) (dj : j < r ∨ r + 5 < j) (hn : 0 ≤ n ∧ n < 40) (KK : P (.inl none) (wS h r (setAt R n (fun k => vS Y k n)))) : En V (d + 3) 171 0 [some (.ref j), some (.int (iI n)), none] [] h P := by
  have rr := hR.2.2.2.2.2.2.1
  have xr0 := hX.2.2.2.2.2.2.1
  have yr0 := hY.2.2.2.2.2.2.1
  refine n_go f_171_0 rfl (pc' := 1) (st' := .int (iI 0) :: _) rfl ?_
  refine n_go f_171_1 rfl (pc' := 2) (ls' := [_, _, _]) rfl ?_
  refine n_for (lo := 0) (hi := 5) (by decide) (fun k ls st h' => ls = [some (.ref j), some (.int (iI n)), some (.int (iI k))] ∧ st = [] ∧ h' = wS h r (stK R n k (fun k => vS Y k n))) ⟨rfl, rfl, (wS_self hR).symm⟩ ?_ ?_
  · rintro k ls st h' h1 h2 ⟨rfl, rfl, rfl⟩ kk
    have hr := stK_r (n := n) (k := k) (w := fun k => vS Y k n) rr (fun _ => vS_r yr0 _)
    have hR' := wS_St hR hr
    have hX' : St (wS h r (stK R n k (fun k => vS Y k n))) x X := wS_ne hX dx
    have hO' : St (wS h r (stK R n k (fun k => vS Y k n))) o X := wS_ne hO do'
    have hY' : St (wS h r (stK R n k (fun k => vS Y k n))) y Y := wS_ne hY dy
    have hJ' : Jn (wS h r (stK R n k (fun k => vS Y k n))) j x y o r := (wS_out (by omega)).trans hJ
    have hR2 := wS_St hR (T := uS (stK R n k (fun k => vS Y k n)) k n (vS Y k n)) (uS_r hr (vS_r yr0 _))
    have hX2 : St (wS h r (uS (stK R n k (fun k => vS Y k n)) k n (vS Y k n))) x X := wS_ne hX dx
    have hO2 : St (wS h r (uS (stK R n k (fun k => vS Y k n)) k n (vS Y k n))) o X := wS_ne hO do'
    have hY2 : St (wS h r (uS (stK R n k (fun k => vS Y k n)) k n (vS Y k n))) y Y := wS_ne hY dy
    have hJ2 : Jn (wS h r (uS (stK R n k (fun k => vS Y k n)) k n (vS Y k n))) j x y o r := (wS_out (by omega)).trans hJ
    have jj := hJ'
    have jj2 := hJ2
    unfold Jn at jj jj2
    have x0 := hX'.1
    have o0 := hO'.1
    have y0 := hY'.1
    have r0 := hR'.1
    have x02 := hX2.1
    have o02 := hO2.1
    have y02 := hY2.1
    have r02 := hR2.1
    have xr := vS_r (k := k) xr0 n
    have yr := vS_r (k := k) yr0 n
    have ex : gS (vS X k) n = vS X k n := if_pos hn
    have ey : gS (vS Y k) n = vS Y k n := if_pos hn
    have hjv : ∀ Q : ev_O → ev_H → Prop, Q (.inl none) (wS h r (uS (stK R n k (fun k => vS Y k n)) k n (vS Y k n))) → En V (d + 2) 182 0 [some (.ref j), some (.int (iI n)), some (.int (iI k)), none] [] (wS h r (stK R n k (fun k => vS Y k n))) Q := by
      intro Q hQ
      refine n_go f_182_0 rfl (pc' := 1) rfl ?_
      refine n_gf f_182_1 rfl (by assumption) rfl ?_
      refine n_go f_182_4 rfl (pc' := 5) rfl ?_
      refine n_go f_182_5 rfl (pc' := 6) rfl ?_
      refine n_cv (ls' := [_, _, _]) f_182_6 (by decide) m_109 rfl rfl (by assumption) rfl ?_
      refine c_valueOf hO' (by omega) (by omega) ?_
      show En V _ 182 9 _ [_] _ _
      refine n_go f_182_9 rfl (pc' := 10) rfl ?_
      refine n_gf f_182_10 rfl (by assumption) rfl ?_
      refine n_go f_182_13 rfl (pc' := 14) rfl ?_
      refine n_go f_182_14 rfl (pc' := 15) rfl ?_
      refine n_cv (ls' := [_, _, _]) f_182_15 (by decide) m_109 rfl rfl (by assumption) rfl ?_
      refine c_valueOf hX' (by omega) (by omega) ?_
      show En V _ 182 18 _ [_, _] _ _
      refine n_go f_182_18 rfl (pc' := 19) rfl ?_
      refine n_gf f_182_19 rfl (by assumption) rfl ?_
      refine n_go f_182_22 rfl (pc' := 23) rfl ?_
      refine n_go f_182_23 rfl (pc' := 24) rfl ?_
      refine n_cv (ls' := [_, _, _]) f_182_24 (by decide) m_109 rfl rfl (by assumption) rfl ?_
      refine c_valueOf hY' (by omega) (by omega) ?_
      show En V _ 182 27 _ [_, _, _] _ _
      rw [ex, ey]
      refine n_cs (ls' := [_, _, _]) f_182_27 (by decide) m_189 rfl rfl ?_
      refine c_taken (by omega) (by omega) ?_
      show En V _ 182 30 _ [_] _ _
      refine n_go f_182_30 rfl (pc' := 31) (ls' := [_, _, _, _]) rfl ?_
      refine n_go f_182_31 rfl (pc' := 32) rfl ?_
      refine n_gf f_182_32 rfl (by assumption) rfl ?_
      refine n_go f_182_35 rfl (pc' := 36) rfl ?_
      refine n_go f_182_36 rfl (pc' := 37) rfl ?_
      refine n_go f_182_37 rfl (pc' := 38) rfl ?_
      refine n_cv (ls' := [_, _, _, _]) f_182_38 (by decide) m_65 rfl rfl (by assumption) rfl ?_
      refine c_setValue hR' hn (by omega) ?_
      show En V _ 182 41 _ [] _ _
      rw [wS_w]
      refine n_ret f_182_41 rfl rfl ?_
      exact hQ
    have hjc : ∀ Q : ev_O → ev_H → Prop, Q (.inl none) (wS h r (uS (stK R n k (fun k => vS Y k n)) k n (vS Y k n))) → En V (d + 2) 183 0 [some (.ref j), some (.int (iI n)), some (.int (iI k)), none] [] (wS h r (uS (stK R n k (fun k => vS Y k n)) k n (vS Y k n))) Q := by
      intro Q hQ
      refine n_go f_183_0 rfl (pc' := 1) rfl ?_
      refine n_gf f_183_1 rfl (by assumption) rfl ?_
      refine n_go f_183_4 rfl (pc' := 5) rfl ?_
      refine n_go f_183_5 rfl (pc' := 6) rfl ?_
      refine n_cv (ls' := [_, _, _]) f_183_6 (by decide) m_176 rfl rfl (by assumption) rfl ?_
      refine c_conflictOf hO2 (by omega) (by omega) ?_
      show En V _ 183 9 _ [_] _ _
      refine n_go f_183_9 rfl (pc' := 10) rfl ?_
      refine n_gf f_183_10 rfl (by assumption) rfl ?_
      refine n_go f_183_13 rfl (pc' := 14) rfl ?_
      refine n_go f_183_14 rfl (pc' := 15) rfl ?_
      refine n_cv (ls' := [_, _, _]) f_183_15 (by decide) m_176 rfl rfl (by assumption) rfl ?_
      refine c_conflictOf hX2 (by omega) (by omega) ?_
      show En V _ 183 18 _ [_, _] _ _
      refine n_go f_183_18 rfl (pc' := 19) rfl ?_
      refine n_gf f_183_19 rfl (by assumption) rfl ?_
      refine n_go f_183_22 rfl (pc' := 23) rfl ?_
      refine n_go f_183_23 rfl (pc' := 24) rfl ?_
      refine n_cv (ls' := [_, _, _]) f_183_24 (by decide) m_176 rfl rfl (by assumption) rfl ?_
      refine c_conflictOf hY2 (by omega) (by omega) ?_
      show En V _ 183 27 _ [_, _, _] _ _
      refine n_cs (ls' := [_, _, _]) f_183_27 (by decide) m_189 rfl rfl ?_
      refine c_taken (by omega) (by omega) ?_
      show En V _ 183 30 _ [_] _ _
      refine n_go f_183_30 rfl (pc' := 31) (ls' := [_, _, _, _]) rfl ?_
      refine n_go f_183_31 rfl (pc' := 32) rfl ?_
      refine n_go f_183_32 rfl (pc' := 33) rfl ?_
      refine n_go f_183_33 rfl (pc' := 34) rfl ?_
      refine n_cv (ls' := [_, _, _, _, _, _]) f_183_34 (by decide) m_190 rfl rfl (by assumption) rfl ?_
      refine c_atOdds hJ2 hX2 hO2 hY2 hn (by omega) ?_
      show En V _ 183 37 _ [_] _ _
      refine n_if_eq f_183_37 rfl rfl (by omega) (fun _ => ?_) (fun e9 => absurd (by omega) e9)
      refine n_go f_183_62 rfl (pc' := 63) rfl ?_
      refine n_gf f_183_63 rfl (by assumption) rfl ?_
      refine n_go f_183_66 rfl (pc' := 67) rfl ?_
      refine n_go f_183_67 rfl (pc' := 68) rfl ?_
      refine n_go f_183_68 rfl (pc' := 69) rfl ?_
      refine n_cv (ls' := [_, _, _, _]) f_183_69 (by decide) m_160 rfl rfl (by assumption) rfl ?_
      refine c_setConflict hR2 hn (by omega) ?_
      show En V _ 183 72 _ [] _ _
      refine n_ret f_183_72 rfl rfl ?_
      exact hQ
    refine n_go f_171_2 rfl (pc' := 3) rfl ?_
    refine n_go f_171_3 rfl (pc' := 4) (st' := .int (iI 5) :: _) rfl ?_
    refine n_ic_ge f_171_4 rfl rfl ⟨by omega, by omega⟩ (fun e9 => absurd e9 (by omega)) (fun _ => ?_)
    refine n_go f_171_7 rfl (pc' := 8) rfl ?_
    refine n_go f_171_8 rfl (pc' := 9) rfl ?_
    refine n_go f_171_9 rfl (pc' := 10) rfl ?_
    refine n_cv (ls' := [_, _, _, _]) f_171_10 (by decide) m_182 rfl rfl (by assumption) rfl ?_
    refine hjv _ ?_
    show En V _ 171 13 _ [] _ _
    refine n_go f_171_13 rfl (pc' := 14) rfl ?_
    refine n_go f_171_14 rfl (pc' := 15) rfl ?_
    refine n_go f_171_15 rfl (pc' := 16) rfl ?_
    refine n_cv (ls' := [_, _, _, _]) f_171_16 (by decide) m_183 rfl rfl (by assumption) rfl ?_
    refine hjc _ ?_
    show En V _ 171 19 _ [] _ _
    refine n_iinc (m' := 1) (ls' := [_, _, _]) f_171_19 rfl rfl rfl rfl ?_
    refine n_go f_171_22 rfl (pc' := 2) rfl ?_
    refine kk _ _ _ ⟨rfl, rfl, ?_⟩
    rw [← stK_s (w := fun k => vS Y k n) ⟨h1, h2⟩]
  · rintro ls st h' ⟨rfl, rfl, rfl⟩
    refine n_go f_171_2 rfl (pc' := 3) rfl ?_
    refine n_go f_171_3 rfl (pc' := 4) (st' := .int (iI 5) :: _) rfl ?_
    refine n_ic_ge f_171_4 rfl rfl ⟨by omega, by omega⟩ (fun _ => ?_) (fun e9 => absurd (by omega) e9)
    refine n_ret f_171_25 rfl rfl ?_
    exact KK
theorem c_isTouched (hK : Sk h K) (hJ : Jn h j x y o r) {z : Nat} (hZ : St h z Z) (hO : St h o Z) (hn : 0 ≤ n ∧ n < 40) (KK : P (.inl (some (.int (iI 0)))) h) : En V (d + 2) 185 0 [some (.ref j), some (.int (iI n)), some (.ref z), none] [] h P := by
  have jj := hJ
  unfold Jn at jj
  have z0 := hZ.1
  have o0 := hO.1
  have k1 := hK.1
  have k10 := hK.2.2.2.2.2.2.2.2.2.1
  have kr := hK.2.2.2.2.2.2.2.2.2.2
  have kw := kr.2.2.1
  have zr := hZ.2.2.2.2.2.2.1
  refine n_go f_185_0 rfl (pc' := 1) (st' := .int (iI 0) :: _) rfl ?_
  refine n_go f_185_1 rfl (pc' := 2) (ls' := [_, _, _, _]) rfl ?_
  refine n_for (lo := 0) (hi := 5) (by decide) (fun k ls st h' => ls = [some (.ref j), some (.int (iI n)), some (.ref z), some (.int (iI k))] ∧ st = [] ∧ h' = h) ⟨rfl, rfl, rfl⟩ ?_ ?_
  · rintro k ls st h' h1 h2 ⟨rfl, rfl, rfl⟩ kk
    have r1 := gS_r (f := vS Z k) (fun i => vS_r zr i) n
    refine n_go f_185_2 rfl (pc' := 3) rfl ?_
    refine n_go f_185_3 rfl (pc' := 4) (st' := .int (iI 5) :: _) rfl ?_
    refine n_ic_ge f_185_4 rfl rfl ⟨by omega, by omega⟩ (fun e9 => absurd e9 (by omega)) (fun _ => ?_)
    refine n_go f_185_7 rfl (pc' := 8) rfl ?_
    refine n_go f_185_8 rfl (pc' := 9) rfl ?_
    refine n_go f_185_9 rfl (pc' := 10) rfl ?_
    refine n_cv (ls' := [_, _, _]) f_185_10 (by decide) m_109 rfl rfl (by assumption) rfl ?_
    refine c_valueOf hZ (by omega) (by omega) ?_
    show En V _ 185 13 _ [_] _ _
    refine n_go f_185_13 rfl (pc' := 14) rfl ?_
    refine n_gf f_185_14 rfl (by assumption) rfl ?_
    refine n_go f_185_17 rfl (pc' := 18) rfl ?_
    refine n_go f_185_18 rfl (pc' := 19) rfl ?_
    refine n_cv (ls' := [_, _, _]) f_185_19 (by decide) m_109 rfl rfl (by assumption) rfl ?_
    refine c_valueOf hO (by omega) (by omega) ?_
    show En V _ 185 22 _ [_, _] _ _
    refine n_ic_eq f_185_22 rfl rfl ⟨by omega, by omega⟩ (fun _ => ?_) (fun e9 => absurd (by omega) e9)
    refine n_iinc (m' := 1) (ls' := [_, _, _, _]) f_185_27 rfl rfl rfl rfl ?_
    refine n_go f_185_30 rfl (pc' := 2) rfl ?_
    exact kk _ _ _ ⟨rfl, rfl, rfl⟩
  rintro ls st h ⟨rfl, rfl, rfl⟩
  refine n_go f_185_2 rfl (pc' := 3) rfl ?_
  refine n_go f_185_3 rfl (pc' := 4) (st' := .int (iI 5) :: _) rfl ?_
  refine n_ic_ge f_185_4 rfl rfl ⟨by omega, by omega⟩ (fun _ => ?_) (fun e9 => absurd (by omega) e9)
  refine n_go f_185_33 rfl (pc' := 34) (st' := .int (iI 0) :: _) rfl ?_
  refine n_go f_185_34 rfl (pc' := 35) (ls' := [_, _, _, _]) rfl ?_
  refine n_for (lo := 0) (hi := kW K) kw.1 (fun k ls st h' => ls = [some (.ref j), some (.int (iI n)), some (.ref z), some (.int (iI k))] ∧ st = [] ∧ h' = h) ⟨rfl, rfl, rfl⟩ ?_ ?_
  · rintro w ls st h' h1 h2 ⟨rfl, rfl, rfl⟩ kk
    have hl := kr.2.2.2.2.2.2.2.1 w
    have hb : b2 (Z.2.2.2 w) = 0 ∨ b2 (Z.2.2.2 w) = 1 := by cases Z.2.2.2 w <;> decide
    refine n_go f_185_35 rfl (pc' := 36) rfl ?_
    refine n_go f_185_36 rfl (pc' := 37) rfl ?_
    refine n_gf f_185_37 rfl (by assumption) rfl ?_
    refine n_cv (ls' := [_]) f_185_40 (by decide) m_154 rfl rfl (by assumption) rfl ?_
    refine c_wordCount hK ?_
    show En V _ 185 43 _ [_, _] _ _
    refine n_ic_ge f_185_43 rfl rfl ⟨by omega, by omega⟩ (fun e9 => absurd e9 (by omega)) (fun _ => ?_)
    refine n_go f_185_46 rfl (pc' := 47) rfl ?_
    refine n_gf f_185_47 rfl (by assumption) rfl ?_
    refine n_go f_185_50 rfl (pc' := 51) rfl ?_
    refine n_cv (ls' := [_, _]) f_185_51 (by decide) m_155 rfl rfl (by assumption) rfl ?_
    refine c_leafOf hK (by omega) ?_
    show En V _ 185 54 _ [_] _ _
    refine n_go f_185_54 rfl (pc' := 55) rfl ?_
    refine n_ic_ne f_185_55 rfl rfl ⟨by omega, by omega⟩ (fun e => ?_) (fun e => ?_)
    · refine n_iinc (m' := 1) (ls' := [_, _, _, _]) f_185_76 rfl rfl rfl rfl ?_
      refine n_go f_185_79 rfl (pc' := 35) rfl ?_
      exact kk _ _ _ ⟨rfl, rfl, rfl⟩
    refine n_go f_185_58 rfl (pc' := 59) rfl ?_
    refine n_go f_185_59 rfl (pc' := 60) rfl ?_
    refine n_cv (ls' := [_, _]) f_185_60 (by decide) m_156 rfl rfl (by assumption) rfl ?_
    refine c_says hZ (by omega) ?_
    show En V _ 185 63 _ [_] _ _
    refine n_go f_185_63 rfl (pc' := 64) rfl ?_
    refine n_gf f_185_64 rfl (by assumption) rfl ?_
    refine n_go f_185_67 rfl (pc' := 68) rfl ?_
    refine n_cv (ls' := [_, _]) f_185_68 (by decide) m_156 rfl rfl (by assumption) rfl ?_
    refine c_says hO (by omega) ?_
    show En V _ 185 71 _ [_, _] _ _
    refine n_ic_eq f_185_71 rfl rfl ⟨by omega, by omega⟩ (fun _ => ?_) (fun e9 => absurd (by omega) e9)
    refine n_iinc (m' := 1) (ls' := [_, _, _, _]) f_185_76 rfl rfl rfl rfl ?_
    refine n_go f_185_79 rfl (pc' := 35) rfl ?_
    exact kk _ _ _ ⟨rfl, rfl, rfl⟩
  rintro ls st h ⟨rfl, rfl, rfl⟩
  refine n_go f_185_35 rfl (pc' := 36) rfl ?_
  refine n_go f_185_36 rfl (pc' := 37) rfl ?_
  refine n_gf f_185_37 rfl (by assumption) rfl ?_
  refine n_cv (ls' := [_]) f_185_40 (by decide) m_154 rfl rfl (by assumption) rfl ?_
  refine c_wordCount hK ?_
  show En V _ 185 43 _ [_, _] _ _
  refine n_ic_ge f_185_43 rfl rfl ⟨by omega, by omega⟩ (fun _ => ?_) (fun e9 => absurd (by omega) e9)
  refine n_go f_185_82 rfl (pc' := 83) (st' := .int (iI 0) :: _) rfl ?_
  refine n_go f_185_83 rfl (pc' := 84) (ls' := [_, _, _, _]) rfl ?_
  refine n_for (lo := 0) (hi := 40) (by decide) (fun k ls st h' => ls = [some (.ref j), some (.int (iI n)), some (.ref z), some (.int (iI k))] ∧ st = [] ∧ h' = h) ⟨rfl, rfl, rfl⟩ ?_ ?_
  · rintro i ls st h' h1 h2 ⟨rfl, rfl, rfl⟩ kk
    have hr := hold_r kr Z i
    have r1 := gS_r (fun i => (zr i).1) i
    refine n_go f_185_84 rfl (pc' := 85) rfl ?_
    refine n_bip (m := 40) f_185_85 rfl (by decide) ?_
    refine n_ic_ge f_185_87 rfl rfl ⟨by omega, by omega⟩ (fun e9 => absurd e9 (by omega)) (fun _ => ?_)
    refine n_go f_185_90 rfl (pc' := 91) rfl ?_
    refine n_gf f_185_91 rfl (by assumption) rfl ?_
    refine n_go f_185_94 rfl (pc' := 95) rfl ?_
    refine n_go f_185_95 rfl (pc' := 96) rfl ?_
    refine n_cv (ls' := [_, _, _]) f_185_96 (by decide) m_122 rfl rfl (by assumption) rfl ?_
    refine c_holderIn hK hZ (by omega) ?_
    show En V _ 185 99 _ [_] _ _
    refine n_go f_185_99 rfl (pc' := 100) rfl ?_
    refine n_ic_ne f_185_100 rfl rfl ⟨by omega, by omega⟩ (fun e => ?_) (fun e => ?_)
    · refine n_iinc (m' := 1) (ls' := [_, _, _, _]) f_185_121 rfl rfl rfl rfl ?_
      refine n_go f_185_124 rfl (pc' := 84) rfl ?_
      exact kk _ _ _ ⟨rfl, rfl, rfl⟩
    refine n_go f_185_103 rfl (pc' := 104) rfl ?_
    refine n_go f_185_104 rfl (pc' := 105) rfl ?_
    refine n_cv (ls' := [_, _]) f_185_105 (by decide) m_147 rfl rfl (by assumption) rfl ?_
    refine c_spotOf hZ (by omega) ?_
    show En V _ 185 108 _ [_] _ _
    refine n_go f_185_108 rfl (pc' := 109) rfl ?_
    refine n_gf f_185_109 rfl (by assumption) rfl ?_
    refine n_go f_185_112 rfl (pc' := 113) rfl ?_
    refine n_cv (ls' := [_, _]) f_185_113 (by decide) m_147 rfl rfl (by assumption) rfl ?_
    refine c_spotOf hO (by omega) ?_
    show En V _ 185 116 _ [_, _] _ _
    refine n_ic_eq f_185_116 rfl rfl ⟨by omega, by omega⟩ (fun _ => ?_) (fun e9 => absurd (by omega) e9)
    refine n_iinc (m' := 1) (ls' := [_, _, _, _]) f_185_121 rfl rfl rfl rfl ?_
    refine n_go f_185_124 rfl (pc' := 84) rfl ?_
    exact kk _ _ _ ⟨rfl, rfl, rfl⟩
  rintro ls st h ⟨rfl, rfl, rfl⟩
  refine n_go f_185_84 rfl (pc' := 85) rfl ?_
  refine n_bip (m := 40) f_185_85 rfl (by decide) ?_
  refine n_ic_ge f_185_87 rfl rfl ⟨by omega, by omega⟩ (fun _ => ?_) (fun e9 => absurd (by omega) e9)
  refine n_go f_185_127 rfl (pc' := 128) rfl ?_
  refine n_go f_185_128 rfl (pc' := 129) rfl ?_
  refine n_gf f_185_129 rfl (by assumption) rfl ?_
  refine n_go f_185_132 rfl (pc' := 133) rfl ?_
  refine n_cv (ls' := [_, _, _, _, _]) f_185_133 (by decide) m_163 rfl rfl (by assumption) rfl ?_
  refine c_hasConflictsOf hZ hO hn ?_
  show En V _ 185 136 _ [_] _ _
  refine n_if_ne f_185_136 rfl rfl (by omega) (fun _ => ?_) (fun e9 => absurd (by omega) e9)
  refine n_go f_185_143 rfl (pc' := 144) (st' := .int (iI 0) :: _) rfl ?_
  first | refine n_rt0 f_185_144 rfl ?_ | refine n_rt1 f_185_144 rfl ?_ | refine n_rtz f_185_144 rfl ?_
  exact KK
end CJ
