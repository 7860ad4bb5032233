/-! Look's methods: children and words at their places, words hushed, the five rules. -/
section CQ
variable {V : ev_V} {d : Nat} {h : ev_H} {P : ev_O → ev_H → Prop} {a b c : Nat} {S T : dS} {K : dK} {n k v s m lo : Int}
theorem c_fill {f : Int → Int} {l : Nat} (hc : h.1[c]? = some (aI l f)) (he : c < 1048576) (hl : l < 2147483648) (KK : P (.inl none) (ev_set h c (aI l (fun _ => v)))) : En V d 64 0 [some (.ref c), some (.int (iI v)), none, none] [] h P := by
  refine n_go f_64_0 rfl (pc' := 1) (st' := .int (iI 0) :: _) rfl ?_
  refine n_go f_64_1 rfl (pc' := 2) (ls' := [_, _, _, _]) rfl ?_
  refine n_go f_64_2 rfl (pc' := 3) rfl ?_
  refine n_aln f_64_3 rfl (by assumption) rfl (by unfold ev_ext; omega) ?_
  refine n_go f_64_4 rfl (pc' := 5) (ls' := [_, _, _, _]) rfl ?_
  refine n_for (lo := 0) (hi := l) (by omega) (fun i ls st h' => ls = [some (.ref c), some (.int (iI v)), some (.int (iI i)), some (.int (iI l))] ∧ st = [] ∧ h' = ev_set h c (aI l (fun j => if j < i then v else f j))) ⟨rfl, rfl, ?_⟩ ?_ ?_
  · rw [aI_congr (f' := f) (fun j h1 h2 => if_neg (by omega)), g_sf hc]
  · rintro i ls st h' h1 h2 ⟨rfl, rfl, rfl⟩ kk
    have hc' : (ev_set h c (aI l (fun j => if j < i then v else f j))).1[c]? = some (aI l (fun j => if j < i then v else f j)) := g_eq hc
    refine n_go f_64_5 rfl (pc' := 6) rfl ?_
    refine n_go f_64_6 rfl (pc' := 7) rfl ?_
    refine n_ic_ge f_64_7 rfl rfl ⟨by omega, by omega⟩ (fun e9 => absurd e9 (by omega)) (fun _ => ?_)
    refine n_go f_64_10 rfl (pc' := 11) rfl ?_
    refine n_go f_64_11 rfl (pc' := 12) rfl ?_
    refine n_go f_64_12 rfl (pc' := 13) rfl ?_
    refine n_ias f_64_13 rfl (by assumption) (by omega) ?_
    refine n_iinc (m' := 1) (ls' := [_, _, _, _]) f_64_14 rfl rfl rfl rfl ?_
    refine n_go f_64_17 rfl (pc' := 5) rfl ?_
    refine kk _ _ _ ⟨rfl, rfl, ?_⟩
    rw [g_ss]
    congr 1
    refine aI_congr (fun j h3 h4 => ?_)
    unfold uz
    by_cases hj : j = i
    · rw [if_pos hj, if_pos (by omega)]
    · rw [if_neg hj]
      show (if j < i then v else f j) = (if j < i + 1 then v else f j)
      by_cases hj2 : j < i
      · rw [if_pos hj2, if_pos (by omega)]
      · rw [if_neg hj2, if_neg (by omega)]
  · rintro ls st h' ⟨rfl, rfl, rfl⟩
    refine n_go f_64_5 rfl (pc' := 6) rfl ?_
    refine n_go f_64_6 rfl (pc' := 7) rfl ?_
    refine n_ic_ge f_64_7 rfl rfl ⟨by omega, by omega⟩ (fun _ => ?_) (fun e9 => absurd (by omega) e9)
    refine n_ret f_64_20 rfl rfl ?_
    rw [aI_congr (f' := fun _ => v) (fun j h1 h2 => if_pos h2)]
    exact KK
/-- what counts in a sweep: a child that is not left out -/
def mOk (K : dK) (S : dS) (n lo i : Int) : Bool := decide (¬ met K S n i = -1 ∧ ¬ met K S n i = lo)
theorem met_r {K : dK} (hr : rK K) (S : dS) (n i : Int) (hi : 0 ≤ i ∧ i < 120) (hm : kK K n = 1 → i < 40) : -1 ≤ met K S n i ∧ met K S n i < 40 := by
  have r4 := hr.2.2.2.2.2.1 (kQ K i)
  unfold met
  split
  · next e =>
    have := hm e
    split <;> omega
  · split <;> omega
theorem swL_r {K : dK} (hr : rK K) (n : Int) : 0 ≤ swL K n ∧ swL K n ≤ 120 ∧ (kK K n = 1 → swL K n ≤ 40) := by
  have r1 := hr.1
  have r2 := hr.2.1
  unfold swL
  refine ⟨by split <;> (try split) <;> omega, by split <;> (try split) <;> omega, fun e => ?_⟩
  rw [if_neg (by omega), if_pos e]
  omega
theorem c_childAt (hK : Sk h K) (hS : St h a S) (hn : 0 ≤ n ∧ n < 40) (hm : -2147483648 ≤ m ∧ m < 2147483648) (hlo : -2147483648 ≤ lo ∧ lo < 2147483648)
    (K1 : ∀ j, 0 ≤ j → j < swL K n → mOk K S n lo j = true → cnI j (mOk K S n lo) = m → P (.inl (some (.int (iI (met K S n j))))) h)
    (K2 : (∀ j, 0 ≤ j → j < swL K n → mOk K S n lo j = true → ¬ cnI j (mOk K S n lo) = m) → P (.inl (some (.int (iI (-1))))) h) :
    En V (d + 3) 134 0 [some (.ref 10), some (.ref a), some (.int (iI n)), some (.int (iI m)), some (.int (iI lo)), none, none, none, none] [] h P := by
  have k10 := hK.2.2.2.2.2.2.2.2.2.1
  have kr := hK.2.2.2.2.2.2.2.2.2.2
  have hw := swL_r kr n
  refine n_go f_134_0 rfl (pc' := 1) (st' := .int (iI 0) :: _) rfl ?_
  refine n_go f_134_1 rfl (pc' := 3) (ls' := [_, _, _, _, _, _, _, _, _]) rfl ?_
  refine n_go f_134_3 rfl (pc' := 4) rfl ?_
  refine n_go f_134_4 rfl (pc' := 5) rfl ?_
  refine n_cv (ls' := [_, _]) f_134_5 (by decide) m_169 rfl rfl (by assumption) rfl ?_
  refine c_sweepLength hK hn ?_
  show En V _ 134 8 _ [_] _ _
  refine n_go f_134_8 rfl (pc' := 10) (ls' := [_, _, _, _, _, _, _, _, _]) rfl ?_
  refine n_go f_134_10 rfl (pc' := 11) (st' := .int (iI 0) :: _) rfl ?_
  refine n_go f_134_11 rfl (pc' := 13) (ls' := [_, _, _, _, _, _, _, _, _]) rfl ?_
  refine n_for (lo := 0) (hi := swL K n) hw.1 (fun i ls st h' => (∃ u, ls = [some (.ref 10), some (.ref a), some (.int (iI n)), some (.int (iI m)), some (.int (iI lo)), some (.int (iI (cnI i (mOk K S n lo)))), some (.int (iI (swL K n))), some (.int (iI i)), u]) ∧ st = [] ∧ h' = h ∧ ∀ j, 0 ≤ j → j < i → mOk K S n lo j = true → ¬ cnI j (mOk K S n lo) = m) ⟨⟨_, rfl⟩, rfl, rfl, fun j h1 h2 => absurd h2 (by omega)⟩ ?_ ?_
  · rintro i ls st h' h1 h2 ⟨⟨u, rfl⟩, rfl, rfl, hno⟩ kk
    have hmr := met_r kr S n i (by omega) (fun e => by have := hw.2.2 e; omega)
    have hcr := cnI_r (p := mOk K S n lo) h1
    refine n_go f_134_13 rfl (pc' := 15) rfl ?_
    refine n_go f_134_15 rfl (pc' := 17) rfl ?_
    refine n_ic_ge f_134_17 rfl rfl ⟨by omega, by omega⟩ (fun e9 => absurd e9 (by omega)) (fun _ => ?_)
    refine n_go f_134_20 rfl (pc' := 21) rfl ?_
    refine n_go f_134_21 rfl (pc' := 22) rfl ?_
    refine n_go f_134_22 rfl (pc' := 23) rfl ?_
    refine n_go f_134_23 rfl (pc' := 25) rfl ?_
    refine n_cv (ls' := [_, _, _, _, _, _]) f_134_25 (by decide) m_170 rfl rfl (by assumption) rfl ?_
    refine c_childMet hK hS hn ⟨h1, h2⟩ ?_
    show En V _ 134 28 _ [_] _ _
    refine n_go f_134_28 rfl (pc' := 30) (ls' := [_, _, _, _, _, _, _, _, _]) rfl ?_
    refine n_go f_134_30 rfl (pc' := 32) rfl ?_
    refine n_go f_134_32 rfl (pc' := 33) (st' := .int (iI (-1)) :: _) rfl ?_
    refine n_ic_eq f_134_33 rfl rfl ⟨by omega, by omega⟩ (fun e => ?_) (fun e => ?_)
    · have ef : mOk K S n lo i = false := decide_eq_false (fun q => q.1 e)
      refine n_iinc (m' := 1) (ls' := [_, _, _, _, _, _, _, _, _]) f_134_55 rfl rfl rfl rfl ?_
      refine n_go f_134_58 rfl (pc' := 13) rfl ?_
      refine kk _ _ _ ⟨⟨_, by rw [cnI_f h1 ef]⟩, rfl, rfl, fun j g1 g2 g3 => ?_⟩
      by_cases hj : j = i
      · subst hj; rw [ef] at g3; cases g3
      · exact hno j g1 (by omega) g3
    refine n_go f_134_36 rfl (pc' := 38) rfl ?_
    refine n_go f_134_38 rfl (pc' := 40) rfl ?_
    refine n_ic_eq f_134_40 rfl rfl ⟨by omega, by omega⟩ (fun e2 => ?_) (fun e2 => ?_)
    · have ef : mOk K S n lo i = false := decide_eq_false (fun q => q.2 e2)
      refine n_iinc (m' := 1) (ls' := [_, _, _, _, _, _, _, _, _]) f_134_55 rfl rfl rfl rfl ?_
      refine n_go f_134_58 rfl (pc' := 13) rfl ?_
      refine kk _ _ _ ⟨⟨_, by rw [cnI_f h1 ef]⟩, rfl, rfl, fun j g1 g2 g3 => ?_⟩
      by_cases hj : j = i
      · subst hj; rw [ef] at g3; cases g3
      · exact hno j g1 (by omega) g3
    have et : mOk K S n lo i = true := decide_eq_true ⟨e, e2⟩
    refine n_go f_134_43 rfl (pc' := 45) rfl ?_
    refine n_go f_134_45 rfl (pc' := 46) rfl ?_
    refine n_ic_ne f_134_46 rfl rfl ⟨by omega, by omega⟩ (fun e3 => ?_) (fun e3 => ?_)
    · refine n_iinc (m' := 1) (ls' := [_, _, _, _, _, _, _, _, _]) f_134_52 rfl rfl rfl rfl ?_
      refine n_iinc (m' := 1) (ls' := [_, _, _, _, _, _, _, _, _]) f_134_55 rfl rfl rfl rfl ?_
      refine n_go f_134_58 rfl (pc' := 13) rfl ?_
      refine kk _ _ _ ⟨⟨_, by rw [cnI_t h1 et]⟩, rfl, rfl, fun j g1 g2 g3 => ?_⟩
      by_cases hj : j = i
      · subst hj; exact e3
      · exact hno j g1 (by omega) g3
    refine n_go f_134_49 rfl (pc' := 51) rfl ?_
    refine n_ret f_134_51 rfl rfl ?_
    exact K1 i h1 h2 et (by omega)
  · rintro ls st h' ⟨⟨u, rfl⟩, rfl, rfl, hno⟩
    refine n_go f_134_13 rfl (pc' := 15) rfl ?_
    refine n_go f_134_15 rfl (pc' := 17) rfl ?_
    refine n_ic_ge f_134_17 rfl rfl ⟨by omega, by omega⟩ (fun _ => ?_) (fun e9 => absurd (by omega) e9)
    refine n_go f_134_61 rfl (pc' := 62) (st' := .int (iI (-1)) :: _) rfl ?_
    refine n_ret f_134_62 rfl rfl ?_
    exact K2 hno
def wOk (K : dK) (S : dS) (n w : Int) : Bool := decide (kL K w = n) && S.2.2.2 w
theorem c_countWords (hK : Sk h K) (hS : St h a S) (hn : -2147483648 ≤ n ∧ n < 2147483648) (KK : P (.inl (some (.int (iI (cnI (kW K) (wOk K S n)))))) h) : En V (d + 1) 110 0 [some (.ref 10), some (.ref a), some (.int (iI n)), none, none] [] h P := by
  have k10 := hK.2.2.2.2.2.2.2.2.2.1
  have k1 := hK.1
  have s0 := hS.1
  have kr := hK.2.2.2.2.2.2.2.2.2.2
  have kw := kr.2.2.1
  refine n_go f_110_0 rfl (pc' := 1) (st' := .int (iI 0) :: _) rfl ?_
  refine n_go f_110_1 rfl (pc' := 2) (ls' := [_, _, _, _, _]) rfl ?_
  refine n_go f_110_2 rfl (pc' := 3) (st' := .int (iI 0) :: _) rfl ?_
  refine n_go f_110_3 rfl (pc' := 5) (ls' := [_, _, _, _, _]) rfl ?_
  refine n_for (lo := 0) (hi := kW K) kw.1 (fun i ls st h' => ls = [some (.ref 10), some (.ref a), some (.int (iI n)), some (.int (iI (cnI i (wOk K S n)))), some (.int (iI i))] ∧ st = [] ∧ h' = h) ⟨rfl, rfl, rfl⟩ ?_ ?_
  · rintro i ls st h' h1 h2 ⟨rfl, rfl, rfl⟩ kk
    have hl := kr.2.2.2.2.2.2.2.1 i
    refine n_go f_110_5 rfl (pc' := 7) rfl ?_
    refine n_go f_110_7 rfl (pc' := 8) rfl ?_
    refine n_gf f_110_8 rfl (by assumption) rfl ?_
    refine n_cv (ls' := [_]) f_110_11 (by decide) m_154 rfl rfl (by assumption) rfl ?_
    refine c_wordCount hK ?_
    show En V _ 110 14 _ [_, _] _ _
    refine n_ic_ge f_110_14 rfl rfl ⟨by omega, by omega⟩ (fun e9 => absurd e9 (by omega)) (fun _ => ?_)
    refine n_go f_110_17 rfl (pc' := 18) rfl ?_
    refine n_gf f_110_18 rfl (by assumption) rfl ?_
    refine n_go f_110_21 rfl (pc' := 23) rfl ?_
    refine n_cv (ls' := [_, _]) f_110_23 (by decide) m_155 rfl rfl (by assumption) rfl ?_
    refine c_leafOf hK (by omega) ?_
    show En V _ 110 26 _ [_] _ _
    refine n_go f_110_26 rfl (pc' := 27) rfl ?_
    refine n_ic_ne f_110_27 rfl rfl ⟨by omega, by omega⟩ (fun e => ?_) (fun e => ?_)
    · refine n_iinc (m' := 1) (ls' := [_, _, _, _, _]) f_110_42 rfl rfl rfl rfl ?_
      refine n_go f_110_45 rfl (pc' := 5) rfl ?_
      exact kk _ _ _ ⟨by rw [cnI_f h1 (by unfold wOk; rw [decide_eq_false e]; rfl)], rfl, rfl⟩
    have e : kL K i = n := by omega
    refine n_go f_110_30 rfl (pc' := 31) rfl ?_
    refine n_go f_110_31 rfl (pc' := 33) rfl ?_
    refine n_cv (ls' := [_, _]) f_110_33 (by decide) m_156 rfl rfl (by assumption) rfl ?_
    refine c_says hS (by omega) ?_
    show En V _ 110 36 _ [_] _ _
    refine n_ib_eq f_110_36 rfl rfl (fun e2 => ?_) (fun e2 => ?_)
    · refine n_iinc (m' := 1) (ls' := [_, _, _, _, _]) f_110_42 rfl rfl rfl rfl ?_
      refine n_go f_110_45 rfl (pc' := 5) rfl ?_
      exact kk _ _ _ ⟨by rw [cnI_f h1 (by unfold wOk; rw [e2, Bool.and_false])], rfl, rfl⟩
    refine n_iinc (m' := 1) (ls' := [_, _, _, _, _]) f_110_39 rfl rfl rfl rfl ?_
    refine n_iinc (m' := 1) (ls' := [_, _, _, _, _]) f_110_42 rfl rfl rfl rfl ?_
    refine n_go f_110_45 rfl (pc' := 5) rfl ?_
    exact kk _ _ _ ⟨by rw [cnI_t h1 (by unfold wOk; rw [decide_eq_true e, e2]; rfl)], rfl, rfl⟩
  · rintro ls st h' ⟨rfl, rfl, rfl⟩
    refine n_go f_110_5 rfl (pc' := 7) rfl ?_
    refine n_go f_110_7 rfl (pc' := 8) rfl ?_
    refine n_gf f_110_8 rfl (by assumption) rfl ?_
    refine n_cv (ls' := [_]) f_110_11 (by decide) m_154 rfl rfl (by assumption) rfl ?_
    refine c_wordCount hK ?_
    show En V _ 110 14 _ [_, _] _ _
    refine n_ic_ge f_110_14 rfl rfl ⟨by omega, by omega⟩ (fun _ => ?_) (fun e9 => absurd (by omega) e9)
    refine n_go f_110_48 rfl (pc' := 49) rfl ?_
    refine n_ret f_110_49 rfl rfl ?_
    exact KK
def uOk (K : dK) (S : dS) (n i : Int) : Bool := wOk K S n (kU K i)
theorem c_wordAt (hK : Sk h K) (hS : St h a S) (hn : -2147483648 ≤ n ∧ n < 2147483648) (hm : -2147483648 ≤ m ∧ m < 2147483648)
    (K1 : ∀ j, 0 ≤ j → j < kW K → uOk K S n j = true → cnI j (uOk K S n) = m → P (.inl (some (.int (iI (kU K j))))) h)
    (K2 : (∀ j, 0 ≤ j → j < kW K → uOk K S n j = true → ¬ cnI j (uOk K S n) = m) → P (.inl (some (.int (iI (-1))))) h) :
    En V (d + 1) 112 0 [some (.ref 10), some (.ref a), some (.int (iI n)), some (.int (iI m)), none, none, none] [] h P := by
  have k10 := hK.2.2.2.2.2.2.2.2.2.1
  have k1 := hK.1
  have s0 := hS.1
  have kr := hK.2.2.2.2.2.2.2.2.2.2
  have kw := kr.2.2.1
  refine n_go f_112_0 rfl (pc' := 1) (st' := .int (iI 0) :: _) rfl ?_
  refine n_go f_112_1 rfl (pc' := 3) (ls' := [_, _, _, _, _, _, _]) rfl ?_
  refine n_go f_112_3 rfl (pc' := 4) (st' := .int (iI 0) :: _) rfl ?_
  refine n_go f_112_4 rfl (pc' := 6) (ls' := [_, _, _, _, _, _, _]) rfl ?_
  refine n_for (lo := 0) (hi := kW K) kw.1 (fun i ls st h' => (∃ u, ls = [some (.ref 10), some (.ref a), some (.int (iI n)), some (.int (iI m)), some (.int (iI (cnI i (uOk K S n)))), some (.int (iI i)), u]) ∧ st = [] ∧ h' = h ∧ ∀ j, 0 ≤ j → j < i → uOk K S n j = true → ¬ cnI j (uOk K S n) = m) ⟨⟨_, rfl⟩, rfl, rfl, fun j h1 h2 => absurd h2 (by omega)⟩ ?_ ?_
  · rintro i ls st h' h1 h2 ⟨⟨u, rfl⟩, rfl, rfl, hno⟩ kk
    have hu := kr.2.2.2.2.2.2.2.2.2.2 i
    have hl := kr.2.2.2.2.2.2.2.1 (kU K i)
    have hcr := cnI_r (p := uOk K S n) h1
    refine n_go f_112_6 rfl (pc' := 8) rfl ?_
    refine n_go f_112_8 rfl (pc' := 9) rfl ?_
    refine n_gf f_112_9 rfl (by assumption) rfl ?_
    refine n_cv (ls' := [_]) f_112_12 (by decide) m_154 rfl rfl (by assumption) rfl ?_
    refine c_wordCount hK ?_
    show En V _ 112 15 _ [_, _] _ _
    refine n_ic_ge f_112_15 rfl rfl ⟨by omega, by omega⟩ (fun e9 => absurd e9 (by omega)) (fun _ => ?_)
    refine n_go f_112_18 rfl (pc' := 19) rfl ?_
    refine n_gf f_112_19 rfl (by assumption) rfl ?_
    refine n_go f_112_22 rfl (pc' := 24) rfl ?_
    refine n_cv (ls' := [_, _]) f_112_24 (by decide) m_157 rfl rfl (by assumption) rfl ?_
    refine c_wordInOrder hK ⟨h1, h2⟩ ?_
    show En V _ 112 27 _ [_] _ _
    refine n_go f_112_27 rfl (pc' := 29) (ls' := [_, _, _, _, _, _, _]) rfl ?_
    refine n_go f_112_29 rfl (pc' := 30) rfl ?_
    refine n_gf f_112_30 rfl (by assumption) rfl ?_
    refine n_go f_112_33 rfl (pc' := 35) rfl ?_
    refine n_cv (ls' := [_, _]) f_112_35 (by decide) m_155 rfl rfl (by assumption) rfl ?_
    refine c_leafOf hK (by omega) ?_
    show En V _ 112 38 _ [_] _ _
    refine n_go f_112_38 rfl (pc' := 39) rfl ?_
    refine n_ic_ne f_112_39 rfl rfl ⟨by omega, by omega⟩ (fun e => ?_) (fun e => ?_)
    · have ef : uOk K S n i = false := by unfold uOk wOk; rw [decide_eq_false e]; rfl
      refine n_iinc (m' := 1) (ls' := [_, _, _, _, _, _, _]) f_112_63 rfl rfl rfl rfl ?_
      refine n_go f_112_66 rfl (pc' := 6) rfl ?_
      refine kk _ _ _ ⟨⟨_, by rw [cnI_f h1 ef]⟩, rfl, rfl, fun j g1 g2 g3 => ?_⟩
      by_cases hj : j = i
      · subst hj; rw [ef] at g3; cases g3
      · exact hno j g1 (by omega) g3
    have e : kL K (kU K i) = n := by omega
    refine n_go f_112_42 rfl (pc' := 43) rfl ?_
    refine n_go f_112_43 rfl (pc' := 45) rfl ?_
    refine n_cv (ls' := [_, _]) f_112_45 (by decide) m_156 rfl rfl (by assumption) rfl ?_
    refine c_says hS (by omega) ?_
    show En V _ 112 48 _ [_] _ _
    refine n_ib_eq f_112_48 rfl rfl (fun e2 => ?_) (fun e2 => ?_)
    · have ef : uOk K S n i = false := by unfold uOk wOk; rw [e2, Bool.and_false]
      refine n_iinc (m' := 1) (ls' := [_, _, _, _, _, _, _]) f_112_63 rfl rfl rfl rfl ?_
      refine n_go f_112_66 rfl (pc' := 6) rfl ?_
      refine kk _ _ _ ⟨⟨_, by rw [cnI_f h1 ef]⟩, rfl, rfl, fun j g1 g2 g3 => ?_⟩
      by_cases hj : j = i
      · subst hj; rw [ef] at g3; cases g3
      · exact hno j g1 (by omega) g3
    have et : uOk K S n i = true := by unfold uOk wOk; rw [decide_eq_true e, e2]; rfl
    refine n_go f_112_51 rfl (pc' := 53) rfl ?_
    refine n_go f_112_53 rfl (pc' := 54) rfl ?_
    refine n_ic_ne f_112_54 rfl rfl ⟨by omega, by omega⟩ (fun e3 => ?_) (fun e3 => ?_)
    · refine n_iinc (m' := 1) (ls' := [_, _, _, _, _, _, _]) f_112_60 rfl rfl rfl rfl ?_
      refine n_iinc (m' := 1) (ls' := [_, _, _, _, _, _, _]) f_112_63 rfl rfl rfl rfl ?_
      refine n_go f_112_66 rfl (pc' := 6) rfl ?_
      refine kk _ _ _ ⟨⟨_, by rw [cnI_t h1 et]⟩, rfl, rfl, fun j g1 g2 g3 => ?_⟩
      by_cases hj : j = i
      · subst hj; exact e3
      · exact hno j g1 (by omega) g3
    refine n_go f_112_57 rfl (pc' := 59) rfl ?_
    refine n_ret f_112_59 rfl rfl ?_
    exact K1 i h1 h2 et (by omega)
  · rintro ls st h' ⟨⟨u, rfl⟩, rfl, rfl, hno⟩
    refine n_go f_112_6 rfl (pc' := 8) rfl ?_
    refine n_go f_112_8 rfl (pc' := 9) rfl ?_
    refine n_gf f_112_9 rfl (by assumption) rfl ?_
    refine n_cv (ls' := [_]) f_112_12 (by decide) m_154 rfl rfl (by assumption) rfl ?_
    refine c_wordCount hK ?_
    show En V _ 112 15 _ [_, _] _ _
    refine n_ic_ge f_112_15 rfl rfl ⟨by omega, by omega⟩ (fun _ => ?_) (fun e9 => absurd (by omega) e9)
    refine n_go f_112_69 rfl (pc' := 70) (st' := .int (iI (-1)) :: _) rfl ?_
    refine n_ret f_112_70 rfl rfl ?_
    exact K2 hno
def hsW (K : dK) (S : dS) (n i : Int) : dS := (S.1, S.2.1, S.2.2.1, fun w => if 0 ≤ w ∧ w < i ∧ kL K w = n then false else S.2.2.2 w)
theorem c_hush (hK : Sk h K) (hS : St h a S) (hn : -2147483648 ≤ n ∧ n < 2147483648) (KK : P (.inl none) (wS h a (hsW K S n (kW K)))) : En V (d + 1) 153 0 [some (.ref 10), some (.ref a), some (.int (iI n)), none] [] h P := by
  have kr := hK.2.2.2.2.2.2.2.2.2.2
  have kw := kr.2.2.1
  have sr := hS.2.2.2.2.2.2.1
  have hsr : ∀ i, rS (hsW K S n i) := fun i => sr
  refine n_go f_153_0 rfl (pc' := 1) (st' := .int (iI 0) :: _) rfl ?_
  refine n_go f_153_1 rfl (pc' := 2) (ls' := [_, _, _, _]) rfl ?_
  refine n_for (lo := 0) (hi := kW K) kw.1 (fun i ls st h' => ls = [some (.ref 10), some (.ref a), some (.int (iI n)), some (.int (iI i))] ∧ st = [] ∧ h' = wS h a (hsW K S n i)) ⟨rfl, rfl, ?_⟩ ?_ ?_
  · rw [show hsW K S n 0 = S from by
      unfold hsW
      rw [show (fun w => if 0 ≤ w ∧ w < 0 ∧ kL K w = n then false else S.2.2.2 w) = S.2.2.2 from funext (fun w => if_neg (by omega))]]
    exact (wS_self hS).symm
  · rintro i ls st h' h1 h2 ⟨rfl, rfl, rfl⟩ kk
    have hl := kr.2.2.2.2.2.2.2.1 i
    have hK' : Sk (wS h a (hsW K S n i)) K := hK.wS hS
    have hS' : St (wS h a (hsW K S n i)) a (hsW K S n i) := wS_St hS (hsr i)
    have k10 := hK'.2.2.2.2.2.2.2.2.2.1
    have k1 := hK'.1
    have s0 := hS'.1
    refine n_go f_153_2 rfl (pc' := 3) rfl ?_
    refine n_go f_153_3 rfl (pc' := 4) rfl ?_
    refine n_gf f_153_4 rfl (by assumption) rfl ?_
    refine n_cv (ls' := [_]) f_153_7 (by decide) m_154 rfl rfl (by assumption) rfl ?_
    refine c_wordCount hK' ?_
    show En V _ 153 10 _ [_, _] _ _
    refine n_ic_ge f_153_10 rfl rfl ⟨by omega, by omega⟩ (fun e9 => absurd e9 (by omega)) (fun _ => ?_)
    refine n_go f_153_13 rfl (pc' := 14) rfl ?_
    refine n_gf f_153_14 rfl (by assumption) rfl ?_
    refine n_go f_153_17 rfl (pc' := 18) rfl ?_
    refine n_cv (ls' := [_, _]) f_153_18 (by decide) m_155 rfl rfl (by assumption) rfl ?_
    refine c_leafOf hK' (by omega) ?_
    show En V _ 153 21 _ [_] _ _
    refine n_go f_153_21 rfl (pc' := 22) rfl ?_
    refine n_ic_ne f_153_22 rfl rfl ⟨by omega, by omega⟩ (fun e => ?_) (fun e => ?_)
    · refine n_iinc (m' := 1) (ls' := [_, _, _, _]) f_153_31 rfl rfl rfl rfl ?_
      refine n_go f_153_34 rfl (pc' := 2) rfl ?_
      refine kk _ _ _ ⟨rfl, rfl, ?_⟩
      rw [show hsW K S n (i + 1) = hsW K S n i from by
        unfold hsW
        congr 3
        funext w
        by_cases hw : 0 ≤ w ∧ w < i ∧ kL K w = n
        · rw [if_pos hw, if_pos ⟨hw.1, by omega, hw.2.2⟩]
        · rw [if_neg hw, if_neg (fun q => hw ⟨q.1, by have : ¬ w = i := (fun z => e (by rw [← z]; exact q.2.2)); omega, q.2.2⟩)]]
    have e : kL K i = n := by omega
    refine n_go f_153_25 rfl (pc' := 26) rfl ?_
    refine n_go f_153_26 rfl (pc' := 27) rfl ?_
    refine n_go f_153_27 rfl (pc' := 28) (st' := .int (iI 0) :: _) rfl ?_
    refine n_cv (ls' := [_, _, _]) f_153_28 (by decide) m_114 rfl rfl (by assumption) rfl ?_
    refine c_say (sb := false) hS' (by omega) ?_
    show En V _ 153 31 _ [] _ _
    refine n_iinc (m' := 1) (ls' := [_, _, _, _]) f_153_31 rfl rfl rfl rfl ?_
    refine n_go f_153_34 rfl (pc' := 2) rfl ?_
    refine kk _ _ _ ⟨rfl, rfl, ?_⟩
    rw [wS_w]
    congr 1
    unfold hsW
    congr 3
    funext w
    unfold uz
    by_cases hw : w = i
    · rw [if_pos hw, if_pos ⟨by omega, by omega, by rw [hw]; exact e⟩]
    · rw [if_neg hw]
      show (if 0 ≤ w ∧ w < i ∧ kL K w = n then false else S.2.2.2 w) = (if 0 ≤ w ∧ w < i + 1 ∧ kL K w = n then false else S.2.2.2 w)
      by_cases hw2 : 0 ≤ w ∧ w < i ∧ kL K w = n
      · rw [if_pos hw2, if_pos ⟨hw2.1, by omega, hw2.2.2⟩]
      · rw [if_neg hw2, if_neg (fun q => hw2 ⟨q.1, by omega, q.2.2⟩)]
  · rintro ls st h' ⟨rfl, rfl, rfl⟩
    have hK' : Sk (wS h a (hsW K S n (kW K))) K := hK.wS hS
    have k10 := hK'.2.2.2.2.2.2.2.2.2.1
    have k1 := hK'.1
    refine n_go f_153_2 rfl (pc' := 3) rfl ?_
    refine n_go f_153_3 rfl (pc' := 4) rfl ?_
    refine n_gf f_153_4 rfl (by assumption) rfl ?_
    refine n_cv (ls' := [_]) f_153_7 (by decide) m_154 rfl rfl (by assumption) rfl ?_
    refine c_wordCount hK' ?_
    show En V _ 153 10 _ [_, _] _ _
    refine n_ic_ge f_153_10 rfl rfl ⟨by omega, by omega⟩ (fun _ => ?_) (fun e9 => absurd (by omega) e9)
    refine n_ret f_153_37 rfl rfl ?_
    exact KK
theorem c_hasLooseAim (hS : St h a S) (K1 : ∀ i, 0 ≤ i → i < 40 → 0 ≤ S.2.2.1 i → hs S (S.2.2.1 i) = false → P (.inl (some (.int (iI 1)))) h) (K2 : (∀ i, 0 ≤ i → i < 40 → 0 ≤ S.2.2.1 i → hs S (S.2.2.1 i) = true) → P (.inl (some (.int (iI 0)))) h) : En V (d + 1) 144 0 [some (.ref 10), some (.ref a), none, none] [] h P := by
  have s0 := hS.1
  have sr := hS.2.2.2.2.2.2.1
  refine n_go f_144_0 rfl (pc' := 1) (st' := .int (iI 0) :: _) rfl ?_
  refine n_go f_144_1 rfl (pc' := 2) (ls' := [_, _, _, _]) rfl ?_
  refine n_for (lo := 0) (hi := 40) (by decide) (fun i ls st h' => (∃ u, ls = [some (.ref 10), some (.ref a), some (.int (iI i)), u]) ∧ st = [] ∧ h' = h ∧ ∀ j, 0 ≤ j → j < i → 0 ≤ S.2.2.1 j → hs S (S.2.2.1 j) = true) ⟨⟨_, rfl⟩, rfl, rfl, fun j h1 h2 => absurd h2 (by omega)⟩ ?_ ?_
  · rintro i ls st h' h1 h2 ⟨⟨u, rfl⟩, rfl, rfl, hno⟩ kk
    have r := (sr i).2.2
    have ev : gS (vS S 2) i = S.2.2.1 i := if_pos ⟨h1, h2⟩
    refine n_go f_144_2 rfl (pc' := 3) rfl ?_
    refine n_bip (m := 40) f_144_3 rfl (by decide) ?_
    refine n_ic_ge f_144_5 rfl rfl ⟨by omega, by omega⟩ (fun e9 => absurd e9 (by omega)) (fun _ => ?_)
    refine n_go f_144_8 rfl (pc' := 9) rfl ?_
    refine n_go f_144_9 rfl (pc' := 10) rfl ?_
    refine n_go f_144_10 rfl (pc' := 11) (st' := .int (iI 2) :: _) rfl ?_
    refine n_cv (ls' := [_, _, _]) f_144_11 (by decide) m_109 rfl rfl (by assumption) rfl ?_
    refine c_valueOf hS (by omega) (by omega) ?_
    show En V _ 144 14 _ [_] _ _
    rw [ev]
    refine n_go f_144_14 rfl (pc' := 15) (ls' := [_, _, _, _]) rfl ?_
    refine n_go f_144_15 rfl (pc' := 16) rfl ?_
    refine n_if_lt f_144_16 rfl rfl (by omega) (fun e => ?_) (fun e => ?_)
    · refine n_iinc (m' := 1) (ls' := [_, _, _, _]) f_144_29 rfl rfl rfl rfl ?_
      refine n_go f_144_32 rfl (pc' := 2) rfl ?_
      refine kk _ _ _ ⟨⟨_, rfl⟩, rfl, rfl, fun j g1 g2 g3 => ?_⟩
      by_cases hj : j = i
      · subst hj; omega
      · exact hno j g1 (by omega) g3
    refine n_go f_144_19 rfl (pc' := 20) rfl ?_
    refine n_go f_144_20 rfl (pc' := 21) rfl ?_
    refine n_cv (ls' := [_, _]) f_144_21 (by decide) m_133 rfl rfl (by assumption) rfl ?_
    refine c_has hS (by omega) ?_
    show En V _ 144 24 _ [_] _ _
    refine n_ib_ne f_144_24 rfl rfl (fun e2 => ?_) (fun e2 => ?_)
    · refine n_iinc (m' := 1) (ls' := [_, _, _, _]) f_144_29 rfl rfl rfl rfl ?_
      refine n_go f_144_32 rfl (pc' := 2) rfl ?_
      refine kk _ _ _ ⟨⟨_, rfl⟩, rfl, rfl, fun j g1 g2 g3 => ?_⟩
      by_cases hj : j = i
      · subst hj; exact e2
      · exact hno j g1 (by omega) g3
    refine n_go f_144_27 rfl (pc' := 28) (st' := .int (iI 1) :: _) rfl ?_
    first | refine n_rt0 f_144_28 rfl ?_ | refine n_rt1 f_144_28 rfl ?_ | refine n_rtz f_144_28 rfl ?_
    exact K1 i h1 h2 (by omega) e2
  · rintro ls st h' ⟨⟨u, rfl⟩, rfl, rfl, hno⟩
    refine n_go f_144_2 rfl (pc' := 3) rfl ?_
    refine n_bip (m := 40) f_144_3 rfl (by decide) ?_
    refine n_ic_ge f_144_5 rfl rfl ⟨by omega, by omega⟩ (fun _ => ?_) (fun e9 => absurd (by omega) e9)
    refine n_go f_144_35 rfl (pc' := 36) (st' := .int (iI 0) :: _) rfl ?_
    first | refine n_rt0 f_144_36 rfl ?_ | refine n_rt1 f_144_36 rfl ?_ | refine n_rtz f_144_36 rfl ?_
    exact K2 hno
theorem dpF_r (th : Int → Bool) (f : Int → Int) : ∀ (m : Nat) (acc at' : Int), 0 ≤ acc → -1 ≤ dpF th f m acc at' ∧ dpF th f m acc at' < acc + m + 1 := by
  intro m
  induction m with
  | zero => intro acc at' h; unfold dpF; omega
  | succ m ih =>
    intro acc at' h
    unfold dpF
    split
    · split
      · omega
      · have := ih (acc + 1) (f at') (by omega)
        omega
    · omega
theorem c_isTooDeep (hK : Sk h K) (hS : St h a S) (K1 : ∀ i, 0 ≤ i → i < 40 → 8 < dpF (hs S) (hold K S) 40 0 i → P (.inl (some (.int (iI 1)))) h) (K2 : (∀ i, 0 ≤ i → i < 40 → dpF (hs S) (hold K S) 40 0 i ≤ 8) → P (.inl (some (.int (iI 0)))) h) : En V (d + 3) 146 0 [some (.ref 10), some (.ref a), none] [] h P := by
  have k10 := hK.2.2.2.2.2.2.2.2.2.1
  refine n_go f_146_0 rfl (pc' := 1) (st' := .int (iI 0) :: _) rfl ?_
  refine n_go f_146_1 rfl (pc' := 2) (ls' := [_, _, _]) rfl ?_
  refine n_for (lo := 0) (hi := 40) (by decide) (fun i ls st h' => ls = [some (.ref 10), some (.ref a), some (.int (iI i))] ∧ st = [] ∧ h' = h ∧ ∀ j, 0 ≤ j → j < i → dpF (hs S) (hold K S) 40 0 j ≤ 8) ⟨rfl, rfl, rfl, fun j h1 h2 => absurd h2 (by omega)⟩ ?_ ?_
  · rintro i ls st h' h1 h2 ⟨rfl, rfl, rfl, hno⟩ kk
    have hd := dpF_r (hs S) (hold K S) 40 0 i (by decide)
    refine n_go f_146_2 rfl (pc' := 3) rfl ?_
    refine n_bip (m := 40) f_146_3 rfl (by decide) ?_
    refine n_ic_ge f_146_5 rfl rfl ⟨by omega, by omega⟩ (fun e9 => absurd e9 (by omega)) (fun _ => ?_)
    refine n_go f_146_8 rfl (pc' := 9) rfl ?_
    refine n_go f_146_9 rfl (pc' := 10) rfl ?_
    refine n_go f_146_10 rfl (pc' := 11) rfl ?_
    refine n_cv (ls' := [_, _, _, _, _]) f_146_11 (by decide) m_137 rfl rfl (by assumption) rfl ?_
    refine c_depthIn hK hS (by omega) ?_
    show En V _ 146 14 _ [_] _ _
    refine n_bip (m := 8) f_146_14 rfl (by decide) ?_
    refine n_ic_le f_146_16 rfl rfl ⟨by omega, by omega⟩ (fun e => ?_) (fun e => ?_)
    · refine n_iinc (m' := 1) (ls' := [_, _, _]) f_146_21 rfl rfl rfl rfl ?_
      refine n_go f_146_24 rfl (pc' := 2) rfl ?_
      refine kk _ _ _ ⟨rfl, rfl, rfl, fun j g1 g2 => ?_⟩
      by_cases hj : j = i
      · subst hj; exact e
      · exact hno j g1 (by omega)
    refine n_go f_146_19 rfl (pc' := 20) (st' := .int (iI 1) :: _) rfl ?_
    first | refine n_rt0 f_146_20 rfl ?_ | refine n_rt1 f_146_20 rfl ?_ | refine n_rtz f_146_20 rfl ?_
    exact K1 i h1 h2 (by omega)
  · rintro ls st h' ⟨rfl, rfl, rfl, hno⟩
    refine n_go f_146_2 rfl (pc' := 3) rfl ?_
    refine n_bip (m := 40) f_146_3 rfl (by decide) ?_
    refine n_ic_ge f_146_5 rfl rfl ⟨by omega, by omega⟩ (fun _ => ?_) (fun e9 => absurd (by omega) e9)
    refine n_go f_146_27 rfl (pc' := 28) (st' := .int (iI 0) :: _) rfl ?_
    first | refine n_rt0 f_146_28 rfl ?_ | refine n_rt1 f_146_28 rfl ?_ | refine n_rtz f_146_28 rfl ?_
    exact K2 hno
theorem c_isAdrift (hK : Sk h K) (hS : St h a S) (K1 : ∀ i, 0 ≤ i → i < 40 → hs S i = true → dpF (hs S) (hold K S) 40 0 i = -1 → P (.inl (some (.int (iI 1)))) h) (K2 : (∀ i, 0 ≤ i → i < 40 → hs S i = true → ¬ dpF (hs S) (hold K S) 40 0 i = -1) → P (.inl (some (.int (iI 0)))) h) : En V (d + 3) 88 0 [some (.ref 10), some (.ref a), none] [] h P := by
  have k10 := hK.2.2.2.2.2.2.2.2.2.1
  have s0 := hS.1
  refine n_go f_88_0 rfl (pc' := 1) (st' := .int (iI 0) :: _) rfl ?_
  refine n_go f_88_1 rfl (pc' := 2) (ls' := [_, _, _]) rfl ?_
  refine n_for (lo := 0) (hi := 40) (by decide) (fun i ls st h' => ls = [some (.ref 10), some (.ref a), some (.int (iI i))] ∧ st = [] ∧ h' = h ∧ ∀ j, 0 ≤ j → j < i → hs S j = true → ¬ dpF (hs S) (hold K S) 40 0 j = -1) ⟨rfl, rfl, rfl, fun j h1 h2 => absurd h2 (by omega)⟩ ?_ ?_
  · rintro i ls st h' h1 h2 ⟨rfl, rfl, rfl, hno⟩ kk
    have hd := dpF_r (hs S) (hold K S) 40 0 i (by decide)
    refine n_go f_88_2 rfl (pc' := 3) rfl ?_
    refine n_bip (m := 40) f_88_3 rfl (by decide) ?_
    refine n_ic_ge f_88_5 rfl rfl ⟨by omega, by omega⟩ (fun e9 => absurd e9 (by omega)) (fun _ => ?_)
    refine n_go f_88_8 rfl (pc' := 9) rfl ?_
    refine n_go f_88_9 rfl (pc' := 10) rfl ?_
    refine n_cv (ls' := [_, _]) f_88_10 (by decide) m_133 rfl rfl (by assumption) rfl ?_
    refine c_has hS (by omega) ?_
    show En V _ 88 13 _ [_] _ _
    refine n_ib_eq f_88_13 rfl rfl (fun e0 => ?_) (fun e0 => ?_)
    · refine n_iinc (m' := 1) (ls' := [_, _, _]) f_88_28 rfl rfl rfl rfl ?_
      refine n_go f_88_31 rfl (pc' := 2) rfl ?_
      refine kk _ _ _ ⟨rfl, rfl, rfl, fun j g1 g2 g3 => ?_⟩
      by_cases hj : j = i
      · subst hj; rw [e0] at g3; cases g3
      · exact hno j g1 (by omega) g3
    refine n_go f_88_16 rfl (pc' := 17) rfl ?_
    refine n_go f_88_17 rfl (pc' := 18) rfl ?_
    refine n_go f_88_18 rfl (pc' := 19) rfl ?_
    refine n_cv (ls' := [_, _, _, _, _]) f_88_19 (by decide) m_137 rfl rfl (by assumption) rfl ?_
    refine c_depthIn hK hS (by omega) ?_
    show En V _ 88 22 _ [_] _ _
    refine n_go f_88_22 rfl (pc' := 23) (st' := .int (iI (-1)) :: _) rfl ?_
    refine n_ic_ne f_88_23 rfl rfl ⟨by omega, by omega⟩ (fun e => ?_) (fun e => ?_)
    · refine n_iinc (m' := 1) (ls' := [_, _, _]) f_88_28 rfl rfl rfl rfl ?_
      refine n_go f_88_31 rfl (pc' := 2) rfl ?_
      refine kk _ _ _ ⟨rfl, rfl, rfl, fun j g1 g2 g3 => ?_⟩
      by_cases hj : j = i
      · subst hj; exact e
      · exact hno j g1 (by omega) g3
    refine n_go f_88_26 rfl (pc' := 27) (st' := .int (iI 1) :: _) rfl ?_
    first | refine n_rt0 f_88_27 rfl ?_ | refine n_rt1 f_88_27 rfl ?_ | refine n_rtz f_88_27 rfl ?_
    exact K1 i h1 h2 e0 (by omega)
  · rintro ls st h' ⟨rfl, rfl, rfl, hno⟩
    refine n_go f_88_2 rfl (pc' := 3) rfl ?_
    refine n_bip (m := 40) f_88_3 rfl (by decide) ?_
    refine n_ic_ge f_88_5 rfl rfl ⟨by omega, by omega⟩ (fun _ => ?_) (fun e9 => absurd (by omega) e9)
    refine n_go f_88_34 rfl (pc' := 35) (st' := .int (iI 0) :: _) rfl ?_
    first | refine n_rt0 f_88_35 rfl ?_ | refine n_rt1 f_88_35 rfl ?_ | refine n_rtz f_88_35 rfl ?_
    exact K2 hno
end CQ
