/-! What is kept of nodes, spots and words; Stock's methods. -/
/-- nodes, spots, words; kinds; holders, owners, order of spots; leaves, senses, writers, order of words -/
abbrev dK : Type := Int × Int × Int × (Int → Int) × (Int → Int) × (Int → Int) × (Int → Int) × (Int → Int) × (Int → Int) × (Int → Int) × (Int → Int)
abbrev kN (K : dK) : Int := K.1
abbrev kS (K : dK) : Int := K.2.1
abbrev kW (K : dK) : Int := K.2.2.1
abbrev kK (K : dK) : Int → Int := K.2.2.2.1
abbrev kH (K : dK) : Int → Int := K.2.2.2.2.1
abbrev kO (K : dK) : Int → Int := K.2.2.2.2.2.1
abbrev kQ (K : dK) : Int → Int := K.2.2.2.2.2.2.1
abbrev kL (K : dK) : Int → Int := K.2.2.2.2.2.2.2.1
abbrev kE (K : dK) : Int → Int := K.2.2.2.2.2.2.2.2.1
abbrev kR (K : dK) : Int → Int := K.2.2.2.2.2.2.2.2.2.1
abbrev kU (K : dK) : Int → Int := K.2.2.2.2.2.2.2.2.2.2
def rK (K : dK) : Prop := (0 ≤ kN K ∧ kN K ≤ 40) ∧ (0 ≤ kS K ∧ kS K ≤ 120) ∧ (0 ≤ kW K ∧ kW K ≤ 120) ∧ (∀ i, 0 ≤ kK K i ∧ kK K i ≤ 3) ∧ (∀ i, 0 ≤ kH K i ∧ kH K i < 40) ∧ (∀ i, 0 ≤ kO K i ∧ kO K i < 40) ∧ (∀ i, 0 ≤ kQ K i ∧ kQ K i < 120) ∧ (∀ i, 0 ≤ kL K i ∧ kL K i < 40) ∧ (∀ i, 0 ≤ kE K i ∧ kE K i < 100) ∧ (∀ i, 0 ≤ kR K i ∧ kR K i < 5) ∧ (∀ i, 0 ≤ kU K i ∧ kU K i < 120)
def Sk (h : ev_H) (K : dK) : Prop := h.1[1]? = some (.inr (1, [.int (iI (kN K)), .int (iI (kS K)), .int (iI (kW K)), .ref 2, .ref 3, .ref 4, .ref 5, .ref 6, .ref 7, .ref 8, .ref 9])) ∧ h.1[2]? = some (aI 40 (kK K)) ∧ h.1[3]? = some (aI 120 (kH K)) ∧ h.1[4]? = some (aI 120 (kO K)) ∧ h.1[5]? = some (aI 120 (kQ K)) ∧ h.1[6]? = some (aI 120 (kL K)) ∧ h.1[7]? = some (aI 120 (kE K)) ∧ h.1[8]? = some (aI 120 (kR K)) ∧ h.1[9]? = some (aI 120 (kU K)) ∧ h.1[10]? = some (.inr (2, [.ref 1, .ref 11])) ∧ rK K
theorem Sk.of {h h' : ev_H} {K : dK} (hK : Sk h K) (he : ∀ j, 1 ≤ j → j ≤ 10 → h'.1[j]? = h.1[j]?) : Sk h' K := by
  obtain ⟨k1, k2, k3, k4, k5, k6, k7, k8, k9, k10, kr⟩ := hK
  exact ⟨(he 1 (by decide) (by decide)).trans k1, (he 2 (by decide) (by decide)).trans k2, (he 3 (by decide) (by decide)).trans k3, (he 4 (by decide) (by decide)).trans k4, (he 5 (by decide) (by decide)).trans k5, (he 6 (by decide) (by decide)).trans k6, (he 7 (by decide) (by decide)).trans k7, (he 8 (by decide) (by decide)).trans k8, (he 9 (by decide) (by decide)).trans k9, (he 10 (by decide) (by decide)).trans k10, kr⟩
theorem St.of {h h' : ev_H} {a : Nat} {S : dS} (hS : St h a S) (he : ∀ j, a ≤ j → j ≤ a + 5 → h'.1[j]? = h.1[j]?) : St h' a S := by
  obtain ⟨s0, s1, s2, s3, s4, s5, sr, sx⟩ := hS
  exact ⟨(he _ (by omega) (by omega)).trans s0, (he _ (by omega) (by omega)).trans s1, (he _ (by omega) (by omega)).trans s2, (he _ (by omega) (by omega)).trans s3, (he _ (by omega) (by omega)).trans s4, (he _ (by omega) (by omega)).trans s5, sr, sx⟩
theorem Sk.wS {h : ev_H} {K : dK} {a : Nat} {S T : dS} (hK : Sk h K) (hS : St h a T) : Sk (wS h a S) K := hK.of (fun _ _ _ => wS_out (by have := hS.2.2.2.2.2.2.2; omega))
theorem Sk.set {h : ev_H} {K : dK} {a : Nat} {c : ev_C} (hK : Sk h K) (ha : 10 < a) : Sk (ev_set h a c) K := hK.of (fun _ _ _ => g_ne (by omega))
theorem St.set {h : ev_H} {a j : Nat} {S : dS} {c : ev_C} (hS : St h a S) (hj : j < a ∨ a + 5 < j) : St (ev_set h j c) a S := hS.of (fun _ _ _ => g_ne (by omega))
def sph (K : dK) (s : Int) : Int := if 0 ≤ s ∧ s < 120 then kH K s else -1
def sow (K : dK) (s : Int) : Int := if 0 ≤ s ∧ s < 120 then kO K s else -1
def hold (K : dK) (S : dS) (n : Int) : Int := sph K (gS S.1 n)
theorem sph_r {K : dK} (hr : rK K) (s : Int) : -1 ≤ sph K s ∧ sph K s < 40 := by
  have := hr.2.2.2.2.1 s
  unfold sph
  split <;> omega
theorem hold_r {K : dK} (hr : rK K) (S : dS) (n : Int) : -1 ≤ hold K S n ∧ hold K S n < 40 := sph_r hr _
section CK
variable {V : ev_V} {d : Nat} {h : ev_H} {P : ev_O → ev_H → Prop} {a b : Nat} {S T : dS} {K : dK} {n k v s : Int}
theorem c_nodeCount (hK : Sk h K) (KK : P (.inl (some (.int (iI (kN K))))) h) : En V d 168 0 [some (.ref 1)] [] h P := by
  obtain ⟨k1, k2, k3, k4, k5, k6, k7, k8, k9, k10, kr⟩ := hK
  refine n_go f_168_0 rfl (pc' := 1) rfl ?_
  refine n_gf f_168_1 rfl (by assumption) rfl ?_
  refine n_ret f_168_4 rfl rfl ?_
  exact KK
theorem c_spotCount (hK : Sk h K) (KK : P (.inl (some (.int (iI (kS K))))) h) : En V d 179 0 [some (.ref 1)] [] h P := by
  obtain ⟨k1, k2, k3, k4, k5, k6, k7, k8, k9, k10, kr⟩ := hK
  refine n_go f_179_0 rfl (pc' := 1) rfl ?_
  refine n_gf f_179_1 rfl (by assumption) rfl ?_
  refine n_ret f_179_4 rfl rfl ?_
  exact KK
theorem c_wordCount (hK : Sk h K) (KK : P (.inl (some (.int (iI (kW K))))) h) : En V d 154 0 [some (.ref 1)] [] h P := by
  obtain ⟨k1, k2, k3, k4, k5, k6, k7, k8, k9, k10, kr⟩ := hK
  refine n_go f_154_0 rfl (pc' := 1) rfl ?_
  refine n_gf f_154_1 rfl (by assumption) rfl ?_
  refine n_ret f_154_4 rfl rfl ?_
  exact KK
theorem c_kindOf (hK : Sk h K) (hn : 0 ≤ n ∧ n < 40) (KK : P (.inl (some (.int (iI (kK K n))))) h) : En V d 108 0 [some (.ref 1), some (.int (iI n))] [] h P := by
  obtain ⟨k1, k2, k3, k4, k5, k6, k7, k8, k9, k10, kr⟩ := hK
  refine n_go f_108_0 rfl (pc' := 1) rfl ?_
  refine n_if_lt f_108_1 rfl rfl (by omega) (fun e9 => absurd e9 (by omega)) (fun _ => ?_)
  refine n_go f_108_4 rfl (pc' := 5) rfl ?_
  refine n_bip (m := 40) f_108_5 rfl (by decide) ?_
  refine n_ic_ge f_108_7 rfl rfl ⟨by omega, by omega⟩ (fun e9 => absurd e9 (by omega)) (fun _ => ?_)
  refine n_go f_108_10 rfl (pc' := 11) rfl ?_
  refine n_gf f_108_11 rfl (by assumption) rfl ?_
  refine n_go f_108_14 rfl (pc' := 15) rfl ?_
  refine n_ial f_108_15 rfl (by assumption) (by unfold ev_ext; omega) (by omega) ?_
  refine n_go f_108_16 rfl (pc' := 20) rfl ?_
  refine n_ret f_108_20 rfl rfl ?_
  exact KK
theorem c_spotHolder (hK : Sk h K) (hn : -2147483648 ≤ s ∧ s < 2147483648) (KK : P (.inl (some (.int (iI (sph K s))))) h) : En V d 159 0 [some (.ref 1), some (.int (iI s))] [] h P := by
  obtain ⟨k1, k2, k3, k4, k5, k6, k7, k8, k9, k10, kr⟩ := hK
  unfold sph at KK
  refine n_go f_159_0 rfl (pc' := 1) rfl ?_
  refine n_if_lt f_159_1 rfl rfl (by omega) (fun h1 => ?_) (fun h1 => ?_)
  · rw [if_neg (by omega)] at KK
    refine n_go f_159_19 rfl (pc' := 20) (st' := .int (iI (-1)) :: _) rfl ?_
    refine n_ret f_159_20 rfl rfl ?_
    exact KK
  refine n_go f_159_4 rfl (pc' := 5) rfl ?_
  refine n_bip (m := 120) f_159_5 rfl (by decide) ?_
  refine n_ic_ge f_159_7 rfl rfl ⟨by omega, by omega⟩ (fun h2 => ?_) (fun h2 => ?_)
  · rw [if_neg (by omega)] at KK
    refine n_go f_159_19 rfl (pc' := 20) (st' := .int (iI (-1)) :: _) rfl ?_
    refine n_ret f_159_20 rfl rfl ?_
    exact KK
  rw [if_pos (by omega)] at KK
  refine n_go f_159_10 rfl (pc' := 11) rfl ?_
  refine n_gf f_159_11 rfl (by assumption) rfl ?_
  refine n_go f_159_14 rfl (pc' := 15) rfl ?_
  refine n_ial f_159_15 rfl (by assumption) (by unfold ev_ext; omega) (by omega) ?_
  refine n_go f_159_16 rfl (pc' := 20) rfl ?_
  refine n_ret f_159_20 rfl rfl ?_
  exact KK
theorem c_ownerOf (hK : Sk h K) (hn : -2147483648 ≤ s ∧ s < 2147483648) (KK : P (.inl (some (.int (iI (sow K s))))) h) : En V d 181 0 [some (.ref 1), some (.int (iI s))] [] h P := by
  obtain ⟨k1, k2, k3, k4, k5, k6, k7, k8, k9, k10, kr⟩ := hK
  unfold sow at KK
  refine n_go f_181_0 rfl (pc' := 1) rfl ?_
  refine n_if_lt f_181_1 rfl rfl (by omega) (fun h1 => ?_) (fun h1 => ?_)
  · rw [if_neg (by omega)] at KK
    refine n_go f_181_19 rfl (pc' := 20) (st' := .int (iI (-1)) :: _) rfl ?_
    refine n_ret f_181_20 rfl rfl ?_
    exact KK
  refine n_go f_181_4 rfl (pc' := 5) rfl ?_
  refine n_bip (m := 120) f_181_5 rfl (by decide) ?_
  refine n_ic_ge f_181_7 rfl rfl ⟨by omega, by omega⟩ (fun h2 => ?_) (fun h2 => ?_)
  · rw [if_neg (by omega)] at KK
    refine n_go f_181_19 rfl (pc' := 20) (st' := .int (iI (-1)) :: _) rfl ?_
    refine n_ret f_181_20 rfl rfl ?_
    exact KK
  rw [if_pos (by omega)] at KK
  refine n_go f_181_10 rfl (pc' := 11) rfl ?_
  refine n_gf f_181_11 rfl (by assumption) rfl ?_
  refine n_go f_181_14 rfl (pc' := 15) rfl ?_
  refine n_ial f_181_15 rfl (by assumption) (by unfold ev_ext; omega) (by omega) ?_
  refine n_go f_181_16 rfl (pc' := 20) rfl ?_
  refine n_ret f_181_20 rfl rfl ?_
  exact KK
theorem c_spotInOrder (hK : Sk h K) (hn : 0 ≤ n ∧ n < kS K) (KK : P (.inl (some (.int (iI (kQ K n))))) h) : En V d 180 0 [some (.ref 1), some (.int (iI n))] [] h P := by
  obtain ⟨k1, k2, k3, k4, k5, k6, k7, k8, k9, k10, kr⟩ := hK
  have kr1 := kr.2.1
  refine n_go f_180_0 rfl (pc' := 1) rfl ?_
  refine n_if_lt f_180_1 rfl rfl (by omega) (fun e9 => absurd e9 (by omega)) (fun _ => ?_)
  refine n_go f_180_4 rfl (pc' := 5) rfl ?_
  refine n_go f_180_5 rfl (pc' := 6) rfl ?_
  refine n_gf f_180_6 rfl (by assumption) rfl ?_
  refine n_ic_ge f_180_9 rfl rfl ⟨by omega, by omega⟩ (fun e9 => absurd e9 (by omega)) (fun _ => ?_)
  refine n_go f_180_12 rfl (pc' := 13) rfl ?_
  refine n_bip (m := 120) f_180_13 rfl (by decide) ?_
  refine n_ic_ge f_180_15 rfl rfl ⟨by omega, by omega⟩ (fun e9 => absurd e9 (by omega)) (fun _ => ?_)
  refine n_go f_180_18 rfl (pc' := 19) rfl ?_
  refine n_gf f_180_19 rfl (by assumption) rfl ?_
  refine n_go f_180_22 rfl (pc' := 23) rfl ?_
  refine n_ial f_180_23 rfl (by assumption) (by unfold ev_ext; omega) (by omega) ?_
  refine n_go f_180_24 rfl (pc' := 28) rfl ?_
  refine n_ret f_180_28 rfl rfl ?_
  exact KK
theorem c_leafOf (hK : Sk h K) (hn : 0 ≤ n ∧ n < 120) (KK : P (.inl (some (.int (iI (kL K n))))) h) : En V d 155 0 [some (.ref 1), some (.int (iI n))] [] h P := by
  obtain ⟨k1, k2, k3, k4, k5, k6, k7, k8, k9, k10, kr⟩ := hK
  refine n_go f_155_0 rfl (pc' := 1) rfl ?_
  refine n_if_lt f_155_1 rfl rfl (by omega) (fun e9 => absurd e9 (by omega)) (fun _ => ?_)
  refine n_go f_155_4 rfl (pc' := 5) rfl ?_
  refine n_bip (m := 120) f_155_5 rfl (by decide) ?_
  refine n_ic_ge f_155_7 rfl rfl ⟨by omega, by omega⟩ (fun e9 => absurd e9 (by omega)) (fun _ => ?_)
  refine n_go f_155_10 rfl (pc' := 11) rfl ?_
  refine n_gf f_155_11 rfl (by assumption) rfl ?_
  refine n_go f_155_14 rfl (pc' := 15) rfl ?_
  refine n_ial f_155_15 rfl (by assumption) (by unfold ev_ext; omega) (by omega) ?_
  refine n_go f_155_16 rfl (pc' := 20) rfl ?_
  refine n_ret f_155_20 rfl rfl ?_
  exact KK
theorem c_senseOf (hK : Sk h K) (hn : 0 ≤ n ∧ n < 120) (KK : P (.inl (some (.int (iI (kE K n))))) h) : En V d 116 0 [some (.ref 1), some (.int (iI n))] [] h P := by
  obtain ⟨k1, k2, k3, k4, k5, k6, k7, k8, k9, k10, kr⟩ := hK
  refine n_go f_116_0 rfl (pc' := 1) rfl ?_
  refine n_if_lt f_116_1 rfl rfl (by omega) (fun e9 => absurd e9 (by omega)) (fun _ => ?_)
  refine n_go f_116_4 rfl (pc' := 5) rfl ?_
  refine n_bip (m := 120) f_116_5 rfl (by decide) ?_
  refine n_ic_ge f_116_7 rfl rfl ⟨by omega, by omega⟩ (fun e9 => absurd e9 (by omega)) (fun _ => ?_)
  refine n_go f_116_10 rfl (pc' := 11) rfl ?_
  refine n_gf f_116_11 rfl (by assumption) rfl ?_
  refine n_go f_116_14 rfl (pc' := 15) rfl ?_
  refine n_ial f_116_15 rfl (by assumption) (by unfold ev_ext; omega) (by omega) ?_
  refine n_go f_116_16 rfl (pc' := 20) rfl ?_
  refine n_ret f_116_20 rfl rfl ?_
  exact KK
theorem c_writerOf (hK : Sk h K) (hn : 0 ≤ n ∧ n < 120) (KK : P (.inl (some (.int (iI (kR K n))))) h) : En V d 135 0 [some (.ref 1), some (.int (iI n))] [] h P := by
  obtain ⟨k1, k2, k3, k4, k5, k6, k7, k8, k9, k10, kr⟩ := hK
  refine n_go f_135_0 rfl (pc' := 1) rfl ?_
  refine n_if_lt f_135_1 rfl rfl (by omega) (fun e9 => absurd e9 (by omega)) (fun _ => ?_)
  refine n_go f_135_4 rfl (pc' := 5) rfl ?_
  refine n_bip (m := 120) f_135_5 rfl (by decide) ?_
  refine n_ic_ge f_135_7 rfl rfl ⟨by omega, by omega⟩ (fun e9 => absurd e9 (by omega)) (fun _ => ?_)
  refine n_go f_135_10 rfl (pc' := 11) rfl ?_
  refine n_gf f_135_11 rfl (by assumption) rfl ?_
  refine n_go f_135_14 rfl (pc' := 15) rfl ?_
  refine n_ial f_135_15 rfl (by assumption) (by unfold ev_ext; omega) (by omega) ?_
  refine n_go f_135_16 rfl (pc' := 20) rfl ?_
  refine n_ret f_135_20 rfl rfl ?_
  exact KK
theorem c_wordInOrder (hK : Sk h K) (hn : 0 ≤ n ∧ n < kW K) (KK : P (.inl (some (.int (iI (kU K n))))) h) : En V d 157 0 [some (.ref 1), some (.int (iI n))] [] h P := by
  obtain ⟨k1, k2, k3, k4, k5, k6, k7, k8, k9, k10, kr⟩ := hK
  have kr1 := kr.2.2.1
  refine n_go f_157_0 rfl (pc' := 1) rfl ?_
  refine n_if_lt f_157_1 rfl rfl (by omega) (fun e9 => absurd e9 (by omega)) (fun _ => ?_)
  refine n_go f_157_4 rfl (pc' := 5) rfl ?_
  refine n_go f_157_5 rfl (pc' := 6) rfl ?_
  refine n_gf f_157_6 rfl (by assumption) rfl ?_
  refine n_ic_ge f_157_9 rfl rfl ⟨by omega, by omega⟩ (fun e9 => absurd e9 (by omega)) (fun _ => ?_)
  refine n_go f_157_12 rfl (pc' := 13) rfl ?_
  refine n_bip (m := 120) f_157_13 rfl (by decide) ?_
  refine n_ic_ge f_157_15 rfl rfl ⟨by omega, by omega⟩ (fun e9 => absurd e9 (by omega)) (fun _ => ?_)
  refine n_go f_157_18 rfl (pc' := 19) rfl ?_
  refine n_gf f_157_19 rfl (by assumption) rfl ?_
  refine n_go f_157_22 rfl (pc' := 23) rfl ?_
  refine n_ial f_157_23 rfl (by assumption) (by unfold ev_ext; omega) (by omega) ?_
  refine n_go f_157_24 rfl (pc' := 28) rfl ?_
  refine n_ret f_157_28 rfl rfl ?_
  exact KK
theorem c_nodesAreFull (hK : Sk h K) (hn : kN K < 40) (KK : P (.inl (some (.int (iI 0)))) h) : En V d 97 0 [some (.ref 1)] [] h P := by
  obtain ⟨k1, k2, k3, k4, k5, k6, k7, k8, k9, k10, kr⟩ := hK
  have kr1 := kr.1
  refine n_go f_97_0 rfl (pc' := 1) rfl ?_
  refine n_gf f_97_1 rfl (by assumption) rfl ?_
  refine n_bip (m := 40) f_97_4 rfl (by decide) ?_
  refine n_ic_lt f_97_6 rfl rfl ⟨by omega, by omega⟩ (fun _ => ?_) (fun e9 => absurd (by omega) e9)
  refine n_go f_97_13 rfl (pc' := 14) (st' := .int (iI 0) :: _) rfl ?_
  first | refine n_rt0 f_97_14 rfl ?_ | refine n_rt1 f_97_14 rfl ?_ | refine n_rtz f_97_14 rfl ?_
  exact KK
theorem c_spotsAreFull (hK : Sk h K) (hn : kS K < 120) (KK : P (.inl (some (.int (iI 0)))) h) : En V d 148 0 [some (.ref 1)] [] h P := by
  obtain ⟨k1, k2, k3, k4, k5, k6, k7, k8, k9, k10, kr⟩ := hK
  have kr1 := kr.2.1
  refine n_go f_148_0 rfl (pc' := 1) rfl ?_
  refine n_gf f_148_1 rfl (by assumption) rfl ?_
  refine n_bip (m := 120) f_148_4 rfl (by decide) ?_
  refine n_ic_lt f_148_6 rfl rfl ⟨by omega, by omega⟩ (fun _ => ?_) (fun e9 => absurd (by omega) e9)
  refine n_go f_148_13 rfl (pc' := 14) (st' := .int (iI 0) :: _) rfl ?_
  first | refine n_rt0 f_148_14 rfl ?_ | refine n_rt1 f_148_14 rfl ?_ | refine n_rtz f_148_14 rfl ?_
  exact KK
theorem c_wordsAreFull (hK : Sk h K) (hn : kW K < 120) (KK : P (.inl (some (.int (iI 0)))) h) : En V d 111 0 [some (.ref 1)] [] h P := by
  obtain ⟨k1, k2, k3, k4, k5, k6, k7, k8, k9, k10, kr⟩ := hK
  have kr1 := kr.2.2.1
  refine n_go f_111_0 rfl (pc' := 1) rfl ?_
  refine n_gf f_111_1 rfl (by assumption) rfl ?_
  refine n_bip (m := 120) f_111_4 rfl (by decide) ?_
  refine n_ic_lt f_111_6 rfl rfl ⟨by omega, by omega⟩ (fun _ => ?_) (fun e9 => absurd (by omega) e9)
  refine n_go f_111_13 rfl (pc' := 14) (st' := .int (iI 0) :: _) rfl ?_
  first | refine n_rt0 f_111_14 rfl ?_ | refine n_rt1 f_111_14 rfl ?_ | refine n_rtz f_111_14 rfl ?_
  exact KK
theorem c_holderIn (hK : Sk h K) (hS : St h a S) (hn : -2147483648 ≤ n ∧ n < 2147483648) (KK : P (.inl (some (.int (iI (hold K S n))))) h) : En V (d + 1) 122 0 [some (.ref 10), some (.ref a), some (.int (iI n))] [] h P := by
  have hK0 := hK
  have hS0 := hS
  obtain ⟨k1, k2, k3, k4, k5, k6, k7, k8, k9, k10, kr⟩ := hK
  obtain ⟨s0, s1, s2, s3, s4, s5, sr, sx⟩ := hS
  have g1 := gS_r (fun i => (sr i).1) n
  refine n_go f_122_0 rfl (pc' := 1) rfl ?_
  refine n_gf f_122_1 rfl (by assumption) rfl ?_
  refine n_go f_122_4 rfl (pc' := 5) rfl ?_
  refine n_go f_122_5 rfl (pc' := 6) rfl ?_
  refine n_cv (ls' := [_, _]) f_122_6 (by decide) m_147 rfl rfl (by assumption) rfl ?_
  refine c_spotOf hS0 hn ?_
  show En V _ 122 9 _ [_, _] _ _
  refine n_cv (ls' := [_, _]) f_122_9 (by decide) m_159 rfl rfl (by assumption) rfl ?_
  refine c_spotHolder hK0 (by omega) ?_
  show En V _ 122 12 _ [_] _ _
  refine n_ret f_122_12 rfl rfl ?_
  exact KK
end CK
