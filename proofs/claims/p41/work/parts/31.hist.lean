/-! Versions: their states, parents, and those that are older, as bits of longs. -/
def l64 (n : Nat) : Int64 := Int64.ofNat n
theorem l_and (m n : Fin 64) : l64 m.val &&& l64 n.val = l64 (m.val &&& n.val) := by
  revert m n
  decide +kernel
theorem l_or (m n : Fin 64) : l64 m.val ||| l64 n.val = l64 (m.val ||| n.val) := by
  revert m n
  decide +kernel
theorem l_an (m n : Fin 64) : l64 m.val &&& (l64 n.val ^^^ Int64.ofNat 18446744073709551615) = l64 (m.val ^^^ (m.val &&& n.val)) := by
  revert m n
  decide +kernel
theorem l_sh (t : Fin 40) : l64 1 <<< ((iI (t.val : Int)).toInt64 &&& 63) = l64 (2 ^ t.val) := by
  revert t
  decide +kernel
theorem l_bit (m : Fin 64) (t : Fin 40) : lg_cmp ((l64 m.val >>> ((iI (t.val : Int)).toInt64 &&& 63)) &&& l64 1) (l64 0) = iI (b2 (m.val.testBit t.val)) := by
  revert m t
  decide +kernel
abbrev dH : Type := Int × (Int → Nat) × (Int → dS) × (Int → Int) × (Int → Int) × (Int → Nat)
abbrev hN (H : dH) : Int := H.1
abbrev hA (H : dH) : Int → Nat := H.2.1
abbrev hV (H : dH) : Int → dS := H.2.2.1
abbrev hF (H : dH) : Int → Int := H.2.2.2.1
abbrev hG (H : dH) : Int → Int := H.2.2.2.2.1
abbrev hO (H : dH) : Int → Nat := H.2.2.2.2.2
def rH (H : dH) : Prop := (1 ≤ hN H ∧ hN H ≤ 6) ∧ (∀ v, hO H v < 64) ∧ (∀ v, -1 ≤ hF H v ∧ hF H v < 6) ∧ (∀ v, -1 ≤ hG H v ∧ hG H v < 6) ∧ ∀ v, 0 ≤ v → v < hN H → hA H v = 75 ∨ 92 ≤ hA H v
def Hi (h : ev_H) (H : dH) : Prop := h.1[12]? = some (.inr (3, [.ref 13, .ref 14, .ref 15, .ref 16, .ref 17])) ∧ (∃ mc, h.1[13]? = some (.inr (4, [.ref 81, .int (iI (hN H)), .int (iI mc)]))) ∧ (∃ f, h.1[81]? = some (aR 4 10 f) ∧ ∀ v, 0 ≤ v → v < hN H → f v = some (hA H v)) ∧ h.1[14]? = some (aI 40 (hF H)) ∧ h.1[15]? = some (aI 40 (hG H)) ∧ h.1[16]? = some (aL 40 (fun v => l64 (hO H v))) ∧ (∀ v, 0 ≤ v → v < hN H → St h (hA H v) (hV H v)) ∧ rH H
/-- the line of a version: itself and all that are older -/
def lin (H : dH) (v : Int) : Nat := if 0 ≤ v ∧ v < hN H then hO H v ||| 2 ^ v.toNat else 0
def lcF (H : dH) (c : Nat) (i : Nat) : Nat := match i with
  | 0 => c
  | i + 1 => if c.testBit i = true then lcF H c i ^^^ (lcF H c i &&& hO H i) else lcF H c i
theorem lcF_t {H : dH} {c i : Nat} (e : c.testBit i = true) : lcF H c (i + 1) = lcF H c i ^^^ (lcF H c i &&& hO H i) := by
  show (if c.testBit i = true then _ else _) = _
  rw [if_pos e]
theorem lcF_f {H : dH} {c i : Nat} (e : c.testBit i = false) : lcF H c (i + 1) = lcF H c i := by
  show (if c.testBit i = true then _ else _) = _
  rw [e, if_neg (by decide)]
theorem n6 {n : Nat} (h : n < 6) : 2 ^ n < 64 := by
  rcases (by omega : n = 0 ∨ n = 1 ∨ n = 2 ∨ n = 3 ∨ n = 4 ∨ n = 5) with rfl | rfl | rfl | rfl | rfl | rfl <;> decide
theorem or64 {m n : Nat} (hm : m < 64) (hn : n < 64) : m ||| n < 64 := Nat.or_lt_two_pow (n := 6) hm hn
theorem and64 {m n : Nat} (hm : m < 64) : m &&& n < 64 := Nat.lt_of_le_of_lt Nat.and_le_left hm
theorem xor64 {m n : Nat} (hm : m < 64) (hn : n < 64) : m ^^^ n < 64 := Nat.xor_lt_two_pow (n := 6) hm hn
theorem lin_r {H : dH} (hr : rH H) (v : Int) : lin H v < 64 := by
  unfold lin
  split
  · exact or64 (hr.2.1 v) (n6 (by have := hr.1; omega))
  · decide
theorem lcF_r {H : dH} (hr : rH H) {c : Nat} (hc : c < 64) (i : Nat) : lcF H c i < 64 := by
  induction i with
  | zero => exact hc
  | succ i ih =>
    unfold lcF
    split
    · exact xor64 ih (and64 ih)
    · exact ih
section CH
variable {V : ev_V} {d : Nat} {h : ev_H} {P : ev_O → ev_H → Prop} {H : dH} {v o k : Int}
theorem c_size (hH : Hi h H) (KK : P (.inl (some (.int (iI (hN H))))) h) : En V d 66 0 [some (.ref 13)] [] h P := by
  obtain ⟨h1, ⟨mc, h2⟩, ⟨f, h3, h3'⟩, h4, h5, h6, h7, hr⟩ := hH
  refine n_go f_66_0 rfl (pc' := 1) rfl ?_
  refine n_gf f_66_1 rfl (by assumption) rfl ?_
  refine n_ret f_66_4 rfl rfl ?_
  exact KK
theorem c_hcount (hH : Hi h H) (KK : P (.inl (some (.int (iI (hN H))))) h) : En V (d + 1) 69 0 [some (.ref 12)] [] h P := by
  have hH0 := hH
  obtain ⟨h1, ⟨mc, h2⟩, ⟨f, h3, h3'⟩, h4, h5, h6, h7, hr⟩ := hH
  refine n_go f_69_0 rfl (pc' := 1) rfl ?_
  refine n_gf f_69_1 rfl (by assumption) rfl ?_
  refine n_cv (ls' := [_]) f_69_4 (by decide) m_66 rfl rfl (by assumption) rfl ?_
  refine c_size hH0 ?_
  show En V _ 69 7 _ [_] _ _
  refine n_ret f_69_7 rfl rfl ?_
  exact KK
theorem c_isFull (hH : Hi h H) (KK : P (.inl (some (.int (iI 0)))) h) : En V (d + 1) 118 0 [some (.ref 12)] [] h P := by
  have hH0 := hH
  obtain ⟨h1, ⟨mc, h2⟩, ⟨f, h3, h3'⟩, h4, h5, h6, h7, hr⟩ := hH
  have r1 := hr.1
  refine n_go f_118_0 rfl (pc' := 1) rfl ?_
  refine n_gf f_118_1 rfl (by assumption) rfl ?_
  refine n_cv (ls' := [_]) f_118_4 (by decide) m_66 rfl rfl (by assumption) rfl ?_
  refine c_size hH0 ?_
  show En V _ 118 7 _ [_] _ _
  refine n_bip (m := 40) f_118_7 rfl (by decide) ?_
  refine n_ic_lt f_118_9 rfl rfl ⟨by omega, by omega⟩ (fun _ => ?_) (fun e9 => absurd (by omega) e9)
  refine n_go f_118_16 rfl (pc' := 17) (st' := .int (iI 0) :: _) rfl ?_
  first | refine n_rt0 f_118_17 rfl ?_ | refine n_rt1 f_118_17 rfl ?_ | refine n_rtz f_118_17 rfl ?_
  exact KK
theorem c_isNumber (hH : Hi h H) (hv : -2147483648 ≤ v ∧ v < 2147483648) (KK : P (.inl (some (.int (iI (b2 (decide (0 ≤ v ∧ v < hN H))))))) h) : En V (d + 1) 126 0 [some (.ref 12), some (.int (iI v))] [] h P := by
  have hH0 := hH
  obtain ⟨h1, ⟨mc, h2⟩, ⟨f, h3, h3'⟩, h4, h5, h6, h7, hr⟩ := hH
  have r1 := hr.1
  refine n_go f_126_0 rfl (pc' := 1) rfl ?_
  refine n_if_lt f_126_1 rfl rfl (by omega) (fun e1 => ?_) (fun e1 => ?_)
  · rw [decide_eq_false (by omega)] at KK
    refine n_go f_126_25 rfl (pc' := 26) (st' := .int (iI 0) :: _) rfl ?_
    first | refine n_rt0 f_126_26 rfl ?_ | refine n_rt1 f_126_26 rfl ?_ | refine n_rtz f_126_26 rfl ?_
    exact KK
  refine n_go f_126_4 rfl (pc' := 5) rfl ?_
  refine n_go f_126_5 rfl (pc' := 6) rfl ?_
  refine n_gf f_126_6 rfl (by assumption) rfl ?_
  refine n_cv (ls' := [_]) f_126_9 (by decide) m_66 rfl rfl (by assumption) rfl ?_
  refine c_size hH0 ?_
  show En V _ 126 12 _ [_, _] _ _
  refine n_ic_ge f_126_12 rfl rfl ⟨by omega, by omega⟩ (fun e2 => ?_) (fun e2 => ?_)
  · rw [decide_eq_false (by omega)] at KK
    refine n_go f_126_25 rfl (pc' := 26) (st' := .int (iI 0) :: _) rfl ?_
    first | refine n_rt0 f_126_26 rfl ?_ | refine n_rt1 f_126_26 rfl ?_ | refine n_rtz f_126_26 rfl ?_
    exact KK
  rw [decide_eq_true (by omega)] at KK
  refine n_go f_126_15 rfl (pc' := 16) rfl ?_
  refine n_bip (m := 40) f_126_16 rfl (by decide) ?_
  refine n_ic_ge f_126_18 rfl rfl ⟨by omega, by omega⟩ (fun e9 => absurd e9 (by omega)) (fun _ => ?_)
  refine n_go f_126_21 rfl (pc' := 22) (st' := .int (iI 1) :: _) rfl ?_
  refine n_go f_126_22 rfl (pc' := 26) rfl ?_
  first | refine n_rt0 f_126_26 rfl ?_ | refine n_rt1 f_126_26 rfl ?_ | refine n_rtz f_126_26 rfl ?_
  exact KK
theorem c_elem (hH : Hi h H) (hv : 0 ≤ v ∧ v < hN H) (KK : P (.inl (some (.ref (hA H v)))) h) : En V d 165 0 [some (.ref 13), some (.int (iI v))] [] h P := by
  obtain ⟨h1, ⟨mc, h2⟩, ⟨f, h3, h3'⟩, h4, h5, h6, h7, hr⟩ := hH
  have r1 := hr.1
  have e1 := h3' v hv.1 hv.2
  refine n_go f_165_0 rfl (pc' := 1) rfl ?_
  refine n_gf f_165_1 rfl (by assumption) rfl ?_
  refine n_go f_165_4 rfl (pc' := 5) rfl ?_
  refine n_aal f_165_5 rfl (by assumption) (by omega) (by assumption) ?_
  refine n_ret f_165_6 rfl rfl ?_
  exact KK
theorem c_chk2 (hv : 0 ≤ v ∧ v < o ∧ o < 2147483648) (KK : P (.inl (some (.int (iI v)))) h) : En V d 177 0 [some (.int (iI v)), some (.int (iI o)), some .null] [] h P := by
  refine n_go f_177_0 rfl (pc' := 1) rfl ?_
  refine n_if_lt f_177_1 rfl rfl (by omega) (fun e9 => absurd e9 (by omega)) (fun _ => ?_)
  refine n_go f_177_4 rfl (pc' := 5) rfl ?_
  refine n_go f_177_5 rfl (pc' := 6) rfl ?_
  refine n_ic_lt f_177_6 rfl rfl ⟨by omega, by omega⟩ (fun _ => ?_) (fun e9 => absurd (by omega) e9)
  refine n_go f_177_16 rfl (pc' := 17) rfl ?_
  refine n_ret f_177_17 rfl rfl ?_
  exact KK
theorem c_chk1 (hv : 0 ≤ v ∧ v < o ∧ o < 2147483648) (KK : P (.inl (some (.int (iI v)))) h) : En V (d + 1) 164 0 [some (.int (iI v)), some (.int (iI o))] [] h P := by
  refine n_go f_164_0 rfl (pc' := 1) rfl ?_
  refine n_go f_164_1 rfl (pc' := 2) rfl ?_
  refine n_go f_164_2 rfl (pc' := 3) rfl ?_
  refine n_cs (ls' := [_, _, _]) f_164_3 (by decide) m_177 rfl rfl ?_
  refine c_chk2 hv ?_
  show En V _ 164 6 _ [_] _ _
  refine n_ret f_164_6 rfl rfl ?_
  exact KK
theorem c_get (hH : Hi h H) (hv : 0 ≤ v ∧ v < hN H) (KK : P (.inl (some (.ref (hA H v)))) h) : En V (d + 2) 127 0 [some (.ref 13), some (.int (iI v))] [] h P := by
  have hH0 := hH
  obtain ⟨h1, ⟨mc, h2⟩, ⟨f, h3, h3'⟩, h4, h5, h6, h7, hr⟩ := hH
  have r1 := hr.1
  refine n_go f_127_0 rfl (pc' := 1) rfl ?_
  refine n_go f_127_1 rfl (pc' := 2) rfl ?_
  refine n_gf f_127_2 rfl (by assumption) rfl ?_
  refine n_cs (ls' := [_, _]) f_127_5 (by decide) m_164 rfl rfl ?_
  refine c_chk1 (by omega) ?_
  show En V _ 127 8 _ [_] _ _
  refine n_go f_127_8 rfl (pc' := 9) rfl ?_
  refine n_go f_127_9 rfl (pc' := 10) rfl ?_
  refine n_go f_127_10 rfl (pc' := 11) rfl ?_
  refine n_cv (ls' := [_, _]) f_127_11 (by decide) m_165 rfl rfl (by assumption) rfl ?_
  refine c_elem hH0 hv ?_
  show En V _ 127 14 _ [_] _ _
  refine n_ret f_127_14 rfl rfl ?_
  exact KK
theorem c_stateOf (hH : Hi h H) (hv : 0 ≤ v ∧ v < hN H) (KK : P (.inl (some (.ref (hA H v)))) h) : En V (d + 3) 60 0 [some (.ref 12), some (.int (iI v))] [] h P := by
  have hH0 := hH
  obtain ⟨h1, ⟨mc, h2⟩, ⟨f, h3, h3'⟩, h4, h5, h6, h7, hr⟩ := hH
  have r1 := hr.1
  have s0 := (h7 v hv.1 hv.2).1
  refine n_go f_60_0 rfl (pc' := 1) rfl ?_
  refine n_go f_60_1 rfl (pc' := 2) rfl ?_
  refine n_cv (ls' := [_, _]) f_60_2 (by decide) m_126 rfl rfl (by assumption) rfl ?_
  refine c_isNumber hH0 (by omega) ?_
  show En V _ 60 5 _ [_] _ _
  refine n_ib_eq f_60_5 rfl rfl (fun e9 => absurd (e9.symm.trans (decide_eq_true hv)) (by decide)) (fun _ => ?_)
  refine n_go f_60_8 rfl (pc' := 9) rfl ?_
  refine n_gf f_60_9 rfl (by assumption) rfl ?_
  refine n_go f_60_12 rfl (pc' := 13) rfl ?_
  refine n_cv (ls' := [_, _]) f_60_13 (by decide) m_127 rfl rfl (by assumption) rfl ?_
  refine c_get hH0 hv ?_
  show En V _ 60 16 _ [_] _ _
  refine n_cst f_60_16 rfl (by assumption) ?_
  refine n_go f_60_19 rfl (pc' := 26) rfl ?_
  refine n_ret f_60_26 rfl rfl ?_
  exact KK
theorem c_parentOf (hH : Hi h H) (hv : 0 ≤ v ∧ v < hN H) (hk : k = 0 ∨ k = 1) (KK : P (.inl (some (.int (iI (if k = 0 then hF H v else hG H v))))) h) : En V (d + 2) 83 0 [some (.ref 12), some (.int (iI v)), some (.int (iI k))] [] h P := by
  have hH0 := hH
  obtain ⟨h1, ⟨mc, h2⟩, ⟨f, h3, h3'⟩, h4, h5, h6, h7, hr⟩ := hH
  have r1 := hr.1
  refine n_go f_83_0 rfl (pc' := 1) rfl ?_
  refine n_go f_83_1 rfl (pc' := 2) rfl ?_
  refine n_cv (ls' := [_, _]) f_83_2 (by decide) m_126 rfl rfl (by assumption) rfl ?_
  refine c_isNumber hH0 (by omega) ?_
  show En V _ 83 5 _ [_] _ _
  refine n_ib_ne f_83_5 rfl rfl (fun _ => ?_) (fun e9 => absurd (e9.symm.trans (decide_eq_true hv)) (by decide))
  refine n_go f_83_10 rfl (pc' := 11) rfl ?_
  refine n_if_ne f_83_11 rfl rfl (by omega) (fun e => ?_) (fun e => ?_)
  · rw [if_neg e] at KK
    refine n_go f_83_23 rfl (pc' := 24) rfl ?_
    refine n_gf f_83_24 rfl (by assumption) rfl ?_
    refine n_go f_83_27 rfl (pc' := 28) rfl ?_
    refine n_ial f_83_28 rfl (by assumption) (by unfold ev_ext; omega) (by omega) ?_
    refine n_ret f_83_29 rfl rfl ?_
    exact KK
  rw [if_pos (by omega)] at KK
  refine n_go f_83_14 rfl (pc' := 15) rfl ?_
  refine n_gf f_83_15 rfl (by assumption) rfl ?_
  refine n_go f_83_18 rfl (pc' := 19) rfl ?_
  refine n_ial f_83_19 rfl (by assumption) (by unfold ev_ext; omega) (by omega) ?_
  refine n_go f_83_20 rfl (pc' := 29) rfl ?_
  refine n_ret f_83_29 rfl rfl ?_
  exact KK
theorem c_older (hH : Hi h H) (hv : 0 ≤ v ∧ v < hN H) (ho : 0 ≤ o ∧ o < hN H) (KK : P (.inl (some (.int (iI (b2 ((hO H o).testBit v.toNat)))))) h) : En V (d + 2) 121 0 [some (.ref 12), some (.int (iI v)), some (.int (iI o))] [] h P := by
  have hH0 := hH
  obtain ⟨h1, ⟨mc, h2⟩, ⟨f, h3, h3'⟩, h4, h5, h6, h7, hr⟩ := hH
  have r1 := hr.1
  have lb := l_bit ⟨hO H o, hr.2.1 o⟩ ⟨v.toNat, by omega⟩
  dsimp only at lb
  rw [show ((v.toNat : Nat) : Int) = v by omega] at lb
  refine n_go f_121_0 rfl (pc' := 1) rfl ?_
  refine n_go f_121_1 rfl (pc' := 2) rfl ?_
  refine n_cv (ls' := [_, _]) f_121_2 (by decide) m_126 rfl rfl (by assumption) rfl ?_
  refine c_isNumber hH0 (by omega) ?_
  show En V _ 121 5 _ [_] _ _
  refine n_ib_eq f_121_5 rfl rfl (fun e9 => absurd (e9.symm.trans (decide_eq_true hv)) (by decide)) (fun _ => ?_)
  refine n_go f_121_8 rfl (pc' := 9) rfl ?_
  refine n_go f_121_9 rfl (pc' := 10) rfl ?_
  refine n_cv (ls' := [_, _]) f_121_10 (by decide) m_126 rfl rfl (by assumption) rfl ?_
  refine c_isNumber hH0 (by omega) ?_
  show En V _ 121 13 _ [_] _ _
  refine n_ib_eq f_121_13 rfl rfl (fun e9 => absurd (e9.symm.trans (decide_eq_true ho)) (by decide)) (fun _ => ?_)
  refine n_go f_121_16 rfl (pc' := 17) rfl ?_
  refine n_gf f_121_17 rfl (by assumption) rfl ?_
  refine n_go f_121_20 rfl (pc' := 21) rfl ?_
  refine n_lal f_121_21 rfl (by assumption) (by omega) ?_
  refine n_go f_121_22 rfl (pc' := 23) rfl ?_
  refine n_go f_121_23 rfl (pc' := 24) rfl ?_
  refine n_go f_121_24 rfl (pc' := 25) rfl ?_
  refine n_go f_121_25 rfl (pc' := 26) rfl ?_
  refine n_go f_121_26 rfl (pc' := 27) rfl ?_
  refine n_go f_121_27 rfl (pc' := 28) rfl ?_
  show En V _ _ 28 _ [.int (lg_cmp ((l64 (hO H o) >>> ((iI v).toInt64 &&& 63)) &&& l64 1) (l64 0))] _ _
  rw [lb]
  refine n_ib_eq f_121_28 rfl rfl (fun e => ?_) (fun e => ?_)
  · rw [e] at KK
    refine n_go f_121_35 rfl (pc' := 36) (st' := .int (iI 0) :: _) rfl ?_
    first | refine n_rt0 f_121_36 rfl ?_ | refine n_rt1 f_121_36 rfl ?_ | refine n_rtz f_121_36 rfl ?_
    exact KK
  rw [e] at KK
  refine n_go f_121_31 rfl (pc' := 32) (st' := .int (iI 1) :: _) rfl ?_
  refine n_go f_121_32 rfl (pc' := 36) rfl ?_
  first | refine n_rt0 f_121_36 rfl ?_ | refine n_rt1 f_121_36 rfl ?_ | refine n_rtz f_121_36 rfl ?_
  exact KK
theorem c_lineOf (hH : Hi h H) (hv : -1 ≤ v ∧ v < hN H) (KK : P (.inl (some (.long (l64 (lin H v))))) h) : En V (d + 2) 67 0 [some (.ref 12), some (.int (iI v))] [] h P := by
  have hH0 := hH
  obtain ⟨h1, ⟨mc, h2⟩, ⟨f, h3, h3'⟩, h4, h5, h6, h7, hr⟩ := hH
  have r1 := hr.1
  unfold lin at KK
  refine n_go f_67_0 rfl (pc' := 1) rfl ?_
  refine n_go f_67_1 rfl (pc' := 2) rfl ?_
  refine n_cv (ls' := [_, _]) f_67_2 (by decide) m_126 rfl rfl (by assumption) rfl ?_
  refine c_isNumber hH0 (by omega) ?_
  show En V _ 67 5 _ [_] _ _
  refine n_ib_eq f_67_5 rfl rfl (fun e => ?_) (fun e => ?_)
  · rw [if_neg (of_decide_eq_false e)] at KK
    refine n_go f_67_21 rfl (pc' := 22) rfl ?_
    refine n_ret f_67_22 rfl rfl ?_
    exact KK
  have e := of_decide_eq_true e
  rw [if_pos e] at KK
  have ls := l_sh ⟨v.toNat, by omega⟩
  dsimp only at ls
  rw [show ((v.toNat : Nat) : Int) = v by omega] at ls
  have lo := l_or ⟨hO H v, hr.2.1 v⟩ ⟨2 ^ v.toNat, n6 (by omega)⟩
  dsimp only at lo
  refine n_go f_67_8 rfl (pc' := 9) rfl ?_
  refine n_gf f_67_9 rfl (by assumption) rfl ?_
  refine n_go f_67_12 rfl (pc' := 13) rfl ?_
  refine n_lal f_67_13 rfl (by assumption) (by omega) ?_
  refine n_go f_67_14 rfl (pc' := 15) rfl ?_
  refine n_go f_67_15 rfl (pc' := 16) rfl ?_
  refine n_go f_67_16 rfl (pc' := 17) rfl ?_
  refine n_go f_67_17 rfl (pc' := 18) rfl ?_
  refine n_go f_67_18 rfl (pc' := 22) rfl ?_
  show En V _ _ 22 _ [.long (l64 (hO H v) ||| (l64 1 <<< ((iI v).toInt64 &&& 63)))] _ _
  rw [ls, lo]
  refine n_ret f_67_22 rfl rfl ?_
  exact KK
theorem c_lastCommon (hH : Hi h H) (hv : 0 ≤ v ∧ v < hN H) (ho : 0 ≤ o ∧ o < hN H) (KK : P (.inl (some (.long (l64 (lcF H (lin H v &&& lin H o) 40))))) h) : En V (d + 3) 84 0 [some (.ref 12), some (.int (iI v)), some (.int (iI o)), none, none, none, none, none] [] h P := by
  have hH0 := hH
  obtain ⟨h1, ⟨mc, h2⟩, ⟨f, h3, h3'⟩, h4, h5, h6, h7, hr⟩ := hH
  have r1 := hr.1
  have la := l_and ⟨lin H v, lin_r hr v⟩ ⟨lin H o, lin_r hr o⟩
  dsimp only at la
  have hc : lin H v &&& lin H o < 64 := and64 (lin_r hr v)
  refine n_go f_84_0 rfl (pc' := 1) rfl ?_
  refine n_go f_84_1 rfl (pc' := 2) rfl ?_
  refine n_cv (ls' := [_, _]) f_84_2 (by decide) m_67 rfl rfl (by assumption) rfl ?_
  refine c_lineOf hH0 (by omega) ?_
  show En V _ 84 5 _ [_] _ _
  refine n_go f_84_5 rfl (pc' := 6) rfl ?_
  refine n_go f_84_6 rfl (pc' := 7) rfl ?_
  refine n_cv (ls' := [_, _]) f_84_7 (by decide) m_67 rfl rfl (by assumption) rfl ?_
  refine c_lineOf hH0 (by omega) ?_
  show En V _ 84 10 _ [_, _] _ _
  refine n_go f_84_10 rfl (pc' := 11) rfl ?_
  show En V _ _ 11 _ [.long (l64 (lin H v) &&& l64 (lin H o))] _ _
  rw [la]
  generalize lin H v &&& lin H o = c at *
  refine n_go f_84_11 rfl (pc' := 12) (ls' := [_, _, _, _, _, _, _, _]) rfl ?_
  refine n_go f_84_12 rfl (pc' := 13) rfl ?_
  refine n_go f_84_13 rfl (pc' := 15) (ls' := [_, _, _, _, _, _, _, _]) rfl ?_
  refine n_go f_84_15 rfl (pc' := 16) (st' := .int (iI 0) :: _) rfl ?_
  refine n_go f_84_16 rfl (pc' := 18) (ls' := [_, _, _, _, _, _, _, _]) rfl ?_
  refine n_for (lo := 0) (hi := 40) (by decide) (fun i ls st h' => ls = [some (.ref 12), some (.int (iI v)), some (.int (iI o)), some (.long (l64 c)), none, some (.long (l64 (lcF H c i.toNat))), none, some (.int (iI i))] ∧ st = [] ∧ h' = h) ⟨rfl, rfl, rfl⟩ ?_ ?_
  · rintro i ls st h' g1 g2 ⟨rfl, rfl, rfl⟩ kk
    have hl := lcF_r hr hc i.toNat
    have lb := l_bit ⟨c, hc⟩ ⟨i.toNat, by omega⟩
    have ln := l_an ⟨lcF H c i.toNat, hl⟩ ⟨hO H i, hr.2.1 i⟩
    dsimp only at lb ln
    have e0 : (i + 1).toNat = i.toNat + 1 := by omega
    have e1 : ((i.toNat : Nat) : Int) = i := by omega
    rw [e1] at lb
    refine n_go f_84_18 rfl (pc' := 20) rfl ?_
    refine n_bip (m := 40) f_84_20 rfl (by decide) ?_
    refine n_ic_ge f_84_22 rfl rfl ⟨by omega, by omega⟩ (fun e9 => absurd e9 (by omega)) (fun _ => ?_)
    refine n_go f_84_25 rfl (pc' := 26) rfl ?_
    refine n_go f_84_26 rfl (pc' := 28) rfl ?_
    refine n_go f_84_28 rfl (pc' := 29) rfl ?_
    refine n_go f_84_29 rfl (pc' := 30) rfl ?_
    refine n_go f_84_30 rfl (pc' := 31) rfl ?_
    refine n_go f_84_31 rfl (pc' := 32) rfl ?_
    refine n_go f_84_32 rfl (pc' := 33) rfl ?_
    show En V _ _ 33 _ [.int (lg_cmp ((l64 c >>> ((iI i).toInt64 &&& 63)) &&& l64 1) (l64 0))] _ _
    rw [lb]
    refine n_ib_eq f_84_33 rfl rfl (fun e => ?_) (fun e => ?_)
    · refine n_iinc (m' := 1) (ls' := [_, _, _, _, _, _, _, _]) f_84_52 rfl rfl rfl rfl ?_
      refine n_go f_84_55 rfl (pc' := 18) rfl ?_
      refine kk _ _ _ ⟨?_, rfl, rfl⟩
      rw [e0, lcF_f e]
    · refine n_go f_84_36 rfl (pc' := 38) rfl ?_
      refine n_go f_84_38 rfl (pc' := 39) rfl ?_
      refine n_gf f_84_39 rfl (by assumption) rfl ?_
      refine n_go f_84_42 rfl (pc' := 44) rfl ?_
      refine n_lal f_84_44 rfl (by assumption) (by omega) ?_
      refine n_go f_84_45 rfl (pc' := 48) rfl ?_
      refine n_go f_84_48 rfl (pc' := 49) rfl ?_
      refine n_go f_84_49 rfl (pc' := 50) rfl ?_
      show En V _ _ 50 _ [.long (l64 (lcF H c i.toNat) &&& (l64 (hO H i) ^^^ Int64.ofNat 18446744073709551615))] _ _
      rw [ln]
      refine n_go f_84_50 rfl (pc' := 52) (ls' := [_, _, _, _, _, _, _, _]) rfl ?_
      refine n_iinc (m' := 1) (ls' := [_, _, _, _, _, _, _, _]) f_84_52 rfl rfl rfl rfl ?_
      refine n_go f_84_55 rfl (pc' := 18) rfl ?_
      refine kk _ _ _ ⟨?_, rfl, rfl⟩
      rw [e0, lcF_t e, e1]
  · rintro ls st h' ⟨rfl, rfl, rfl⟩
    refine n_go f_84_18 rfl (pc' := 20) rfl ?_
    refine n_bip (m := 40) f_84_20 rfl (by decide) ?_
    refine n_ic_ge f_84_22 rfl rfl ⟨by omega, by omega⟩ (fun _ => ?_) (fun e9 => absurd (by omega) e9)
    refine n_go f_84_58 rfl (pc' := 60) rfl ?_
    refine n_ret f_84_60 rfl rfl ?_
    exact KK
theorem c_bitCount (i : Nat) (hi : i < 6) (KK : P (.inl (some (.int (iI 1)))) h) : En V d 85 0 [some (.long (l64 (2 ^ i))), none] [] h P := by
  rcases (by omega : i = 0 ∨ i = 1 ∨ i = 2 ∨ i = 3 ∨ i = 4 ∨ i = 5) with rfl | rfl | rfl | rfl | rfl | rfl
  all_goals
    refine n_go f_85_0 rfl (pc' := 1) rfl ?_
    refine n_go f_85_1 rfl (pc' := 2) rfl ?_
    refine n_go f_85_2 rfl (pc' := 3) (st' := .int (iI 1) :: _) rfl ?_
    refine n_go f_85_3 rfl (pc' := 4) rfl ?_
    refine n_go f_85_4 rfl (pc' := 7) rfl ?_
    refine n_go f_85_7 rfl (pc' := 8) rfl ?_
    refine n_go f_85_8 rfl (pc' := 9) rfl ?_
    refine n_go f_85_9 rfl (pc' := 10) (ls' := [_, _]) rfl ?_
    refine n_go f_85_10 rfl (pc' := 11) rfl ?_
    refine n_go f_85_11 rfl (pc' := 14) rfl ?_
    refine n_go f_85_14 rfl (pc' := 15) rfl ?_
    refine n_go f_85_15 rfl (pc' := 16) rfl ?_
    refine n_go f_85_16 rfl (pc' := 17) (st' := .int (iI 2) :: _) rfl ?_
    refine n_go f_85_17 rfl (pc' := 18) rfl ?_
    refine n_go f_85_18 rfl (pc' := 21) rfl ?_
    refine n_go f_85_21 rfl (pc' := 22) rfl ?_
    refine n_go f_85_22 rfl (pc' := 23) rfl ?_
    refine n_go f_85_23 rfl (pc' := 24) (ls' := [_, _]) rfl ?_
    refine n_go f_85_24 rfl (pc' := 25) rfl ?_
    refine n_go f_85_25 rfl (pc' := 26) rfl ?_
    refine n_go f_85_26 rfl (pc' := 27) (st' := .int (iI 4) :: _) rfl ?_
    refine n_go f_85_27 rfl (pc' := 28) rfl ?_
    refine n_go f_85_28 rfl (pc' := 29) rfl ?_
    refine n_go f_85_29 rfl (pc' := 32) rfl ?_
    refine n_go f_85_32 rfl (pc' := 33) rfl ?_
    refine n_go f_85_33 rfl (pc' := 34) (ls' := [_, _]) rfl ?_
    refine n_go f_85_34 rfl (pc' := 35) rfl ?_
    refine n_go f_85_35 rfl (pc' := 36) rfl ?_
    refine n_bip (m := 8) f_85_36 rfl (by decide) ?_
    refine n_go f_85_38 rfl (pc' := 39) rfl ?_
    refine n_go f_85_39 rfl (pc' := 40) rfl ?_
    refine n_go f_85_40 rfl (pc' := 41) (ls' := [_, _]) rfl ?_
    refine n_go f_85_41 rfl (pc' := 42) rfl ?_
    refine n_go f_85_42 rfl (pc' := 43) rfl ?_
    refine n_bip (m := 16) f_85_43 rfl (by decide) ?_
    refine n_go f_85_45 rfl (pc' := 46) rfl ?_
    refine n_go f_85_46 rfl (pc' := 47) rfl ?_
    refine n_go f_85_47 rfl (pc' := 48) (ls' := [_, _]) rfl ?_
    refine n_go f_85_48 rfl (pc' := 49) rfl ?_
    refine n_go f_85_49 rfl (pc' := 50) rfl ?_
    refine n_bip (m := 32) f_85_50 rfl (by decide) ?_
    refine n_go f_85_52 rfl (pc' := 53) rfl ?_
    refine n_go f_85_53 rfl (pc' := 54) rfl ?_
    refine n_go f_85_54 rfl (pc' := 55) (ls' := [_, _]) rfl ?_
    refine n_go f_85_55 rfl (pc' := 56) rfl ?_
    refine n_go f_85_56 rfl (pc' := 57) rfl ?_
    refine n_bip (m := 127) f_85_57 rfl (by decide) ?_
    refine n_go f_85_59 rfl (pc' := 60) rfl ?_
    refine n_ret f_85_60 rfl (v := some (.int (iI 1))) (by decide +kernel) KK
end CH
