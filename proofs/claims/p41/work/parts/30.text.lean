/-! The text of a script whose numbers have one digit. -/
def sgn (k : Int) : Int := if k = 0 then 43 else if k = 1 then 42 else if k = 2 then 35 else if k = 3 then 64 else if k = 4 then 63 else if k = 5 then 33 else if k = 6 then 126 else 45
theorem sgn_ch {k : Int} (hk : 0 ≤ k ∧ k < 8) : es_ch k.toNat = iI (sgn k) := by
  rcases (by omega : k = 0 ∨ k = 1 ∨ k = 2 ∨ k = 3 ∨ k = 4 ∨ k = 5 ∨ k = 6 ∨ k = 7) with rfl | rfl | rfl | rfl | rfl | rfl | rfl | rfl <;> decide
theorem sgn_r (k : Int) : 0 ≤ sgn k ∧ sgn k < 65536 := by
  unfold sgn
  repeat' split
  all_goals omega
def chr (x : Int × Int) (r : Int) : Int := if r = 0 then sgn x.1 else if r = 1 then 48 + x.2 else 59
/-- edits with kinds and numbers as scripts have them -/
def small (L : List (Int × Int)) : Prop := L.length < 280 ∧ ∀ x ∈ L, (0 ≤ x.1 ∧ x.1 < 8) ∧ 0 ≤ x.2 ∧ x.2 < 10
section CT
variable {V : ev_V} {d : Nat} {h : ev_H} {P : ev_O → ev_H → Prop} {n m e r : Int} {L : List (Int × Int)} {x : Int × Int}
theorem c_digitsOf (hn : 0 ≤ n ∧ n < 10) (KK : P (.inl (some (.int (iI 1)))) h) : En V d 161 0 [some (.int (iI n))] [] h P := by
  refine n_go f_161_0 rfl (pc' := 1) rfl ?_
  refine n_bip (m := 10) f_161_1 rfl (by decide) ?_
  refine n_ic_ge f_161_3 rfl rfl ⟨by omega, by omega⟩ (fun e9 => absurd e9 (by omega)) (fun _ => ?_)
  refine n_go f_161_6 rfl (pc' := 7) (st' := .int (iI 1) :: _) rfl ?_
  refine n_go f_161_7 rfl (pc' := 21) rfl ?_
  refine n_ret f_161_21 rfl rfl ?_
  exact KK
theorem c_count (hC : ScL h L) (KK : P (.inl (some (.int (iI L.length)))) h) : En V d 57 0 [some (.ref 25)] [] h P := by
  obtain ⟨fk, fn, c1, c2, c3, c4⟩ := hC
  refine n_go f_57_0 rfl (pc' := 1) rfl ?_
  refine n_gf f_57_1 rfl (by assumption) rfl ?_
  refine n_ret f_57_4 rfl rfl ?_
  exact KK
theorem c_ekind (hC : ScL h L) (hs : small L) (e : Nat) (hx : L[e]? = some x) (KK : P (.inl (some (.int (iI x.1)))) h) : En V d 140 0 [some (.ref 25), some (.int (iI e))] [] h P := by
  obtain ⟨fk, fn, c1, c2, c3, c4⟩ := hC
  have hl := (List.getElem?_eq_some_iff.mp hx).1
  have h1 := hs.1
  refine n_go f_140_0 rfl (pc' := 1) rfl ?_
  refine n_if_lt f_140_1 rfl rfl (by omega) (fun e9 => absurd e9 (by omega)) (fun _ => ?_)
  refine n_go f_140_4 rfl (pc' := 5) rfl ?_
  refine n_go f_140_5 rfl (pc' := 6) rfl ?_
  refine n_gf f_140_6 rfl (by assumption) rfl ?_
  refine n_ic_ge f_140_9 rfl rfl ⟨by omega, by omega⟩ (fun e9 => absurd e9 (by omega)) (fun _ => ?_)
  refine n_go f_140_12 rfl (pc' := 13) rfl ?_
  refine n_gf f_140_13 rfl (by assumption) rfl ?_
  refine n_go f_140_16 rfl (pc' := 17) rfl ?_
  refine n_ial f_140_17 rfl (by assumption) (by unfold ev_ext; omega) (by omega) ?_
  refine n_go f_140_18 rfl (pc' := 22) rfl ?_
  rw [(c4 e x hx).1]
  refine n_ret f_140_22 rfl rfl ?_
  exact KK
theorem c_enum (hC : ScL h L) (hs : small L) (e : Nat) (hx : L[e]? = some x) (KK : P (.inl (some (.int (iI x.2)))) h) : En V d 139 0 [some (.ref 25), some (.int (iI e))] [] h P := by
  obtain ⟨fk, fn, c1, c2, c3, c4⟩ := hC
  have hl := (List.getElem?_eq_some_iff.mp hx).1
  have h1 := hs.1
  refine n_go f_139_0 rfl (pc' := 1) rfl ?_
  refine n_if_lt f_139_1 rfl rfl (by omega) (fun e9 => absurd e9 (by omega)) (fun _ => ?_)
  refine n_go f_139_4 rfl (pc' := 5) rfl ?_
  refine n_go f_139_5 rfl (pc' := 6) rfl ?_
  refine n_gf f_139_6 rfl (by assumption) rfl ?_
  refine n_ic_ge f_139_9 rfl rfl ⟨by omega, by omega⟩ (fun e9 => absurd e9 (by omega)) (fun _ => ?_)
  refine n_go f_139_12 rfl (pc' := 13) rfl ?_
  refine n_gf f_139_13 rfl (by assumption) rfl ?_
  refine n_go f_139_16 rfl (pc' := 17) rfl ?_
  refine n_ial f_139_17 rfl (by assumption) (by unfold ev_ext; omega) (by omega) ?_
  refine n_go f_139_18 rfl (pc' := 22) rfl ?_
  rw [(c4 e x hx).2]
  refine n_ret f_139_22 rfl rfl ?_
  exact KK
theorem c_textLength (hC : ScL h L) (hs : small L) (KK : P (.inl (some (.int (iI (3 * L.length))))) h) : En V (d + 1) 123 0 [some (.ref 25), none, none] [] h P := by
  obtain ⟨fk, fn, c1, c2, c3, c4⟩ := hC
  have h1 := hs.1
  refine n_go f_123_0 rfl (pc' := 1) (st' := .int (iI 0) :: _) rfl ?_
  refine n_go f_123_1 rfl (pc' := 2) (ls' := [_, _, _]) rfl ?_
  refine n_go f_123_2 rfl (pc' := 3) (st' := .int (iI 0) :: _) rfl ?_
  refine n_go f_123_3 rfl (pc' := 4) (ls' := [_, _, _]) rfl ?_
  refine n_for (lo := 0) (hi := L.length) (by omega) (fun i ls st h' => ls = [some (.ref 25), some (.int (iI (3 * i))), some (.int (iI i))] ∧ st = [] ∧ h' = h) ⟨rfl, rfl, rfl⟩ ?_ ?_
  · rintro i ls st h' g1 g2 ⟨rfl, rfl, rfl⟩ kk
    obtain ⟨x, hx⟩ : ∃ x, L[i.toNat]? = some x := ⟨_, List.getElem?_eq_getElem (by omega)⟩
    have hx2 := (hs.2 x (List.mem_of_getElem? hx)).2
    have hx3 := (c4 _ x hx).2
    rw [show ((i.toNat : Nat) : Int) = i by omega] at hx3
    refine n_go f_123_4 rfl (pc' := 5) rfl ?_
    refine n_go f_123_5 rfl (pc' := 6) rfl ?_
    refine n_gf f_123_6 rfl (by assumption) rfl ?_
    refine n_ic_ge f_123_9 rfl rfl ⟨by omega, by omega⟩ (fun e9 => absurd e9 (by omega)) (fun _ => ?_)
    refine n_go f_123_12 rfl (pc' := 13) rfl ?_
    refine n_go f_123_13 rfl (pc' := 14) (st' := .int (iI 2) :: _) rfl ?_
    refine n_go f_123_14 rfl (pc' := 15) rfl ?_
    refine n_gf f_123_15 rfl (by assumption) rfl ?_
    refine n_go f_123_18 rfl (pc' := 19) rfl ?_
    refine n_ial f_123_19 rfl (by assumption) (by unfold ev_ext; omega) (by omega) ?_
    refine n_cs (ls' := [_]) f_123_20 (by decide) m_161 rfl rfl ?_
    refine c_digitsOf (by omega) ?_
    show En V _ 123 23 _ [_, _, _] _ _
    refine n_iadd f_123_23 rfl ?_
    refine n_iadd f_123_24 rfl ?_
    refine n_go f_123_25 rfl (pc' := 26) (ls' := [_, _, _]) rfl ?_
    refine n_iinc (m' := 1) (ls' := [_, _, _]) f_123_26 rfl rfl rfl rfl ?_
    refine n_go f_123_29 rfl (pc' := 4) rfl ?_
    exact kk _ _ _ ⟨by rw [show 3 * i + (2 + 1) = 3 * (i + 1) by omega], rfl, rfl⟩
  · rintro ls st h' ⟨rfl, rfl, rfl⟩
    refine n_go f_123_4 rfl (pc' := 5) rfl ?_
    refine n_go f_123_5 rfl (pc' := 6) rfl ?_
    refine n_gf f_123_6 rfl (by assumption) rfl ?_
    refine n_ic_ge f_123_9 rfl rfl ⟨by omega, by omega⟩ (fun _ => ?_) (fun e9 => absurd (by omega) e9)
    refine n_go f_123_32 rfl (pc' := 33) rfl ?_
    refine n_ret f_123_33 rfl rfl ?_
    exact KK
theorem c_editAt (hC : ScL h L) (hs : small L) (e : Nat) (hx : L[e]? = some x) (hr : 0 ≤ r ∧ r < 3) (KK : P (.inl (some (.int (iI (chr x r))))) h) : En V (d + 1) 162 0 [some (.ref 25), some (.int (iI e)), some (.int (iI r)), none, none, none, none] [] h P := by
  have hC0 := hC
  obtain ⟨fk, fn, c1, c2, c3, c4⟩ := hC
  obtain ⟨hx1, hx2⟩ := hs.2 x (List.mem_of_getElem? hx)
  have hsg := sgn_r x.1
  refine n_go f_162_0 rfl (pc' := 1) rfl ?_
  refine n_go f_162_1 rfl (pc' := 2) rfl ?_
  refine n_cv (ls' := [_, _]) f_162_2 (by decide) m_140 rfl rfl (by assumption) rfl ?_
  refine c_ekind hC0 hs e hx ?_
  show En V _ 162 5 _ [_] _ _
  refine n_go f_162_5 rfl (pc' := 6) (ls' := [_, _, _, _, _, _, _]) rfl ?_
  refine n_go f_162_6 rfl (pc' := 7) rfl ?_
  refine n_go f_162_7 rfl (pc' := 8) rfl ?_
  refine n_cv (ls' := [_, _]) f_162_8 (by decide) m_139 rfl rfl (by assumption) rfl ?_
  refine c_enum hC0 hs e hx ?_
  show En V _ 162 11 _ [_] _ _
  refine n_go f_162_11 rfl (pc' := 13) (ls' := [_, _, _, _, _, _, _]) rfl ?_
  refine n_go f_162_13 rfl (pc' := 15) rfl ?_
  refine n_cs (ls' := [_]) f_162_15 (by decide) m_161 rfl rfl ?_
  refine c_digitsOf hx2 ?_
  show En V _ 162 18 _ [_] _ _
  refine n_go f_162_18 rfl (pc' := 19) rfl ?_
  refine n_isub f_162_19 rfl ?_
  refine n_go f_162_20 rfl (pc' := 22) (ls' := [_, _, _, _, _, _, _]) rfl ?_
  refine n_go f_162_22 rfl (pc' := 23) rfl ?_
  refine n_if_ne f_162_23 rfl rfl (by omega) (fun e0 => ?_) (fun e0 => ?_)
  · rcases (by omega : r = 1 ∨ r = 2) with rfl | rfl
    · have KK : P (.inl (some (.int (iI (48 + x.2))))) h := KK
      refine n_go f_162_51 rfl (pc' := 53) rfl ?_
      refine n_if_ge f_162_53 rfl rfl (by omega) (fun _ => ?_) (fun e9 => absurd (by omega) e9)
      refine n_go f_162_59 rfl (pc' := 60) (st' := .int (iI 0) :: _) rfl ?_
      refine n_go f_162_60 rfl (pc' := 62) (ls' := [_, _, _, _, _, _, _]) rfl ?_
      refine n_go f_162_62 rfl (pc' := 64) rfl ?_
      refine n_go f_162_64 rfl (pc' := 66) rfl ?_
      refine n_ic_ge f_162_66 rfl rfl ⟨by omega, by omega⟩ (fun _ => ?_) (fun e9 => absurd (by omega) e9)
      refine n_bip (m := 48) f_162_82 rfl (by decide) ?_
      refine n_go f_162_84 rfl (pc' := 86) rfl ?_
      refine n_bip (m := 10) f_162_86 rfl (by decide) ?_
      refine n_irem f_162_88 rfl (by omega) ?_
      refine n_iadd f_162_89 rfl ?_
      refine n_i2c f_162_90 rfl (by omega) ?_
      rw [show x.2 % 10 = x.2 by omega]
      refine n_rtc f_162_91 rfl (by omega) ?_
      exact KK
    · have KK : P (.inl (some (.int (iI 59)))) h := KK
      refine n_go f_162_51 rfl (pc' := 53) rfl ?_
      refine n_if_ge f_162_53 rfl rfl (by omega) (fun e9 => absurd e9 (by omega)) (fun _ => ?_)
      refine n_bip (m := 59) f_162_56 rfl (by decide) ?_
      refine n_rtc f_162_58 rfl (by omega) ?_
      exact KK
  have e0 : r = 0 := by omega
  subst e0
  have KK : P (.inl (some (.int (iI (sgn x.1))))) h := KK
  refine n_go f_162_26 rfl (pc' := 27) rfl ?_
  refine n_if_lt f_162_27 rfl rfl (by omega) (fun e9 => absurd e9 (by omega)) (fun _ => ?_)
  refine n_go f_162_30 rfl (pc' := 31) rfl ?_
  refine n_go f_162_31 rfl (pc' := 33) (st' := .ref (ev_ext + 2) :: _) rfl ?_
  refine n_sl f_162_33 rfl rfl ?_
  refine n_ic_ge f_162_36 rfl rfl ⟨by omega, by omega⟩ (fun e9 => absurd e9 (by omega)) (fun _ => ?_)
  refine n_go f_162_39 rfl (pc' := 41) (st' := .ref (ev_ext + 2) :: _) rfl ?_
  refine n_go f_162_41 rfl (pc' := 42) rfl ?_
  refine n_sc f_162_42 rfl (by omega) rfl ?_
  refine n_go f_162_45 rfl (pc' := 50) rfl ?_
  rw [sgn_ch hx1]
  refine n_rtc f_162_50 rfl (by omega) ?_
  exact KK
theorem c_textAt (hC : ScL h L) (hs : small L) (e : Nat) (hx : L[e]? = some x) (hr : 0 ≤ r ∧ r < 3) (KK : P (.inl (some (.int (iI (chr x r))))) h) : En V (d + 2) 124 0 [some (.ref 25), some (.int (iI (3 * e + r))), none, none, none] [] h P := by
  have hC0 := hC
  obtain ⟨fk, fn, c1, c2, c3, c4⟩ := hC
  have h1 := hs.1
  have hl := (List.getElem?_eq_some_iff.mp hx).1
  have dig : ∀ i : Int, 0 ≤ i → i < L.length → 0 ≤ fn i ∧ fn i < 10 := by
    intro i g1 g2
    obtain ⟨y, hy⟩ : ∃ y, L[i.toNat]? = some y := ⟨_, List.getElem?_eq_getElem (by omega)⟩
    have hy2 := (hs.2 y (List.mem_of_getElem? hy)).2
    have hy3 := (c4 _ y hy).2
    rw [show ((i.toNat : Nat) : Int) = i by omega] at hy3
    omega
  have hcr : 0 ≤ chr x r ∧ chr x r ≤ 65535 := by
    have := sgn_r x.1
    have hx2 := (hs.2 x (List.mem_of_getElem? hx)).2
    unfold chr
    split
    · omega
    · split <;> omega
  refine n_go f_124_0 rfl (pc' := 1) rfl ?_
  refine n_go f_124_1 rfl (pc' := 2) (ls' := [_, _, _, _, _]) rfl ?_
  refine n_go f_124_2 rfl (pc' := 3) (st' := .int (iI 0) :: _) rfl ?_
  refine n_go f_124_3 rfl (pc' := 4) (ls' := [_, _, _, _, _]) rfl ?_
  refine n_for (lo := 0) (hi := e) (by omega) (fun i ls st h' => (∃ u, ls = [some (.ref 25), some (.int (iI (3 * e + r))), some (.int (iI (3 * e + r - 3 * i))), some (.int (iI i)), u]) ∧ st = [] ∧ h' = h) ⟨⟨none, by rw [show 3 * (e : Int) + r - 3 * 0 = 3 * e + r by omega]⟩, rfl, rfl⟩ ?_ ?_
  · rintro i ls st h' g1 g2 ⟨⟨u, rfl⟩, rfl, rfl⟩ kk
    have hd := dig i g1 (by omega)
    refine n_go f_124_4 rfl (pc' := 5) rfl ?_
    refine n_go f_124_5 rfl (pc' := 6) rfl ?_
    refine n_gf f_124_6 rfl (by assumption) rfl ?_
    refine n_ic_ge f_124_9 rfl rfl ⟨by omega, by omega⟩ (fun e9 => absurd e9 (by omega)) (fun _ => ?_)
    refine n_go f_124_12 rfl (pc' := 13) (st' := .int (iI 2) :: _) rfl ?_
    refine n_go f_124_13 rfl (pc' := 14) rfl ?_
    refine n_gf f_124_14 rfl (by assumption) rfl ?_
    refine n_go f_124_17 rfl (pc' := 18) rfl ?_
    refine n_ial f_124_18 rfl (by assumption) (by unfold ev_ext; omega) (by omega) ?_
    refine n_cs (ls' := [_]) f_124_19 (by decide) m_161 rfl rfl ?_
    refine c_digitsOf hd ?_
    show En V _ 124 22 _ [_, _] _ _
    refine n_iadd f_124_22 rfl ?_
    refine n_go f_124_23 rfl (pc' := 25) (ls' := [_, _, _, _, _]) rfl ?_
    refine n_go f_124_25 rfl (pc' := 26) rfl ?_
    refine n_go f_124_26 rfl (pc' := 28) rfl ?_
    refine n_ic_ge f_124_28 rfl rfl ⟨by omega, by omega⟩ (fun _ => ?_) (fun e9 => absurd (by omega) e9)
    refine n_go f_124_38 rfl (pc' := 39) rfl ?_
    refine n_go f_124_39 rfl (pc' := 41) rfl ?_
    refine n_isub f_124_41 rfl ?_
    refine n_go f_124_42 rfl (pc' := 43) (ls' := [_, _, _, _, _]) rfl ?_
    refine n_iinc (m' := 1) (ls' := [_, _, _, _, _]) f_124_43 rfl rfl rfl rfl ?_
    refine n_go f_124_46 rfl (pc' := 4) rfl ?_
    exact kk _ _ _ ⟨⟨_, by rw [show 3 * (e : Int) + r - 3 * i - (2 + 1) = 3 * e + r - 3 * (i + 1) by omega]⟩, rfl, rfl⟩
  · rintro ls st h' ⟨⟨u, rfl⟩, rfl, rfl⟩
    have hd := dig e (by omega) (by omega)
    rw [show 3 * (e : Int) + r - 3 * e = r by omega]
    refine n_go f_124_4 rfl (pc' := 5) rfl ?_
    refine n_go f_124_5 rfl (pc' := 6) rfl ?_
    refine n_gf f_124_6 rfl (by assumption) rfl ?_
    refine n_ic_ge f_124_9 rfl rfl ⟨by omega, by omega⟩ (fun e9 => absurd e9 (by omega)) (fun _ => ?_)
    refine n_go f_124_12 rfl (pc' := 13) (st' := .int (iI 2) :: _) rfl ?_
    refine n_go f_124_13 rfl (pc' := 14) rfl ?_
    refine n_gf f_124_14 rfl (by assumption) rfl ?_
    refine n_go f_124_17 rfl (pc' := 18) rfl ?_
    refine n_ial f_124_18 rfl (by assumption) (by unfold ev_ext; omega) (by omega) ?_
    refine n_cs (ls' := [_]) f_124_19 (by decide) m_161 rfl rfl ?_
    refine c_digitsOf hd ?_
    show En V _ 124 22 _ [_, _] _ _
    refine n_iadd f_124_22 rfl ?_
    refine n_go f_124_23 rfl (pc' := 25) (ls' := [_, _, _, _, _]) rfl ?_
    refine n_go f_124_25 rfl (pc' := 26) rfl ?_
    refine n_go f_124_26 rfl (pc' := 28) rfl ?_
    refine n_ic_ge f_124_28 rfl rfl ⟨by omega, by omega⟩ (fun e9 => absurd e9 (by omega)) (fun _ => ?_)
    refine n_go f_124_31 rfl (pc' := 32) rfl ?_
    refine n_go f_124_32 rfl (pc' := 33) rfl ?_
    refine n_go f_124_33 rfl (pc' := 34) rfl ?_
    refine n_cv (ls' := [_, _, _, _, _, _, _]) f_124_34 (by decide) m_162 rfl rfl (by assumption) rfl ?_
    refine c_editAt hC0 hs e hx hr ?_
    show En V _ 124 37 _ [_] _ _
    refine n_rtc f_124_37 rfl (by omega) ?_
    exact KK
end CT
