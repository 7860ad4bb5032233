/-! Cells; the state of a document (spots, tags, aims, words said; conflicts are none), and State's methods. -/
section GG
variable {h : ev_H} {a b j n : Nat} {c c' x : ev_C}
theorem g_eq (hx : h.1[a]? = some x) : (ev_set h a c).1[a]? = some c := by
  have := (List.getElem?_eq_some_iff.mp hx).1
  simp [ev_set, this]
theorem g_ne (hne : ¬ a = j) : (ev_set h a c).1[j]? = h.1[j]? := by
  simp [ev_set, List.getElem?_set, hne]
theorem g_ss : ev_set (ev_set h a c) a c' = ev_set h a c' := by
  simp [ev_set, List.set_set]
theorem g_sf (hx : h.1[a]? = some c) : ev_set h a c = h := by
  unfold ev_set
  refine Prod.ext (List.ext_getElem? fun k => ?_) rfl
  dsimp only
  rw [List.getElem?_set]
  split
  · next e =>
    subst e
    rw [hx, if_pos (List.getElem?_eq_some_iff.mp hx).1]
  · rfl
theorem g_cm (hne : ¬ a = b) : ev_set (ev_set h a c) b c' = ev_set (ev_set h b c') a c := by
  unfold ev_set
  dsimp only
  rw [List.set_comm _ _ hne]
theorem g_pu (hx : h.1[a]? = some x) : (ev_push h c n).1[a]? = some x := by
  unfold ev_push
  dsimp only
  rw [List.getElem?_append_left (List.getElem?_eq_some_iff.mp hx).1]
  exact hx
theorem g_pn (e : h.2.1 = h.1.length) : (ev_push h c n).1[h.2.1]? = some c := by
  unfold ev_push
  dsimp only
  rw [e]
  simp
theorem g_len : (ev_set h a c).1.length = h.1.length := by simp [ev_set]
end GG
abbrev dS : Type := (Int → Int) × (Int → Int) × (Int → Int) × (Int → Bool)
def rS (S : dS) : Prop := ∀ i : Int, (-2 ≤ S.1 i ∧ S.1 i ≤ 1000) ∧ (-2 ≤ S.2.1 i ∧ S.2.1 i ≤ 1000) ∧ (-2 ≤ S.2.2.1 i ∧ S.2.2.1 i ≤ 1000)
def St (h : ev_H) (a : Nat) (S : dS) : Prop := h.1[a]? = some (.inr (5, [.ref (a + 1), .ref (a + 2), .ref (a + 3), .ref (a + 4), .ref (a + 5)])) ∧ h.1[a + 1]? = some (aI 40 S.1) ∧ h.1[a + 2]? = some (aI 40 S.2.1) ∧ h.1[a + 3]? = some (aI 40 S.2.2.1) ∧ h.1[a + 4]? = some (aI 200 (fun _ => 1048576)) ∧ h.1[a + 5]? = some (aB 120 S.2.2.2) ∧ rS S ∧ 12 ≤ a ∧ a + 5 < 1048576
def wS (h : ev_H) (a : Nat) (S : dS) : ev_H := ev_set (ev_set (ev_set (ev_set h (a + 1) (aI 40 S.1)) (a + 2) (aI 40 S.2.1)) (a + 3) (aI 40 S.2.2.1)) (a + 5) (aB 120 S.2.2.2)
/-- a node's value, of those that are not there -2 -/
def gS (f : Int → Int) (n : Int) : Int := if 0 ≤ n ∧ n < 40 then f n else -2
def hs (S : dS) (n : Int) : Bool := decide (0 ≤ n ∧ n < 40 ∧ ¬ S.2.1 n = -2)
def vS (S : dS) (k : Int) : Int → Int := if k = 0 then S.1 else if k = 1 then S.2.1 else if k = 2 then S.2.2.1 else fun _ => -2
def uS (S : dS) (k n v : Int) : dS := if k = 0 then (uz S.1 n v, S.2) else if k = 1 then (S.1, uz S.2.1 n v, S.2.2) else if k = 2 then (S.1, S.2.1, uz S.2.2.1 n v, S.2.2.2) else S
section WS
variable {h : ev_H} {a b j : Nat} {S T : dS} {f : Int → Int} {fb : Int → Bool} {n k v : Int}
theorem wS_1 (hS : St h a S) : ev_set h (a + 1) (aI 40 f) = wS h a (f, S.2) := by
  obtain ⟨s0, s1, s2, s3, s4, s5, sr, sx⟩ := hS
  unfold wS
  rw [g_sf (a := a + 2) (by rw [g_ne (by omega)]; exact s2), g_sf (a := a + 3) (by rw [g_ne (by omega)]; exact s3), g_sf (a := a + 5) (by rw [g_ne (by omega)]; exact s5)]
theorem wS_2 (hS : St h a S) : ev_set h (a + 2) (aI 40 f) = wS h a (S.1, f, S.2.2) := by
  obtain ⟨s0, s1, s2, s3, s4, s5, sr, sx⟩ := hS
  unfold wS
  rw [g_sf (a := a + 1) s1, g_sf (a := a + 3) (by rw [g_ne (by omega)]; exact s3), g_sf (a := a + 5) (by rw [g_ne (by omega)]; exact s5)]
theorem wS_3 (hS : St h a S) : ev_set h (a + 3) (aI 40 f) = wS h a (S.1, S.2.1, f, S.2.2.2) := by
  obtain ⟨s0, s1, s2, s3, s4, s5, sr, sx⟩ := hS
  unfold wS
  rw [g_sf (a := a + 1) s1, g_sf (a := a + 2) s2, g_sf (a := a + 5) (by rw [g_ne (by omega)]; exact s5)]
theorem wS_5 (hS : St h a S) : ev_set h (a + 5) (aB 120 fb) = wS h a (S.1, S.2.1, S.2.2.1, fb) := by
  obtain ⟨s0, s1, s2, s3, s4, s5, sr, sx⟩ := hS
  unfold wS
  rw [g_sf (a := a + 1) s1, g_sf (a := a + 2) s2, g_sf (a := a + 3) s3]
theorem wS_self (hS : St h a S) : wS h a S = h := by
  rw [← wS_1 hS (f := S.1)]
  exact g_sf hS.2.1
theorem wS_o (h1 : ¬ a + 1 = j) (h2 : ¬ a + 2 = j) (h3 : ¬ a + 3 = j) (h5 : ¬ a + 5 = j) : (wS h a S).1[j]? = h.1[j]? := by
  unfold wS
  rw [g_ne h5, g_ne h3, g_ne h2, g_ne h1]
theorem wS_out (hj : j ≤ a ∨ a + 6 ≤ j) : (wS h a S).1[j]? = h.1[j]? := wS_o (by omega) (by omega) (by omega) (by omega)
theorem wS_len : (wS h a S).1.length = h.1.length := by
  unfold wS
  rw [g_len, g_len, g_len, g_len]
theorem wS_St (hS : St h a S) (hr : rS T) : St (wS h a T) a T := by
  obtain ⟨s0, s1, s2, s3, s4, s5, sr, sx⟩ := hS
  refine ⟨by rw [wS_out (by omega)]; exact s0, ?_, ?_, ?_, by rw [wS_o (by omega) (by omega) (by omega) (by omega)]; exact s4, ?_, hr, sx⟩
  · unfold wS
    rw [g_ne (by omega), g_ne (by omega), g_ne (by omega)]
    exact g_eq s1
  · unfold wS
    rw [g_ne (by omega), g_ne (by omega)]
    exact g_eq (by rw [g_ne (by omega)]; exact s2)
  · unfold wS
    rw [g_ne (by omega)]
    exact g_eq (by rw [g_ne (by omega), g_ne (by omega)]; exact s3)
  · unfold wS
    exact g_eq (by rw [g_ne (by omega), g_ne (by omega), g_ne (by omega)]; exact s5)
theorem wS_ne (hT : St h b T) (hd : a + 6 ≤ b ∨ b + 6 ≤ a) : St (wS h a S) b T := by
  obtain ⟨s0, s1, s2, s3, s4, s5, sr, sx⟩ := hT
  exact ⟨by rw [wS_out (by omega)]; exact s0, by rw [wS_out (by omega)]; exact s1, by rw [wS_out (by omega)]; exact s2, by rw [wS_out (by omega)]; exact s3, by rw [wS_out (by omega)]; exact s4, by rw [wS_out (by omega)]; exact s5, sr, sx⟩
theorem wS_w : wS (wS h a S) a T = wS h a T := by
  unfold wS
  rw [g_cm (a := a + 5) (b := a + 1) (by omega), g_cm (a := a + 3) (b := a + 1) (by omega), g_cm (a := a + 2) (b := a + 1) (by omega), g_ss,
    g_cm (a := a + 5) (b := a + 2) (by omega), g_cm (a := a + 3) (b := a + 2) (by omega), g_ss, g_cm (a := a + 5) (b := a + 3) (by omega), g_ss, g_ss]
theorem uz_rg {f : Int → Int} {lo hi : Int} (hf : ∀ i, lo ≤ f i ∧ f i ≤ hi) (hv : lo ≤ v ∧ v ≤ hi) (i : Int) : lo ≤ uz f n v i ∧ uz f n v i ≤ hi := by
  unfold uz
  split
  · exact hv
  · exact hf i
theorem uS_r (hr : rS S) (hv : -2 ≤ v ∧ v ≤ 1000) : rS (uS S k n v) := by
  intro i
  unfold uS
  split
  · exact ⟨uz_rg (fun i => (hr i).1) hv i, (hr i).2⟩
  · split
    · exact ⟨(hr i).1, uz_rg (fun i => (hr i).2.1) hv i, (hr i).2.2⟩
    · split
      · exact ⟨(hr i).1, (hr i).2.1, uz_rg (fun i => (hr i).2.2) hv i⟩
      · exact hr i
theorem vS_r (hr : rS S) (i : Int) : -2 ≤ vS S k i ∧ vS S k i ≤ 1000 := by
  unfold vS
  split
  · exact (hr i).1
  · split
    · exact (hr i).2.1
    · split
      · exact (hr i).2.2
      · exact ⟨Int.le_refl (-2), (by decide : (-2 : Int) ≤ 1000)⟩
theorem gS_r {f : Int → Int} (hf : ∀ i, -2 ≤ f i ∧ f i ≤ 1000) (i : Int) : -2 ≤ gS f i ∧ gS f i ≤ 1000 := by
  unfold gS
  split
  · exact hf i
  · exact ⟨by decide, by decide⟩
end WS
section CS
variable {V : ev_V} {d : Nat} {h : ev_H} {P : ev_O → ev_H → Prop} {a b : Nat} {S T : dS} {n k v : Int} {sb : Bool}
theorem c_has (hS : St h a S) (hn : -2147483648 ≤ n ∧ n < 2147483648) (KK : P (.inl (some (.int (iI (b2 (hs S n)))))) h) : En V d 133 0 [some (.ref a), some (.int (iI n))] [] h P := by
  obtain ⟨s0, s1, s2, s3, s4, s5, sr, sx⟩ := hS
  have r2 := (sr n).2.1
  refine n_go f_133_0 rfl (pc' := 1) rfl ?_
  refine n_if_lt f_133_1 rfl rfl (by omega) (fun h1 => ?_) (fun h1 => ?_)
  · refine n_go f_133_25 rfl (pc' := 26) (st' := .int (iI 0) :: _) rfl ?_
    first | refine n_rt0 f_133_26 rfl ?_ | refine n_rt1 f_133_26 rfl ?_ | refine n_rtz f_133_26 rfl ?_
    rw [show hs S n = false from decide_eq_false (by omega)] at KK
    exact KK
  refine n_go f_133_4 rfl (pc' := 5) rfl ?_
  refine n_bip (m := 40) f_133_5 rfl (by decide) ?_
  refine n_ic_ge f_133_7 rfl rfl ⟨by omega, by omega⟩ (fun h2 => ?_) (fun h2 => ?_)
  · refine n_go f_133_25 rfl (pc' := 26) (st' := .int (iI 0) :: _) rfl ?_
    first | refine n_rt0 f_133_26 rfl ?_ | refine n_rt1 f_133_26 rfl ?_ | refine n_rtz f_133_26 rfl ?_
    rw [show hs S n = false from decide_eq_false (by omega)] at KK
    exact KK
  refine n_go f_133_10 rfl (pc' := 11) rfl ?_
  refine n_gf f_133_11 rfl (by assumption) rfl ?_
  refine n_go f_133_14 rfl (pc' := 15) rfl ?_
  refine n_ial f_133_15 rfl (by assumption) (by unfold ev_ext; omega) (by omega) ?_
  refine n_bip (m := (-2)) f_133_16 rfl (by decide) ?_
  refine n_ic_eq f_133_18 rfl rfl ⟨by omega, by omega⟩ (fun h3 => ?_) (fun h3 => ?_)
  · refine n_go f_133_25 rfl (pc' := 26) (st' := .int (iI 0) :: _) rfl ?_
    first | refine n_rt0 f_133_26 rfl ?_ | refine n_rt1 f_133_26 rfl ?_ | refine n_rtz f_133_26 rfl ?_
    rw [show hs S n = false from decide_eq_false (by omega)] at KK
    exact KK
  refine n_go f_133_21 rfl (pc' := 22) (st' := .int (iI 1) :: _) rfl ?_
  refine n_go f_133_22 rfl (pc' := 26) rfl ?_
  first | refine n_rt0 f_133_26 rfl ?_ | refine n_rt1 f_133_26 rfl ?_ | refine n_rtz f_133_26 rfl ?_
  rw [show hs S n = true from decide_eq_true (by omega)] at KK
  exact KK
theorem c_spotOf (hS : St h a S) (hn : -2147483648 ≤ n ∧ n < 2147483648) (KK : P (.inl (some (.int (iI (gS S.1 n))))) h) : En V d 147 0 [some (.ref a), some (.int (iI n))] [] h P := by
  obtain ⟨s0, s1, s2, s3, s4, s5, sr, sx⟩ := hS
  unfold gS at KK
  refine n_go f_147_0 rfl (pc' := 1) rfl ?_
  refine n_if_lt f_147_1 rfl rfl (by omega) (fun h1 => ?_) (fun h1 => ?_)
  · rw [if_neg (by omega)] at KK
    refine n_bip (m := (-2)) f_147_19 rfl (by decide) ?_
    refine n_ret f_147_21 rfl rfl ?_
    exact KK
  refine n_go f_147_4 rfl (pc' := 5) rfl ?_
  refine n_bip (m := 40) f_147_5 rfl (by decide) ?_
  refine n_ic_ge f_147_7 rfl rfl ⟨by omega, by omega⟩ (fun h2 => ?_) (fun h2 => ?_)
  · rw [if_neg (by omega)] at KK
    refine n_bip (m := (-2)) f_147_19 rfl (by decide) ?_
    refine n_ret f_147_21 rfl rfl ?_
    exact KK
  rw [if_pos (by omega)] at KK
  refine n_go f_147_10 rfl (pc' := 11) rfl ?_
  refine n_gf f_147_11 rfl (by assumption) rfl ?_
  refine n_go f_147_14 rfl (pc' := 15) rfl ?_
  refine n_ial f_147_15 rfl (by assumption) (by unfold ev_ext; omega) (by omega) ?_
  refine n_go f_147_16 rfl (pc' := 21) rfl ?_
  refine n_ret f_147_21 rfl rfl ?_
  exact KK
theorem c_tagOf (hS : St h a S) (hn : -2147483648 ≤ n ∧ n < 2147483648) (KK : P (.inl (some (.int (iI (gS S.2.1 n))))) h) : En V d 107 0 [some (.ref a), some (.int (iI n))] [] h P := by
  obtain ⟨s0, s1, s2, s3, s4, s5, sr, sx⟩ := hS
  unfold gS at KK
  refine n_go f_107_0 rfl (pc' := 1) rfl ?_
  refine n_if_lt f_107_1 rfl rfl (by omega) (fun h1 => ?_) (fun h1 => ?_)
  · rw [if_neg (by omega)] at KK
    refine n_bip (m := (-2)) f_107_19 rfl (by decide) ?_
    refine n_ret f_107_21 rfl rfl ?_
    exact KK
  refine n_go f_107_4 rfl (pc' := 5) rfl ?_
  refine n_bip (m := 40) f_107_5 rfl (by decide) ?_
  refine n_ic_ge f_107_7 rfl rfl ⟨by omega, by omega⟩ (fun h2 => ?_) (fun h2 => ?_)
  · rw [if_neg (by omega)] at KK
    refine n_bip (m := (-2)) f_107_19 rfl (by decide) ?_
    refine n_ret f_107_21 rfl rfl ?_
    exact KK
  rw [if_pos (by omega)] at KK
  refine n_go f_107_10 rfl (pc' := 11) rfl ?_
  refine n_gf f_107_11 rfl (by assumption) rfl ?_
  refine n_go f_107_14 rfl (pc' := 15) rfl ?_
  refine n_ial f_107_15 rfl (by assumption) (by unfold ev_ext; omega) (by omega) ?_
  refine n_go f_107_16 rfl (pc' := 21) rfl ?_
  refine n_ret f_107_21 rfl rfl ?_
  exact KK
theorem c_valueOf (hS : St h a S) (hn : -2147483648 ≤ n ∧ n < 2147483648) (hk : 0 ≤ k ∧ k < 5) (KK : P (.inl (some (.int (iI (gS (vS S k) n))))) h) : En V d 109 0 [some (.ref a), some (.int (iI n)), some (.int (iI k))] [] h P := by
  obtain ⟨s0, s1, s2, s3, s4, s5, sr, sx⟩ := hS
  unfold gS at KK
  refine n_go f_109_0 rfl (pc' := 1) rfl ?_
  refine n_if_lt f_109_1 rfl rfl (by omega) (fun h1 => ?_) (fun h1 => ?_)
  · rw [if_neg (by omega)] at KK
    refine n_bip (m := (-2)) f_109_10 rfl (by decide) ?_
    refine n_ret f_109_12 rfl rfl ?_
    exact KK
  refine n_go f_109_4 rfl (pc' := 5) rfl ?_
  refine n_bip (m := 40) f_109_5 rfl (by decide) ?_
  refine n_ic_lt f_109_7 rfl rfl ⟨by omega, by omega⟩ (fun h2 => ?_) (fun h2 => ?_)
  · rw [if_pos (by omega)] at KK
    rcases (by omega : k = 0 ∨ k = 1 ∨ k = 2 ∨ k = 3 ∨ k = 4) with rfl | rfl | rfl | rfl | rfl
    · refine n_go f_109_13 rfl (pc' := 14) rfl ?_
      refine n_tsw (t := 40) f_109_14 (by omega) rfl rfl ?_
      refine n_go f_109_40 rfl (pc' := 41) rfl ?_
      refine n_gf f_109_41 rfl (by assumption) rfl ?_
      refine n_go f_109_44 rfl (pc' := 45) rfl ?_
      refine n_ial f_109_45 rfl (by assumption) (by unfold ev_ext; omega) (by omega) ?_
      refine n_ret f_109_46 rfl rfl ?_
      exact KK
    · refine n_go f_109_13 rfl (pc' := 14) rfl ?_
      refine n_tsw (t := 47) f_109_14 (by omega) rfl rfl ?_
      refine n_go f_109_47 rfl (pc' := 48) rfl ?_
      refine n_gf f_109_48 rfl (by assumption) rfl ?_
      refine n_go f_109_51 rfl (pc' := 52) rfl ?_
      refine n_ial f_109_52 rfl (by assumption) (by unfold ev_ext; omega) (by omega) ?_
      refine n_ret f_109_53 rfl rfl ?_
      exact KK
    · refine n_go f_109_13 rfl (pc' := 14) rfl ?_
      refine n_tsw (t := 54) f_109_14 (by omega) rfl rfl ?_
      refine n_go f_109_54 rfl (pc' := 55) rfl ?_
      refine n_gf f_109_55 rfl (by assumption) rfl ?_
      refine n_go f_109_58 rfl (pc' := 59) rfl ?_
      refine n_ial f_109_59 rfl (by assumption) (by unfold ev_ext; omega) (by omega) ?_
      refine n_ret f_109_60 rfl rfl ?_
      exact KK
    · refine n_go f_109_13 rfl (pc' := 14) rfl ?_
      refine n_tsw (t := 61) f_109_14 (by omega) rfl rfl ?_
      refine n_bip (m := (-2)) f_109_61 rfl (by decide) ?_
      refine n_ret f_109_63 rfl rfl ?_
      exact KK
    · refine n_go f_109_13 rfl (pc' := 14) rfl ?_
      refine n_tsw (t := 61) f_109_14 (by omega) rfl rfl ?_
      refine n_bip (m := (-2)) f_109_61 rfl (by decide) ?_
      refine n_ret f_109_63 rfl rfl ?_
      exact KK
  rw [if_neg (by omega)] at KK
  refine n_bip (m := (-2)) f_109_10 rfl (by decide) ?_
  refine n_ret f_109_12 rfl rfl ?_
  exact KK
theorem c_setValue (hS : St h a S) (hn : 0 ≤ n ∧ n < 40) (hk : 0 ≤ k ∧ k < 5) (KK : P (.inl none) (wS h a (uS S k n v))) : En V d 65 0 [some (.ref a), some (.int (iI n)), some (.int (iI k)), some (.int (iI v))] [] h P := by
  have hS0 := hS
  obtain ⟨s0, s1, s2, s3, s4, s5, sr, sx⟩ := hS
  rcases (by omega : k = 0 ∨ k = 1 ∨ k = 2 ∨ k = 3 ∨ k = 4) with rfl | rfl | rfl | rfl | rfl
  · refine n_go f_65_0 rfl (pc' := 1) rfl ?_
    refine n_if_lt f_65_1 rfl rfl (by omega) (fun e9 => absurd e9 (by omega)) (fun _ => ?_)
    refine n_go f_65_4 rfl (pc' := 5) rfl ?_
    refine n_bip (m := 40) f_65_5 rfl (by decide) ?_
    refine n_ic_lt f_65_7 rfl rfl ⟨by omega, by omega⟩ (fun _ => ?_) (fun e9 => absurd (by omega) e9)
    refine n_go f_65_11 rfl (pc' := 12) rfl ?_
    refine n_tsw (t := 40) f_65_12 (by omega) rfl rfl ?_
    refine n_go f_65_40 rfl (pc' := 41) rfl ?_
    refine n_gf f_65_41 rfl (by assumption) rfl ?_
    refine n_go f_65_44 rfl (pc' := 45) rfl ?_
    refine n_go f_65_45 rfl (pc' := 46) rfl ?_
    refine n_ias f_65_46 rfl (by assumption) (by omega) ?_
    refine n_go f_65_47 rfl (pc' := 70) rfl ?_
    refine n_ret f_65_70 rfl rfl ?_
    rw [wS_1 hS0]
    exact KK
  · refine n_go f_65_0 rfl (pc' := 1) rfl ?_
    refine n_if_lt f_65_1 rfl rfl (by omega) (fun e9 => absurd e9 (by omega)) (fun _ => ?_)
    refine n_go f_65_4 rfl (pc' := 5) rfl ?_
    refine n_bip (m := 40) f_65_5 rfl (by decide) ?_
    refine n_ic_lt f_65_7 rfl rfl ⟨by omega, by omega⟩ (fun _ => ?_) (fun e9 => absurd (by omega) e9)
    refine n_go f_65_11 rfl (pc' := 12) rfl ?_
    refine n_tsw (t := 50) f_65_12 (by omega) rfl rfl ?_
    refine n_go f_65_50 rfl (pc' := 51) rfl ?_
    refine n_gf f_65_51 rfl (by assumption) rfl ?_
    refine n_go f_65_54 rfl (pc' := 55) rfl ?_
    refine n_go f_65_55 rfl (pc' := 56) rfl ?_
    refine n_ias f_65_56 rfl (by assumption) (by omega) ?_
    refine n_go f_65_57 rfl (pc' := 70) rfl ?_
    refine n_ret f_65_70 rfl rfl ?_
    rw [wS_2 hS0]
    exact KK
  · refine n_go f_65_0 rfl (pc' := 1) rfl ?_
    refine n_if_lt f_65_1 rfl rfl (by omega) (fun e9 => absurd e9 (by omega)) (fun _ => ?_)
    refine n_go f_65_4 rfl (pc' := 5) rfl ?_
    refine n_bip (m := 40) f_65_5 rfl (by decide) ?_
    refine n_ic_lt f_65_7 rfl rfl ⟨by omega, by omega⟩ (fun _ => ?_) (fun e9 => absurd (by omega) e9)
    refine n_go f_65_11 rfl (pc' := 12) rfl ?_
    refine n_tsw (t := 60) f_65_12 (by omega) rfl rfl ?_
    refine n_go f_65_60 rfl (pc' := 61) rfl ?_
    refine n_gf f_65_61 rfl (by assumption) rfl ?_
    refine n_go f_65_64 rfl (pc' := 65) rfl ?_
    refine n_go f_65_65 rfl (pc' := 66) rfl ?_
    refine n_ias f_65_66 rfl (by assumption) (by omega) ?_
    refine n_go f_65_67 rfl (pc' := 70) rfl ?_
    refine n_ret f_65_70 rfl rfl ?_
    rw [wS_3 hS0]
    exact KK
  · refine n_go f_65_0 rfl (pc' := 1) rfl ?_
    refine n_if_lt f_65_1 rfl rfl (by omega) (fun e9 => absurd e9 (by omega)) (fun _ => ?_)
    refine n_go f_65_4 rfl (pc' := 5) rfl ?_
    refine n_bip (m := 40) f_65_5 rfl (by decide) ?_
    refine n_ic_lt f_65_7 rfl rfl ⟨by omega, by omega⟩ (fun _ => ?_) (fun e9 => absurd (by omega) e9)
    refine n_go f_65_11 rfl (pc' := 12) rfl ?_
    refine n_tsw (t := 70) f_65_12 (by omega) rfl rfl ?_
    refine n_ret f_65_70 rfl rfl ?_
    rw [← wS_self hS0]
    exact KK
  · refine n_go f_65_0 rfl (pc' := 1) rfl ?_
    refine n_if_lt f_65_1 rfl rfl (by omega) (fun e9 => absurd e9 (by omega)) (fun _ => ?_)
    refine n_go f_65_4 rfl (pc' := 5) rfl ?_
    refine n_bip (m := 40) f_65_5 rfl (by decide) ?_
    refine n_ic_lt f_65_7 rfl rfl ⟨by omega, by omega⟩ (fun _ => ?_) (fun e9 => absurd (by omega) e9)
    refine n_go f_65_11 rfl (pc' := 12) rfl ?_
    refine n_tsw (t := 70) f_65_12 (by omega) rfl rfl ?_
    refine n_ret f_65_70 rfl rfl ?_
    rw [← wS_self hS0]
    exact KK
theorem c_conflictOf (hS : St h a S) (hn : -2147483648 ≤ n ∧ n < 2147483648) (hk : 0 ≤ k ∧ k < 5) (KK : P (.inl (some (.int (iI 1048576)))) h) : En V d 176 0 [some (.ref a), some (.int (iI n)), some (.int (iI k))] [] h P := by
  obtain ⟨s0, s1, s2, s3, s4, s5, sr, sx⟩ := hS
  refine n_go f_176_0 rfl (pc' := 1) rfl ?_
  refine n_if_lt f_176_1 rfl rfl (by omega) (fun h1 => ?_) (fun h1 => ?_)
  · refine n_ldc (m := 1048576) f_176_19 rfl (by decide) ?_
    refine n_ret f_176_21 rfl rfl ?_
    exact KK
  refine n_go f_176_4 rfl (pc' := 5) rfl ?_
  refine n_bip (m := 40) f_176_5 rfl (by decide) ?_
  refine n_ic_ge f_176_7 rfl rfl ⟨by omega, by omega⟩ (fun h2 => ?_) (fun h2 => ?_)
  · refine n_ldc (m := 1048576) f_176_19 rfl (by decide) ?_
    refine n_ret f_176_21 rfl rfl ?_
    exact KK
  refine n_go f_176_10 rfl (pc' := 11) rfl ?_
  refine n_if_lt f_176_11 rfl rfl (by omega) (fun e9 => absurd e9 (by omega)) (fun _ => ?_)
  refine n_go f_176_14 rfl (pc' := 15) rfl ?_
  refine n_go f_176_15 rfl (pc' := 16) (st' := .int (iI 5) :: _) rfl ?_
  refine n_ic_lt f_176_16 rfl rfl ⟨by omega, by omega⟩ (fun _ => ?_) (fun e9 => absurd (by omega) e9)
  refine n_go f_176_22 rfl (pc' := 23) rfl ?_
  refine n_gf f_176_23 rfl (by assumption) rfl ?_
  refine n_go f_176_26 rfl (pc' := 27) rfl ?_
  refine n_go f_176_27 rfl (pc' := 28) (st' := .int (iI 5) :: _) rfl ?_
  refine n_imul f_176_28 rfl ?_
  refine n_go f_176_29 rfl (pc' := 30) rfl ?_
  refine n_iadd f_176_30 rfl ?_
  refine n_ial f_176_31 rfl (by assumption) (by unfold ev_ext; omega) (by omega) ?_
  refine n_ret f_176_32 rfl rfl ?_
  exact KK
theorem c_setConflict (hS : St h a S) (hn : 0 ≤ n ∧ n < 40) (hk : 0 ≤ k ∧ k < 5) (KK : P (.inl none) h) : En V d 160 0 [some (.ref a), some (.int (iI n)), some (.int (iI k)), some (.int (iI 1048576))] [] h P := by
  obtain ⟨s0, s1, s2, s3, s4, s5, sr, sx⟩ := hS
  refine n_go f_160_0 rfl (pc' := 1) rfl ?_
  refine n_if_lt f_160_1 rfl rfl (by omega) (fun e9 => absurd e9 (by omega)) (fun _ => ?_)
  refine n_go f_160_4 rfl (pc' := 5) rfl ?_
  refine n_bip (m := 40) f_160_5 rfl (by decide) ?_
  refine n_ic_ge f_160_7 rfl rfl ⟨by omega, by omega⟩ (fun e9 => absurd e9 (by omega)) (fun _ => ?_)
  refine n_go f_160_10 rfl (pc' := 11) rfl ?_
  refine n_if_lt f_160_11 rfl rfl (by omega) (fun e9 => absurd e9 (by omega)) (fun _ => ?_)
  refine n_go f_160_14 rfl (pc' := 15) rfl ?_
  refine n_go f_160_15 rfl (pc' := 16) (st' := .int (iI 5) :: _) rfl ?_
  refine n_ic_ge f_160_16 rfl rfl ⟨by omega, by omega⟩ (fun e9 => absurd e9 (by omega)) (fun _ => ?_)
  refine n_go f_160_19 rfl (pc' := 20) rfl ?_
  refine n_gf f_160_20 rfl (by assumption) rfl ?_
  refine n_go f_160_23 rfl (pc' := 24) rfl ?_
  refine n_go f_160_24 rfl (pc' := 25) (st' := .int (iI 5) :: _) rfl ?_
  refine n_imul f_160_25 rfl ?_
  refine n_go f_160_26 rfl (pc' := 27) rfl ?_
  refine n_iadd f_160_27 rfl ?_
  refine n_go f_160_28 rfl (pc' := 29) rfl ?_
  refine n_ias f_160_29 rfl (by assumption) (by omega) ?_
  refine n_ret f_160_30 rfl rfl ?_
  rw [show uz (fun _ => (1048576 : Int)) (n * 5 + k) 1048576 = fun _ => 1048576 from by funext i; unfold uz; split <;> rfl, g_sf s4]
  exact KK
theorem c_says (hS : St h a S) (hn : 0 ≤ n ∧ n < 120) (KK : P (.inl (some (.int (iI (b2 (S.2.2.2 n)))))) h) : En V d 156 0 [some (.ref a), some (.int (iI n))] [] h P := by
  obtain ⟨s0, s1, s2, s3, s4, s5, sr, sx⟩ := hS
  refine n_go f_156_0 rfl (pc' := 1) rfl ?_
  refine n_if_lt f_156_1 rfl rfl (by omega) (fun e9 => absurd e9 (by omega)) (fun _ => ?_)
  refine n_go f_156_4 rfl (pc' := 5) rfl ?_
  refine n_bip (m := 120) f_156_5 rfl (by decide) ?_
  refine n_ic_ge f_156_7 rfl rfl ⟨by omega, by omega⟩ (fun e9 => absurd e9 (by omega)) (fun _ => ?_)
  refine n_go f_156_10 rfl (pc' := 11) rfl ?_
  refine n_gf f_156_11 rfl (by assumption) rfl ?_
  refine n_go f_156_14 rfl (pc' := 15) rfl ?_
  refine n_bal f_156_15 rfl (by assumption) (by omega) ?_
  refine n_ib_eq f_156_16 rfl rfl (fun e => ?_) (fun e => ?_)
  · rw [e] at KK
    refine n_go f_156_23 rfl (pc' := 24) (st' := .int (iI 0) :: _) rfl ?_
    first | refine n_rt0 f_156_24 rfl ?_ | refine n_rt1 f_156_24 rfl ?_ | refine n_rtz f_156_24 rfl ?_
    exact KK
  · rw [e] at KK
    refine n_go f_156_19 rfl (pc' := 20) (st' := .int (iI 1) :: _) rfl ?_
    refine n_go f_156_20 rfl (pc' := 24) rfl ?_
    first | refine n_rt0 f_156_24 rfl ?_ | refine n_rt1 f_156_24 rfl ?_ | refine n_rtz f_156_24 rfl ?_
    exact KK
theorem c_say (hS : St h a S) (hn : 0 ≤ n ∧ n < 120) (KK : P (.inl none) (wS h a (S.1, S.2.1, S.2.2.1, uz S.2.2.2 n sb))) : En V d 114 0 [some (.ref a), some (.int (iI n)), some (.int (iI (b2 sb)))] [] h P := by
  have hS0 := hS
  obtain ⟨s0, s1, s2, s3, s4, s5, sr, sx⟩ := hS
  refine n_go f_114_0 rfl (pc' := 1) rfl ?_
  refine n_if_lt f_114_1 rfl rfl (by omega) (fun e9 => absurd e9 (by omega)) (fun _ => ?_)
  refine n_go f_114_4 rfl (pc' := 5) rfl ?_
  refine n_bip (m := 120) f_114_5 rfl (by decide) ?_
  refine n_ic_ge f_114_7 rfl rfl ⟨by omega, by omega⟩ (fun e9 => absurd e9 (by omega)) (fun _ => ?_)
  refine n_go f_114_10 rfl (pc' := 11) rfl ?_
  refine n_gf f_114_11 rfl (by assumption) rfl ?_
  refine n_go f_114_14 rfl (pc' := 15) rfl ?_
  refine n_go f_114_15 rfl (pc' := 16) rfl ?_
  refine n_bas f_114_16 rfl (by assumption) (by omega) ?_
  refine n_ret f_114_17 rfl rfl ?_
  rw [wS_5 hS0]
  exact KK
end CS
