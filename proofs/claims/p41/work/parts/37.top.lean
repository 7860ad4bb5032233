/-! The whole object: what holds of its cells; its small methods. -/
def dkA (b : Int) : Option Nat := some (45 + 6 * b.toNat)
/-- stock, history, branches, heads, desks -/
abbrev dW : Type := dK × dH × Int × (Int → Int) × (Int → dS)
abbrev wK (w : dW) : dK := w.1
abbrev wH (w : dW) : dH := w.2.1
abbrev wB (w : dW) : Int := w.2.2.1
abbrev wE (w : dW) : Int → Int := w.2.2.2.1
abbrev wD (w : dW) : Int → dS := w.2.2.2.2
def Tp (h : ev_H) (nb : Int) (hd : Int → Int) : Prop := h.1[0]? = some (.inr (0, [.ref 1, .ref 10, .ref 12, .ref 23, .ref 25, .ref 28, .ref 30, .ref 36, .ref 37, .int (iI nb), .ref 38, .ref 44])) ∧ h.1[36]? = some (aR 3 5 dkA) ∧ h.1[37]? = some (aI 5 hd) ∧ (1 ≤ nb ∧ nb ≤ 3) ∧ ∀ b, 0 ≤ hd b ∧ hd b < 6
/-- cells that calls write for themselves -/
def scr (j : Nat) : Prop := j = 11 ∨ (25 ≤ j ∧ j ≤ 27) ∨ j = 29 ∨ (38 ≤ j ∧ j ≤ 44)
def Sq (h : ev_H) : Prop := (∃ t, h.1[11]? = some (aI 40 t)) ∧ (∃ T, St h 38 T) ∧ Sc h ∧ (∃ t, h.1[29]? = some (aI 40 t)) ∧ ∃ f, h.1[44]? = some (aL 40 f)
def Wd (h : ev_H) (w : dW) : Prop := Sk h (wK w) ∧ Hi h (wH w) ∧ Tp h (wB w) (wE w) ∧ (∀ b, 0 ≤ b → b < 5 → St h (45 + 6 * b.toNat) (wD w b)) ∧ Sq h ∧ h.1[28]? = some (.inr (8, [.ref 1, .ref 10, .ref 29])) ∧ h.1[23]? = some (.inr (6, [.ref 10, .ref 12, .ref 24])) ∧ (∀ b, 0 ≤ b → b < wB w → wE w b < hN (wH w)) ∧ h.2.1 = h.1.length
theorem Hi.of {h h' : ev_H} {H : dH} (hH : Hi h H) (he : ∀ j, (12 ≤ j ∧ j ≤ 16) ∨ j = 75 ∨ j = 76 ∨ j = 77 ∨ j = 78 ∨ j = 79 ∨ j = 80 ∨ j = 81 ∨ (92 ≤ j ∧ j < h.1.length) → h'.1[j]? = h.1[j]?) : Hi h' H := by
  obtain ⟨h1, ⟨mc, h2⟩, ⟨f, h3, h3'⟩, h4, h5, h6, h7, hr⟩ := hH
  refine ⟨(he 12 (by omega)).trans h1, ⟨mc, (he 13 (by omega)).trans h2⟩, ⟨f, (he 81 (by omega)).trans h3, h3'⟩, (he 14 (by omega)).trans h4, (he 15 (by omega)).trans h5, (he 16 (by omega)).trans h6, fun v g1 g2 => ?_, hr⟩
  have hv := h7 v g1 g2
  have ha := hr.2.2.2.2 v g1 g2
  have hl : hA H v + 5 < h.1.length := (List.getElem?_eq_some_iff.mp hv.2.2.2.2.2.1).1
  exact hv.of (fun j j1 j2 => he j (by omega))
/-- all but the scratch cells is as it was -/
theorem Wd.of {h h' : ev_H} {w : dW} (hW : Wd h w) (he : ∀ j, j < h.1.length → ¬ scr j → h'.1[j]? = h.1[j]?) (hq : Sq h') (hl : h'.2.1 = h'.1.length) : Wd h' w := by
  obtain ⟨wk, wh, wt, wd, wq, w28, w23, we, wl⟩ := hW
  have e81 : 81 < h.1.length := by
    obtain ⟨-, -, ⟨f, h3, -⟩, -⟩ := wh
    exact (List.getElem?_eq_some_iff.mp h3).1
  have he2 : ∀ j, j ≤ 81 → ¬ scr j → h'.1[j]? = h.1[j]? := fun j j1 j2 => he j (by omega) j2
  refine ⟨wk.of (fun j j1 j2 => he2 j (by omega) (by unfold scr; omega)), wh.of (fun j j1 => he j (by omega) (by unfold scr; omega)), ?_, fun b b1 b2 => (wd b b1 b2).of (fun j j1 j2 => he2 j (by omega) (by unfold scr; omega)), hq, (he2 28 (by decide) (by unfold scr; omega)).trans w28, (he2 23 (by decide) (by unfold scr; omega)).trans w23, we, hl⟩
  exact ⟨(he2 0 (by decide) (by unfold scr; omega)).trans wt.1, (he2 36 (by decide) (by unfold scr; omega)).trans wt.2.1, (he2 37 (by decide) (by unfold scr; omega)).trans wt.2.2.1, wt.2.2.2⟩
/-- a call that makes nothing and writes nothing from cell 82 on -/
def Qk (h h' : ev_H) : Prop := h'.2 = h.2 ∧ h'.1.length = h.1.length ∧ ∀ j, 82 ≤ j → h'.1[j]? = h.1[j]?
theorem Qk.rf (h : ev_H) : Qk h h := ⟨rfl, rfl, fun _ _ => rfl⟩
theorem Qk.tr {a b c : ev_H} (h1 : Qk a b) (h2 : Qk b c) : Qk a c := ⟨h2.1.trans h1.1, h2.2.1.trans h1.2.1, fun j hj => (h2.2.2 j hj).trans (h1.2.2 j hj)⟩
theorem Qk.set {h : ev_H} {a : Nat} {c : ev_C} (ha : a < 82) : Qk h (ev_set h a c) := ⟨rfl, g_len, fun j hj => g_ne (by omega)⟩
theorem Qk.wS {h : ev_H} {a : Nat} {S : dS} (ha : a + 5 < 82) : Qk h (wS h a S) := ⟨rfl, wS_len, fun j hj => wS_out (by omega)⟩
theorem wC_len {h : ev_H} {s : Int} {fk fn : Int → Int} : (wC h s fk fn).1.length = h.1.length := by
  unfold wC
  rw [g_len, g_len, g_len]
theorem Qk.wC {h : ev_H} {s : Int} {fk fn : Int → Int} : Qk h (wC h s fk fn) := ⟨rfl, wC_len, fun j hj => wC_o (by omega)⟩
theorem Wd.wC {h : ev_H} {w : dW} {s : Int} {fk fn : Int → Int} (hW : Wd h w) : Wd (wC h s fk fn) w := by
  obtain ⟨⟨t, q1⟩, ⟨T, q2⟩, q3, ⟨t2, q4⟩, ⟨f, q5⟩⟩ := hW.2.2.2.2.1
  refine hW.of (fun j _ hj => wC_o (by unfold scr at hj; omega)) ⟨⟨t, (wC_o (by omega)).trans q1⟩, ⟨T, wC_St q2 (by omega)⟩, wC_Sc q3, ⟨t2, (wC_o (by omega)).trans q4⟩, ⟨f, (wC_o (by omega)).trans q5⟩⟩ ?_
  rw [wC_len]
  exact hW.2.2.2.2.2.2.2.2
theorem Wd.tly {h : ev_H} {w : dW} {f : Int → Int} (hW : Wd h w) : Wd (ev_set h 11 (aI 40 f)) w := by
  obtain ⟨⟨t, q1⟩, ⟨T, q2⟩, q3, ⟨t2, q4⟩, ⟨f2, q5⟩⟩ := hW.2.2.2.2.1
  refine hW.of (fun j _ hj => g_ne (by unfold scr at hj; omega)) ⟨⟨f, g_eq q1⟩, ⟨T, q2.set (by omega)⟩, q3.of (fun j j1 j2 => g_ne (by omega)), ⟨t2, (g_ne (by decide)).trans q4⟩, ⟨f2, (g_ne (by decide)).trans q5⟩⟩ ?_
  rw [g_len]
  exact hW.2.2.2.2.2.2.2.2
theorem Wd.prt {h : ev_H} {w : dW} {t : Int → Int} {f : Int → Int64} (hW : Wd h w) : Wd (ev_set (ev_set h 29 (aI 40 t)) 44 (aL 40 f)) w := by
  obtain ⟨⟨t1, q1⟩, ⟨T, q2⟩, q3, ⟨t2, q4⟩, ⟨f2, q5⟩⟩ := hW.2.2.2.2.1
  refine hW.of (fun j _ hj => (g_ne (by unfold scr at hj; omega)).trans (g_ne (by unfold scr at hj; omega))) ⟨⟨t1, (g_ne (by decide)).trans ((g_ne (by decide)).trans q1)⟩, ⟨T, (q2.set (by omega)).set (by omega)⟩, (q3.of (fun j j1 j2 => g_ne (by omega))).of (fun j j1 j2 => g_ne (by omega)), ⟨t, (g_ne (by decide)).trans (g_eq q4)⟩, ⟨f, g_eq ((g_ne (by decide)).trans q5)⟩⟩ ?_
  rw [g_len, g_len]
  exact hW.2.2.2.2.2.2.2.2
theorem Wd.trl {h : ev_H} {w : dW} {T : dS} (hW : Wd h w) (hr : rS T) : Wd (wS h 38 T) w := by
  obtain ⟨⟨t1, q1⟩, ⟨T0, q2⟩, q3, ⟨t2, q4⟩, ⟨f2, q5⟩⟩ := hW.2.2.2.2.1
  refine hW.of (fun j _ hj => wS_out (by unfold scr at hj; omega)) ⟨⟨t1, (wS_out (by decide)).trans q1⟩, ⟨T, wS_St q2 hr⟩, q3.of (fun j j1 j2 => wS_out (by omega)), ⟨t2, (wS_out (by decide)).trans q4⟩, ⟨f2, (wS_out (by decide)).trans q5⟩⟩ ?_
  rw [wS_len]
  exact hW.2.2.2.2.2.2.2.2
theorem Wd.psh {h : ev_H} {w : dW} {c : ev_C} {n : Nat} (hW : Wd h w) : Wd (ev_push h c n) w := by
  obtain ⟨⟨t1, q1⟩, ⟨T0, q2⟩, q3, ⟨t2, q4⟩, ⟨f2, q5⟩⟩ := hW.2.2.2.2.1
  have hl := hW.2.2.2.2.2.2.2.2
  have he : ∀ j, j < h.1.length → (ev_push h c n).1[j]? = h.1[j]? := fun j hj => by
    unfold ev_push
    dsimp only
    rw [List.getElem?_append_left hj]
  have e44 : 44 < h.1.length := (List.getElem?_eq_some_iff.mp q5).1
  refine hW.of (fun j j1 _ => he j j1) ⟨⟨t1, g_pu q1⟩, ⟨T0, q2.of (fun j j1 j2 => he j (by omega))⟩, q3.of (fun j j1 j2 => he j (by omega)), ⟨t2, g_pu q4⟩, ⟨f2, g_pu q5⟩⟩ ?_
  unfold ev_push
  dsimp only
  rw [hl, List.length_append]
  rfl
/-- an exception's object at the heap's end -/
def xH (h : ev_H) (k : Nat) : ev_H := ev_push h (.inr (k, [])) 6
section CT
variable {V : ev_V} {d : Nat} {h : ev_H} {P : ev_O → ev_H → Prop} {a : Nat} {w : dW} {S : dS} {n k b v c m : Int}
theorem c_needBranch (hW : Wd h w) (hb : 0 ≤ b ∧ b < wB w) (KK : P (.inl none) h) : En V d 61 0 [some (.ref 0), some (.int (iI b))] [] h P := by
  obtain ⟨wk, wh, wt, wd, wq, w28, w23, we, wl⟩ := hW
  obtain ⟨t0, t1, t2, t3, t4⟩ := wt
  refine n_go f_61_0 rfl (pc' := 1) rfl ?_
  refine n_if_lt f_61_1 rfl rfl (by omega) (fun e9 => absurd e9 (by omega)) (fun _ => ?_)
  refine n_go f_61_4 rfl (pc' := 5) rfl ?_
  refine n_go f_61_5 rfl (pc' := 6) rfl ?_
  refine n_gf f_61_6 rfl (by assumption) rfl ?_
  refine n_ic_lt f_61_9 rfl rfl ⟨by omega, by omega⟩ (fun _ => ?_) (fun e9 => absurd (by omega) e9)
  refine n_ret f_61_23 rfl rfl ?_
  exact KK
theorem c_needVersion (hW : Wd h w) (hv : 0 ≤ v ∧ v < hN (wH w)) (KK : P (.inl none) h) : En V (d + 2) 81 0 [some (.ref 0), some (.int (iI v))] [] h P := by
  obtain ⟨wk, wh, wt, wd, wq, w28, w23, we, wl⟩ := hW
  obtain ⟨t0, t1, t2, t3, t4⟩ := wt
  have h12 := wh.1
  have r1 := wh.2.2.2.2.2.2.2.1
  refine n_go f_81_0 rfl (pc' := 1) rfl ?_
  refine n_if_lt f_81_1 rfl rfl (by omega) (fun e9 => absurd e9 (by omega)) (fun _ => ?_)
  refine n_go f_81_4 rfl (pc' := 5) rfl ?_
  refine n_go f_81_5 rfl (pc' := 6) rfl ?_
  refine n_gf f_81_6 rfl (by assumption) rfl ?_
  refine n_cv (ls' := [_]) f_81_9 (by decide) m_69 rfl rfl (by assumption) rfl ?_
  refine c_hcount wh ?_
  show En V _ 81 12 _ [_, _] _ _
  refine n_ic_lt f_81_12 rfl rfl ⟨by omega, by omega⟩ (fun _ => ?_) (fun e9 => absurd (by omega) e9)
  refine n_ret f_81_26 rfl rfl ?_
  exact KK
theorem c_needNode (hW : Wd h w) (hv : 0 ≤ v ∧ v < kN (wK w)) (KK : P (.inl none) h) : En V (d + 1) 132 0 [some (.ref 0), some (.int (iI v))] [] h P := by
  obtain ⟨wk, wh, wt, wd, wq, w28, w23, we, wl⟩ := hW
  obtain ⟨t0, t1, t2, t3, t4⟩ := wt
  have k1 := wk.1
  have kr := wk.2.2.2.2.2.2.2.2.2.2.1
  refine n_go f_132_0 rfl (pc' := 1) rfl ?_
  refine n_if_lt f_132_1 rfl rfl (by omega) (fun e9 => absurd e9 (by omega)) (fun _ => ?_)
  refine n_go f_132_4 rfl (pc' := 5) rfl ?_
  refine n_go f_132_5 rfl (pc' := 6) rfl ?_
  refine n_gf f_132_6 rfl (by assumption) rfl ?_
  refine n_cv (ls' := [_]) f_132_9 (by decide) m_168 rfl rfl (by assumption) rfl ?_
  refine c_nodeCount wk ?_
  show En V _ 132 12 _ [_, _] _ _
  refine n_ic_lt f_132_12 rfl rfl ⟨by omega, by omega⟩ (fun _ => ?_) (fun e9 => absurd (by omega) e9)
  refine n_ret f_132_26 rfl rfl ?_
  exact KK
theorem c_needThere (hS : St h a S) (hn : -2147483648 ≤ n ∧ n < 2147483648) (K1 : hs S n = true → P (.inl none) h) (K2 : hs S n = false → P (.inr 11) (xH h 11)) : En V (d + 1) 94 0 [some (.ref 0), some (.ref a), some (.int (iI n))] [] h P := by
  have s0 := hS.1
  refine n_go f_94_0 rfl (pc' := 1) rfl ?_
  refine n_go f_94_1 rfl (pc' := 2) rfl ?_
  refine n_cv (ls' := [_, _]) f_94_2 (by decide) m_133 rfl rfl (by assumption) rfl ?_
  refine c_has hS hn ?_
  show En V _ 94 5 _ [_] _ _
  refine n_ib_ne f_94_5 rfl rfl (fun e => ?_) (fun e => ?_)
  · refine n_ret f_94_19 rfl rfl ?_
    exact K1 e
  · refine n_thr f_94_8 rfl rfl ?_
    exact K2 e
theorem c_needRange (hn : -2147483648 ≤ n ∧ n < 2147483648) (hm : -2147483648 ≤ m ∧ m < 2147483648) (K1 : 0 ≤ n → n ≤ m → P (.inl none) h) (K2 : ¬ (0 ≤ n ∧ n ≤ m) → P (.inr 12) (xH h 12)) : En V d 82 0 [some (.ref 0), some (.int (iI n)), some (.int (iI m))] [] h P := by
  refine n_go f_82_0 rfl (pc' := 1) rfl ?_
  refine n_if_lt f_82_1 rfl rfl (by omega) (fun e => ?_) (fun e => ?_)
  · refine n_thr f_82_9 rfl rfl ?_
    exact K2 (by omega)
  refine n_go f_82_4 rfl (pc' := 5) rfl ?_
  refine n_go f_82_5 rfl (pc' := 6) rfl ?_
  refine n_ic_le f_82_6 rfl rfl ⟨by omega, by omega⟩ (fun e2 => ?_) (fun e2 => ?_)
  · refine n_ret f_82_20 rfl rfl ?_
    exact K1 (by omega) e2
  · refine n_thr f_82_9 rfl rfl ?_
    exact K2 (by omega)
theorem c_needNoRoot (hn : -2147483648 ≤ n ∧ n < 2147483648) (K1 : ¬ n = 0 → P (.inl none) h) (K2 : n = 0 → P (.inr 13) (xH h 13)) : En V d 104 0 [some (.ref 0), some (.int (iI n))] [] h P := by
  refine n_go f_104_0 rfl (pc' := 1) rfl ?_
  refine n_if_ne f_104_1 rfl rfl (by omega) (fun e => ?_) (fun e => ?_)
  · refine n_ret f_104_15 rfl rfl ?_
    exact K1 e
  · refine n_thr f_104_4 rfl rfl ?_
    exact K2 (by omega)
theorem c_needHolderKind (hW : Wd h w) (hn : 0 ≤ n ∧ n < 40) (K1 : kK (wK w) n ≤ 1 → P (.inl none) h) (K2 : ¬ kK (wK w) n ≤ 1 → P (.inr 13) (xH h 13)) : En V (d + 1) 96 0 [some (.ref 0), some (.int (iI n)), none] [] h P := by
  obtain ⟨wk, wh, wt, wd, wq, w28, w23, we, wl⟩ := hW
  obtain ⟨t0, t1, t2, t3, t4⟩ := wt
  have k1 := wk.1
  have kr := wk.2.2.2.2.2.2.2.2.2.2.2.2.2.1 n
  refine n_go f_96_0 rfl (pc' := 1) rfl ?_
  refine n_gf f_96_1 rfl (by assumption) rfl ?_
  refine n_go f_96_4 rfl (pc' := 5) rfl ?_
  refine n_cv (ls' := [_, _]) f_96_5 (by decide) m_108 rfl rfl (by assumption) rfl ?_
  refine c_kindOf wk hn ?_
  show En V _ 96 8 _ [_] _ _
  refine n_go f_96_8 rfl (pc' := 9) (ls' := [_, _, _]) rfl ?_
  refine n_go f_96_9 rfl (pc' := 10) rfl ?_
  refine n_if_eq f_96_10 rfl rfl (by omega) (fun e => ?_) (fun e => ?_)
  · refine n_ret f_96_29 rfl rfl ?_
    exact K1 (by omega)
  refine n_go f_96_13 rfl (pc' := 14) rfl ?_
  refine n_go f_96_14 rfl (pc' := 15) (st' := .int (iI 1) :: _) rfl ?_
  refine n_ic_eq f_96_15 rfl rfl ⟨by omega, by omega⟩ (fun e2 => ?_) (fun e2 => ?_)
  · refine n_ret f_96_29 rfl rfl ?_
    exact K1 (by omega)
  · refine n_thr f_96_18 rfl rfl ?_
    exact K2 (by omega)
theorem c_deskOf (hW : Wd h w) (hb : 0 ≤ b ∧ b < wB w) (KK : P (.inl (some (.ref (45 + 6 * b.toNat)))) h) : En V (d + 1) 59 0 [some (.ref 0), some (.int (iI b))] [] h P := by
  have hW0 := hW
  obtain ⟨wk, wh, wt, wd, wq, w28, w23, we, wl⟩ := hW
  obtain ⟨t0, t1, t2, t3, t4⟩ := wt
  refine n_go f_59_0 rfl (pc' := 1) rfl ?_
  refine n_go f_59_1 rfl (pc' := 2) rfl ?_
  refine n_cv (ls' := [_, _]) f_59_2 (by decide) m_61 rfl rfl (by assumption) rfl ?_
  refine c_needBranch hW0 hb ?_
  show En V _ 59 5 _ [] _ _
  refine n_go f_59_5 rfl (pc' := 6) rfl ?_
  refine n_gf f_59_6 rfl (by assumption) rfl ?_
  refine n_go f_59_9 rfl (pc' := 10) rfl ?_
  refine n_aal f_59_10 rfl (by assumption) (by omega) (rfl) ?_
  refine n_ret f_59_11 rfl rfl ?_
  exact KK
theorem c_headState (hW : Wd h w) (hb : 0 ≤ b ∧ b < wB w) (KK : P (.inl (some (.ref (hA (wH w) (wE w b))))) h) : En V (d + 4) 128 0 [some (.ref 0), some (.int (iI b))] [] h P := by
  have hW0 := hW
  obtain ⟨wk, wh, wt, wd, wq, w28, w23, we, wl⟩ := hW
  obtain ⟨t0, t1, t2, t3, t4⟩ := wt
  have h12 := wh.1
  have e1 := we b hb.1 hb.2
  have e2 := t4 b
  refine n_go f_128_0 rfl (pc' := 1) rfl ?_
  refine n_go f_128_1 rfl (pc' := 2) rfl ?_
  refine n_cv (ls' := [_, _]) f_128_2 (by decide) m_61 rfl rfl (by assumption) rfl ?_
  refine c_needBranch hW0 hb ?_
  show En V _ 128 5 _ [] _ _
  refine n_go f_128_5 rfl (pc' := 6) rfl ?_
  refine n_gf f_128_6 rfl (by assumption) rfl ?_
  refine n_go f_128_9 rfl (pc' := 10) rfl ?_
  refine n_gf f_128_10 rfl (by assumption) rfl ?_
  refine n_go f_128_13 rfl (pc' := 14) rfl ?_
  refine n_ial f_128_14 rfl (by assumption) (by unfold ev_ext; omega) (by omega) ?_
  refine n_cv (ls' := [_, _]) f_128_15 (by decide) m_60 rfl rfl (by assumption) rfl ?_
  refine c_stateOf wh ⟨e2.1, e1⟩ ?_
  show En V _ 128 18 _ [_] _ _
  refine n_ret f_128_18 rfl rfl ?_
  exact KK
/-- a view: a version, or a desk as -1 less its branch -/
def vwO (w : dW) (v : Int) : Prop := (0 ≤ v ∧ v < hN (wH w)) ∨ (v < 0 ∧ -1 - v < wB w)
def vwA (w : dW) (v : Int) : Nat := if v < 0 then 45 + 6 * (-1 - v).toNat else hA (wH w) v
def vwS (w : dW) (v : Int) : dS := if v < 0 then wD w (-1 - v) else hV (wH w) v
theorem Wd.vw (hW : Wd h w) (hv : vwO w v) : St h (vwA w v) (vwS w v) ∧ (45 ≤ vwA w v) ∧ ¬ (77 ≤ vwA w v ∧ vwA w v < 92) := by
  obtain ⟨wk, wh, wt, wd, wq, w28, w23, we, wl⟩ := hW
  have t3 := wt.2.2.2.1
  unfold vwA vwS
  rcases hv with ⟨v1, v2⟩ | ⟨v1, v2⟩
  · rw [if_neg (by omega), if_neg (by omega)]
    have := wh.2.2.2.2.2.2.2.2.2.2.2 v v1 v2
    exact ⟨wh.2.2.2.2.2.2.1 v v1 v2, by omega, by omega⟩
  · rw [if_pos v1, if_pos v1]
    exact ⟨wd _ (by omega) (by omega), by omega, by omega⟩
theorem c_viewed (hW : Wd h w) (hv : vwO w v) (KK : P (.inl (some (.ref (vwA w v)))) h) : En V (d + 4) 55 0 [some (.ref 0), some (.int (iI v))] [] h P := by
  have hW0 := hW
  obtain ⟨wk, wh, wt, wd, wq, w28, w23, we, wl⟩ := hW
  obtain ⟨t0, t1, t2, t3, t4⟩ := wt
  have h12 := wh.1
  have r1 := wh.2.2.2.2.2.2.2.1
  unfold vwA at KK
  rcases hv with ⟨v1, v2⟩ | ⟨v1, v2⟩
  · rw [if_neg (by omega)] at KK
    refine n_go f_55_0 rfl (pc' := 1) rfl ?_
    refine n_if_ge f_55_1 rfl rfl (by omega) (fun _ => ?_) (fun e9 => absurd (by omega) e9)
    refine n_go f_55_12 rfl (pc' := 13) rfl ?_
    refine n_go f_55_13 rfl (pc' := 14) rfl ?_
    refine n_cv (ls' := [_, _]) f_55_14 (by decide) m_81 rfl rfl (by assumption) rfl ?_
    refine c_needVersion hW0 ⟨v1, v2⟩ ?_
    show En V _ 55 17 _ [] _ _
    refine n_go f_55_17 rfl (pc' := 18) rfl ?_
    refine n_gf f_55_18 rfl (by assumption) rfl ?_
    refine n_go f_55_21 rfl (pc' := 22) rfl ?_
    refine n_cv (ls' := [_, _]) f_55_22 (by decide) m_60 rfl rfl (by assumption) rfl ?_
    refine c_stateOf wh ⟨v1, v2⟩ ?_
    show En V _ 55 25 _ [_] _ _
    refine n_ret f_55_25 rfl rfl ?_
    exact KK
  · rw [if_pos (by omega)] at KK
    refine n_go f_55_0 rfl (pc' := 1) rfl ?_
    refine n_if_ge f_55_1 rfl rfl (by omega) (fun e9 => absurd e9 (by omega)) (fun _ => ?_)
    refine n_go f_55_4 rfl (pc' := 5) rfl ?_
    refine n_go f_55_5 rfl (pc' := 6) (st' := .int (iI (-1)) :: _) rfl ?_
    refine n_go f_55_6 rfl (pc' := 7) rfl ?_
    refine n_isub f_55_7 rfl ?_
    refine n_cv (ls' := [_, _]) f_55_8 (by decide) m_59 rfl rfl (by assumption) rfl ?_
    refine c_deskOf hW0 (by omega) ?_
    show En V _ 55 11 _ [_] _ _
    refine n_ret f_55_11 rfl rfl ?_
    exact KK
end CT
