/-! Calls that join versions of which one comes from the other. -/
/-- a call that makes so much, at the heap's end -/
def Gr (h h' : ev_H) (c s : Nat) : Prop := h'.1.length = h.1.length + c ∧ h'.2.2 = h.2.2 + s ∧ ∀ j, 82 ≤ j → j < h.1.length → h'.1[j]? = h.1[j]?
theorem Gr.qk {a b c : ev_H} {x y : Nat} (h1 : Gr a b x y) (h2 : Qk b c) : Gr a c x y := ⟨by rw [h2.2.1, h1.1], by rw [h2.1, h1.2.1], fun j hj h3 => (h2.2.2 j hj).trans (h1.2.2 j hj h3)⟩
theorem Qk.gr {a b : ev_H} (h : Qk a b) : Gr a b 0 0 := ⟨h.2.1, by rw [h.1]; rfl, fun j hj _ => h.2.2 j hj⟩
theorem Gr.tr {a b c : ev_H} {x y x' y' : Nat} (h1 : Gr a b x y) (h2 : Gr b c x' y') : Gr a c (x + x') (y + y') := ⟨by rw [h2.1, h1.1]; omega, by rw [h2.2.1, h1.2.1]; omega, fun j hj h3 => (h2.2.2 j hj (by rw [h1.1]; omega)).trans (h1.2.2 j hj h3)⟩
theorem Gr.push (h : ev_H) (c : ev_C) (n : Nat) : Gr h (ev_push h c n) 1 n := ⟨by simp [ev_push], rfl, fun j hj h3 => by unfold ev_push; dsimp only; rw [List.getElem?_append_left h3]⟩
theorem set_push {h : ev_H} {c c' : ev_C} {n : Nat} : ev_set (ev_push h c n) h.1.length c' = ev_push h c' n := by
  unfold ev_set ev_push
  dsimp only
  rw [List.set_append_right _ _ (Nat.le_refl _), Nat.sub_self]
  rfl
theorem edn_self (F : dS) (k : Int) : ∀ n : Nat, edn F F k n = [] := by
  intro n
  induction n with
  | zero => rfl
  | succ n ih =>
    have e : edn F F k (n + 1) = edn F F k n ++ (if due F F k n = true then [(k, (n : Int))] else []) := rfl
    rw [e, ih]
    have hd : due F F k n = false := by
      unfold due
      repeat' split
      all_goals (try rfl)
      all_goals (first | (cases hs F n <;> simp) | (cases F.2.2.2 n <;> simp))
    rw [hd]
    rfl
theorem edk_self (F : dS) : ∀ k : Nat, edk F F k = [] := by
  intro k
  induction k with
  | zero => rfl
  | succ k ih =>
    have e : edk F F (k + 1) = edk F F k ++ edn F F k (lim k).toNat := rfl
    rw [e, ih, edn_self]
    rfl
theorem due_self (F : dS) (k n : Int) : due F F k n = false := by
  unfold due
  repeat' split
  all_goals (try rfl)
  all_goals (first | (cases hs F n <;> simp) | (cases F.2.2.2 n <;> simp))
section CJ
variable {V : ev_V} {d : Nat} {h : ev_H} {P : ev_O → ev_H → Prop} {a : Nat} {w : dW} {S : dS} {n k b v o c m : Int}
theorem c_baseOf (hW : Wd h w) (hv : 0 ≤ v ∧ v < hN (wH w)) (ho : 0 ≤ o ∧ o < hN (wH w)) (i : Nat) (hi : (i : Int) < hN (wH w)) (hl : lcF (wH w) (lin (wH w) v &&& lin (wH w) o) 40 = 2 ^ i) (KK : P (.inl (some (.ref (hA (wH w) i)))) h) : En V (d + 4) 90 0 [some (.ref 23), some (.int (iI v)), some (.int (iI o)), some (.int (iI 0)), none, none, none, none, none, none, none, none, none] [] h P := by
  have hW0 := hW
  obtain ⟨wk, wh, wt, wd, wq, w28, w23, we, wl⟩ := hW
  have h12 := wh.1
  have r1 := wh.2.2.2.2.2.2.2.1
  refine n_go f_90_0 rfl (pc' := 1) rfl ?_
  refine n_gf f_90_1 rfl (by assumption) rfl ?_
  refine n_go f_90_4 rfl (pc' := 6) (ls' := [_, _, _, _, _, _, _, _, _, _, _, _, _]) rfl ?_
  refine n_go f_90_6 rfl (pc' := 8) rfl ?_
  refine n_go f_90_8 rfl (pc' := 9) rfl ?_
  refine n_go f_90_9 rfl (pc' := 10) rfl ?_
  refine n_cv (ls' := [_, _, _, _, _, _, _, _]) f_90_10 (by decide) m_84 rfl rfl (by assumption) rfl ?_
  refine c_lastCommon wh hv ho ?_
  show En V _ 90 13 _ [_] _ _
  rw [hl]
  refine n_go f_90_13 rfl (pc' := 15) (ls' := [_, _, _, _, _, _, _, _, _, _, _, _, _]) rfl ?_
  refine n_go f_90_15 rfl (pc' := 17) rfl ?_
  refine n_go f_90_17 rfl (pc' := 18) (st' := .int (iI 0) :: _) rfl ?_
  refine n_cv (ls' := [_, _]) f_90_18 (by decide) m_60 rfl rfl (by assumption) rfl ?_
  refine c_stateOf wh (by omega) ?_
  show En V _ 90 21 _ [_] _ _
  refine n_go f_90_21 rfl (pc' := 23) (ls' := [_, _, _, _, _, _, _, _, _, _, _, _, _]) rfl ?_
  refine n_go f_90_23 rfl (pc' := 24) (st' := .int (iI (-1)) :: _) rfl ?_
  refine n_go f_90_24 rfl (pc' := 26) (ls' := [_, _, _, _, _, _, _, _, _, _, _, _, _]) rfl ?_
  refine n_go f_90_26 rfl (pc' := 27) (st' := .int (iI 0) :: _) rfl ?_
  refine n_go f_90_27 rfl (pc' := 29) (ls' := [_, _, _, _, _, _, _, _, _, _, _, _, _]) rfl ?_
  refine n_go f_90_29 rfl (pc' := 30) (st' := .int (iI 0) :: _) rfl ?_
  refine n_go f_90_30 rfl (pc' := 32) (ls' := [_, _, _, _, _, _, _, _, _, _, _, _, _]) rfl ?_
  refine n_for (lo := 0) (hi := hN (wH w)) (by omega) (fun j ls st h' => (∃ r m, ls = [some (.ref 23), some (.int (iI v)), some (.int (iI o)), some (.int (iI 0)), some (.ref 12), some (.long (l64 (2 ^ i))), none, some (.ref r), some (.int (iI m)), some (.int (iI 0)), some (.int (iI j)), none, none] ∧ ((j ≤ i ∧ m = -1) ∨ ((i : Int) < j ∧ m = i ∧ r = hA (wH w) i))) ∧ st = [] ∧ h' = h) ⟨⟨_, _, rfl, Or.inl ⟨by omega, rfl⟩⟩, rfl, rfl⟩ ?_ ?_
  · rintro j ls st h' g1 g2 ⟨⟨r, m, rfl, hm⟩, rfl, rfl⟩ kk
    have lb := l_bit ⟨2 ^ i, n6 (by omega)⟩ ⟨j.toNat, by omega⟩
    dsimp only at lb
    rw [show ((j.toNat : Nat) : Int) = j by omega, Nat.testBit_two_pow] at lb
    refine n_go f_90_32 rfl (pc' := 34) rfl ?_
    refine n_go f_90_34 rfl (pc' := 36) rfl ?_
    refine n_cv (ls' := [_]) f_90_36 (by decide) m_69 rfl rfl (by assumption) rfl ?_
    refine c_hcount wh ?_
    show En V _ 90 39 _ [_, _] _ _
    refine n_ic_ge f_90_39 rfl rfl ⟨by omega, by omega⟩ (fun e9 => absurd e9 (by omega)) (fun _ => ?_)
    refine n_go f_90_42 rfl (pc' := 44) rfl ?_
    refine n_go f_90_44 rfl (pc' := 46) rfl ?_
    refine n_go f_90_46 rfl (pc' := 47) rfl ?_
    refine n_go f_90_47 rfl (pc' := 48) rfl ?_
    refine n_go f_90_48 rfl (pc' := 49) rfl ?_
    refine n_go f_90_49 rfl (pc' := 50) rfl ?_
    refine n_go f_90_50 rfl (pc' := 51) rfl ?_
    show En V _ _ 51 _ [.int (lg_cmp ((l64 (2 ^ i) >>> ((iI j).toInt64 &&& 63)) &&& l64 1) (l64 0))] _ _
    rw [lb]
    by_cases hij : i = j.toNat
    · rw [decide_eq_true hij]
      have hm2 : m = -1 := by omega
      subst hm2
      refine n_ib_ne f_90_51 rfl rfl (fun _ => ?_) (fun e9 => absurd (e9.symm.trans (rfl)) (by decide))
      refine n_go f_90_57 rfl (pc' := 59) rfl ?_
      refine n_go f_90_59 rfl (pc' := 60) (st' := .int (iI (-1)) :: _) rfl ?_
      refine n_ic_ne f_90_60 rfl rfl ⟨by omega, by omega⟩ (fun e9 => absurd e9 (by omega)) (fun _ => ?_)
      refine n_go f_90_63 rfl (pc' := 65) rfl ?_
      refine n_go f_90_65 rfl (pc' := 67) (ls' := [_, _, _, _, _, _, _, _, _, _, _, _, _]) rfl ?_
      refine n_go f_90_67 rfl (pc' := 69) rfl ?_
      refine n_go f_90_69 rfl (pc' := 71) rfl ?_
      refine n_cv (ls' := [_, _]) f_90_71 (by decide) m_60 rfl rfl (by assumption) rfl ?_
      refine c_stateOf wh (by omega) ?_
      show En V _ 90 74 _ [_] _ _
      refine n_go f_90_74 rfl (pc' := 76) (ls' := [_, _, _, _, _, _, _, _, _, _, _, _, _]) rfl ?_
      refine n_go f_90_76 rfl (pc' := 147) rfl ?_
      refine n_iinc (m' := 1) (ls' := [_, _, _, _, _, _, _, _, _, _, _, _, _]) f_90_147 rfl rfl rfl rfl ?_
      refine n_go f_90_150 rfl (pc' := 32) rfl ?_
      exact kk _ _ _ ⟨⟨_, _, rfl, Or.inr ⟨by omega, by omega, by rw [show (i : Int) = j by omega]⟩⟩, rfl, rfl⟩
    · rw [decide_eq_false hij]
      refine n_ib_ne f_90_51 rfl rfl (fun e9 => absurd (e9.symm.trans (rfl)) (by decide)) (fun _ => ?_)
      refine n_go f_90_54 rfl (pc' := 147) rfl ?_
      refine n_iinc (m' := 1) (ls' := [_, _, _, _, _, _, _, _, _, _, _, _, _]) f_90_147 rfl rfl rfl rfl ?_
      refine n_go f_90_150 rfl (pc' := 32) rfl ?_
      refine kk _ _ _ ⟨⟨_, _, rfl, ?_⟩, rfl, rfl⟩
      rcases hm with q | q
      · exact Or.inl ⟨by omega, q.2⟩
      · exact Or.inr ⟨by omega, q.2⟩
  · rintro ls st h ⟨⟨r, m, rfl, hm⟩, rfl, rfl⟩
    have hr : r = hA (wH w) i := by
      rcases hm with q | q
      · omega
      · exact q.2.2
    subst hr
    refine n_go f_90_32 rfl (pc' := 34) rfl ?_
    refine n_go f_90_34 rfl (pc' := 36) rfl ?_
    refine n_cv (ls' := [_]) f_90_36 (by decide) m_69 rfl rfl (by assumption) rfl ?_
    refine c_hcount wh ?_
    show En V _ 90 39 _ [_, _] _ _
    refine n_ic_ge f_90_39 rfl rfl ⟨by omega, by omega⟩ (fun _ => ?_) (fun e9 => absurd (by omega) e9)
    refine n_go f_90_153 rfl (pc' := 155) rfl ?_
    refine n_ret f_90_155 rfl rfl ?_
    exact KK
theorem c_joinInit {j x y q r : Nat} (hj : h.1[j]? = some (.inr (10, [.null, .null, .null, .null, .null, .null]))) (h10 : h.1[10]? = some (.inr (2, [.ref 1, .ref 11]))) (hne : ¬ j = 10) (KK : P (.inl none) (ev_set h j (.inr (10, [.ref 1, .ref 10, .ref x, .ref y, .ref q, .ref r])))) : En V d 91 0 [some (.ref j), some (.ref 10), some (.ref x), some (.ref y), some (.ref q), some (.ref r)] [] h P := by
  have e : ∀ c, (ev_set h j c).1[j]? = some c := fun c => g_eq hj
  have e10 : ∀ c, (ev_set h j c).1[10]? = some (.inr (2, [.ref 1, .ref 11])) := fun c => (g_ne hne).trans h10
  refine n_go f_91_0 rfl (pc' := 1) rfl ?_
  refine n_ob f_91_1 rfl rfl ?_
  refine n_go f_91_4 rfl (pc' := 5) rfl ?_
  refine n_go f_91_5 rfl (pc' := 6) rfl ?_
  refine n_gf f_91_6 rfl (h10) rfl ?_
  refine n_pf f_91_9 rfl (hj) rfl ?_
  show En V _ _ 12 _ _ (ev_set h j (.inr (10, [.ref 1, .null, .null, .null, .null, .null]))) _
  refine n_go f_91_12 rfl (pc' := 13) rfl ?_
  refine n_go f_91_13 rfl (pc' := 14) rfl ?_
  refine n_pf f_91_14 rfl (e _) rfl ?_
  rw [g_ss]
  show En V _ _ 17 _ _ (ev_set h j (.inr (10, [.ref 1, .ref 10, .null, .null, .null, .null]))) _
  refine n_go f_91_17 rfl (pc' := 18) rfl ?_
  refine n_go f_91_18 rfl (pc' := 19) rfl ?_
  refine n_pf f_91_19 rfl (e _) rfl ?_
  rw [g_ss]
  show En V _ _ 22 _ _ (ev_set h j (.inr (10, [.ref 1, .ref 10, .ref x, .null, .null, .null]))) _
  refine n_go f_91_22 rfl (pc' := 23) rfl ?_
  refine n_go f_91_23 rfl (pc' := 24) rfl ?_
  refine n_pf f_91_24 rfl (e _) rfl ?_
  rw [g_ss]
  show En V _ _ 27 _ _ (ev_set h j (.inr (10, [.ref 1, .ref 10, .ref x, .ref y, .null, .null]))) _
  refine n_go f_91_27 rfl (pc' := 28) rfl ?_
  refine n_go f_91_28 rfl (pc' := 30) rfl ?_
  refine n_pf f_91_30 rfl (e _) rfl ?_
  rw [g_ss]
  show En V _ _ 33 _ _ (ev_set h j (.inr (10, [.ref 1, .ref 10, .ref x, .ref y, .ref q, .null]))) _
  refine n_go f_91_33 rfl (pc' := 34) rfl ?_
  refine n_go f_91_34 rfl (pc' := 36) rfl ?_
  refine n_pf f_91_36 rfl (e _) rfl ?_
  rw [g_ss]
  refine n_ret f_91_39 rfl rfl ?_
  exact KK
/-- what a version needs that others are joined with -/
def fine (K : dK) (S : dS) : Prop := tidy K S ∧ roots K S ∧ deeper K S ∧ (∀ i, 0 ≤ i → i < 40 → hs S i = true → ¬ dep K S i = -1) ∧ okS K S ∧ ∀ i, 0 ≤ i → i < 40 → 0 ≤ hold K S i → 0 ≤ S.2.1 i ∧ S.2.1 i < 10
theorem Wd.ver {h : ev_H} {w : dW} (hW : Wd h w) {v : Int} (hv : 0 ≤ v ∧ v < hN (wH w)) : St h (hA (wH w) v) (hV (wH w) v) ∧ (hA (wH w) v = 75 ∨ 92 ≤ hA (wH w) v) := ⟨hW.2.1.2.2.2.2.2.2.1 v hv.1 hv.2, hW.2.1.2.2.2.2.2.2.2.2.2.2.2 v hv.1 hv.2⟩
/-- v is older than o, or the same -/
def olds (w : dW) (v o : Int) : Prop := (0 ≤ v ∧ v < hN (wH w)) ∧ (0 ≤ o ∧ o < hN (wH w)) ∧ lcF (wH w) (lin (wH w) v &&& lin (wH w) o) 40 = 2 ^ v.toNat
theorem dft10 : fx_dft 10 = [.null, .null, .null, .null, .null, .null] := rfl
theorem c_tryJoin (hW : Wd h w) (ho : olds w v o) (fv : fine (wK w) (hV (wH w) v)) (fo : fine (wK w) (hV (wH w) o)) (KK : ∀ h', Wd h' w → Gr h h' 1 6 → St h' 38 (hV (wH w) o) → P (.inl none) h') : En V (d + 6) 87 0 [some (.ref 0), some (.int (iI v)), some (.int (iI o)), none] [] h P := by
  obtain ⟨hv, ho, hl⟩ := ho
  have t0 := hW.2.2.1.1
  have w23 := hW.2.2.2.2.2.2.1
  have wl := hW.2.2.2.2.2.2.2.2
  have hi : ((v.toNat : Nat) : Int) < hN (wH w) := by omega
  have ev : ((v.toNat : Nat) : Int) = v := by omega
  refine n_go f_87_0 rfl (pc' := 1) rfl ?_
  refine n_gf f_87_1 rfl (by assumption) rfl ?_
  refine n_go f_87_4 rfl (pc' := 5) rfl ?_
  refine n_go f_87_5 rfl (pc' := 6) rfl ?_
  refine n_go f_87_6 rfl (pc' := 7) (st' := .int (iI 0) :: _) rfl ?_
  refine n_cs (ls' := [_, _, _, _, _, _, _, _, _, _, _, _, _]) f_87_7 (by decide) m_90 rfl rfl ?_
  refine c_baseOf hW hv ho v.toNat hi hl ?_
  show En V _ 87 10 _ [_] _ _
  refine n_go f_87_10 rfl (pc' := 11) (ls' := [_, _, _, _]) rfl ?_
  refine n_new f_87_11 (by decide) (wl) ?_
  rw [ev, dft10]
  show En V _ _ 14 _ _ (ev_push h (.inr (10, [.null, .null, .null, .null, .null, .null])) 6) _
  have hW1 : Wd (ev_push h (.inr (10, [.null, .null, .null, .null, .null, .null])) 6) w := hW.psh
  have hj : (ev_push h (.inr (10, [.null, .null, .null, .null, .null, .null])) 6).1[h.1.length]? = some (.inr (10, [.null, .null, .null, .null, .null, .null])) := by
    have := g_pn (c := (.inr (10, [.null, .null, .null, .null, .null, .null]))) (n := 6) wl
    rw [wl] at this
    exact this
  have l82 : 82 ≤ h.1.length := by
    obtain ⟨-, -, ⟨f, h3, -⟩, -⟩ := hW.2.1
    exact (List.getElem?_eq_some_iff.mp h3).1
  have u0 := hW1.2.2.1.1
  have u12 := hW1.2.1.1
  have u10 := hW1.1.2.2.2.2.2.2.2.2.2.1
  refine n_go f_87_14 rfl (pc' := 15) rfl ?_
  refine n_go f_87_15 rfl (pc' := 16) rfl ?_
  refine n_gf f_87_16 rfl (by assumption) rfl ?_
  refine n_go f_87_19 rfl (pc' := 20) rfl ?_
  refine n_gf f_87_20 rfl (by assumption) rfl ?_
  refine n_go f_87_23 rfl (pc' := 24) rfl ?_
  refine n_cv (ls' := [_, _]) f_87_24 (by decide) m_60 rfl rfl (by assumption) rfl ?_
  refine c_stateOf hW1.2.1 hv ?_
  show En V _ 87 27 _ [_, _, _, _] _ _
  refine n_go f_87_27 rfl (pc' := 28) rfl ?_
  refine n_gf f_87_28 rfl (by assumption) rfl ?_
  refine n_go f_87_31 rfl (pc' := 32) rfl ?_
  refine n_cv (ls' := [_, _]) f_87_32 (by decide) m_60 rfl rfl (by assumption) rfl ?_
  refine c_stateOf hW1.2.1 ho ?_
  show En V _ 87 35 _ [_, _, _, _, _] _ _
  refine n_go f_87_35 rfl (pc' := 36) rfl ?_
  refine n_go f_87_36 rfl (pc' := 37) rfl ?_
  refine n_gf f_87_37 rfl (by assumption) rfl ?_
  refine n_ci (ls' := [_, _, _, _, _, _]) f_87_40 (by decide) m_91 rfl rfl rfl ?_
  refine c_joinInit hj u10 (by omega) ?_
  rw [set_push]
  generalize hh : ev_push h (.inr (10, [.ref 1, .ref 10, .ref (hA (wH w) v), .ref (hA (wH w) o), .ref (hA (wH w) v), .ref 38])) 6 = h1
  have hW2 : Wd h1 w := by rw [← hh]; exact hW.psh
  have hJ : Jn h1 h.1.length (hA (wH w) v) (hA (wH w) o) (hA (wH w) v) 38 := by
    rw [← hh]
    have := g_pn (c := (.inr (10, [.ref 1, .ref 10, .ref (hA (wH w) v), .ref (hA (wH w) o), .ref (hA (wH w) v), .ref 38]))) (n := 6) wl
    rw [wl] at this
    exact this
  have hG : Gr h h1 1 6 := by rw [← hh]; exact Gr.push _ _ _
  obtain ⟨hX, ax⟩ := hW2.ver hv
  obtain ⟨hY, ay⟩ := hW2.ver ho
  obtain ⟨T, hR⟩ := hW2.2.2.2.2.1.2.1
  have jj := hJ
  unfold Jn at jj
  show En V _ _ 43 _ [_] _ _
  refine n_cv (ls' := [_, _]) f_87_43 (by decide) m_136 rfl rfl (by assumption) rfl ?_
  refine c_joinAll hW2.1 hJ hX hX hY hR (by omega) (by omega) (by omega) (by omega) fv.1 fo.1 fo.2.1 ?_
  show En V _ _ 46 _ [] _ _
  refine n_ret f_87_46 rfl rfl ?_
  exact KK _ (hW2.trl hY.2.2.2.2.2.2.1) (hG.qk (Qk.wS (by decide))) (wS_St hR hY.2.2.2.2.2.2.1)
theorem c_against (hW : Wd h w) (ho : olds w v o) (fv : fine (wK w) (hV (wH w) v)) (fo : fine (wK w) (hV (wH w) o)) (KK : ∀ h', Wd h' w → Gr h h' 1 6 → P (.inl (some (.int (iI 0)))) h') : En V (d + 7) 37 0 [some (.ref 0), some (.int (iI v)), some (.int (iI o))] [] h P := by
  have t0 := hW.2.2.1.1
  refine n_go f_37_0 rfl (pc' := 1) rfl ?_
  refine n_go f_37_1 rfl (pc' := 2) rfl ?_
  refine n_cv (ls' := [_, _]) f_37_2 (by decide) m_81 rfl rfl (by assumption) rfl ?_
  refine c_needVersion hW ho.1 ?_
  show En V _ 37 5 _ [] _ _
  refine n_go f_37_5 rfl (pc' := 6) rfl ?_
  refine n_go f_37_6 rfl (pc' := 7) rfl ?_
  refine n_cv (ls' := [_, _]) f_37_7 (by decide) m_81 rfl rfl (by assumption) rfl ?_
  refine c_needVersion hW ho.2.1 ?_
  show En V _ 37 10 _ [] _ _
  refine n_go f_37_10 rfl (pc' := 11) rfl ?_
  refine n_go f_37_11 rfl (pc' := 12) rfl ?_
  refine n_go f_37_12 rfl (pc' := 13) rfl ?_
  refine n_cv (ls' := [_, _, _, _]) f_37_13 (by decide) m_87 rfl rfl (by assumption) rfl ?_
  refine c_tryJoin hW ho fv fo (fun h1 hW1 hG hR => ?_)
  have u0 := hW1.2.2.1.1
  have u10 := hW1.1.2.2.2.2.2.2.2.2.2.1
  obtain ⟨t, ht⟩ := hW1.2.2.2.2.1.1
  show En V _ _ 16 _ [] _ _
  refine n_go f_37_16 rfl (pc' := 17) rfl ?_
  refine n_gf f_37_17 rfl (by assumption) rfl ?_
  refine n_go f_37_20 rfl (pc' := 21) rfl ?_
  refine n_gf f_37_21 rfl (by assumption) rfl ?_
  refine n_cv (ls' := [_, _]) f_37_24 (by decide) m_93 rfl rfl (by assumption) rfl ?_
  refine c_brokenRule hW1.1 hR ht fo.2.2.2.2.2 (fun r f _ _ q => absurd fo.2.2.2.2.1 q) (fun _ f => ?_)
  show En V _ _ 27 _ [_] _ _
  refine n_ret f_37_27 rfl rfl ?_
  exact KK _ hW1.tly (hG.qk (Qk.set (by decide)))
/-- the print of a state -/
def isPr (K : dK) (S : dS) (p : Int64) : Prop := ∃ f : Int → Int64, p = f 0 ∧ ∀ n, 0 ≤ n → n < 40 → 0 ≤ dep K S n → f n = npr K S f n
theorem c_joined (hW : Wd h w) (ho : olds w v o) (fv : fine (wK w) (hV (wH w) v)) (fo : fine (wK w) (hV (wH w) o)) (KK : ∀ h' p, Wd h' w → Gr h h' 1 6 → isPr (wK w) (hV (wH w) o) p → P (.inl (some (.long p))) h') : En V (d + 7) 35 0 [some (.ref 0), some (.int (iI v)), some (.int (iI o))] [] h P := by
  have t0 := hW.2.2.1.1
  refine n_go f_35_0 rfl (pc' := 1) rfl ?_
  refine n_go f_35_1 rfl (pc' := 2) rfl ?_
  refine n_cv (ls' := [_, _]) f_35_2 (by decide) m_81 rfl rfl (by assumption) rfl ?_
  refine c_needVersion hW ho.1 ?_
  show En V _ 35 5 _ [] _ _
  refine n_go f_35_5 rfl (pc' := 6) rfl ?_
  refine n_go f_35_6 rfl (pc' := 7) rfl ?_
  refine n_cv (ls' := [_, _]) f_35_7 (by decide) m_81 rfl rfl (by assumption) rfl ?_
  refine c_needVersion hW ho.2.1 ?_
  show En V _ 35 10 _ [] _ _
  refine n_go f_35_10 rfl (pc' := 11) rfl ?_
  refine n_go f_35_11 rfl (pc' := 12) rfl ?_
  refine n_go f_35_12 rfl (pc' := 13) rfl ?_
  refine n_cv (ls' := [_, _, _, _]) f_35_13 (by decide) m_87 rfl rfl (by assumption) rfl ?_
  refine c_tryJoin hW ho fv fo (fun h1 hW1 hG hR => ?_)
  have u0 := hW1.2.2.1.1
  have u10 := hW1.1.2.2.2.2.2.2.2.2.2.1
  obtain ⟨⟨t1, q1⟩, ⟨T, q2⟩, q3, ⟨t2, q4⟩, ⟨f2, q5⟩⟩ := hW1.2.2.2.2.1
  show En V _ _ 16 _ [] _ _
  refine n_go f_35_16 rfl (pc' := 17) rfl ?_
  refine n_gf f_35_17 rfl (by assumption) rfl ?_
  refine n_go f_35_20 rfl (pc' := 21) rfl ?_
  refine n_gf f_35_21 rfl (by assumption) rfl ?_
  refine n_cv (ls' := [_, _, _]) f_35_24 (by decide) m_88 rfl rfl (by assumption) rfl ?_
  refine c_isAdrift hW1.1 hR (fun i g1 g2 g3 g4 => absurd g4 (fo.2.2.2.1 i g1 g2 g3)) (fun _ => ?_)
  show En V _ _ 27 _ [_] _ _
  refine n_if_eq f_35_27 rfl rfl (by omega) (fun _ => ?_) (fun e9 => absurd (by omega) e9)
  refine n_go f_35_34 rfl (pc' := 35) rfl ?_
  refine n_go f_35_35 rfl (pc' := 36) rfl ?_
  refine n_gf f_35_36 rfl (by assumption) rfl ?_
  refine n_cv (ls' := [_, _]) f_35_39 (by decide) m_89 rfl rfl (by assumption) rfl ?_
  refine c_rootPrint hW1.1 hR (by decide) ⟨_, u0⟩ hW1.2.2.2.2.2.1 q4 q5 fo.2.2.1 (fun t f hf => ?_)
  show En V _ _ 42 _ [_] _ _
  refine n_ret f_35_42 rfl rfl ?_
  exact KK _ _ hW1.prt (hG.qk (Qk.tr (Qk.set (by decide)) (Qk.set (by decide)))) ⟨f, rfl, hf⟩
theorem c_joinedS (hW : Wd h w) (ho : olds w v o) (hl : lcF (wH w) (lin (wH w) o &&& lin (wH w) v) 40 = 2 ^ v.toNat) (fo : fine (wK w) (hV (wH w) o)) (KK : ∀ h' p, Wd h' w → Gr h h' 1 6 → isPr (wK w) (hV (wH w) o) p → P (.inl (some (.long p))) h') : En V (d + 7) 36 0 [some (.ref 0), some (.int (iI o)), some (.int (iI v)), none] [] h P := by
  obtain ⟨hv, ho, -⟩ := ho
  have t0 := hW.2.2.1.1
  have w23 := hW.2.2.2.2.2.2.1
  have h12 := hW.2.1.1
  have hi : ((v.toNat : Nat) : Int) < hN (wH w) := by omega
  have ev : ((v.toNat : Nat) : Int) = v := by omega
  have hC := hW.2.2.2.2.1.2.2.1
  obtain ⟨hX0, ax0⟩ := hW.ver hv
  obtain ⟨sz, f0, f1, c1, c2, c3⟩ := id hC
  refine n_go f_36_0 rfl (pc' := 1) rfl ?_
  refine n_go f_36_1 rfl (pc' := 2) rfl ?_
  refine n_cv (ls' := [_, _]) f_36_2 (by decide) m_81 rfl rfl (by assumption) rfl ?_
  refine c_needVersion hW ho ?_
  show En V _ 36 5 _ [] _ _
  refine n_go f_36_5 rfl (pc' := 6) rfl ?_
  refine n_go f_36_6 rfl (pc' := 7) rfl ?_
  refine n_cv (ls' := [_, _]) f_36_7 (by decide) m_81 rfl rfl (by assumption) rfl ?_
  refine c_needVersion hW hv ?_
  show En V _ 36 10 _ [] _ _
  refine n_go f_36_10 rfl (pc' := 11) rfl ?_
  refine n_gf f_36_11 rfl (by assumption) rfl ?_
  refine n_go f_36_14 rfl (pc' := 15) rfl ?_
  refine n_go f_36_15 rfl (pc' := 16) rfl ?_
  refine n_go f_36_16 rfl (pc' := 17) (st' := .int (iI 0) :: _) rfl ?_
  refine n_cs (ls' := [_, _, _, _, _, _, _, _, _, _, _, _, _]) f_36_17 (by decide) m_90 rfl rfl ?_
  refine c_baseOf hW ho hv v.toNat hi hl ?_
  show En V _ 36 20 _ [_] _ _
  rw [ev]
  refine n_go f_36_20 rfl (pc' := 21) (ls' := [_, _, _, _]) rfl ?_
  refine n_go f_36_21 rfl (pc' := 22) rfl ?_
  refine n_gf f_36_22 rfl (by assumption) rfl ?_
  refine n_go f_36_25 rfl (pc' := 26) rfl ?_
  refine n_go f_36_26 rfl (pc' := 27) rfl ?_
  refine n_gf f_36_27 rfl (by assumption) rfl ?_
  refine n_go f_36_30 rfl (pc' := 31) rfl ?_
  refine n_cv (ls' := [_, _]) f_36_31 (by decide) m_60 rfl rfl (by assumption) rfl ?_
  refine c_stateOf hW.2.1 hv ?_
  show En V _ 36 34 _ [_, _, _] _ _
  refine n_cv (ls' := [_, _, _, _, _, _]) f_36_34 (by decide) m_56 rfl rfl (by assumption) rfl ?_
  refine c_tell hC hX0 hX0 (by omega) (by omega) (fun k n _ => due_self _ k n) (fun fk fn hL => ?_)
  obtain ⟨hW9, hQ9, g9⟩ := Wd_told hW hL
  generalize wC h (edk (hV (wH w) v) (hV (wH w) v) 8).length fk fn = h9 at *
  rw [edk_self] at g9
  have wl := hW9.2.2.2.2.2.2.2.2
  clear t0 h12
  have t0 := hW9.2.2.1.1
  show En V _ _ 37 _ [] _ _
  refine n_new f_36_37 (by decide) (wl) ?_
  rw [dft10]
  show En V _ _ 40 _ _ (ev_push h9 (.inr (10, [.null, .null, .null, .null, .null, .null])) 6) _
  have hW1 : Wd (ev_push h9 (.inr (10, [.null, .null, .null, .null, .null, .null])) 6) w := hW9.psh
  have hj : (ev_push h9 (.inr (10, [.null, .null, .null, .null, .null, .null])) 6).1[h9.1.length]? = some (.inr (10, [.null, .null, .null, .null, .null, .null])) := by
    have := g_pn (c := (.inr (10, [.null, .null, .null, .null, .null, .null]))) (n := 6) wl
    rw [wl] at this
    exact this
  have l82 : 82 ≤ h9.1.length := by
    obtain ⟨-, -, ⟨f, h3, -⟩, -⟩ := hW9.2.1
    exact (List.getElem?_eq_some_iff.mp h3).1
  have u0 := hW1.2.2.1.1
  have u12 := hW1.2.1.1
  have u10 := hW1.1.2.2.2.2.2.2.2.2.2.1
  refine n_go f_36_40 rfl (pc' := 41) rfl ?_
  refine n_go f_36_41 rfl (pc' := 42) rfl ?_
  refine n_gf f_36_42 rfl (by assumption) rfl ?_
  refine n_go f_36_45 rfl (pc' := 46) rfl ?_
  refine n_gf f_36_46 rfl (by assumption) rfl ?_
  refine n_go f_36_49 rfl (pc' := 50) rfl ?_
  refine n_cv (ls' := [_, _]) f_36_50 (by decide) m_60 rfl rfl (by assumption) rfl ?_
  refine c_stateOf hW1.2.1 ho ?_
  show En V _ 36 53 _ [_, _, _, _] _ _
  refine n_go f_36_53 rfl (pc' := 54) rfl ?_
  refine n_gf f_36_54 rfl (by assumption) rfl ?_
  refine n_go f_36_57 rfl (pc' := 58) rfl ?_
  refine n_cv (ls' := [_, _]) f_36_58 (by decide) m_60 rfl rfl (by assumption) rfl ?_
  refine c_stateOf hW1.2.1 hv ?_
  show En V _ 36 61 _ [_, _, _, _, _] _ _
  refine n_go f_36_61 rfl (pc' := 62) rfl ?_
  refine n_go f_36_62 rfl (pc' := 63) rfl ?_
  refine n_gf f_36_63 rfl (by assumption) rfl ?_
  refine n_ci (ls' := [_, _, _, _, _, _]) f_36_66 (by decide) m_91 rfl rfl rfl ?_
  refine c_joinInit hj u10 (by omega) ?_
  rw [set_push]
  generalize hh : ev_push h9 (.inr (10, [.ref 1, .ref 10, .ref (hA (wH w) o), .ref (hA (wH w) v), .ref (hA (wH w) v), .ref 38])) 6 = h1
  have hW2 : Wd h1 w := by rw [← hh]; exact hW9.psh
  have hJ : Jn h1 h9.1.length (hA (wH w) o) (hA (wH w) v) (hA (wH w) v) 38 := by
    rw [← hh]
    have := g_pn (c := (.inr (10, [.ref 1, .ref 10, .ref (hA (wH w) o), .ref (hA (wH w) v), .ref (hA (wH w) v), .ref 38]))) (n := 6) wl
    rw [wl] at this
    exact this
  have hG : Gr h h1 1 6 := by
    rw [← hh]
    exact (Qk.gr hQ9).tr (Gr.push _ _ _)
  have g1 : ScL h1 [] := by
    rw [← hh]
    exact g9.of (fun j j1 j2 => by unfold ev_push; dsimp only; rw [List.getElem?_append_left (by omega)])
  obtain ⟨hX, ax⟩ := hW2.ver ho
  obtain ⟨T, hR⟩ := hW2.2.2.2.2.1.2.1
  have jj := hJ
  unfold Jn at jj
  have v0 := hW2.2.2.1.1
  show En V _ _ 69 _ [_] _ _
  refine n_go f_36_69 rfl (pc' := 70) rfl ?_
  refine n_gf f_36_70 rfl (by assumption) rfl ?_
  refine n_cv (ls' := [_, _, _, _]) f_36_73 (by decide) m_92 rfl rfl (by assumption) rfl ?_
  refine c_playAll hW2.1 hJ hX hR (by omega) (by omega) g1 (by decide) fo.2.1 ?_
  have hW3 : Wd (wS h1 38 (hV (wH w) o)) w := hW2.trl hX.2.2.2.2.2.2.1
  have hR3 : St (wS h1 38 (hV (wH w) o)) 38 (hV (wH w) o) := wS_St hR hX.2.2.2.2.2.2.1
  have hG3 : Gr h (wS h1 38 (hV (wH w) o)) 1 6 := hG.qk (Qk.wS (by decide))
  generalize wS h1 38 (hV (wH w) o) = h3 at *
  clear u0 u10 u12 v0 t0
  have u0 := hW3.2.2.1.1
  have u10 := hW3.1.2.2.2.2.2.2.2.2.2.1
  obtain ⟨⟨t1, q1⟩, ⟨T, q2⟩, q3, ⟨t2, q4⟩, ⟨f2, q5⟩⟩ := hW3.2.2.2.2.1
  show En V _ _ 76 _ [] _ _
  refine n_go f_36_76 rfl (pc' := 77) rfl ?_
  refine n_gf f_36_77 rfl (by assumption) rfl ?_
  refine n_go f_36_80 rfl (pc' := 81) rfl ?_
  refine n_gf f_36_81 rfl (by assumption) rfl ?_
  refine n_cv (ls' := [_, _, _]) f_36_84 (by decide) m_88 rfl rfl (by assumption) rfl ?_
  refine c_isAdrift hW3.1 hR3 (fun i g1 g2 g3 g4 => absurd g4 (fo.2.2.2.1 i g1 g2 g3)) (fun _ => ?_)
  show En V _ _ 87 _ [_] _ _
  refine n_if_eq f_36_87 rfl rfl (by omega) (fun _ => ?_) (fun e9 => absurd (by omega) e9)
  refine n_go f_36_94 rfl (pc' := 95) rfl ?_
  refine n_go f_36_95 rfl (pc' := 96) rfl ?_
  refine n_gf f_36_96 rfl (by assumption) rfl ?_
  refine n_cv (ls' := [_, _]) f_36_99 (by decide) m_89 rfl rfl (by assumption) rfl ?_
  refine c_rootPrint hW3.1 hR3 (by decide) ⟨_, u0⟩ hW3.2.2.2.2.2.1 q4 q5 fo.2.2.1 (fun t f hf => ?_)
  show En V _ _ 102 _ [_] _ _
  refine n_ret f_36_102 rfl rfl ?_
  exact KK _ _ hW3.prt (hG3.qk (Qk.tr (Qk.set (by decide)) (Qk.set (by decide)))) ⟨f, rfl, hf⟩
end CJ
