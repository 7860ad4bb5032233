/-! The law's words; copies, drops. -/
def lu (W X : Int → Int) (o l i : Int) : Bool := decide (W i % 16 = l) && decide (X (o + i) > 0)
def wdF (W X : Int → Int) (o l q : Int) : Nat → Int
  | 0 => -1
  | j + 1 => if W j % 16 = l ∧ X (o + j) = q + 1 then (j : Int) else wdF W X o l q j
theorem wdF_r (W X : Int → Int) (o l q : Int) (j : Nat) : -1 ≤ wdF W X o l q j ∧ (wdF W X o l q j < (j : Int) ∨ wdF W X o l q j = -1) := by
  induction j with
  | zero => exact ⟨Int.le_refl _, Or.inr rfl⟩
  | succ j ih =>
    unfold wdF
    split <;> omega
/-- a range of a row written with values of another -/
def cpF (D E : Int → Int) (o t m : Int) : Int → Int := fun i => if t ≤ i ∧ i < t + m then D (o + (i - t)) else E i
/-- what is said of a leaf struck -/
def drF (W X : Int → Int) (o l m : Int) : Int → Int := fun i => if o ≤ i ∧ i < o + m ∧ W (i - o) % 16 = l then 0 else X i
theorem Rw.set {h : ev_H} {a b n : Nat} {D : Int → Int} {c : ev_C} (hR : Rw h a n D) (hb : ¬ b = a) : Rw (ev_set h b c) a n D := ⟨(g_ne hb).trans hR.1, hR.2⟩
theorem Rw.new {h : ev_H} {a n : Nat} {D D' : Int → Int} (hR : Rw h a n D) (hD : ∀ i, 0 ≤ D' i ∧ D' i < 1000000) : Rw (ev_set h a (aI n D')) a n D' := ⟨g_eq hR.1, hR.2.1, hR.2.2.1, hR.2.2.2.1, hD⟩
section LM
variable {V : ev_V} {d : Nat} {h : ev_H} {P : ev_O → ev_H → Prop} {A B C N M : Nat} {D E F W X : Int → Int} {o t i k m p q l : Int}
theorem c_lwords (hB : Rw h B 8 E) (hm : E 1 = m ∧ 0 ≤ m ∧ m ≤ 10) (hX : Rw h A N X) (hW : Rw h C 10 W) (hr : 0 ≤ o ∧ o + 10 ≤ N) (hl : -2147483648 ≤ l ∧ l < 2147483648) (KK : P (.inl (some (.int (iI (cnI m (lu W X o l)))))) h) : En V d 9 0 [some (.ref B), some (.ref A), some (.int (iI o)), some (.ref C), some (.int (iI l)), none, none] [] h P := by
  obtain ⟨b1, b2', b3, b4, b5⟩ := id hB
  obtain ⟨d1, d2, d3, d4, d5⟩ := id hX
  obtain ⟨c1, c2, c3, c4, c5⟩ := id hW
  obtain ⟨m0, m1, m2⟩ := hm
  have hN : (N : Int) ≤ 60 := by omega
  refine n_go f_9_0 rfl (pc' := 1) (st' := .int (iI 0) :: _) rfl ?_
  refine n_go f_9_1 rfl (pc' := 3) (ls' := [_, _, _, _, _, _, _]) rfl ?_
  refine n_go f_9_3 rfl (pc' := 4) (st' := .int (iI 0) :: _) rfl ?_
  refine n_go f_9_4 rfl (pc' := 6) (ls' := [_, _, _, _, _, _, _]) rfl ?_
  refine n_for (lo := 0) (hi := m) m1 (fun j ls st h' => ls = [some (.ref B), some (.ref A), some (.int (iI o)), some (.ref C), some (.int (iI l)), some (.int (iI (cnI j (lu W X o l)))), some (.int (iI j))] ∧ st = [] ∧ h' = h) ⟨rfl, rfl, rfl⟩ ?_ ?_
  · rintro j ls st h' j1 j2 ⟨rfl, rfl, rfl⟩ kk
    have hc := cnI_r (p := lu W X o l) j1
    have hdj := d5 (o + j)
    have hwj := c5 j
    have fin : ∀ c : Bool, lu W X o l j = c → En V d 9 42 [some (.ref B), some (.ref A), some (.int (iI o)), some (.ref C), some (.int (iI l)), some (.int (iI (cnI j (lu W X o l)))), some (.int (iI j))] [.int (iI (b2 c)), .int (iI (cnI j (lu W X o l)))] h' P := fun c e => by
      refine n_iadd f_9_42 rfl ?_
      refine n_go f_9_43 rfl (pc' := 45) (ls' := [_, _, _, _, _, _, _]) rfl ?_
      refine n_iinc (m' := 1) (ls' := [_, _, _, _, _, _, _]) f_9_45 rfl rfl rfl rfl ?_
      refine n_go f_9_48 rfl (pc' := 6) rfl ?_
      refine kk _ _ _ ⟨?_, rfl, rfl⟩
      cases c
      · rw [cnI_f j1 e]
        show [_, _, _, _, _, some (Value.int (iI (cnI j (lu W X o l) + 0))), _] = _
        rw [Int.add_zero]
      · rw [cnI_t j1 e]
        rfl
    refine n_go f_9_6 rfl (pc' := 8) rfl ?_
    refine n_go f_9_8 rfl (pc' := 9) rfl ?_
    refine n_go f_9_9 rfl (pc' := 10) (st' := .int (iI 1) :: _) rfl ?_
    refine n_ial f_9_10 rfl (b1) (by unfold ev_ext; omega) (by omega) ?_
    show En V _ _ 11 _ [.int (iI (E 1)), .int (iI j)] _ _
    rw [m0]
    refine n_ic_ge f_9_11 rfl rfl ⟨by omega, by omega⟩ (fun e9 => absurd e9 (by omega)) (fun _ => ?_)
    refine n_go f_9_14 rfl (pc' := 16) rfl ?_
    refine n_go f_9_16 rfl (pc' := 17) rfl ?_
    refine n_go f_9_17 rfl (pc' := 19) rfl ?_
    refine n_ial f_9_19 rfl (c1) (by unfold ev_ext; omega) (by omega) ?_
    refine n_bip (m := 16) f_9_20 rfl (by decide) ?_
    refine n_irem f_9_22 rfl (by omega) ?_
    refine n_go f_9_23 rfl (pc' := 25) rfl ?_
    refine n_ic_ne f_9_25 rfl rfl ⟨by omega, by omega⟩ (fun e1 => ?_) (fun e1 => ?_)
    · refine n_go f_9_41 rfl (pc' := 42) (st' := .int (iI 0) :: _) rfl ?_
      exact fin false (by unfold lu; rw [decide_eq_false e1, Bool.false_and])
    refine n_go f_9_28 rfl (pc' := 29) rfl ?_
    refine n_go f_9_29 rfl (pc' := 30) rfl ?_
    refine n_go f_9_30 rfl (pc' := 32) rfl ?_
    refine n_iadd f_9_32 rfl ?_
    refine n_ial f_9_33 rfl (d1) (by unfold ev_ext; omega) (by omega) ?_
    refine n_if_le f_9_34 rfl rfl (by omega) (fun e2 => ?_) (fun e2 => ?_)
    · refine n_go f_9_41 rfl (pc' := 42) (st' := .int (iI 0) :: _) rfl ?_
      exact fin false (by unfold lu; rw [decide_eq_false (p := X (o + j) > 0) (by omega), Bool.and_false])
    · refine n_go f_9_37 rfl (pc' := 38) (st' := .int (iI 1) :: _) rfl ?_
      refine n_go f_9_38 rfl (pc' := 42) rfl ?_
      exact fin true (by unfold lu; rw [decide_eq_true (Classical.not_not.mp e1), decide_eq_true (p := X (o + j) > 0) (by omega)]; rfl)
  · rintro ls st h' ⟨rfl, rfl, rfl⟩
    refine n_go f_9_6 rfl (pc' := 8) rfl ?_
    refine n_go f_9_8 rfl (pc' := 9) rfl ?_
    refine n_go f_9_9 rfl (pc' := 10) (st' := .int (iI 1) :: _) rfl ?_
    refine n_ial f_9_10 rfl (b1) (by unfold ev_ext; omega) (by omega) ?_
    show En V _ _ 11 _ [.int (iI (E 1)), .int (iI m)] _ _
    rw [m0]
    refine n_ic_ge f_9_11 rfl rfl ⟨by omega, by omega⟩ (fun _ => ?_) (fun e9 => absurd (by omega) e9)
    refine n_go f_9_51 rfl (pc' := 53) rfl ?_
    refine n_ret f_9_53 rfl rfl ?_
    exact KK
theorem c_lword (hB : Rw h B 8 E) (hm : E 1 = m ∧ 0 ≤ m ∧ m ≤ 10) (hX : Rw h A N X) (hW : Rw h C 10 W) (hr : 0 ≤ o ∧ o + 10 ≤ N) (hl : -2147483648 ≤ l ∧ l < 2147483648) (hq : -1000000 ≤ q ∧ q < 1000000) (KK : P (.inl (some (.int (iI (wdF W X o l q m.toNat))))) h) : En V d 10 0 [some (.ref B), some (.ref A), some (.int (iI o)), some (.ref C), some (.int (iI l)), some (.int (iI q)), none, none] [] h P := by
  obtain ⟨b1, b2', b3, b4, b5⟩ := id hB
  obtain ⟨d1, d2, d3, d4, d5⟩ := id hX
  obtain ⟨c1, c2, c3, c4, c5⟩ := id hW
  obtain ⟨m0, m1, m2⟩ := hm
  have hN : (N : Int) ≤ 60 := by omega
  refine n_go f_10_0 rfl (pc' := 1) (st' := .int (iI (-1)) :: _) rfl ?_
  refine n_go f_10_1 rfl (pc' := 3) (ls' := [_, _, _, _, _, _, _, _]) rfl ?_
  refine n_go f_10_3 rfl (pc' := 4) (st' := .int (iI 0) :: _) rfl ?_
  refine n_go f_10_4 rfl (pc' := 6) (ls' := [_, _, _, _, _, _, _, _]) rfl ?_
  refine n_for (lo := 0) (hi := m) m1 (fun j ls st h' => ls = [some (.ref B), some (.ref A), some (.int (iI o)), some (.ref C), some (.int (iI l)), some (.int (iI q)), some (.int (iI (wdF W X o l q j.toNat))), some (.int (iI j))] ∧ st = [] ∧ h' = h) ⟨rfl, rfl, rfl⟩ ?_ ?_
  · rintro j ls st h' j1 j2 ⟨rfl, rfl, rfl⟩ kk
    have hdj := d5 (o + j)
    have hwj := c5 j
    have ejs : (j + 1).toNat = j.toNat + 1 := by omega
    have ej : ((j.toNat : Nat) : Int) = j := by omega
    have no : ¬ (W j % 16 = l ∧ X (o + j) = q + 1) → En V d 10 44 [some (.ref B), some (.ref A), some (.int (iI o)), some (.ref C), some (.int (iI l)), some (.int (iI q)), some (.int (iI (wdF W X o l q j.toNat))), some (.int (iI j))] [] h' P := fun e => by
      refine n_go f_10_44 rfl (pc' := 46) rfl ?_
      refine n_go f_10_46 rfl (pc' := 48) (ls' := [_, _, _, _, _, _, _, _]) rfl ?_
      refine n_iinc (m' := 1) (ls' := [_, _, _, _, _, _, _, _]) f_10_48 rfl rfl rfl rfl ?_
      refine n_go f_10_51 rfl (pc' := 6) rfl ?_
      refine kk _ _ _ ⟨?_, rfl, rfl⟩
      rw [ejs, show wdF W X o l q (j.toNat + 1) = wdF W X o l q j.toNat from if_neg (by rw [ej]; exact e)]
    refine n_go f_10_6 rfl (pc' := 8) rfl ?_
    refine n_go f_10_8 rfl (pc' := 9) rfl ?_
    refine n_go f_10_9 rfl (pc' := 10) (st' := .int (iI 1) :: _) rfl ?_
    refine n_ial f_10_10 rfl (b1) (by unfold ev_ext; omega) (by omega) ?_
    show En V _ _ 11 _ [.int (iI (E 1)), .int (iI j)] _ _
    rw [m0]
    refine n_ic_ge f_10_11 rfl rfl ⟨by omega, by omega⟩ (fun e9 => absurd e9 (by omega)) (fun _ => ?_)
    refine n_go f_10_14 rfl (pc' := 15) rfl ?_
    refine n_go f_10_15 rfl (pc' := 17) rfl ?_
    refine n_ial f_10_17 rfl (c1) (by unfold ev_ext; omega) (by omega) ?_
    refine n_bip (m := 16) f_10_18 rfl (by decide) ?_
    refine n_irem f_10_20 rfl (by omega) ?_
    refine n_go f_10_21 rfl (pc' := 23) rfl ?_
    refine n_ic_ne f_10_23 rfl rfl ⟨by omega, by omega⟩ (fun e1 => ?_) (fun e1 => ?_)
    · exact no (fun e => e1 e.1)
    refine n_go f_10_26 rfl (pc' := 27) rfl ?_
    refine n_go f_10_27 rfl (pc' := 28) rfl ?_
    refine n_go f_10_28 rfl (pc' := 30) rfl ?_
    refine n_iadd f_10_30 rfl ?_
    refine n_ial f_10_31 rfl (d1) (by unfold ev_ext; omega) (by omega) ?_
    refine n_go f_10_32 rfl (pc' := 34) rfl ?_
    refine n_go f_10_34 rfl (pc' := 35) (st' := .int (iI 1) :: _) rfl ?_
    refine n_iadd f_10_35 rfl ?_
    refine n_ic_ne f_10_36 rfl rfl ⟨by omega, by omega⟩ (fun e2 => ?_) (fun e2 => ?_)
    · exact no (fun e => e2 e.2)
    · refine n_go f_10_39 rfl (pc' := 41) rfl ?_
      refine n_go f_10_41 rfl (pc' := 46) rfl ?_
      refine n_go f_10_46 rfl (pc' := 48) (ls' := [_, _, _, _, _, _, _, _]) rfl ?_
      refine n_iinc (m' := 1) (ls' := [_, _, _, _, _, _, _, _]) f_10_48 rfl rfl rfl rfl ?_
      refine n_go f_10_51 rfl (pc' := 6) rfl ?_
      refine kk _ _ _ ⟨?_, rfl, rfl⟩
      rw [ejs, show wdF W X o l q (j.toNat + 1) = ((j.toNat : Nat) : Int) from if_pos (by rw [ej]; exact ⟨Classical.not_not.mp e1, Classical.not_not.mp e2⟩), ej]
  · rintro ls st h' ⟨rfl, rfl, rfl⟩
    refine n_go f_10_6 rfl (pc' := 8) rfl ?_
    refine n_go f_10_8 rfl (pc' := 9) rfl ?_
    refine n_go f_10_9 rfl (pc' := 10) (st' := .int (iI 1) :: _) rfl ?_
    refine n_ial f_10_10 rfl (b1) (by unfold ev_ext; omega) (by omega) ?_
    show En V _ _ 11 _ [.int (iI (E 1)), .int (iI m)] _ _
    rw [m0]
    refine n_ic_ge f_10_11 rfl rfl ⟨by omega, by omega⟩ (fun _ => ?_) (fun e9 => absurd (by omega) e9)
    refine n_go f_10_54 rfl (pc' := 56) rfl ?_
    refine n_ret f_10_56 rfl rfl ?_
    exact KK
theorem c_lcopies (hA : Rw h A N D) (hB : Rw h B M E) (hab : ¬ A = B) (hr : 0 ≤ o ∧ o + 10 ≤ N) (ht : 0 ≤ t ∧ t + 10 ≤ M) (KK : P (.inl none) (ev_set h B (aI M (cpF D E o t 10)))) : En V d 12 0 [some (.ref A), some (.int (iI o)), some (.ref B), some (.int (iI t)), none] [] h P := by
  obtain ⟨a1, a2, a3, a4, a5⟩ := id hA
  obtain ⟨b1, b2', b3, b4, b5⟩ := id hB
  have hN : (N : Int) ≤ 60 := by omega
  have hM : (M : Int) ≤ 60 := by omega
  refine n_go f_12_0 rfl (pc' := 1) (st' := .int (iI 0) :: _) rfl ?_
  refine n_go f_12_1 rfl (pc' := 3) (ls' := [_, _, _, _, _]) rfl ?_
  refine n_for (lo := 0) (hi := 10) (by decide) (fun j ls st h' => ls = [some (.ref A), some (.int (iI o)), some (.ref B), some (.int (iI t)), some (.int (iI j))] ∧ st = [] ∧ h' = ev_set h B (aI M (cpF D E o t j))) ⟨rfl, rfl, ?_⟩ ?_ ?_
  · rw [aI_congr (f := cpF D E o t 0) (f' := E) (fun i _ _ => if_neg (by omega)), g_sf b1]
  · rintro j ls st h' j1 j2 ⟨rfl, rfl, rfl⟩ kk
    have e1 : (ev_set h B (aI M (cpF D E o t j))).1[A]? = _ := (g_ne (fun e => hab e.symm)).trans a1
    have e2 : (ev_set h B (aI M (cpF D E o t j))).1[B]? = some (aI M (cpF D E o t j)) := g_eq b1
    refine n_go f_12_3 rfl (pc' := 5) rfl ?_
    refine n_bip (m := 10) f_12_5 rfl (by decide) ?_
    refine n_ic_ge f_12_7 rfl rfl ⟨by omega, by omega⟩ (fun e9 => absurd e9 (by omega)) (fun _ => ?_)
    refine n_go f_12_10 rfl (pc' := 11) rfl ?_
    refine n_go f_12_11 rfl (pc' := 12) rfl ?_
    refine n_go f_12_12 rfl (pc' := 14) rfl ?_
    refine n_iadd f_12_14 rfl ?_
    refine n_go f_12_15 rfl (pc' := 16) rfl ?_
    refine n_go f_12_16 rfl (pc' := 17) rfl ?_
    refine n_go f_12_17 rfl (pc' := 19) rfl ?_
    refine n_iadd f_12_19 rfl ?_
    refine n_ial f_12_20 rfl (e1) (by unfold ev_ext; omega) (by omega) ?_
    refine n_ias f_12_21 rfl (e2) (by omega) ?_
    refine n_iinc (m' := 1) (ls' := [_, _, _, _, _]) f_12_22 rfl rfl rfl rfl ?_
    refine n_go f_12_25 rfl (pc' := 3) rfl ?_
    refine kk _ _ _ ⟨rfl, rfl, ?_⟩
    rw [g_ss, aI_congr (f' := cpF D E o t (j + 1)) (fun i _ _ => ?_)]
    unfold cpF uz
    by_cases hi : i = t + j
    · rw [if_pos hi, if_pos (by omega), hi, show t + j - t = j by omega]
    · rw [if_neg hi]
      exact ite_c (by omega) _ _
  · rintro ls st h' ⟨rfl, rfl, rfl⟩
    refine n_go f_12_3 rfl (pc' := 5) rfl ?_
    refine n_bip (m := 10) f_12_5 rfl (by decide) ?_
    refine n_ic_ge f_12_7 rfl rfl ⟨by omega, by omega⟩ (fun _ => ?_) (fun e9 => absurd (by omega) e9)
    refine n_ret f_12_28 rfl rfl ?_
    exact KK
end LM
