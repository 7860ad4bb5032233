/-! The law's small methods over its rows. -/
/-- of nodes: the holder, whether it is there; whether it is a child of one -/
def lh (D : Int → Int) (at' i : Int) : Int := D (at' + i) % 16 - 2
def lt (D : Int → Int) (at' i : Int) : Bool := decide (D (at' + i) % 16 > 0)
def lk (D : Int → Int) (at' p i : Int) : Bool := decide (1 ≤ i) && lt D at' i && decide (lh D at' i = p)
def lrow (D : Int → Int) (at' i : Int) : Int := D (at' + i) / 16 % 16
/-- a row of the law's, at an address -/
def Rw (h : ev_H) (a n : Nat) (D : Int → Int) : Prop := h.1[a]? = some (aI n D) ∧ 82 ≤ a ∧ a < 92 ∧ n ≤ 60 ∧ ∀ i, 0 ≤ D i ∧ D i < 1000000
section LL
variable {V : ev_V} {d : Nat} {h : ev_H} {P : ev_O → ev_H → Prop} {A B C N : Nat} {D E F : Int → Int} {o i k m p q : Int}
theorem c_lholder (hD : Rw h A N D) (hr : 0 ≤ o ∧ 0 ≤ i ∧ o + i < N) (KK : P (.inl (some (.int (iI (lh D o i))))) h) : En V d 7 0 [some (.ref A), some (.int (iI o)), some (.int (iI i))] [] h P := by
  obtain ⟨a1, a2, a3, a4, a5⟩ := hD
  have := a5 (o + i)
  refine n_go f_7_0 rfl (pc' := 1) rfl ?_
  refine n_go f_7_1 rfl (pc' := 2) rfl ?_
  refine n_go f_7_2 rfl (pc' := 3) rfl ?_
  refine n_iadd f_7_3 rfl ?_
  refine n_ial f_7_4 rfl (by assumption) (by unfold ev_ext; omega) (by omega) ?_
  refine n_bip (m := 16) f_7_5 rfl (by decide) ?_
  refine n_irem f_7_7 rfl (by omega) ?_
  refine n_go f_7_8 rfl (pc' := 9) (st' := .int (iI 2) :: _) rfl ?_
  refine n_isub f_7_9 rfl ?_
  refine n_ret f_7_10 rfl rfl ?_
  exact KK
theorem c_lthere (hD : Rw h A N D) (hr : 0 ≤ o ∧ 0 ≤ i ∧ o + i < N) (KK : P (.inl (some (.int (iI (b2 (lt D o i)))))) h) : En V d 3 0 [some (.ref A), some (.int (iI o)), some (.int (iI i))] [] h P := by
  obtain ⟨a1, a2, a3, a4, a5⟩ := hD
  have := a5 (o + i)
  unfold lt at KK
  refine n_go f_3_0 rfl (pc' := 1) rfl ?_
  refine n_go f_3_1 rfl (pc' := 2) rfl ?_
  refine n_go f_3_2 rfl (pc' := 3) rfl ?_
  refine n_iadd f_3_3 rfl ?_
  refine n_ial f_3_4 rfl (by assumption) (by unfold ev_ext; omega) (by omega) ?_
  refine n_bip (m := 16) f_3_5 rfl (by decide) ?_
  refine n_irem f_3_7 rfl (by omega) ?_
  refine n_if_le f_3_8 rfl rfl (by omega) (fun e => ?_) (fun e => ?_)
  · rw [decide_eq_false (by omega)] at KK
    refine n_go f_3_15 rfl (pc' := 16) (st' := .int (iI 0) :: _) rfl ?_
    first | refine n_rtz f_3_16 rfl ?_ | refine n_rt0 f_3_16 rfl ?_ | refine n_rt1 f_3_16 rfl ?_
    exact KK
  · rw [decide_eq_true (by omega)] at KK
    refine n_go f_3_11 rfl (pc' := 12) (st' := .int (iI 1) :: _) rfl ?_
    refine n_go f_3_12 rfl (pc' := 16) rfl ?_
    first | refine n_rtz f_3_16 rfl ?_ | refine n_rt0 f_3_16 rfl ?_ | refine n_rt1 f_3_16 rfl ?_
    exact KK
theorem c_lkids (hB : Rw h B 8 E) (hm : E 0 = m ∧ 1 ≤ m ∧ m ≤ 10) (hD : Rw h A N D) (hr : 0 ≤ o ∧ o + 10 ≤ N) (hp : -2147483648 ≤ p ∧ p < 2147483648) (KK : P (.inl (some (.int (iI (cnI m (lk D o p)))))) h) : En V (d + 1) 4 0 [some (.ref B), some (.ref A), some (.int (iI o)), some (.int (iI p)), none, none] [] h P := by
  obtain ⟨b1, b2', b3, b4, b5⟩ := id hB
  obtain ⟨m0, m1, m2⟩ := hm
  have hN : (N : Int) ≤ 60 := by have := hD.2.2.2.1; omega
  have z0 : lk D o p 0 = false := rfl
  refine n_go f_4_0 rfl (pc' := 1) (st' := .int (iI 0) :: _) rfl ?_
  refine n_go f_4_1 rfl (pc' := 3) (ls' := [_, _, _, _, _, _]) rfl ?_
  refine n_go f_4_3 rfl (pc' := 4) (st' := .int (iI 1) :: _) rfl ?_
  refine n_go f_4_4 rfl (pc' := 6) (ls' := [_, _, _, _, _, _]) rfl ?_
  refine n_for (lo := 1) (hi := m) m1 (fun j ls st h' => ls = [some (.ref B), some (.ref A), some (.int (iI o)), some (.int (iI p)), some (.int (iI (cnI j (lk D o p)))), some (.int (iI j))] ∧ st = [] ∧ h' = h) ⟨?_, rfl, rfl⟩ ?_ ?_
  · rw [show cnI 1 (lk D o p) = 0 from (cnI_f (i := 0) (by decide) z0)]
  · rintro j ls st h' j1 j2 ⟨rfl, rfl, rfl⟩ kk
    have hc := cnI_r (p := lk D o p) (by omega : 0 ≤ j)
    have hl : lh D o j < 100 ∧ -100 < lh D o j := by unfold lh; omega
    have fin : ∀ c : Bool, lk D o p j = c → En V (d + 1) 4 42 [some (.ref B), some (.ref A), some (.int (iI o)), some (.int (iI p)), some (.int (iI (cnI j (lk D o p)))), some (.int (iI j))] [.int (iI (b2 c)), .int (iI (cnI j (lk D o p)))] h' P := fun c e => by
      refine n_iadd f_4_42 rfl ?_
      refine n_go f_4_43 rfl (pc' := 45) (ls' := [_, _, _, _, _, _]) rfl ?_
      refine n_iinc (m' := 1) (ls' := [_, _, _, _, _, _]) f_4_45 rfl rfl rfl rfl ?_
      refine n_go f_4_48 rfl (pc' := 6) rfl ?_
      refine kk _ _ _ ⟨?_, rfl, rfl⟩
      cases c
      · rw [cnI_f (by omega) e]
        show [_, _, _, _, some (Value.int (iI (cnI j (lk D o p) + 0))), _] = _
        rw [Int.add_zero]
      · rw [cnI_t (by omega) e]
        rfl
    refine n_go f_4_6 rfl (pc' := 8) rfl ?_
    refine n_go f_4_8 rfl (pc' := 9) rfl ?_
    refine n_go f_4_9 rfl (pc' := 10) (st' := .int (iI 0) :: _) rfl ?_
    refine n_ial f_4_10 rfl (by assumption) (by unfold ev_ext; omega) (by omega) ?_
    show En V _ _ 11 _ [.int (iI (E 0)), .int (iI j)] _ _
    rw [m0]
    refine n_ic_ge f_4_11 rfl rfl ⟨by omega, by omega⟩ (fun e9 => absurd e9 (by omega)) (fun _ => ?_)
    refine n_go f_4_14 rfl (pc' := 16) rfl ?_
    refine n_go f_4_16 rfl (pc' := 17) rfl ?_
    refine n_go f_4_17 rfl (pc' := 18) rfl ?_
    refine n_go f_4_18 rfl (pc' := 20) rfl ?_
    refine n_cs (ls' := [_, _, _]) f_4_20 (by decide) m_3 rfl rfl ?_
    refine c_lthere hD (by omega) ?_
    show En V _ 4 23 _ [_, _] _ _
    refine n_ib_eq f_4_23 rfl rfl (fun e1 => ?_) (fun e1 => ?_)
    · refine n_go f_4_41 rfl (pc' := 42) (st' := .int (iI 0) :: _) rfl ?_
      exact fin false (by unfold lk; rw [e1, Bool.and_false, Bool.false_and])
    refine n_go f_4_26 rfl (pc' := 27) rfl ?_
    refine n_go f_4_27 rfl (pc' := 28) rfl ?_
    refine n_go f_4_28 rfl (pc' := 30) rfl ?_
    refine n_cs (ls' := [_, _, _]) f_4_30 (by decide) m_7 rfl rfl ?_
    refine c_lholder hD (by omega) ?_
    show En V _ 4 33 _ [_, _] _ _
    refine n_go f_4_33 rfl (pc' := 34) rfl ?_
    refine n_ic_ne f_4_34 rfl rfl ⟨by omega, by omega⟩ (fun e2 => ?_) (fun e2 => ?_)
    · refine n_go f_4_41 rfl (pc' := 42) (st' := .int (iI 0) :: _) rfl ?_
      exact fin false (by unfold lk; rw [decide_eq_false e2, Bool.and_false])
    · refine n_go f_4_37 rfl (pc' := 38) (st' := .int (iI 1) :: _) rfl ?_
      refine n_go f_4_38 rfl (pc' := 42) rfl ?_
      exact fin true (by unfold lk; rw [e1, decide_eq_true j1, decide_eq_true (Classical.not_not.mp e2)]; rfl)
  · rintro ls st h' ⟨rfl, rfl, rfl⟩
    refine n_go f_4_6 rfl (pc' := 8) rfl ?_
    refine n_go f_4_8 rfl (pc' := 9) rfl ?_
    refine n_go f_4_9 rfl (pc' := 10) (st' := .int (iI 0) :: _) rfl ?_
    refine n_ial f_4_10 rfl (by assumption) (by unfold ev_ext; omega) (by omega) ?_
    show En V _ _ 11 _ [.int (iI (E 0)), .int (iI m)] _ _
    rw [m0]
    refine n_ic_ge f_4_11 rfl rfl ⟨by omega, by omega⟩ (fun _ => ?_) (fun e9 => absurd (by omega) e9)
    refine n_go f_4_51 rfl (pc' := 53) rfl ?_
    refine n_ret f_4_53 rfl rfl ?_
    exact KK
/-- the child of a node at a place, -1 if none -/
def kdF (D : Int → Int) (o p : Int) (is1 : Bool) (q : Int) : Nat → Int
  | 0 => -1
  | j + 1 => if lk D o p j = true ∧ (if is1 = true then cnI j (lk D o p) else lrow D o j) = q then (j : Int) else kdF D o p is1 q j
theorem kdF_r (D : Int → Int) (o p : Int) (is1 : Bool) (q : Int) (j : Nat) : -1 ≤ kdF D o p is1 q j ∧ kdF D o p is1 q j < (j : Int) + 0 ∨ (j = 0 ∧ kdF D o p is1 q j = -1) := by
  induction j with
  | zero => exact Or.inr ⟨rfl, rfl⟩
  | succ j ih =>
    unfold kdF
    split <;> omega
theorem c_lkid (hB : Rw h B 8 E) (hm : E 0 = m ∧ 1 ≤ m ∧ m ≤ 10) (hD : Rw h A N D) (hC : Rw h C 10 F) (hr : 0 ≤ o ∧ o + 10 ≤ N) (hp : 0 ≤ p ∧ p < 10) (hq : -2147483648 ≤ q ∧ q < 2147483648) (KK : P (.inl (some (.int (iI (kdF D o p (decide (F p = 1)) q m.toNat))))) h) : En V (d + 1) 76 0 [some (.ref B), some (.ref A), some (.int (iI o)), some (.ref C), some (.int (iI p)), some (.int (iI q)), none, none, none] [] h P := by
  obtain ⟨b1, b2', b3, b4, b5⟩ := id hB
  obtain ⟨d1, d2, d3, d4, d5⟩ := id hD
  obtain ⟨c1, c2, c3, c4, c5⟩ := id hC
  obtain ⟨m0, m1, m2⟩ := hm
  have hN : (N : Int) ≤ 60 := by omega
  have z0 : lk D o p 0 = false := rfl
  refine n_go f_76_0 rfl (pc' := 1) (st' := .int (iI 0) :: _) rfl ?_
  refine n_go f_76_1 rfl (pc' := 3) (ls' := [_, _, _, _, _, _, _, _, _]) rfl ?_
  refine n_go f_76_3 rfl (pc' := 4) (st' := .int (iI (-1)) :: _) rfl ?_
  refine n_go f_76_4 rfl (pc' := 6) (ls' := [_, _, _, _, _, _, _, _, _]) rfl ?_
  refine n_go f_76_6 rfl (pc' := 7) (st' := .int (iI 1) :: _) rfl ?_
  refine n_go f_76_7 rfl (pc' := 9) (ls' := [_, _, _, _, _, _, _, _, _]) rfl ?_
  refine n_for (lo := 1) (hi := m) m1 (fun j ls st h' => ls = [some (.ref B), some (.ref A), some (.int (iI o)), some (.ref C), some (.int (iI p)), some (.int (iI q)), some (.int (iI (cnI j (lk D o p)))), some (.int (iI (kdF D o p (decide (F p = 1)) q j.toNat))), some (.int (iI j))] ∧ st = [] ∧ h' = h) ⟨?_, rfl, rfl⟩ ?_ ?_
  · rw [show cnI 1 (lk D o p) = 0 from (cnI_f (i := 0) (by decide) z0), show kdF D o p (decide (F p = 1)) q (1 : Int).toNat = -1 from if_neg (fun e => absurd (e.1.symm.trans z0) (by decide))]
  · rintro j ls st h' j1 j2 ⟨rfl, rfl, rfl⟩ kk
    have hc := cnI_r (p := lk D o p) (by omega : 0 ≤ j)
    have hl : lh D o j < 100 ∧ -100 < lh D o j := by unfold lh; omega
    have hk := kdF_r D o p (decide (F p = 1)) q j.toNat
    have hdj := d5 (o + j)
    have hw : 0 ≤ lrow D o j ∧ lrow D o j < 16 := by unfold lrow; omega
    have ejs : (j + 1).toNat = j.toNat + 1 := by omega
    have ej : ((j.toNat : Nat) : Int) = j := by omega
    have no : lk D o p j = false → En V (d + 1) 76 81 [some (.ref B), some (.ref A), some (.int (iI o)), some (.ref C), some (.int (iI p)), some (.int (iI q)), some (.int (iI (cnI j (lk D o p)))), some (.int (iI (kdF D o p (decide (F p = 1)) q j.toNat))), some (.int (iI j))] [] h' P := fun e => by
      refine n_iinc (m' := 1) (ls' := [_, _, _, _, _, _, _, _, _]) f_76_81 rfl rfl rfl rfl ?_
      refine n_go f_76_84 rfl (pc' := 9) rfl ?_
      refine kk _ _ _ ⟨?_, rfl, rfl⟩
      rw [cnI_f (by omega) e, ejs, show kdF D o p (decide (F p = 1)) q (j.toNat + 1) = kdF D o p (decide (F p = 1)) q j.toNat from if_neg (fun e9 => by rw [ej] at e9; exact absurd (e9.1.symm.trans e) (by decide))]
    have yes : lk D o p j = true → ∀ r, -2147483648 ≤ r → r < 2147483648 → r = (if decide (F p = 1) = true then cnI j (lk D o p) else lrow D o j) → En V (d + 1) 76 64 [some (.ref B), some (.ref A), some (.int (iI o)), some (.ref C), some (.int (iI p)), some (.int (iI q)), some (.int (iI (cnI j (lk D o p)))), some (.int (iI (kdF D o p (decide (F p = 1)) q j.toNat))), some (.int (iI j))] [.int (iI r)] h' P := fun e r r1 r2 r3 => by
      refine n_go f_76_64 rfl (pc' := 66) rfl ?_
      refine n_ic_ne f_76_66 rfl rfl ⟨by omega, by omega⟩ (fun e2 => ?_) (fun e2 => ?_)
      · refine n_go f_76_74 rfl (pc' := 76) rfl ?_
        refine n_go f_76_76 rfl (pc' := 78) (ls' := [_, _, _, _, _, _, _, _, _]) rfl ?_
        refine n_iinc (m' := 1) (ls' := [_, _, _, _, _, _, _, _, _]) f_76_78 rfl rfl rfl rfl ?_
        refine n_iinc (m' := 1) (ls' := [_, _, _, _, _, _, _, _, _]) f_76_81 rfl rfl rfl rfl ?_
        refine n_go f_76_84 rfl (pc' := 9) rfl ?_
        refine kk _ _ _ ⟨?_, rfl, rfl⟩
        rw [cnI_t (by omega) e, ejs, show kdF D o p (decide (F p = 1)) q (j.toNat + 1) = kdF D o p (decide (F p = 1)) q j.toNat from if_neg (fun e9 => by rw [ej] at e9; exact e2 (r3.trans e9.2))]
      · refine n_go f_76_69 rfl (pc' := 71) rfl ?_
        refine n_go f_76_71 rfl (pc' := 76) rfl ?_
        refine n_go f_76_76 rfl (pc' := 78) (ls' := [_, _, _, _, _, _, _, _, _]) rfl ?_
        refine n_iinc (m' := 1) (ls' := [_, _, _, _, _, _, _, _, _]) f_76_78 rfl rfl rfl rfl ?_
        refine n_iinc (m' := 1) (ls' := [_, _, _, _, _, _, _, _, _]) f_76_81 rfl rfl rfl rfl ?_
        refine n_go f_76_84 rfl (pc' := 9) rfl ?_
        refine kk _ _ _ ⟨?_, rfl, rfl⟩
        rw [cnI_t (by omega) e, ejs, show kdF D o p (decide (F p = 1)) q (j.toNat + 1) = ((j.toNat : Nat) : Int) from if_pos (by rw [ej]; exact ⟨e, r3.symm.trans (Classical.not_not.mp e2)⟩), ej]
    refine n_go f_76_9 rfl (pc' := 11) rfl ?_
    refine n_go f_76_11 rfl (pc' := 12) rfl ?_
    refine n_go f_76_12 rfl (pc' := 13) (st' := .int (iI 0) :: _) rfl ?_
    refine n_ial f_76_13 rfl (by assumption) (by unfold ev_ext; omega) (by omega) ?_
    show En V _ _ 14 _ [.int (iI (E 0)), .int (iI j)] _ _
    rw [m0]
    refine n_ic_ge f_76_14 rfl rfl ⟨by omega, by omega⟩ (fun e9 => absurd e9 (by omega)) (fun _ => ?_)
    refine n_go f_76_17 rfl (pc' := 18) rfl ?_
    refine n_go f_76_18 rfl (pc' := 19) rfl ?_
    refine n_go f_76_19 rfl (pc' := 21) rfl ?_
    refine n_cs (ls' := [_, _, _]) f_76_21 (by decide) m_3 rfl rfl ?_
    refine c_lthere hD (by omega) ?_
    show En V _ 76 24 _ [_] _ _
    refine n_ib_eq f_76_24 rfl rfl (fun e1 => ?_) (fun e1 => ?_)
    · exact no (by unfold lk; rw [e1, Bool.and_false, Bool.false_and])
    refine n_go f_76_27 rfl (pc' := 28) rfl ?_
    refine n_go f_76_28 rfl (pc' := 29) rfl ?_
    refine n_go f_76_29 rfl (pc' := 31) rfl ?_
    refine n_cs (ls' := [_, _, _]) f_76_31 (by decide) m_7 rfl rfl ?_
    refine c_lholder hD (by omega) ?_
    show En V _ 76 34 _ [_] _ _
    refine n_go f_76_34 rfl (pc' := 36) rfl ?_
    refine n_ic_ne f_76_36 rfl rfl ⟨by omega, by omega⟩ (fun e2 => ?_) (fun e2 => ?_)
    · exact no (by unfold lk; rw [decide_eq_false e2, Bool.and_false])
    have e : lk D o p j = true := by unfold lk; rw [e1, decide_eq_true j1, decide_eq_true (Classical.not_not.mp e2)]; rfl
    have hf := c5 p
    refine n_go f_76_39 rfl (pc' := 40) rfl ?_
    refine n_go f_76_40 rfl (pc' := 42) rfl ?_
    refine n_ial f_76_42 rfl (c1) (by unfold ev_ext; omega) (by omega) ?_
    refine n_go f_76_43 rfl (pc' := 44) (st' := .int (iI 1) :: _) rfl ?_
    refine n_ic_ne f_76_44 rfl rfl ⟨by omega, by omega⟩ (fun e3 => ?_) (fun e3 => ?_)
    · refine n_go f_76_52 rfl (pc' := 53) rfl ?_
      refine n_go f_76_53 rfl (pc' := 54) rfl ?_
      refine n_go f_76_54 rfl (pc' := 56) rfl ?_
      refine n_iadd f_76_56 rfl ?_
      refine n_ial f_76_57 rfl (d1) (by unfold ev_ext; omega) (by omega) ?_
      refine n_bip (m := 16) f_76_58 rfl (by decide) ?_
      refine n_idiv f_76_60 rfl (by omega) ?_
      refine n_bip (m := 16) f_76_61 rfl (by decide) ?_
      refine n_irem f_76_63 rfl (by omega) ?_
      exact yes e _ (by omega) (by omega) (by rw [if_neg (by rw [decide_eq_true_eq]; exact e3)]; rfl)
    · refine n_go f_76_47 rfl (pc' := 49) rfl ?_
      refine n_go f_76_49 rfl (pc' := 64) rfl ?_
      exact yes e _ (by omega) (by omega) (by rw [if_pos (by rw [decide_eq_true_eq]; exact Classical.not_not.mp e3)])
  · rintro ls st h' ⟨rfl, rfl, rfl⟩
    refine n_go f_76_9 rfl (pc' := 11) rfl ?_
    refine n_go f_76_11 rfl (pc' := 12) rfl ?_
    refine n_go f_76_12 rfl (pc' := 13) (st' := .int (iI 0) :: _) rfl ?_
    refine n_ial f_76_13 rfl (by assumption) (by unfold ev_ext; omega) (by omega) ?_
    show En V _ _ 14 _ [.int (iI (E 0)), .int (iI m)] _ _
    rw [m0]
    refine n_ic_ge f_76_14 rfl rfl ⟨by omega, by omega⟩ (fun _ => ?_) (fun e9 => absurd (by omega) e9)
    refine n_go f_76_87 rfl (pc' := 89) rfl ?_
    refine n_ret f_76_89 rfl rfl ?_
    exact KK
end LL
