/-! The law's shifts and rowPlace. -/
section LP
variable {V : ev_V} {d : Nat} {h : ev_H} {P : ev_O → ev_H → Prop} {A B C N M : Nat} {D E F W X : Int → Int} {o t i k m p q l s : Int}
theorem c_lshifts (hB : Rw h B 8 E) (hm : E 0 = m ∧ 1 ≤ m ∧ m ≤ 10) (hD : Rw h A N D) (hne : ¬ B = A) (hr : 0 ≤ o ∧ o + 10 ≤ N) (hp : -2147483648 ≤ p ∧ p < 2147483648) (hq : -2147483648 ≤ q ∧ q < 2147483648) (hs : s = 1 ∨ s = -1) (hD2 : ∀ i, D i < 900000) (hlo : ∀ i, 0 ≤ i → i < 10 → lk D o p i = true → q ≤ D (o + i) / 16 % 16 → s = 1 ∨ 1 ≤ D (o + i) / 16 % 16) (KK : P (.inl none) (ev_set h A (aI N (shF D o p q s m)))) : En V (d + 1) 39 0 [some (.ref B), some (.ref A), some (.int (iI o)), some (.int (iI p)), some (.int (iI q)), some (.int (iI s)), none, none] [] h P := by
  obtain ⟨b1, b2', b3, b4, b5⟩ := id hB
  obtain ⟨d1, d2, d3, d4, d5⟩ := id hD
  obtain ⟨m0, m1, m2⟩ := hm
  have hN : (N : Int) ≤ 60 := by omega
  refine n_go f_39_0 rfl (pc' := 1) (st' := .int (iI 1) :: _) rfl ?_
  refine n_go f_39_1 rfl (pc' := 3) (ls' := [_, _, _, _, _, _, _, _]) rfl ?_
  refine n_for (lo := 1) (hi := m) m1 (fun j ls st h' => (∃ u, ls = [some (.ref B), some (.ref A), some (.int (iI o)), some (.int (iI p)), some (.int (iI q)), some (.int (iI s)), some (.int (iI j)), u]) ∧ st = [] ∧ h' = ev_set h A (aI N (shF D o p q s j))) ⟨⟨_, rfl⟩, rfl, ?_⟩ ?_ ?_
  · rw [aI_congr (f := shF D o p q s 1) (f' := D) (fun i _ _ => if_neg (by omega)), g_sf d1]
  · rintro j ls st h' j1 j2 ⟨⟨u, rfl⟩, rfl, rfl⟩ kk
    have hdj := d5 (o + j)
    have hdk := hD2 (o + j)
    have hl : lh D o j < 100 ∧ -100 < lh D o j := by unfold lh; omega
    have ho : shF D o p q s j (o + j) = D (o + j) := if_neg (by omega)
    have eo : o + j - o = j := by omega
    have hrg : ∀ i, 0 ≤ shF D o p q s j i ∧ shF D o p q s j i < 1000000 := fun i => by
      have h1 := d5 i
      have h2 := hD2 i
      unfold shF
      split
      · next e =>
        obtain ⟨e1, e2, e3, e4⟩ := e
        have h3 := hlo (i - o) (by omega) (by omega) e3 (by rw [show o + (i - o) = i by omega]; exact e4)
        rw [show o + (i - o) = i by omega] at h3
        omega
      · omega
    have hR : Rw (ev_set h A (aI N (shF D o p q s j))) A N (shF D o p q s j) := hD.new hrg
    have eB : (ev_set h A (aI N (shF D o p q s j))).1[B]? = _ := (g_ne (fun e => hne e.symm)).trans b1
    have eA := hR.1
    have hlt : lt (shF D o p q s j) o j = lt D o j := by unfold lt; rw [ho]
    have hlh : lh (shF D o p q s j) o j = lh D o j := by unfold lh; rw [ho]
    have fin : ∀ c : Bool, c = decide (lk D o p j = true ∧ q ≤ D (o + j) / 16 % 16) → ∀ u, En V (d + 1) 39 54 [some (.ref B), some (.ref A), some (.int (iI o)), some (.int (iI p)), some (.int (iI q)), some (.int (iI s)), some (.int (iI j)), u] [.int (iI (b2 c))] (ev_set h A (aI N (shF D o p q s j))) P := fun c e u => by
      have last : ∀ v : Int, v = (if lk D o p j = true ∧ q ≤ D (o + j) / 16 % 16 then 16 * s else 0) → ∀ u, En V (d + 1) 39 77 [some (.ref B), some (.ref A), some (.int (iI o)), some (.int (iI p)), some (.int (iI q)), some (.int (iI s)), some (.int (iI j)), u] [.int (iI v), .int (iI (D (o + j))), .int (iI (o + j)), .ref A] (ev_set h A (aI N (shF D o p q s j))) P := fun v hv u => by
        refine n_iadd f_39_77 rfl ?_
        refine n_ias f_39_78 rfl (eA) (by omega) ?_
        refine n_iinc (m' := 1) (ls' := [_, _, _, _, _, _, _, _]) f_39_79 rfl rfl rfl rfl ?_
        refine n_go f_39_82 rfl (pc' := 3) rfl ?_
        refine kk _ _ _ ⟨⟨_, rfl⟩, rfl, ?_⟩
        rw [g_ss, aI_congr (f' := shF D o p q s (j + 1)) (fun i _ _ => ?_)]
        by_cases hi : i = o + j
        · rw [hi, uz_same, hv]
          unfold shF
          rw [eo]
          by_cases hc : lk D o p j = true ∧ q ≤ D (o + j) / 16 % 16
          · rw [if_pos hc, if_pos ⟨by omega, by omega, hc.1, hc.2⟩]
          · rw [if_neg hc, if_neg (fun e9 => hc ⟨e9.2.2.1, e9.2.2.2⟩), Int.add_zero]
        · rw [uz_ne _ _ hi]
          unfold shF
          exact ite_c ⟨fun ⟨x1, x2, x3, x4⟩ => ⟨x1, by omega, x3, x4⟩, fun ⟨x1, x2, x3, x4⟩ => ⟨x1, by omega, x3, x4⟩⟩ _ _
      refine n_go f_39_54 rfl (pc' := 56) (ls' := [_, _, _, _, _, _, _, _]) rfl ?_
      refine n_go f_39_56 rfl (pc' := 57) rfl ?_
      refine n_go f_39_57 rfl (pc' := 58) rfl ?_
      refine n_go f_39_58 rfl (pc' := 60) rfl ?_
      refine n_iadd f_39_60 rfl ?_
      refine n_go f_39_61 rfl (pc' := 62) rfl ?_
      refine n_ial f_39_62 rfl (eA) (by unfold ev_ext; omega) (by omega) ?_
      rw [ho]
      cases c
      · have hc := of_decide_eq_false e.symm
        refine n_go f_39_63 rfl (pc' := 65) rfl ?_
        refine n_ib_eq f_39_65 rfl rfl (fun _ => ?_) (fun e9 => absurd (e9.symm.trans (rfl)) (by decide))
        refine n_go f_39_76 rfl (pc' := 77) (st' := .int (iI 0) :: _) rfl ?_
        exact last 0 (by rw [if_neg hc]) _
      · have hc := of_decide_eq_true e.symm
        refine n_go f_39_63 rfl (pc' := 65) rfl ?_
        refine n_ib_eq f_39_65 rfl rfl (fun e9 => absurd (e9.symm.trans (rfl)) (by decide)) (fun _ => ?_)
        refine n_bip (m := 16) f_39_68 rfl (by decide) ?_
        refine n_go f_39_70 rfl (pc' := 72) rfl ?_
        refine n_imul f_39_72 rfl ?_
        refine n_go f_39_73 rfl (pc' := 77) rfl ?_
        exact last _ (by rw [if_pos hc]) _
    refine n_go f_39_3 rfl (pc' := 5) rfl ?_
    refine n_go f_39_5 rfl (pc' := 6) rfl ?_
    refine n_go f_39_6 rfl (pc' := 7) (st' := .int (iI 0) :: _) rfl ?_
    refine n_ial f_39_7 rfl (eB) (by unfold ev_ext; omega) (by omega) ?_
    show En V _ _ 8 _ [.int (iI (E 0)), .int (iI j)] _ _
    rw [m0]
    refine n_ic_ge f_39_8 rfl rfl ⟨by omega, by omega⟩ (fun e9 => absurd e9 (by omega)) (fun _ => ?_)
    refine n_go f_39_11 rfl (pc' := 12) rfl ?_
    refine n_go f_39_12 rfl (pc' := 13) rfl ?_
    refine n_go f_39_13 rfl (pc' := 15) rfl ?_
    refine n_cs (ls' := [_, _, _]) f_39_15 (by decide) m_3 rfl rfl ?_
    refine c_lthere hR (by omega) ?_
    show En V _ 39 18 _ [_] _ _
    rw [hlt]
    refine n_ib_eq f_39_18 rfl rfl (fun e1 => ?_) (fun e1 => ?_)
    · refine n_go f_39_53 rfl (pc' := 54) (st' := .int (iI 0) :: _) rfl ?_
      exact fin false (by rw [decide_eq_false (fun e => by unfold lk at e; rw [e1, Bool.and_false, Bool.false_and] at e; exact absurd e.1 (by decide))]) _
    refine n_go f_39_21 rfl (pc' := 22) rfl ?_
    refine n_go f_39_22 rfl (pc' := 23) rfl ?_
    refine n_go f_39_23 rfl (pc' := 25) rfl ?_
    refine n_cs (ls' := [_, _, _]) f_39_25 (by decide) m_7 rfl rfl ?_
    refine c_lholder hR (by omega) ?_
    show En V _ 39 28 _ [_] _ _
    rw [hlh]
    refine n_go f_39_28 rfl (pc' := 29) rfl ?_
    refine n_ic_ne f_39_29 rfl rfl ⟨by omega, by omega⟩ (fun e2 => ?_) (fun e2 => ?_)
    · refine n_go f_39_53 rfl (pc' := 54) (st' := .int (iI 0) :: _) rfl ?_
      exact fin false (by rw [decide_eq_false (fun e => by unfold lk at e; rw [decide_eq_false e2, Bool.and_false] at e; exact absurd e.1 (by decide))]) _
    have e3 : lk D o p j = true := by unfold lk; rw [e1, decide_eq_true j1, decide_eq_true (Classical.not_not.mp e2)]; rfl
    have hsj := hrg (o + j)
    refine n_go f_39_32 rfl (pc' := 33) rfl ?_
    refine n_go f_39_33 rfl (pc' := 34) rfl ?_
    refine n_go f_39_34 rfl (pc' := 36) rfl ?_
    refine n_iadd f_39_36 rfl ?_
    refine n_ial f_39_37 rfl (eA) (by unfold ev_ext; omega) (by omega) ?_
    refine n_bip (m := 16) f_39_38 rfl (by decide) ?_
    refine n_idiv f_39_40 rfl (by omega) ?_
    refine n_bip (m := 16) f_39_41 rfl (by decide) ?_
    refine n_irem f_39_43 rfl (by omega) ?_
    rw [ho]
    refine n_go f_39_44 rfl (pc' := 46) rfl ?_
    refine n_ic_lt f_39_46 rfl rfl ⟨by omega, by omega⟩ (fun e4 => ?_) (fun e4 => ?_)
    · refine n_go f_39_53 rfl (pc' := 54) (st' := .int (iI 0) :: _) rfl ?_
      exact fin false (by rw [decide_eq_false (fun e => by have := e.2; omega)]) _
    · refine n_go f_39_49 rfl (pc' := 50) (st' := .int (iI 1) :: _) rfl ?_
      refine n_go f_39_50 rfl (pc' := 54) rfl ?_
      exact fin true (by rw [decide_eq_true ⟨e3, by omega⟩]) _
  · rintro ls st h' ⟨⟨u, rfl⟩, rfl, rfl⟩
    have eB : (ev_set h A (aI N (shF D o p q s m))).1[B]? = _ := (g_ne (fun e => hne e.symm)).trans b1
    refine n_go f_39_3 rfl (pc' := 5) rfl ?_
    refine n_go f_39_5 rfl (pc' := 6) rfl ?_
    refine n_go f_39_6 rfl (pc' := 7) (st' := .int (iI 0) :: _) rfl ?_
    refine n_ial f_39_7 rfl (eB) (by unfold ev_ext; omega) (by omega) ?_
    show En V _ _ 8 _ [.int (iI (E 0)), .int (iI m)] _ _
    rw [m0]
    refine n_ic_ge f_39_8 rfl rfl ⟨by omega, by omega⟩ (fun _ => ?_) (fun e9 => absurd (by omega) e9)
    refine n_ret f_39_85 rfl rfl ?_
    exact KK
/-- the row's place of a child at a place -/
def rpF (D F : Int → Int) (o p q m : Int) : Int := if q = 0 then 0 else if kdF D o p (decide (F p = 1)) (q - 1) m.toNat < 0 then 0 else lrow D o (kdF D o p (decide (F p = 1)) (q - 1) m.toNat) + 1
theorem c_lrowPlace (hB : Rw h B 8 E) (hm : E 0 = m ∧ 1 ≤ m ∧ m ≤ 10) (hD : Rw h A N D) (hC : Rw h C 10 F) (hr : 0 ≤ o ∧ o + 10 ≤ N) (hp : 0 ≤ p ∧ p < 10) (hq : -2147483647 ≤ q ∧ q < 2147483648) (KK : P (.inl (some (.int (iI (rpF D F o p q m))))) h) : En V (d + 2) 38 0 [some (.ref B), some (.ref A), some (.int (iI o)), some (.ref C), some (.int (iI p)), some (.int (iI q)), none] [] h P := by
  obtain ⟨d1, d2, d3, d4, d5⟩ := id hD
  have hN : (N : Int) ≤ 60 := by omega
  unfold rpF at KK
  have fin : ∀ c : Int, -1 ≤ c → c < 10 → (c < 0 → P (.inl (some (.int (iI 0)))) h) → (0 ≤ c → P (.inl (some (.int (iI (lrow D o c + 1))))) h) → En V (d + 2) 38 22 [some (.ref B), some (.ref A), some (.int (iI o)), some (.ref C), some (.int (iI p)), some (.int (iI q)), none] [.int (iI c)] h P := fun c c1 c2 k1 k2 => by
    have hdc := d5 (o + c)
    refine n_go f_38_22 rfl (pc' := 24) (ls' := [_, _, _, _, _, _, _]) rfl ?_
    refine n_go f_38_24 rfl (pc' := 26) rfl ?_
    refine n_if_ge f_38_26 rfl rfl (by omega) (fun e => ?_) (fun e => ?_)
    · refine n_go f_38_33 rfl (pc' := 34) rfl ?_
      refine n_go f_38_34 rfl (pc' := 35) rfl ?_
      refine n_go f_38_35 rfl (pc' := 37) rfl ?_
      refine n_iadd f_38_37 rfl ?_
      refine n_ial f_38_38 rfl (d1) (by unfold ev_ext; omega) (by omega) ?_
      refine n_bip (m := 16) f_38_39 rfl (by decide) ?_
      refine n_idiv f_38_41 rfl (by omega) ?_
      refine n_bip (m := 16) f_38_42 rfl (by decide) ?_
      refine n_irem f_38_44 rfl (by omega) ?_
      refine n_go f_38_45 rfl (pc' := 46) (st' := .int (iI 1) :: _) rfl ?_
      refine n_iadd f_38_46 rfl ?_
      refine n_ret f_38_47 rfl rfl ?_
      exact k2 (by omega)
    · refine n_go f_38_29 rfl (pc' := 30) (st' := .int (iI 0) :: _) rfl ?_
      refine n_go f_38_30 rfl (pc' := 47) rfl ?_
      refine n_ret f_38_47 rfl rfl ?_
      exact k1 (by omega)
  refine n_go f_38_0 rfl (pc' := 2) rfl ?_
  refine n_if_ne f_38_2 rfl rfl (by omega) (fun e => ?_) (fun e => ?_)
  · rw [if_neg e] at KK
    have hk := kdF_r D o p (decide (F p = 1)) (q - 1) m.toNat
    refine n_go f_38_9 rfl (pc' := 10) rfl ?_
    refine n_go f_38_10 rfl (pc' := 11) rfl ?_
    refine n_go f_38_11 rfl (pc' := 12) rfl ?_
    refine n_go f_38_12 rfl (pc' := 13) rfl ?_
    refine n_go f_38_13 rfl (pc' := 15) rfl ?_
    refine n_go f_38_15 rfl (pc' := 17) rfl ?_
    refine n_go f_38_17 rfl (pc' := 18) (st' := .int (iI 1) :: _) rfl ?_
    refine n_isub f_38_18 rfl ?_
    refine n_cs (ls' := [_, _, _, _, _, _, _, _, _]) f_38_19 (by decide) m_76 rfl rfl ?_
    refine c_lkid hB hm hD hC hr hp (by omega) ?_
    show En V _ 38 22 _ [_] _ _
    refine fin _ (by omega) (by omega) (fun c => ?_) (fun c => ?_)
    · rw [if_pos c] at KK
      exact KK
    · rw [if_neg (by omega)] at KK
      exact KK
  · rw [if_pos (Classical.not_not.mp e)] at KK
    refine n_go f_38_5 rfl (pc' := 6) (st' := .int (iI (-1)) :: _) rfl ?_
    refine n_go f_38_6 rfl (pc' := 22) rfl ?_
    exact fin _ (by decide) (by decide) (fun _ => KK) (fun c => absurd c (by decide))
end LP
