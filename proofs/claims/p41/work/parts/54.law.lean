/-! The law's drops, shifts, isBelow, depth. -/
/-- rows of a holder's children from one on moved by a step -/
def shF (D : Int → Int) (o p q s j : Int) : Int → Int := fun i => if o + 1 ≤ i ∧ i < o + j ∧ lk D o p (i - o) = true ∧ q ≤ D i / 16 % 16 then D i + 16 * s else D i
/-- a node's holder, its holder's, so often -/
def upF (D : Int → Int) (o : Int) : Nat → Int → Int
  | 0, i => i
  | j + 1, i => upF D o j (lh D o i)
section LO
variable {V : ev_V} {d : Nat} {h : ev_H} {P : ev_O → ev_H → Prop} {A B C N M : Nat} {D E F W X : Int → Int} {o t i k m p q l s : Int}
theorem c_ldrops (hB : Rw h B 8 E) (hm : E 1 = m ∧ 0 ≤ m ∧ m ≤ 10) (hA : Rw h A N D) (hX : Rw h M N X) (hW : Rw h C 10 W) (hne : ¬ B = A ∧ ¬ B = M ∧ ¬ A = M ∧ ¬ C = A ∧ ¬ C = M) (hr : 0 ≤ o ∧ o + 10 ≤ N) (hl : 0 ≤ l ∧ l < 10) (KK : P (.inl none) (ev_set (ev_set h A (aI N (uz D (o + l) 0))) M (aI N (drF W X o l m)))) : En V d 40 0 [some (.ref B), some (.ref A), some (.ref M), some (.int (iI o)), some (.ref C), some (.int (iI l)), none] [] h P := by
  obtain ⟨m0, m1, m2⟩ := hm
  obtain ⟨n1, n2, n3, n4, n5⟩ := hne
  have a1 := hA.1
  have hN : (N : Int) ≤ 60 := by have := hA.2.2.2.1; omega
  refine n_go f_40_0 rfl (pc' := 1) rfl ?_
  refine n_go f_40_1 rfl (pc' := 2) rfl ?_
  refine n_go f_40_2 rfl (pc' := 4) rfl ?_
  refine n_iadd f_40_4 rfl ?_
  refine n_go f_40_5 rfl (pc' := 6) (st' := .int (iI 0) :: _) rfl ?_
  refine n_ias f_40_6 rfl (a1) (by omega) ?_
  refine n_go f_40_7 rfl (pc' := 8) (st' := .int (iI 0) :: _) rfl ?_
  refine n_go f_40_8 rfl (pc' := 10) (ls' := [_, _, _, _, _, _, _]) rfl ?_
  have gB := hB.set (b := A) (c := aI N (uz D (o + l) 0)) (fun e => n1 e.symm)
  have gX := hX.set (b := A) (c := aI N (uz D (o + l) 0)) n3
  have gW := hW.set (b := A) (c := aI N (uz D (o + l) 0)) (fun e => n4 e.symm)
  show En V _ _ 10 _ [] (ev_set h A (aI N (uz D (o + l) 0))) _
  generalize ev_set h A (aI N (uz D (o + l) 0)) = h1 at *
  obtain ⟨d1, d2, d3, d4, d5⟩ := id gX
  obtain ⟨c1, c2, c3, c4, c5⟩ := id gW
  have b1 := gB.1
  have b5 := gB.2.2.2.2
  have b3 := gB.2.2.1
  refine n_for (lo := 0) (hi := m) m1 (fun j ls st h' => ls = [some (.ref B), some (.ref A), some (.ref M), some (.int (iI o)), some (.ref C), some (.int (iI l)), some (.int (iI j))] ∧ st = [] ∧ h' = ev_set h1 M (aI N (drF W X o l j))) ⟨rfl, rfl, ?_⟩ ?_ ?_
  · rw [aI_congr (f := drF W X o l 0) (f' := X) (fun i _ _ => if_neg (by omega)), g_sf d1]
  · rintro j ls st h' j1 j2 ⟨rfl, rfl, rfl⟩ kk
    have hwj := c5 j
    have eB : (ev_set h1 M (aI N (drF W X o l j))).1[B]? = _ := (g_ne (fun e => n2 e.symm)).trans b1
    have eC : (ev_set h1 M (aI N (drF W X o l j))).1[C]? = _ := (g_ne (fun e => n5 e.symm)).trans c1
    have eM : (ev_set h1 M (aI N (drF W X o l j))).1[M]? = some (aI N (drF W X o l j)) := g_eq d1
    have rest : ∀ v, v = drF W X o l (j + 1) (o + j) → En V d 40 46 [some (.ref B), some (.ref A), some (.ref M), some (.int (iI o)), some (.ref C), some (.int (iI l)), some (.int (iI j))] [.int (iI v), .int (iI (o + j)), .ref M] (ev_set h1 M (aI N (drF W X o l j))) P := fun v hv => by
      refine n_ias f_40_46 rfl (eM) (by omega) ?_
      refine n_iinc (m' := 1) (ls' := [_, _, _, _, _, _, _]) f_40_47 rfl rfl rfl rfl ?_
      refine n_go f_40_50 rfl (pc' := 10) rfl ?_
      refine kk _ _ _ ⟨rfl, rfl, ?_⟩
      rw [g_ss, aI_congr (f' := drF W X o l (j + 1)) (fun i _ _ => ?_)]
      by_cases hi : i = o + j
      · rw [hi, uz_same, hv]
      · rw [uz_ne _ _ hi]
        unfold drF
        exact ite_c (by omega) _ _
    have eo : o + j - o = j := by omega
    refine n_go f_40_10 rfl (pc' := 12) rfl ?_
    refine n_go f_40_12 rfl (pc' := 13) rfl ?_
    refine n_go f_40_13 rfl (pc' := 14) (st' := .int (iI 1) :: _) rfl ?_
    refine n_ial f_40_14 rfl (eB) (by unfold ev_ext; omega) (by omega) ?_
    show En V _ _ 15 _ [.int (iI (E 1)), .int (iI j)] _ _
    rw [m0]
    refine n_ic_ge f_40_15 rfl rfl ⟨by omega, by omega⟩ (fun e9 => absurd e9 (by omega)) (fun _ => ?_)
    refine n_go f_40_18 rfl (pc' := 19) rfl ?_
    refine n_go f_40_19 rfl (pc' := 20) rfl ?_
    refine n_go f_40_20 rfl (pc' := 22) rfl ?_
    refine n_iadd f_40_22 rfl ?_
    refine n_go f_40_23 rfl (pc' := 25) rfl ?_
    refine n_go f_40_25 rfl (pc' := 27) rfl ?_
    refine n_ial f_40_27 rfl (eC) (by unfold ev_ext; omega) (by omega) ?_
    refine n_bip (m := 16) f_40_28 rfl (by decide) ?_
    refine n_irem f_40_30 rfl (by omega) ?_
    refine n_go f_40_31 rfl (pc' := 33) rfl ?_
    refine n_ic_ne f_40_33 rfl rfl ⟨by omega, by omega⟩ (fun e1 => ?_) (fun e1 => ?_)
    · refine n_go f_40_40 rfl (pc' := 41) rfl ?_
      refine n_go f_40_41 rfl (pc' := 42) rfl ?_
      refine n_go f_40_42 rfl (pc' := 44) rfl ?_
      refine n_iadd f_40_44 rfl ?_
      refine n_ial f_40_45 rfl (eM) (by unfold ev_ext; omega) (by omega) ?_
      refine rest _ ?_
      unfold drF
      rw [if_neg (by omega), if_neg (by rw [eo]; exact fun e => e1 e.2.2)]
    · refine n_go f_40_36 rfl (pc' := 37) (st' := .int (iI 0) :: _) rfl ?_
      refine n_go f_40_37 rfl (pc' := 46) rfl ?_
      refine rest _ ?_
      unfold drF
      rw [if_pos (by rw [eo]; exact ⟨by omega, by omega, Classical.not_not.mp e1⟩)]
  · rintro ls st h' ⟨rfl, rfl, rfl⟩
    have eB : (ev_set h1 M (aI N (drF W X o l m))).1[B]? = _ := (g_ne (fun e => n2 e.symm)).trans b1
    refine n_go f_40_10 rfl (pc' := 12) rfl ?_
    refine n_go f_40_12 rfl (pc' := 13) rfl ?_
    refine n_go f_40_13 rfl (pc' := 14) (st' := .int (iI 1) :: _) rfl ?_
    refine n_ial f_40_14 rfl (eB) (by unfold ev_ext; omega) (by omega) ?_
    show En V _ _ 15 _ [.int (iI (E 1)), .int (iI m)] _ _
    rw [m0]
    refine n_ic_ge f_40_15 rfl rfl ⟨by omega, by omega⟩ (fun _ => ?_) (fun e9 => absurd (by omega) e9)
    refine n_ret f_40_53 rfl rfl ?_
    exact KK
/-- so many steps up a node is below the root -/
theorem c_ldepth (hD : Rw h A N D) (hr : 0 ≤ o ∧ o + 10 ≤ N) (K : Nat) (hK : K < 1000) (hi : 0 ≤ i ∧ i < 10) (hu : ∀ j : Nat, j < K → 0 ≤ lh D o (upF D o j i) ∧ lh D o (upF D o j i) < 10) (hf : lh D o (upF D o K i) < 0) (KK : P (.inl (some (.int (iI (K : Int))))) h) : En V (d + 1) 86 0 [some (.ref A), some (.int (iI o)), some (.int (iI i)), none, none] [] h P := by
  have a5 := hD.2.2.2.2
  have up : ∀ j : Nat, upF D o (j + 1) i = lh D o (upF D o j i) := by
    intro j
    have : ∀ (j : Nat) (i : Int), upF D o (j + 1) i = lh D o (upF D o j i) := by
      intro j
      induction j with
      | zero => intro i; rfl
      | succ j ih => intro i; exact ih (lh D o i)
    exact this j i
  have hb : ∀ j : Nat, j ≤ K → 0 ≤ upF D o j i ∧ upF D o j i < 10 := by
    intro j hj
    cases j with
    | zero => exact hi
    | succ j => rw [up j]; exact hu j (by omega)
  have hlr : ∀ x, -100 < lh D o x ∧ lh D o x < 100 := fun x => by unfold lh; omega
  have key : ∀ (r j : Nat), j + r = K → ∀ c : Int, c = (j : Int) → En V (d + 1) 86 10 [some (.ref A), some (.int (iI o)), some (.int (iI i)), some (.int (iI c)), some (.int (iI (lh D o (upF D o j i))))] [] h P := by
    intro r
    induction r with
    | zero =>
      intro j hj c hc
      have e : j = K := by omega
      subst e
      have := hlr (upF D o j i)
      refine n_go f_86_10 rfl (pc' := 12) rfl ?_
      refine n_if_lt f_86_12 rfl rfl (by omega) (fun _ => ?_) (fun e9 => absurd (by omega) e9)
      refine n_go f_86_30 rfl (pc' := 31) rfl ?_
      refine n_ret f_86_31 rfl rfl ?_
      rw [hc]
      exact KK
    | succ r ih =>
      intro j hj c hc
      have h1 := hu j (by omega)
      have h2 := hb (j + 1) (by omega)
      refine n_go f_86_10 rfl (pc' := 12) rfl ?_
      refine n_if_lt f_86_12 rfl rfl (by omega) (fun e9 => absurd e9 (by omega)) (fun _ => ?_)
      refine n_iinc (m' := 1) (ls' := [_, _, _, _, _]) f_86_15 rfl rfl rfl rfl ?_
      refine n_go f_86_18 rfl (pc' := 19) rfl ?_
      refine n_go f_86_19 rfl (pc' := 20) rfl ?_
      refine n_go f_86_20 rfl (pc' := 22) rfl ?_
      refine n_cs (ls' := [_, _, _]) f_86_22 (by decide) m_7 rfl rfl ?_
      refine c_lholder hD (by omega) ?_
      show En V _ 86 25 _ [_] _ _
      refine n_go f_86_25 rfl (pc' := 27) (ls' := [_, _, _, _, _]) rfl ?_
      refine n_go f_86_27 rfl (pc' := 10) rfl ?_
      rw [← up j]
      exact ih (j + 1) (by omega) (c + 1) (by omega)
  have := hb 0 (by omega)
  refine n_go f_86_0 rfl (pc' := 1) (st' := .int (iI 0) :: _) rfl ?_
  refine n_go f_86_1 rfl (pc' := 2) (ls' := [_, _, _, _, _]) rfl ?_
  refine n_go f_86_2 rfl (pc' := 3) rfl ?_
  refine n_go f_86_3 rfl (pc' := 4) rfl ?_
  refine n_go f_86_4 rfl (pc' := 5) rfl ?_
  refine n_cs (ls' := [_, _, _]) f_86_5 (by decide) m_7 rfl rfl ?_
  refine c_lholder hD (by omega) ?_
  show En V _ 86 8 _ [_] _ _
  refine n_go f_86_8 rfl (pc' := 10) (ls' := [_, _, _, _, _]) rfl ?_
  exact key K 0 (by omega) 0 rfl
theorem c_lbelow (hD : Rw h A N D) (hr : 0 ≤ o ∧ o + 10 ≤ N) (K : Nat) (hi : 0 ≤ i ∧ i < 10) (hq : 0 ≤ q ∧ q < 10) (hu : ∀ j : Nat, j < K → 0 ≤ lh D o (upF D o j i) ∧ lh D o (upF D o j i) < 10 ∧ ¬ lh D o (upF D o j i) = q) (hf : lh D o (upF D o K i) < 0 ∨ lh D o (upF D o K i) = q) (KK : P (.inl (some (.int (iI (b2 (decide (lh D o (upF D o K i) = q))))))) h) : En V (d + 1) 8 0 [some (.ref A), some (.int (iI o)), some (.int (iI i)), some (.int (iI q)), none] [] h P := by
  have a5 := hD.2.2.2.2
  have up : ∀ j : Nat, upF D o (j + 1) i = lh D o (upF D o j i) := by
    intro j
    have : ∀ (j : Nat) (i : Int), upF D o (j + 1) i = lh D o (upF D o j i) := by
      intro j
      induction j with
      | zero => intro i; rfl
      | succ j ih => intro i; exact ih (lh D o i)
    exact this j i
  have hb : ∀ j : Nat, j ≤ K → 0 ≤ upF D o j i ∧ upF D o j i < 10 := by
    intro j hj
    cases j with
    | zero => exact hi
    | succ j => rw [up j]; exact ⟨(hu j (by omega)).1, (hu j (by omega)).2.1⟩
  have hlr : ∀ x, -100 < lh D o x ∧ lh D o x < 100 := fun x => by unfold lh; omega
  have fin : ∀ c : Int, -100 < c → c < 100 → c = lh D o (upF D o K i) → En V (d + 1) 8 31 [some (.ref A), some (.int (iI o)), some (.int (iI i)), some (.int (iI q)), some (.int (iI c))] [] h P := fun c c1 c2 c3 => by
    rw [← c3] at KK
    refine n_go f_8_31 rfl (pc' := 33) rfl ?_
    refine n_go f_8_33 rfl (pc' := 34) rfl ?_
    refine n_ic_ne f_8_34 rfl rfl ⟨by omega, by omega⟩ (fun e => ?_) (fun e => ?_)
    · rw [decide_eq_false e] at KK
      refine n_go f_8_41 rfl (pc' := 42) (st' := .int (iI 0) :: _) rfl ?_
      first | refine n_rtz f_8_42 rfl ?_ | refine n_rt0 f_8_42 rfl ?_ | refine n_rt1 f_8_42 rfl ?_
      exact KK
    · rw [decide_eq_true (Classical.not_not.mp e)] at KK
      refine n_go f_8_37 rfl (pc' := 38) (st' := .int (iI 1) :: _) rfl ?_
      refine n_go f_8_38 rfl (pc' := 42) rfl ?_
      first | refine n_rtz f_8_42 rfl ?_ | refine n_rt0 f_8_42 rfl ?_ | refine n_rt1 f_8_42 rfl ?_
      exact KK
  have key : ∀ (r j : Nat), j + r = K → En V (d + 1) 8 8 [some (.ref A), some (.int (iI o)), some (.int (iI i)), some (.int (iI q)), some (.int (iI (lh D o (upF D o j i))))] [] h P := by
    intro r
    induction r with
    | zero =>
      intro j hj
      have e : j = K := by omega
      subst e
      have := hlr (upF D o j i)
      rcases hf with hf | hf
      · refine n_go f_8_8 rfl (pc' := 10) rfl ?_
        refine n_if_lt f_8_10 rfl rfl (by omega) (fun _ => ?_) (fun e9 => absurd (by omega) e9)
        exact fin _ this.1 this.2 rfl
      · refine n_go f_8_8 rfl (pc' := 10) rfl ?_
        refine n_if_lt f_8_10 rfl rfl (by omega) (fun e9 => absurd e9 (by omega)) (fun _ => ?_)
        refine n_go f_8_13 rfl (pc' := 15) rfl ?_
        refine n_go f_8_15 rfl (pc' := 16) rfl ?_
        refine n_ic_eq f_8_16 rfl rfl ⟨by omega, by omega⟩ (fun _ => ?_) (fun e9 => absurd (by omega) e9)
        exact fin _ this.1 this.2 rfl
    | succ r ih =>
      intro j hj
      have h1 := hu j (by omega)
      have h2 := hb (j + 1) (by omega)
      refine n_go f_8_8 rfl (pc' := 10) rfl ?_
      refine n_if_lt f_8_10 rfl rfl (by omega) (fun e9 => absurd e9 (by omega)) (fun _ => ?_)
      refine n_go f_8_13 rfl (pc' := 15) rfl ?_
      refine n_go f_8_15 rfl (pc' := 16) rfl ?_
      refine n_ic_eq f_8_16 rfl rfl ⟨by omega, by omega⟩ (fun e9 => absurd e9 (by omega)) (fun _ => ?_)
      refine n_go f_8_19 rfl (pc' := 20) rfl ?_
      refine n_go f_8_20 rfl (pc' := 21) rfl ?_
      refine n_go f_8_21 rfl (pc' := 23) rfl ?_
      refine n_cs (ls' := [_, _, _]) f_8_23 (by decide) m_7 rfl rfl ?_
      refine c_lholder hD (by omega) ?_
      show En V _ 8 26 _ [_] _ _
      refine n_go f_8_26 rfl (pc' := 28) (ls' := [_, _, _, _, _]) rfl ?_
      refine n_go f_8_28 rfl (pc' := 8) rfl ?_
      rw [← up j]
      exact ih (j + 1) (by omega)
  have := hb 0 (by omega)
  refine n_go f_8_0 rfl (pc' := 1) rfl ?_
  refine n_go f_8_1 rfl (pc' := 2) rfl ?_
  refine n_go f_8_2 rfl (pc' := 3) rfl ?_
  refine n_cs (ls' := [_, _, _]) f_8_3 (by decide) m_7 rfl rfl ?_
  refine c_lholder hD (by omega) ?_
  show En V _ 8 6 _ [_] _ _
  refine n_go f_8_6 rfl (pc' := 8) (ls' := [_, _, _, _, _]) rfl ?_
  exact key K 0 (by omega)
end LO
