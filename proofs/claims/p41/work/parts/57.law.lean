/-! The law's moves, settles, isOlder, isSame. -/
def dM (P : ev_O → ev_H → Prop) : ev_O → ev_H → Prop
  | .inl none, h => P (.inl (some (.int (iI 0)))) h
  | .inr k, h => P (.inr k) h
  | _, _ => False
/-- of versions: the parent, -1 of the first -/
def pr (p : Int → Int) (i : Int) : Int := if i = 0 then -1 else p i
def upP (p : Int → Int) : Nat → Int → Int
  | 0, i => i
  | j + 1, i => upP p j (pr p i)
def al (c : Int → Bool) : Nat → Bool
  | 0 => true
  | j + 1 => al c j && c j
theorem al_iff (c : Int → Bool) (j : Nat) : al c j = true ↔ ∀ i : Int, 0 ≤ i → i < (j : Int) → c i = true := by
  induction j with
  | zero => exact ⟨fun _ i h1 h2 => absurd h2 (by omega), fun _ => rfl⟩
  | succ j ih =>
    unfold al
    rw [Bool.and_eq_true, ih]
    refine ⟨fun ⟨h1, h2⟩ i i1 i2 => ?_, fun hh => ⟨fun i i1 i2 => hh i i1 (by omega), hh j (by omega) (by omega)⟩⟩
    by_cases hi : i = (j : Int)
    · rw [hi]; exact h2
    · exact h1 i i1 (by omega)
/-- the law's sameness of two states at a node and a word -/
def smC (D E Z W F Y : Int → Int) (o t m i : Int) : Bool := (decide (m ≤ i) || (decide (D (o + i) / 256 = W (t + i) / 256) && decide (lt D o i = lt W t i) && decide (Z (o + i) = Y (t + i)))) && decide (decide (E (o + i) > 0) = decide (F (t + i) > 0))
section LQ
variable {V : ev_V} {d : Nat} {h : ev_H} {P : ev_O → ev_H → Prop} {A B C N M : Nat} {D E Z W F Y G p : Int → Int} {o t i k m v q x y z a s : Int}
theorem c_lmoves {fs : List Value} (h0 : h.1[0]? = some (.inr (0, fs))) (K : En V d 106 0 [some (.ref 0), some (.int (iI x)), some (.int (iI y)), some (.int (iI z)), some (.int (iI a)), none, none] [] h (dM P)) : En V (d + 1) 44 0 [some (.ref 0), some (.int (iI x)), some (.int (iI y)), some (.int (iI z)), some (.int (iI a))] [] h P := by
  refine n_go f_44_0 rfl (pc' := 1) rfl ?_
  refine n_go f_44_1 rfl (pc' := 2) rfl ?_
  refine n_go f_44_2 rfl (pc' := 3) rfl ?_
  refine n_go f_44_3 rfl (pc' := 4) rfl ?_
  refine n_go f_44_4 rfl (pc' := 6) rfl ?_
  refine n_cv (ls' := [_, _, _, _, _, _, _]) f_44_6 (by decide) m_106 rfl rfl (by assumption) rfl ?_
  refine En.imp K (fun o h1 hP => ?_)
  match o, hP with
  | .inl none, hP =>
    show En V _ _ 9 _ [] h1 _
    refine n_go f_44_9 rfl (pc' := 10) (st' := .int (iI 0) :: _) rfl ?_
    refine n_ret f_44_10 rfl rfl ?_
    exact hP
  | .inr k, hP => exact n_up rfl hP
theorem c_lsettles {fs : List Value} (h0 : h.1[0]? = some (.inr (0, fs))) (K : En V d 117 0 [some (.ref 0), some (.int (iI x)), some (.int (iI y)), some (.int (iI z)), some (.int (iI a)), none, none] [] h (dM P)) : En V (d + 1) 49 0 [some (.ref 0), some (.int (iI x)), some (.int (iI y)), some (.int (iI z)), some (.int (iI a))] [] h P := by
  refine n_go f_49_0 rfl (pc' := 1) rfl ?_
  refine n_go f_49_1 rfl (pc' := 2) rfl ?_
  refine n_go f_49_2 rfl (pc' := 3) rfl ?_
  refine n_go f_49_3 rfl (pc' := 4) rfl ?_
  refine n_go f_49_4 rfl (pc' := 6) rfl ?_
  refine n_cv (ls' := [_, _, _, _, _, _, _]) f_49_6 (by decide) m_117 rfl rfl (by assumption) rfl ?_
  refine En.imp K (fun o h1 hP => ?_)
  match o, hP with
  | .inl none, hP =>
    show En V _ _ 9 _ [] h1 _
    refine n_go f_49_9 rfl (pc' := 10) (st' := .int (iI 0) :: _) rfl ?_
    refine n_ret f_49_10 rfl rfl ?_
    exact hP
  | .inr k, hP => exact n_up rfl hP
theorem c_lolder (hA : h.1[A]? = some (aI 6 p)) (ha : A < 1048576) (hp : ∀ i, -1 ≤ p i ∧ p i < 6) (K : Nat) (hi : 0 ≤ i ∧ i < 6) (hv : 0 ≤ v ∧ v < 6) (hu : ∀ j : Nat, j < K → 0 ≤ pr p (upP p j i) ∧ ¬ pr p (upP p j i) = v) (hf : pr p (upP p K i) < 0 ∨ pr p (upP p K i) = v) (KK : P (.inl (some (.int (iI (b2 (decide (pr p (upP p K i) = v))))))) h) : En V d 17 0 [some (.ref A), some (.int (iI v)), some (.int (iI i)), none] [] h P := by
  have up : ∀ j : Nat, upP p (j + 1) i = pr p (upP p j i) := by
    intro j
    have : ∀ (j : Nat) (i : Int), upP p (j + 1) i = pr p (upP p j i) := by
      intro j
      induction j with
      | zero => intro i; rfl
      | succ j ih => intro i; exact ih (pr p i)
    exact this j i
  have hlr : ∀ x, -1 ≤ pr p x ∧ pr p x < 6 := fun x => by
    have := hp x
    unfold pr
    split <;> omega
  have fin : ∀ c : Int, -1 ≤ c → c < 6 → c = pr p (upP p K i) → En V d 17 36 [some (.ref A), some (.int (iI v)), some (.int (iI i)), some (.int (iI c))] [] h P := fun c c1 c2 c3 => by
    rw [← c3] at KK
    refine n_go f_17_36 rfl (pc' := 37) rfl ?_
    refine n_go f_17_37 rfl (pc' := 38) rfl ?_
    refine n_ic_ne f_17_38 rfl rfl ⟨by omega, by omega⟩ (fun e => ?_) (fun e => ?_)
    · rw [decide_eq_false e] at KK
      refine n_go f_17_45 rfl (pc' := 46) (st' := .int (iI 0) :: _) rfl ?_
      first | refine n_rtz f_17_46 rfl ?_ | refine n_rt0 f_17_46 rfl ?_ | refine n_rt1 f_17_46 rfl ?_
      exact KK
    · rw [decide_eq_true (Classical.not_not.mp e)] at KK
      refine n_go f_17_41 rfl (pc' := 42) (st' := .int (iI 1) :: _) rfl ?_
      refine n_go f_17_42 rfl (pc' := 46) rfl ?_
      first | refine n_rtz f_17_46 rfl ?_ | refine n_rt0 f_17_46 rfl ?_ | refine n_rt1 f_17_46 rfl ?_
      exact KK
  have key : ∀ (r j : Nat), j + r = K → En V d 17 12 [some (.ref A), some (.int (iI v)), some (.int (iI i)), some (.int (iI (pr p (upP p j i))))] [] h P := by
    intro r
    induction r with
    | zero =>
      intro j hj
      have e : j = K := by omega
      subst e
      have := hlr (upP p j i)
      rcases hf with hf | hf
      · refine n_go f_17_12 rfl (pc' := 13) rfl ?_
        refine n_if_lt f_17_13 rfl rfl (by omega) (fun _ => ?_) (fun e9 => absurd (by omega) e9)
        exact fin _ this.1 this.2 rfl
      · refine n_go f_17_12 rfl (pc' := 13) rfl ?_
        refine n_if_lt f_17_13 rfl rfl (by omega) (fun e9 => absurd e9 (by omega)) (fun _ => ?_)
        refine n_go f_17_16 rfl (pc' := 17) rfl ?_
        refine n_go f_17_17 rfl (pc' := 18) rfl ?_
        refine n_ic_eq f_17_18 rfl rfl ⟨by omega, by omega⟩ (fun _ => ?_) (fun e9 => absurd (by omega) e9)
        exact fin _ this.1 this.2 rfl
    | succ r ih =>
      intro j hj
      have h1 := hu j (by omega)
      have h2 := hlr (upP p j i)
      have nx := ih (j + 1) (by omega)
      rw [up j] at nx
      refine n_go f_17_12 rfl (pc' := 13) rfl ?_
      refine n_if_lt f_17_13 rfl rfl (by omega) (fun e9 => absurd e9 (by omega)) (fun _ => ?_)
      refine n_go f_17_16 rfl (pc' := 17) rfl ?_
      refine n_go f_17_17 rfl (pc' := 18) rfl ?_
      refine n_ic_eq f_17_18 rfl rfl ⟨by omega, by omega⟩ (fun e9 => absurd e9 (by omega)) (fun _ => ?_)
      refine n_go f_17_21 rfl (pc' := 22) rfl ?_
      refine n_if_ne f_17_22 rfl rfl (by omega) (fun e => ?_) (fun e => ?_)
      · refine n_go f_17_29 rfl (pc' := 30) rfl ?_
        refine n_go f_17_30 rfl (pc' := 31) rfl ?_
        refine n_ial f_17_31 rfl (hA) (by unfold ev_ext; omega) (by omega) ?_
        refine n_go f_17_32 rfl (pc' := 33) (ls' := [_, _, _, _]) rfl ?_
        refine n_go f_17_33 rfl (pc' := 12) rfl ?_
        rw [show pr p (pr p (upP p j i)) = p (pr p (upP p j i)) from if_neg e] at nx
        exact nx
      · refine n_go f_17_25 rfl (pc' := 26) (st' := .int (iI (-1)) :: _) rfl ?_
        refine n_go f_17_26 rfl (pc' := 32) rfl ?_
        refine n_go f_17_32 rfl (pc' := 33) (ls' := [_, _, _, _]) rfl ?_
        refine n_go f_17_33 rfl (pc' := 12) rfl ?_
        rw [show pr p (pr p (upP p j i)) = -1 from if_pos (Classical.not_not.mp e)] at nx
        exact nx
  have k0 := key K 0 (by omega)
  refine n_go f_17_0 rfl (pc' := 1) rfl ?_
  refine n_if_ne f_17_1 rfl rfl (by omega) (fun e => ?_) (fun e => ?_)
  · refine n_go f_17_8 rfl (pc' := 9) rfl ?_
    refine n_go f_17_9 rfl (pc' := 10) rfl ?_
    refine n_ial f_17_10 rfl (hA) (by unfold ev_ext; omega) (by omega) ?_
    refine n_go f_17_11 rfl (pc' := 12) (ls' := [_, _, _, _]) rfl ?_
    rw [show pr p (upP p 0 i) = p i from if_neg e] at k0
    exact k0
  · refine n_go f_17_4 rfl (pc' := 5) (st' := .int (iI (-1)) :: _) rfl ?_
    refine n_go f_17_5 rfl (pc' := 11) rfl ?_
    refine n_go f_17_11 rfl (pc' := 12) (ls' := [_, _, _, _]) rfl ?_
    rw [show pr p (upP p 0 i) = -1 from if_pos (Classical.not_not.mp e)] at k0
    exact k0
theorem c_lsame {I J O L : Nat} (hB : Rw h B 8 G) (hm : G 0 = m ∧ 1 ≤ m ∧ m ≤ 10) (hD : Rw h A N D) (hE : Rw h C N E) (hZ : Rw h I N Z) (hW : Rw h J M W) (hF : Rw h O M F) (hY : Rw h L M Y) (hr : 0 ≤ o ∧ o + 10 ≤ N) (ht : 0 ≤ t ∧ t + 10 ≤ M) (KK : P (.inl (some (.int (iI (b2 (al (smC D E Z W F Y o t m) 10)))))) h) : En V (d + 1) 11 0 [some (.ref B), some (.ref A), some (.ref C), some (.ref I), some (.int (iI o)), some (.ref J), some (.ref O), some (.ref L), some (.int (iI t)), none, none] [] h P := by
  obtain ⟨b1, b2', b3, b4, b5⟩ := id hB
  obtain ⟨d1, d2, d3, d4, d5⟩ := id hD
  obtain ⟨e1, e2, e3, e4, e5⟩ := id hE
  obtain ⟨z1, z2, z3, z4, z5⟩ := id hZ
  obtain ⟨w1, w2, w3, w4, w5⟩ := id hW
  obtain ⟨f1, f2, f3, f4, f5⟩ := id hF
  obtain ⟨y1, y2, y3, y4, y5⟩ := id hY
  obtain ⟨m0, m1, m2⟩ := hm
  have hN : (N : Int) ≤ 60 := by omega
  have hM : (M : Int) ≤ 60 := by omega
  refine n_go f_11_0 rfl (pc' := 1) (st' := .int (iI 1) :: _) rfl ?_
  refine n_go f_11_1 rfl (pc' := 3) (ls' := [_, _, _, _, _, _, _, _, _, _, _]) rfl ?_
  refine n_go f_11_3 rfl (pc' := 4) (st' := .int (iI 0) :: _) rfl ?_
  refine n_go f_11_4 rfl (pc' := 6) (ls' := [_, _, _, _, _, _, _, _, _, _, _]) rfl ?_
  refine n_for (lo := 0) (hi := 10) (by decide) (fun j ls st h' => ls = [some (.ref B), some (.ref A), some (.ref C), some (.ref I), some (.int (iI o)), some (.ref J), some (.ref O), some (.ref L), some (.int (iI t)), some (.int (iI (b2 (al (smC D E Z W F Y o t m) j.toNat)))), some (.int (iI j))] ∧ st = [] ∧ h' = h) ⟨rfl, rfl, rfl⟩ ?_ ?_
  · rintro j ls st h' j1 j2 ⟨rfl, rfl, rfl⟩ kk
    have ejs : (j + 1).toNat = j.toNat + 1 := by omega
    have ej : ((j.toNat : Nat) : Int) = j := by omega
    have hdj := d5 (o + j)
    have hej := e5 (o + j)
    have hzj := z5 (o + j)
    have hwj := w5 (t + j)
    have hfj := f5 (t + j)
    have hyj := y5 (t + j)
    have al1 : ∀ c : Bool, (al (smC D E Z W F Y o t m) j.toNat && smC D E Z W F Y o t m j) = c → En V (d + 1) 11 129 [some (.ref B), some (.ref A), some (.ref C), some (.ref I), some (.int (iI o)), some (.ref J), some (.ref O), some (.ref L), some (.int (iI t)), some (.int (iI (b2 (al (smC D E Z W F Y o t m) j.toNat)))), some (.int (iI j))] [.int (iI (b2 c))] h' P := fun c e => by
      refine n_go f_11_129 rfl (pc' := 131) (ls' := [_, _, _, _, _, _, _, _, _, _, _]) rfl ?_
      refine n_iinc (m' := 1) (ls' := [_, _, _, _, _, _, _, _, _, _, _]) f_11_131 rfl rfl rfl rfl ?_
      refine n_go f_11_134 rfl (pc' := 6) rfl ?_
      refine kk _ _ _ ⟨?_, rfl, rfl⟩
      rw [ejs, show al (smC D E Z W F Y o t m) (j.toNat + 1) = c from by unfold al; rw [ej]; exact e]
    have no : (al (smC D E Z W F Y o t m) j.toNat && smC D E Z W F Y o t m j) = false → En V (d + 1) 11 128 [some (.ref B), some (.ref A), some (.ref C), some (.ref I), some (.int (iI o)), some (.ref J), some (.ref O), some (.ref L), some (.int (iI t)), some (.int (iI (b2 (al (smC D E Z W F Y o t m) j.toNat)))), some (.int (iI j))] [] h' P := fun e => by
      refine n_go f_11_128 rfl (pc' := 129) (st' := .int (iI 0) :: _) rfl ?_
      exact al1 false e
    refine n_go f_11_6 rfl (pc' := 8) rfl ?_
    refine n_bip (m := 10) f_11_8 rfl (by decide) ?_
    refine n_ic_ge f_11_10 rfl rfl ⟨by omega, by omega⟩ (fun e9 => absurd e9 (by omega)) (fun _ => ?_)
    refine n_go f_11_13 rfl (pc' := 15) rfl ?_
    refine n_ib_eq f_11_15 rfl rfl (fun ea => ?_) (fun ea => ?_)
    · exact no (by rw [ea, Bool.false_and])
    have tail : ∀ c : Bool, (decide (m ≤ j) || (decide (D (o + j) / 256 = W (t + j) / 256) && decide (lt D o j = lt W t j) && decide (Z (o + j) = Y (t + j)))) = true → En V (d + 1) 11 90 [some (.ref B), some (.ref A), some (.ref C), some (.ref I), some (.int (iI o)), some (.ref J), some (.ref O), some (.ref L), some (.int (iI t)), some (.int (iI (b2 (al (smC D E Z W F Y o t m) j.toNat)))), some (.int (iI j))] [] h' P := fun _ hc => by
      have rest : ∀ b : Bool, b = decide (E (o + j) > 0) → En V (d + 1) 11 105 [some (.ref B), some (.ref A), some (.ref C), some (.ref I), some (.int (iI o)), some (.ref J), some (.ref O), some (.ref L), some (.int (iI t)), some (.int (iI (b2 (al (smC D E Z W F Y o t m) j.toNat)))), some (.int (iI j))] [.int (iI (b2 b))] h' P := fun b hb => by
        have last : ∀ b' : Bool, b' = decide (F (t + j) > 0) → En V (d + 1) 11 121 [some (.ref B), some (.ref A), some (.ref C), some (.ref I), some (.int (iI o)), some (.ref J), some (.ref O), some (.ref L), some (.int (iI t)), some (.int (iI (b2 (al (smC D E Z W F Y o t m) j.toNat)))), some (.int (iI j))] [.int (iI (b2 b')), .int (iI (b2 b))] h' P := fun b' hb' => by
          have hs : smC D E Z W F Y o t m j = decide (b = b') := by unfold smC; rw [hc, Bool.true_and, hb, hb']
          have r1 : 0 ≤ b2 b ∧ b2 b ≤ 1 := by cases b <;> decide
          have r2 : 0 ≤ b2 b' ∧ b2 b' ≤ 1 := by cases b' <;> decide
          refine n_ic_ne f_11_121 rfl rfl ⟨by omega, by omega⟩ (fun e9 => ?_) (fun e9 => ?_)
          · exact no (by rw [hs, decide_eq_false (fun q => e9 (by rw [q])), Bool.and_false])
          · refine n_go f_11_124 rfl (pc' := 125) (st' := .int (iI 1) :: _) rfl ?_
            refine n_go f_11_125 rfl (pc' := 129) rfl ?_
            have e9 := Classical.not_not.mp e9
            have e10 : b = b' := by cases b <;> cases b' <;> first | rfl | exact absurd e9 (by decide)
            exact al1 true (by rw [ea, hs, decide_eq_true e10]; rfl)
        refine n_go f_11_105 rfl (pc' := 107) rfl ?_
        refine n_go f_11_107 rfl (pc' := 109) rfl ?_
        refine n_go f_11_109 rfl (pc' := 111) rfl ?_
        refine n_iadd f_11_111 rfl ?_
        refine n_ial f_11_112 rfl (f1) (by unfold ev_ext; omega) (by omega) ?_
        refine n_if_le f_11_113 rfl rfl (by omega) (fun e8 => ?_) (fun e8 => ?_)
        · refine n_go f_11_120 rfl (pc' := 121) (st' := .int (iI 0) :: _) rfl ?_
          exact last false (by rw [decide_eq_false (by omega)])
        · refine n_go f_11_116 rfl (pc' := 117) (st' := .int (iI 1) :: _) rfl ?_
          refine n_go f_11_117 rfl (pc' := 121) rfl ?_
          exact last true (by rw [decide_eq_true (by omega)])
      refine n_go f_11_90 rfl (pc' := 91) rfl ?_
      refine n_go f_11_91 rfl (pc' := 93) rfl ?_
      refine n_go f_11_93 rfl (pc' := 95) rfl ?_
      refine n_iadd f_11_95 rfl ?_
      refine n_ial f_11_96 rfl (e1) (by unfold ev_ext; omega) (by omega) ?_
      refine n_if_le f_11_97 rfl rfl (by omega) (fun e7 => ?_) (fun e7 => ?_)
      · refine n_go f_11_104 rfl (pc' := 105) (st' := .int (iI 0) :: _) rfl ?_
        exact rest false (by rw [decide_eq_false (by omega)])
      · refine n_go f_11_100 rfl (pc' := 101) (st' := .int (iI 1) :: _) rfl ?_
        refine n_go f_11_101 rfl (pc' := 105) rfl ?_
        exact rest true (by rw [decide_eq_true (by omega)])
    have nn : (decide (m ≤ j) || (decide (D (o + j) / 256 = W (t + j) / 256) && decide (lt D o j = lt W t j) && decide (Z (o + j) = Y (t + j)))) = false → (al (smC D E Z W F Y o t m) j.toNat && smC D E Z W F Y o t m j) = false := fun e => by
      unfold smC
      rw [e, Bool.false_and, Bool.and_false]
    refine n_go f_11_18 rfl (pc' := 20) rfl ?_
    refine n_go f_11_20 rfl (pc' := 21) rfl ?_
    refine n_go f_11_21 rfl (pc' := 22) (st' := .int (iI 0) :: _) rfl ?_
    refine n_ial f_11_22 rfl (b1) (by unfold ev_ext; omega) (by omega) ?_
    show En V _ _ 23 _ [.int (iI (G 0)), .int (iI j)] _ _
    rw [m0]
    refine n_ic_ge f_11_23 rfl rfl ⟨by omega, by omega⟩ (fun e0 => ?_) (fun e0 => ?_)
    · exact tail true (by rw [decide_eq_true (by omega : m ≤ j), Bool.true_or])
    have em : decide (m ≤ j) = false := decide_eq_false (by omega)
    refine n_go f_11_26 rfl (pc' := 27) rfl ?_
    refine n_go f_11_27 rfl (pc' := 29) rfl ?_
    refine n_go f_11_29 rfl (pc' := 31) rfl ?_
    refine n_iadd f_11_31 rfl ?_
    refine n_ial f_11_32 rfl (d1) (by unfold ev_ext; omega) (by omega) ?_
    refine n_sip (m := 256) f_11_33 rfl (by decide) ?_
    refine n_idiv f_11_36 rfl (by omega) ?_
    refine n_go f_11_37 rfl (pc' := 39) rfl ?_
    refine n_go f_11_39 rfl (pc' := 41) rfl ?_
    refine n_go f_11_41 rfl (pc' := 43) rfl ?_
    refine n_iadd f_11_43 rfl ?_
    refine n_ial f_11_44 rfl (w1) (by unfold ev_ext; omega) (by omega) ?_
    refine n_sip (m := 256) f_11_45 rfl (by decide) ?_
    refine n_idiv f_11_48 rfl (by omega) ?_
    refine n_ic_ne f_11_49 rfl rfl ⟨by omega, by omega⟩ (fun e4 => ?_) (fun e4 => ?_)
    · exact no (nn (by rw [em, decide_eq_false e4]; rfl))
    have e4 := Classical.not_not.mp e4
    have r1 : 0 ≤ b2 (lt D o j) ∧ b2 (lt D o j) ≤ 1 := by cases lt D o j <;> decide
    have r2 : 0 ≤ b2 (lt W t j) ∧ b2 (lt W t j) ≤ 1 := by cases lt W t j <;> decide
    refine n_go f_11_52 rfl (pc' := 53) rfl ?_
    refine n_go f_11_53 rfl (pc' := 55) rfl ?_
    refine n_go f_11_55 rfl (pc' := 57) rfl ?_
    refine n_cs (ls' := [_, _, _]) f_11_57 (by decide) m_3 rfl rfl ?_
    refine c_lthere hD (by omega) ?_
    show En V _ 11 60 _ [_] _ _
    refine n_go f_11_60 rfl (pc' := 62) rfl ?_
    refine n_go f_11_62 rfl (pc' := 64) rfl ?_
    refine n_go f_11_64 rfl (pc' := 66) rfl ?_
    refine n_cs (ls' := [_, _, _]) f_11_66 (by decide) m_3 rfl rfl ?_
    refine c_lthere hW (by omega) ?_
    show En V _ 11 69 _ [_, _] _ _
    refine n_ic_ne f_11_69 rfl rfl ⟨by omega, by omega⟩ (fun e5' => ?_) (fun e5' => ?_)
    · exact no (nn (by rw [em, decide_eq_true e4, decide_eq_false (fun q => e5' (by rw [q]))]; rfl))
    have e6 : lt D o j = lt W t j := by
      have e5' := Classical.not_not.mp e5'
      revert e5'
      cases lt D o j <;> cases lt W t j <;> intro e5' <;> first | rfl | exact absurd e5' (by decide)
    refine n_go f_11_72 rfl (pc' := 73) rfl ?_
    refine n_go f_11_73 rfl (pc' := 75) rfl ?_
    refine n_go f_11_75 rfl (pc' := 77) rfl ?_
    refine n_iadd f_11_77 rfl ?_
    refine n_ial f_11_78 rfl (z1) (by unfold ev_ext; omega) (by omega) ?_
    refine n_go f_11_79 rfl (pc' := 81) rfl ?_
    refine n_go f_11_81 rfl (pc' := 83) rfl ?_
    refine n_go f_11_83 rfl (pc' := 85) rfl ?_
    refine n_iadd f_11_85 rfl ?_
    refine n_ial f_11_86 rfl (y1) (by unfold ev_ext; omega) (by omega) ?_
    refine n_ic_ne f_11_87 rfl rfl ⟨by omega, by omega⟩ (fun e7 => ?_) (fun e7 => ?_)
    · exact no (nn (by rw [em, decide_eq_true e4, decide_eq_true e6, decide_eq_false e7]; rfl))
    · exact tail true (by rw [decide_eq_true e4, decide_eq_true e6, decide_eq_true (Classical.not_not.mp e7)]; exact Bool.or_true _)
  · rintro ls st h' ⟨rfl, rfl, rfl⟩
    refine n_go f_11_6 rfl (pc' := 8) rfl ?_
    refine n_bip (m := 10) f_11_8 rfl (by decide) ?_
    refine n_ic_ge f_11_10 rfl rfl ⟨by omega, by omega⟩ (fun _ => ?_) (fun e9 => absurd (by omega) e9)
    refine n_go f_11_137 rfl (pc' := 139) rfl ?_
    first | refine n_rtz f_11_139 rfl ?_ | refine n_rt0 f_11_139 rfl ?_ | refine n_rt1 f_11_139 rfl ?_
    exact KK
end LQ
