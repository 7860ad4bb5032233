/-! The law's breaks. -/
def an (c : Int → Bool) : Nat → Bool
  | 0 => false
  | j + 1 => an c j || c j
/-- the law's depths: so many steps up lead below the root -/
def dpO (D : Int → Int) (o : Int) (K : Nat) (i : Int) : Prop := K < 1000 ∧ (∀ j : Nat, j < K → 0 ≤ lh D o (upF D o j i) ∧ lh D o (upF D o j i) < 10) ∧ lh D o (upF D o K i) < 0
/-- a node's own faults; two children of one SET with one tag -/
def brC (D : Int → Int) (o m : Int) (dp : Int → Nat) (i : Int) : Bool := (decide (0 ≤ D (o + i) / 4096 - 1) && !(lt D o (D (o + i) / 4096 - 1))) || decide (cnI m (lk D o i) > 8) || decide ((dp i : Int) > 8)
def brO (D F : Int → Int) (o i j : Int) : Bool := decide (1 ≤ j) && lt D o j && decide (lh D o j = lh D o i) && decide (F (lh D o j) = 1) && decide (D (o + j) / 256 % 16 = D (o + i) / 256 % 16)
def brN (D F : Int → Int) (o m : Int) (dp : Int → Nat) (i : Int) : Bool := lt D o i && (brC D o m dp i || an (brO D F o i) i.toNat)
section LB
variable {V : ev_V} {d : Nat} {h : ev_H} {P : ev_O → ev_H → Prop} {A B C N : Nat} {D E F : Int → Int} {o m : Int} {dp : Int → Nat}
theorem c_lbreaks (hB : Rw h B 8 E) (hm : E 0 = m ∧ 1 ≤ m ∧ m ≤ 10) (hD : Rw h A N D) (hC : Rw h C 10 F) (hr : 0 ≤ o ∧ o + 10 ≤ N) (ha : ∀ i, 0 ≤ i → i < m → D (o + i) / 4096 - 1 < 10) (hh : ∀ i, 1 ≤ i → i < m → lt D o i = true → 0 ≤ lh D o i ∧ lh D o i < 10) (hdp : ∀ i, 0 ≤ i → i < m → lt D o i = true → dpO D o (dp i) i) (KK : P (.inl (some (.int (iI (b2 (an (brN D F o m dp) m.toNat)))))) h) : En V (d + 2) 41 0 [some (.ref B), some (.ref A), some (.int (iI o)), some (.ref C), none, none, none, none, none] [] h P := by
  obtain ⟨b1, b2', b3, b4, b5⟩ := id hB
  obtain ⟨d1, d2, d3, d4, d5⟩ := id hD
  obtain ⟨c1, c2, c3, c4, c5⟩ := id hC
  obtain ⟨m0, m1, m2⟩ := hm
  have hN : (N : Int) ≤ 60 := by omega
  have hlr : ∀ x, -100 < lh D o x ∧ lh D o x < 100 := fun x => by unfold lh; omega
  refine n_go f_41_0 rfl (pc' := 1) (st' := .int (iI 0) :: _) rfl ?_
  refine n_go f_41_1 rfl (pc' := 3) (ls' := [_, _, _, _, _, _, _, _, _]) rfl ?_
  refine n_go f_41_3 rfl (pc' := 4) (st' := .int (iI 0) :: _) rfl ?_
  refine n_go f_41_4 rfl (pc' := 6) (ls' := [_, _, _, _, _, _, _, _, _]) rfl ?_
  refine n_for (lo := 0) (hi := m) (by omega) (fun i ls st h' => (∃ u1 u2 u3, ls = [some (.ref B), some (.ref A), some (.int (iI o)), some (.ref C), some (.int (iI (b2 (an (brN D F o m dp) i.toNat)))), some (.int (iI i)), u1, u2, u3]) ∧ st = [] ∧ h' = h) ⟨⟨_, _, _, rfl⟩, rfl, rfl⟩ ?_ ?_
  · rintro i ls st h' i1 i2 ⟨⟨u1, u2, u3, rfl⟩, rfl, rfl⟩ kk
    have eis : (i + 1).toNat = i.toNat + 1 := by omega
    have ei : ((i.toNat : Nat) : Int) = i := by omega
    have hdi := d5 (o + i)
    have hai := ha i i1 i2
    have nx : ∀ c : Bool, (an (brN D F o m dp) i.toNat || brN D F o m dp i) = c → ∀ v1 v2 v3, En V (d + 2) 41 199 [some (.ref B), some (.ref A), some (.int (iI o)), some (.ref C), some (.int (iI (b2 c))), some (.int (iI i)), v1, v2, v3] [] h' P := fun c e v1 v2 v3 => by
      refine n_iinc (m' := 1) (ls' := [_, _, _, _, _, _, _, _, _]) f_41_199 rfl rfl rfl rfl ?_
      refine n_go f_41_202 rfl (pc' := 6) rfl ?_
      refine kk _ _ _ ⟨⟨v1, v2, v3, ?_⟩, rfl, rfl⟩
      rw [eis, show an (brN D F o m dp) (i.toNat + 1) = c from by unfold an; rw [ei]; exact e]
    refine n_go f_41_6 rfl (pc' := 8) rfl ?_
    refine n_go f_41_8 rfl (pc' := 9) rfl ?_
    refine n_go f_41_9 rfl (pc' := 10) (st' := .int (iI 0) :: _) rfl ?_
    refine n_ial f_41_10 rfl (b1) (by unfold ev_ext; omega) (by omega) ?_
    show En V _ _ 11 _ [.int (iI (E 0)), .int (iI i)] _ _
    rw [m0]
    refine n_ic_ge f_41_11 rfl rfl ⟨by omega, by omega⟩ (fun e9 => absurd e9 (by omega)) (fun _ => ?_)
    refine n_go f_41_14 rfl (pc' := 15) rfl ?_
    refine n_go f_41_15 rfl (pc' := 16) rfl ?_
    refine n_go f_41_16 rfl (pc' := 18) rfl ?_
    refine n_cs (ls' := [_, _, _]) f_41_18 (by decide) m_3 rfl rfl ?_
    refine c_lthere hD (by omega) ?_
    show En V _ 41 21 _ [_] _ _
    refine n_ib_eq f_41_21 rfl rfl (fun e0 => ?_) (fun e0 => ?_)
    · exact nx _ (by rw [show brN D F o m dp i = (lt D o i && (brC D o m dp i || an (brO D F o i) i.toNat)) from rfl, e0, Bool.false_and, Bool.or_false]) _ _ _
    -- the loop over those ahead
    have lp : ∀ g : Bool, g = (an (brN D F o m dp) i.toNat || brC D o m dp i) → ∀ (z1 : Int) v2 v3, En V (d + 2) 41 88 [some (.ref B), some (.ref A), some (.int (iI o)), some (.ref C), some (.int (iI (b2 (an (brN D F o m dp) i.toNat)))), some (.int (iI i)), some (.int (iI z1)), v2, v3] [.int (iI (b2 g))] h' P := fun g hg z1 v2 v3 => by
      have fin : ∀ r : Int, r ≤ i → (∀ j, r ≤ j → j < i → brO D F o i j = false) → ∀ q, q = (g || an (brO D F o i) r.toNat) → 0 ≤ r → (g || an (brO D F o i) i.toNat) = q := by
        intro r hr9 hz q hq h0
        have key : ∀ n : Nat, r + n ≤ i → an (brO D F o i) (r.toNat + n) = an (brO D F o i) r.toNat := by
          intro n
          induction n with
          | zero => intro _; rfl
          | succ n ih =>
            intro hn
            have h9 := hz ((r.toNat + n : Nat) : Int) (by omega) (by omega)
            show (an (brO D F o i) (r.toNat + n) || brO D F o i ((r.toNat + n : Nat) : Int)) = _
            rw [h9, Bool.or_false]
            exact ih (by omega)
        have := key (i - r).toNat (by omega)
        rw [show r.toNat + (i - r).toNat = i.toNat by omega] at this
        rw [this, hq]
      have a01 : an (brO D F o i) 1 = false := rfl
      have done : ∀ j, 1 ≤ j → i ≤ j → (j = i ∨ j = 1) → ∀ (z1 : Int) v2, En V (d + 2) 41 93 [some (.ref B), some (.ref A), some (.int (iI o)), some (.ref C), some (.int (iI (b2 (g || an (brO D F o i) j.toNat)))), some (.int (iI i)), some (.int (iI z1)), some (.int (iI j)), v2] [] h' P := fun j j1 j2 j3 z1 v2 => by
        refine n_go f_41_93 rfl (pc' := 95) rfl ?_
        refine n_go f_41_95 rfl (pc' := 97) rfl ?_
        refine n_ic_ge f_41_97 rfl rfl ⟨by omega, by omega⟩ (fun _ => ?_) (fun e9 => absurd (by omega) e9)
        refine nx _ ?_ _ _ _
        rw [show brN D F o m dp i = (lt D o i && (brC D o m dp i || an (brO D F o i) i.toNat)) from rfl, e0, Bool.true_and, ← Bool.or_assoc, ← hg]
        rcases j3 with j3 | j3
        · rw [j3]
        · subst j3
          rcases (by omega : i = 0 ∨ i = 1) with q | q
          · rw [q]; rfl
          · rw [q]
      have key : ∀ (r : Nat) (j : Int), 1 ≤ j → j + r = i → ∀ (z1 : Int) v2, En V (d + 2) 41 93 [some (.ref B), some (.ref A), some (.int (iI o)), some (.ref C), some (.int (iI (b2 (g || an (brO D F o i) j.toNat)))), some (.int (iI i)), some (.int (iI z1)), some (.int (iI j)), v2] [] h' P := by
        intro r
        induction r with
        | zero => intro j j1 j2 z1 v2; exact done j j1 (by omega) (Or.inl (by omega)) z1 v2
        | succ r ih =>
          intro j j1 j2 z1 v2
          have ej : ((j.toNat : Nat) : Int) = j := by omega
          have ejs : (j + 1).toNat = j.toNat + 1 := by omega
          have hdj := d5 (o + j)
          have step : ∀ c : Bool, c = ((g || an (brO D F o i) j.toNat) || brO D F o i j) → ∀ v2, En V (d + 2) 41 191 [some (.ref B), some (.ref A), some (.int (iI o)), some (.ref C), some (.int (iI (b2 (g || an (brO D F o i) j.toNat)))), some (.int (iI i)), some (.int (iI z1)), some (.int (iI j)), v2] [.int (iI (b2 c))] h' P := fun c hc v2 => by
            have := ih (j + 1) (by omega) (by omega) z1 v2
            rw [ejs, show an (brO D F o i) (j.toNat + 1) = (an (brO D F o i) j.toNat || brO D F o i j) from by rw [← ej]; rfl, ← Bool.or_assoc, ← hc] at this
            refine n_go f_41_191 rfl (pc' := 193) (ls' := [_, _, _, _, _, _, _, _, _]) rfl ?_
            refine n_iinc (m' := 1) (ls' := [_, _, _, _, _, _, _, _, _]) f_41_193 rfl rfl rfl rfl ?_
            refine n_go f_41_196 rfl (pc' := 93) rfl ?_
            exact this
          have are : ∀ c : Bool, c = (decide (1 ≤ j) && lt D o j && decide (lh D o j = lh D o i) && decide (F (lh D o j) = 1)) → ∀ v2, En V (d + 2) 41 145 [some (.ref B), some (.ref A), some (.int (iI o)), some (.ref C), some (.int (iI (b2 (g || an (brO D F o i) j.toNat)))), some (.int (iI i)), some (.int (iI z1)), some (.int (iI j)), v2] [.int (iI (b2 c))] h' P := fun c hc v2 => by
            have hb : brO D F o i j = (c && decide (D (o + j) / 256 % 16 = D (o + i) / 256 % 16)) := by unfold brO; rw [hc]
            refine n_go f_41_145 rfl (pc' := 147) (ls' := [_, _, _, _, _, _, _, _, _]) rfl ?_
            refine n_go f_41_147 rfl (pc' := 149) rfl ?_
            refine n_ib_ne f_41_149 rfl rfl (fun e3 => ?_) (fun e3 => ?_)
            · refine n_go f_41_186 rfl (pc' := 187) (st' := .int (iI 1) :: _) rfl ?_
              refine n_go f_41_187 rfl (pc' := 191) rfl ?_
              exact step true (by rw [e3, Bool.true_or]) _
            · refine n_go f_41_152 rfl (pc' := 154) rfl ?_
              refine n_ib_eq f_41_154 rfl rfl (fun e4 => ?_) (fun e4 => ?_)
              · refine n_go f_41_190 rfl (pc' := 191) (st' := .int (iI 0) :: _) rfl ?_
                exact step false (by rw [hb, e3, e4]; rfl) _
              · refine n_go f_41_157 rfl (pc' := 158) rfl ?_
                refine n_go f_41_158 rfl (pc' := 159) rfl ?_
                refine n_go f_41_159 rfl (pc' := 161) rfl ?_
                refine n_iadd f_41_161 rfl ?_
                refine n_ial f_41_162 rfl (d1) (by unfold ev_ext; omega) (by omega) ?_
                refine n_sip (m := 256) f_41_163 rfl (by decide) ?_
                refine n_idiv f_41_166 rfl (by omega) ?_
                refine n_bip (m := 16) f_41_167 rfl (by decide) ?_
                refine n_irem f_41_169 rfl (by omega) ?_
                refine n_go f_41_170 rfl (pc' := 171) rfl ?_
                refine n_go f_41_171 rfl (pc' := 172) rfl ?_
                refine n_go f_41_172 rfl (pc' := 174) rfl ?_
                refine n_iadd f_41_174 rfl ?_
                refine n_ial f_41_175 rfl (d1) (by unfold ev_ext; omega) (by omega) ?_
                refine n_sip (m := 256) f_41_176 rfl (by decide) ?_
                refine n_idiv f_41_179 rfl (by omega) ?_
                refine n_bip (m := 16) f_41_180 rfl (by decide) ?_
                refine n_irem f_41_182 rfl (by omega) ?_
                refine n_ic_ne f_41_183 rfl rfl ⟨by omega, by omega⟩ (fun e5 => ?_) (fun e5 => ?_)
                · refine n_go f_41_190 rfl (pc' := 191) (st' := .int (iI 0) :: _) rfl ?_
                  exact step false (by rw [hb, e3, decide_eq_false e5, Bool.and_false]; rfl) _
                · refine n_go f_41_186 rfl (pc' := 187) (st' := .int (iI 1) :: _) rfl ?_
                  refine n_go f_41_187 rfl (pc' := 191) rfl ?_
                  exact step true (by rw [hb, e4, decide_eq_true (Classical.not_not.mp e5)]; exact (Bool.or_true _).symm) _
          refine n_go f_41_93 rfl (pc' := 95) rfl ?_
          refine n_go f_41_95 rfl (pc' := 97) rfl ?_
          refine n_ic_ge f_41_97 rfl rfl ⟨by omega, by omega⟩ (fun e9 => absurd e9 (by omega)) (fun _ => ?_)
          refine n_go f_41_100 rfl (pc' := 101) rfl ?_
          refine n_go f_41_101 rfl (pc' := 102) rfl ?_
          refine n_go f_41_102 rfl (pc' := 104) rfl ?_
          refine n_cs (ls' := [_, _, _]) f_41_104 (by decide) m_3 rfl rfl ?_
          refine c_lthere hD (by omega) ?_
          show En V _ 41 107 _ [_] _ _
          refine n_ib_eq f_41_107 rfl rfl (fun e1 => ?_) (fun e1 => ?_)
          · refine n_go f_41_144 rfl (pc' := 145) (st' := .int (iI 0) :: _) rfl ?_
            exact are false (by rw [e1, Bool.and_false]; rfl) _
          have hhj := hh j j1 (by omega) e1
          have hli := hlr i
          refine n_go f_41_110 rfl (pc' := 111) rfl ?_
          refine n_go f_41_111 rfl (pc' := 112) rfl ?_
          refine n_go f_41_112 rfl (pc' := 114) rfl ?_
          refine n_cs (ls' := [_, _, _]) f_41_114 (by decide) m_7 rfl rfl ?_
          refine c_lholder hD (by omega) ?_
          show En V _ 41 117 _ [_] _ _
          refine n_go f_41_117 rfl (pc' := 118) rfl ?_
          refine n_go f_41_118 rfl (pc' := 119) rfl ?_
          refine n_go f_41_119 rfl (pc' := 121) rfl ?_
          refine n_cs (ls' := [_, _, _]) f_41_121 (by decide) m_7 rfl rfl ?_
          refine c_lholder hD (by omega) ?_
          show En V _ 41 124 _ [_, _] _ _
          refine n_ic_ne f_41_124 rfl rfl ⟨by omega, by omega⟩ (fun e2 => ?_) (fun e2 => ?_)
          · refine n_go f_41_144 rfl (pc' := 145) (st' := .int (iI 0) :: _) rfl ?_
            exact are false (by rw [decide_eq_false e2, Bool.and_false]; rfl) _
          have hfj := c5 (lh D o j)
          refine n_go f_41_127 rfl (pc' := 128) rfl ?_
          refine n_go f_41_128 rfl (pc' := 129) rfl ?_
          refine n_go f_41_129 rfl (pc' := 130) rfl ?_
          refine n_go f_41_130 rfl (pc' := 132) rfl ?_
          refine n_cs (ls' := [_, _, _]) f_41_132 (by decide) m_7 rfl rfl ?_
          refine c_lholder hD (by omega) ?_
          show En V _ 41 135 _ [_, _] _ _
          refine n_ial f_41_135 rfl (c1) (by unfold ev_ext; omega) (by omega) ?_
          refine n_go f_41_136 rfl (pc' := 137) (st' := .int (iI 1) :: _) rfl ?_
          refine n_ic_ne f_41_137 rfl rfl ⟨by omega, by omega⟩ (fun e6 => ?_) (fun e6 => ?_)
          · refine n_go f_41_144 rfl (pc' := 145) (st' := .int (iI 0) :: _) rfl ?_
            exact are false (by rw [decide_eq_false e6, Bool.and_false]) _
          · refine n_go f_41_140 rfl (pc' := 141) (st' := .int (iI 1) :: _) rfl ?_
            refine n_go f_41_141 rfl (pc' := 145) rfl ?_
            exact are true (by rw [e1, decide_eq_true j1, decide_eq_true (Classical.not_not.mp e2), decide_eq_true (Classical.not_not.mp e6)]; rfl) _
      refine n_go f_41_88 rfl (pc' := 90) (ls' := [_, _, _, _, _, _, _, _, _]) rfl ?_
      refine n_go f_41_90 rfl (pc' := 91) (st' := .int (iI 1) :: _) rfl ?_
      refine n_go f_41_91 rfl (pc' := 93) (ls' := [_, _, _, _, _, _, _, _, _]) rfl ?_
      by_cases hi1 : 1 ≤ i
      · have := key (i - 1).toNat 1 (by decide) (by omega) z1 v3
        rw [show an (brO D F o i) (1 : Int).toNat = false from a01, Bool.or_false] at this
        exact this
      · have := done 1 (by decide) (by omega) (Or.inr rfl) z1 v3
        rw [show an (brO D F o i) (1 : Int).toNat = false from a01, Bool.or_false] at this
        exact this
    obtain ⟨p1, p2, p3⟩ := hdp i i1 i2 e0
    have hck := cnI_r (p := lk D o i) (by omega : 0 ≤ m)
    have bad : (an (brN D F o m dp) i.toNat || brC D o m dp i) = true → ∀ (z1 : Int) v2 v3, En V (d + 2) 41 83 [some (.ref B), some (.ref A), some (.int (iI o)), some (.ref C), some (.int (iI (b2 (an (brN D F o m dp) i.toNat)))), some (.int (iI i)), some (.int (iI z1)), v2, v3] [] h' P := fun e z1 v2 v3 => by
      refine n_go f_41_83 rfl (pc' := 84) (st' := .int (iI 1) :: _) rfl ?_
      refine n_go f_41_84 rfl (pc' := 88) rfl ?_
      exact lp true e.symm z1 v2 v3
    have more : an (brN D F o m dp) i.toNat = false → (decide (0 ≤ D (o + i) / 4096 - 1) && !(lt D o (D (o + i) / 4096 - 1))) = false → ∀ (z1 : Int) v2 v3, En V (d + 2) 41 58 [some (.ref B), some (.ref A), some (.int (iI o)), some (.ref C), some (.int (iI (b2 (an (brN D F o m dp) i.toNat)))), some (.int (iI i)), some (.int (iI z1)), v2, v3] [] h' P := fun e7 e8 z1 v2 v3 => by
      refine n_go f_41_58 rfl (pc' := 59) rfl ?_
      refine n_go f_41_59 rfl (pc' := 60) rfl ?_
      refine n_go f_41_60 rfl (pc' := 61) rfl ?_
      refine n_go f_41_61 rfl (pc' := 63) rfl ?_
      refine n_cs (ls' := [_, _, _, _, _, _]) f_41_63 (by decide) m_4 rfl rfl ?_
      refine c_lkids hB ⟨m0, m1, m2⟩ hD hr (by omega) ?_
      show En V _ 41 66 _ [_] _ _
      refine n_bip (m := 8) f_41_66 rfl (by decide) ?_
      refine n_ic_gt f_41_68 rfl rfl ⟨by omega, by omega⟩ (fun e9 => ?_) (fun e9 => ?_)
      · exact bad (by unfold brC; rw [decide_eq_true (p := cnI m (lk D o i) > 8) (by omega), Bool.or_true, Bool.true_or, Bool.or_true]) _ _ _
      refine n_go f_41_71 rfl (pc' := 72) rfl ?_
      refine n_go f_41_72 rfl (pc' := 73) rfl ?_
      refine n_go f_41_73 rfl (pc' := 75) rfl ?_
      refine n_cs (ls' := [_, _, _, _, _]) f_41_75 (by decide) m_86 rfl rfl ?_
      refine c_ldepth hD hr (dp i) p1 (by omega) p2 p3 ?_
      show En V _ 41 78 _ [_] _ _
      refine n_bip (m := 8) f_41_78 rfl (by decide) ?_
      refine n_ic_le f_41_80 rfl rfl ⟨by omega, by omega⟩ (fun e10 => ?_) (fun e10 => ?_)
      · refine n_go f_41_87 rfl (pc' := 88) (st' := .int (iI 0) :: _) rfl ?_
        exact lp false (by rw [e7]; unfold brC; rw [e8, decide_eq_false (p := cnI m (lk D o i) > 8) (by omega), decide_eq_false (p := (dp i : Int) > 8) (by omega)]; rfl) _ _ _
      · exact bad (by unfold brC; rw [decide_eq_true (p := (dp i : Int) > 8) (by omega), Bool.or_true, Bool.or_true]) _ _ _
    refine n_go f_41_24 rfl (pc' := 25) rfl ?_
    refine n_go f_41_25 rfl (pc' := 26) rfl ?_
    refine n_go f_41_26 rfl (pc' := 28) rfl ?_
    refine n_iadd f_41_28 rfl ?_
    refine n_ial f_41_29 rfl (d1) (by unfold ev_ext; omega) (by omega) ?_
    refine n_sip (m := 4096) f_41_30 rfl (by decide) ?_
    refine n_idiv f_41_33 rfl (by omega) ?_
    refine n_go f_41_34 rfl (pc' := 35) (st' := .int (iI 1) :: _) rfl ?_
    refine n_isub f_41_35 rfl ?_
    refine n_go f_41_36 rfl (pc' := 38) (ls' := [_, _, _, _, _, _, _, _, _]) rfl ?_
    refine n_go f_41_38 rfl (pc' := 40) rfl ?_
    refine n_ib_ne f_41_40 rfl rfl (fun e7 => ?_) (fun e7 => ?_)
    · exact bad (by rw [e7, Bool.true_or]) _ _ _
    · refine n_go f_41_43 rfl (pc' := 45) rfl ?_
      refine n_if_lt f_41_45 rfl rfl (by omega) (fun e8 => ?_) (fun e8 => ?_)
      · exact more e7 (by rw [decide_eq_false (by omega)]; rfl) _ _ _
      refine n_go f_41_48 rfl (pc' := 49) rfl ?_
      refine n_go f_41_49 rfl (pc' := 50) rfl ?_
      refine n_go f_41_50 rfl (pc' := 52) rfl ?_
      refine n_cs (ls' := [_, _, _]) f_41_52 (by decide) m_3 rfl rfl ?_
      refine c_lthere hD (by omega) ?_
      show En V _ 41 55 _ [_] _ _
      refine n_ib_eq f_41_55 rfl rfl (fun e9 => ?_) (fun e9 => ?_)
      · exact bad (by unfold brC; rw [e9, decide_eq_true (p := 0 ≤ D (o + i) / 4096 - 1) (by omega)]; simp) _ _ _
      · exact more e7 (by rw [e9, Bool.not_true, Bool.and_false]) _ _ _
  · rintro ls st h' ⟨⟨u1, u2, u3, rfl⟩, rfl, rfl⟩
    refine n_go f_41_6 rfl (pc' := 8) rfl ?_
    refine n_go f_41_8 rfl (pc' := 9) rfl ?_
    refine n_go f_41_9 rfl (pc' := 10) (st' := .int (iI 0) :: _) rfl ?_
    refine n_ial f_41_10 rfl (b1) (by unfold ev_ext; omega) (by omega) ?_
    show En V _ _ 11 _ [.int (iI (E 0)), .int (iI m)] _ _
    rw [m0]
    refine n_ic_ge f_41_11 rfl rfl ⟨by omega, by omega⟩ (fun _ => ?_) (fun e9 => absurd (by omega) e9)
    refine n_go f_41_205 rfl (pc' := 207) rfl ?_
    first | refine n_rtz f_41_207 rfl ?_ | refine n_rt0 f_41_207 rfl ?_ | refine n_rt1 f_41_207 rfl ?_
    exact KK
end LB
