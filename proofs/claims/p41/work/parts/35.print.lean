/-! Prints: each node's by those of its children. -/
/-- a print and one number more -/
def pst (p : Int64) (z : Int) : Int64 := 31 * p + (iI z).toInt64
def wpr (K : dK) (S : dS) (n : Int) (p : Int64) (i : Nat) : Int64 := match i with
  | 0 => p
  | i + 1 => if uOk K S n i = true then 31 * wpr K S n p i + (iI (kE K (kU K i))).toInt64 + 1 else wpr K S n p i
def kpr (K : dK) (S : dS) (n : Int) (f : Int → Int64) (p : Int64) (i : Nat) : Int64 := match i with
  | 0 => p
  | i + 1 => if 0 ≤ met K S n i then 31 * kpr K S n f p i + f (met K S n i) else kpr K S n f p i
def zpr (p : Int64) (i : Nat) : Int64 := match i with
  | 0 => p
  | i + 1 => 31 * zpr p i + (iI 0).toInt64
/-- the print of a node by those of its children -/
def npr (K : dK) (S : dS) (f : Int → Int64) (n : Int) : Int64 :=
  let p0 := 31 * (31 * (31 * (17 : Int64) + (iI (kK K n)).toInt64) + (iI (S.2.1 n)).toInt64) + (iI (S.2.2.1 n + 1)).toInt64
  let p1 := if kK K n = 2 then wpr K S n p0 (kW K).toNat else p0
  zpr (kpr K S n f p1 (swL K n).toNat) 5
section CP
variable {V : ev_V} {d : Nat} {h : ev_H} {P : ev_O → ev_H → Prop} {a : Nat} {K : dK} {S : dS} {n k b c : Int} {f : Int → Int64} {p : Int64}
/-- the printer's objects; its row of depths -/
def Pr (h : ev_H) : Prop := h.1[28]? = some (.inr (8, [.ref 1, .ref 10, .ref 29])) ∧ ∃ t, h.1[29]? = some (aI 40 t)
theorem c_conflictPrint (hk : 0 ≤ k ∧ k < 5) (KK : P (.inl (some (.int (iI 0)))) h) : En V d 187 0 [some (.int (iI 1048576)), some (.int (iI k))] [] h P := by
  refine n_go f_187_0 rfl (pc' := 1) rfl ?_
  refine n_ldc (m := 1048576) f_187_1 rfl (by decide) ?_
  refine n_ic_ne f_187_3 rfl rfl ⟨by omega, by omega⟩ (fun e9 => absurd e9 (by omega)) (fun _ => ?_)
  refine n_go f_187_6 rfl (pc' := 7) (st' := .int (iI 0) :: _) rfl ?_
  refine n_ret f_187_7 rfl rfl ?_
  exact KK
theorem c_withWords (hK : Sk h K) (hS : St h a S) (h28 : h.1[28]? = some (.inr (8, [.ref 1, .ref 10, .ref 29]))) (hn : 0 ≤ n ∧ n < 40) (KK : P (.inl (some (.long (if kK K n = 2 then wpr K S n p (kW K).toNat else p)))) h) : En V (d + 1) 186 0 [some (.ref 28), some (.long p), none, some (.ref a), some (.int (iI n)), none, none, none, none] [] h P := by
  have k1 := hK.1
  have s0 := hS.1
  have kr := hK.2.2.2.2.2.2.2.2.2.2
  have kw := kr.2.2.1
  have kk0 := kr.2.2.2.1 n
  refine n_go f_186_0 rfl (pc' := 1) rfl ?_
  refine n_go f_186_1 rfl (pc' := 3) (ls' := [_, _, _, _, _, _, _, _, _]) rfl ?_
  refine n_go f_186_3 rfl (pc' := 4) rfl ?_
  refine n_gf f_186_4 rfl (by assumption) rfl ?_
  refine n_go f_186_7 rfl (pc' := 9) rfl ?_
  refine n_cv (ls' := [_, _]) f_186_9 (by decide) m_108 rfl rfl (by assumption) rfl ?_
  refine c_kindOf hK hn ?_
  show En V _ 186 12 _ [_] _ _
  refine n_go f_186_12 rfl (pc' := 13) (st' := .int (iI 2) :: _) rfl ?_
  refine n_ic_eq f_186_13 rfl rfl ⟨by omega, by omega⟩ (fun e => ?_) (fun e => ?_)
  · rw [if_pos e] at KK
    refine n_go f_186_19 rfl (pc' := 20) (st' := .int (iI 0) :: _) rfl ?_
    refine n_go f_186_20 rfl (pc' := 22) (ls' := [_, _, _, _, _, _, _, _, _]) rfl ?_
    refine n_for (lo := 0) (hi := kW K) kw.1 (fun i ls st h' => (∃ u, ls = [some (.ref 28), some (.long p), none, some (.ref a), some (.int (iI n)), some (.long (wpr K S n p i.toNat)), none, some (.int (iI i)), u]) ∧ st = [] ∧ h' = h) ⟨⟨_, rfl⟩, rfl, rfl⟩ ?_ ?_
    · rintro i ls st h' h1 h2 ⟨⟨u, rfl⟩, rfl, rfl⟩ kk
      have hu := kr.2.2.2.2.2.2.2.2.2.2 i
      have hl := kr.2.2.2.2.2.2.2.1 (kU K i)
      have e0 : (i + 1).toNat = i.toNat + 1 := by omega
      have e1 : ((i.toNat : Nat) : Int) = i := by omega
      have ws : wpr K S n p (i + 1).toNat = if uOk K S n i = true then 31 * wpr K S n p i.toNat + (iI (kE K (kU K i))).toInt64 + 1 else wpr K S n p i.toNat := by
        rw [e0]
        show (if uOk K S n (i.toNat : Nat) = true then 31 * wpr K S n p i.toNat + (iI (kE K (kU K (i.toNat : Nat)))).toInt64 + 1 else wpr K S n p i.toNat) = _
        rw [e1]
      refine n_go f_186_22 rfl (pc' := 24) rfl ?_
      refine n_go f_186_24 rfl (pc' := 25) rfl ?_
      refine n_gf f_186_25 rfl (by assumption) rfl ?_
      refine n_cv (ls' := [_]) f_186_28 (by decide) m_154 rfl rfl (by assumption) rfl ?_
      refine c_wordCount hK ?_
      show En V _ 186 31 _ [_, _] _ _
      refine n_ic_ge f_186_31 rfl rfl ⟨by omega, by omega⟩ (fun e9 => absurd e9 (by omega)) (fun _ => ?_)
      refine n_go f_186_34 rfl (pc' := 35) rfl ?_
      refine n_gf f_186_35 rfl (by assumption) rfl ?_
      refine n_go f_186_38 rfl (pc' := 40) rfl ?_
      refine n_cv (ls' := [_, _]) f_186_40 (by decide) m_157 rfl rfl (by assumption) rfl ?_
      refine c_wordInOrder hK ⟨h1, h2⟩ ?_
      show En V _ 186 43 _ [_] _ _
      refine n_go f_186_43 rfl (pc' := 45) (ls' := [_, _, _, _, _, _, _, _, _]) rfl ?_
      refine n_go f_186_45 rfl (pc' := 46) rfl ?_
      refine n_gf f_186_46 rfl (by assumption) rfl ?_
      refine n_go f_186_49 rfl (pc' := 51) rfl ?_
      refine n_cv (ls' := [_, _]) f_186_51 (by decide) m_155 rfl rfl (by assumption) rfl ?_
      refine c_leafOf hK (by omega) ?_
      show En V _ 186 54 _ [_] _ _
      refine n_go f_186_54 rfl (pc' := 56) rfl ?_
      refine n_ic_ne f_186_56 rfl rfl ⟨by omega, by omega⟩ (fun e2 => ?_) (fun e2 => ?_)
      · rw [show uOk K S n i = false by unfold uOk wOk; rw [decide_eq_false e2]; rfl, if_neg (by decide)] at ws
        refine n_iinc (m' := 1) (ls' := [_, _, _, _, _, _, _, _, _]) f_186_89 rfl rfl rfl rfl ?_
        refine n_go f_186_92 rfl (pc' := 22) rfl ?_
        exact kk _ _ _ ⟨⟨_, by rw [ws]⟩, rfl, rfl⟩
      have e2 : kL K (kU K i) = n := by omega
      refine n_go f_186_59 rfl (pc' := 60) rfl ?_
      refine n_go f_186_60 rfl (pc' := 62) rfl ?_
      refine n_cv (ls' := [_, _]) f_186_62 (by decide) m_156 rfl rfl (by assumption) rfl ?_
      refine c_says hS (by omega) ?_
      show En V _ 186 65 _ [_] _ _
      refine n_ib_eq f_186_65 rfl rfl (fun e3 => ?_) (fun e3 => ?_)
      · rw [show uOk K S n i = false by unfold uOk wOk; rw [e3, Bool.and_false], if_neg (by decide)] at ws
        refine n_iinc (m' := 1) (ls' := [_, _, _, _, _, _, _, _, _]) f_186_89 rfl rfl rfl rfl ?_
        refine n_go f_186_92 rfl (pc' := 22) rfl ?_
        exact kk _ _ _ ⟨⟨_, by rw [ws]⟩, rfl, rfl⟩
      rw [show uOk K S n i = true by unfold uOk wOk; rw [decide_eq_true e2, e3]; rfl, if_pos rfl] at ws
      refine n_go f_186_68 rfl (pc' := 71) rfl ?_
      refine n_go f_186_71 rfl (pc' := 73) rfl ?_
      refine n_go f_186_73 rfl (pc' := 74) rfl ?_
      refine n_go f_186_74 rfl (pc' := 75) rfl ?_
      refine n_gf f_186_75 rfl (by assumption) rfl ?_
      refine n_go f_186_78 rfl (pc' := 80) rfl ?_
      refine n_cv (ls' := [_, _]) f_186_80 (by decide) m_116 rfl rfl (by assumption) rfl ?_
      refine c_senseOf hK (by omega) ?_
      show En V _ 186 83 _ [_, _] _ _
      refine n_go f_186_83 rfl (pc' := 84) rfl ?_
      refine n_go f_186_84 rfl (pc' := 85) rfl ?_
      refine n_go f_186_85 rfl (pc' := 86) rfl ?_
      refine n_go f_186_86 rfl (pc' := 87) rfl ?_
      show En V _ _ 87 _ [.long (31 * wpr K S n p i.toNat + (iI (kE K (kU K i))).toInt64 + 1)] _ _
      refine n_go f_186_87 rfl (pc' := 89) (ls' := [_, _, _, _, _, _, _, _, _]) rfl ?_
      refine n_iinc (m' := 1) (ls' := [_, _, _, _, _, _, _, _, _]) f_186_89 rfl rfl rfl rfl ?_
      refine n_go f_186_92 rfl (pc' := 22) rfl ?_
      exact kk _ _ _ ⟨⟨_, by rw [ws]⟩, rfl, rfl⟩
    · rintro ls st h' ⟨⟨u, rfl⟩, rfl, rfl⟩
      refine n_go f_186_22 rfl (pc' := 24) rfl ?_
      refine n_go f_186_24 rfl (pc' := 25) rfl ?_
      refine n_gf f_186_25 rfl (by assumption) rfl ?_
      refine n_cv (ls' := [_]) f_186_28 (by decide) m_154 rfl rfl (by assumption) rfl ?_
      refine c_wordCount hK ?_
      show En V _ 186 31 _ [_, _] _ _
      refine n_ic_ge f_186_31 rfl rfl ⟨by omega, by omega⟩ (fun _ => ?_) (fun e9 => absurd (by omega) e9)
      refine n_go f_186_95 rfl (pc' := 97) rfl ?_
      refine n_ret f_186_97 rfl rfl ?_
      exact KK
  · rw [if_neg e] at KK
    refine n_go f_186_16 rfl (pc' := 18) rfl ?_
    refine n_ret f_186_18 rfl rfl ?_
    exact KK
theorem c_printOf (hK : Sk h K) (hS : St h a S) (h28 : h.1[28]? = some (.inr (8, [.ref 1, .ref 10, .ref 29]))) (hp : h.1[44]? = some (aL 40 f)) (hn : 0 ≤ n ∧ n < 40) (KK : P (.inl (some (.long (npr K S f n)))) h) : En V (d + 3) 175 0 [some (.ref 28), some (.ref a), some (.int (iI n)), some (.int (iI 0)), some (.ref 44), none, none, none, none, none] [] h P := by
  have k1 := hK.1
  have k10 := hK.2.2.2.2.2.2.2.2.2.1
  have s0 := hS.1
  have kr := hK.2.2.2.2.2.2.2.2.2.2
  have sr := hS.2.2.2.2.2.2.1
  have hw := swL_r kr n
  have g1 : gS S.2.1 n = S.2.1 n := if_pos hn
  have g2 : gS (vS S 2) n = S.2.2.1 n := if_pos hn
  refine n_go f_175_0 rfl (pc' := 3) rfl ?_
  refine n_go f_175_3 rfl (pc' := 5) (ls' := [_, _, _, _, _, _, _, _, _, _]) rfl ?_
  refine n_go f_175_5 rfl (pc' := 8) rfl ?_
  refine n_go f_175_8 rfl (pc' := 10) rfl ?_
  refine n_go f_175_10 rfl (pc' := 11) rfl ?_
  refine n_go f_175_11 rfl (pc' := 12) rfl ?_
  refine n_gf f_175_12 rfl (by assumption) rfl ?_
  refine n_go f_175_15 rfl (pc' := 16) rfl ?_
  refine n_cv (ls' := [_, _]) f_175_16 (by decide) m_108 rfl rfl (by assumption) rfl ?_
  refine c_kindOf hK hn ?_
  show En V _ 175 19 _ [_, _] _ _
  refine n_go f_175_19 rfl (pc' := 20) rfl ?_
  refine n_go f_175_20 rfl (pc' := 21) rfl ?_
  refine n_go f_175_21 rfl (pc' := 23) (ls' := [_, _, _, _, _, _, _, _, _, _]) rfl ?_
  refine n_go f_175_23 rfl (pc' := 26) rfl ?_
  refine n_go f_175_26 rfl (pc' := 28) rfl ?_
  refine n_go f_175_28 rfl (pc' := 29) rfl ?_
  refine n_go f_175_29 rfl (pc' := 30) rfl ?_
  refine n_go f_175_30 rfl (pc' := 31) rfl ?_
  refine n_cv (ls' := [_, _]) f_175_31 (by decide) m_107 rfl rfl (by assumption) rfl ?_
  refine c_tagOf hS (by omega) ?_
  show En V _ 175 34 _ [_, _] _ _
  rw [g1]
  refine n_go f_175_34 rfl (pc' := 35) rfl ?_
  refine n_go f_175_35 rfl (pc' := 36) rfl ?_
  refine n_go f_175_36 rfl (pc' := 38) (ls' := [_, _, _, _, _, _, _, _, _, _]) rfl ?_
  refine n_go f_175_38 rfl (pc' := 41) rfl ?_
  refine n_go f_175_41 rfl (pc' := 43) rfl ?_
  refine n_go f_175_43 rfl (pc' := 44) rfl ?_
  refine n_go f_175_44 rfl (pc' := 45) rfl ?_
  refine n_if_eq f_175_45 rfl rfl (by omega) (fun _ => ?_) (fun e9 => absurd (by omega) e9)
  refine n_go f_175_52 rfl (pc' := 53) rfl ?_
  refine n_go f_175_53 rfl (pc' := 54) rfl ?_
  refine n_go f_175_54 rfl (pc' := 55) (st' := .int (iI 2) :: _) rfl ?_
  refine n_cv (ls' := [_, _, _]) f_175_55 (by decide) m_109 rfl rfl (by assumption) rfl ?_
  refine c_valueOf hS (by omega) (by omega) ?_
  show En V _ 175 58 _ [_, _] _ _
  rw [g2]
  refine n_go f_175_58 rfl (pc' := 59) (st' := .int (iI 1) :: _) rfl ?_
  refine n_iadd f_175_59 rfl ?_
  refine n_go f_175_60 rfl (pc' := 61) rfl ?_
  refine n_go f_175_61 rfl (pc' := 62) rfl ?_
  show En V _ _ 62 _ [.long (31 * (31 * (31 * (17 : Int64) + (iI (kK K n)).toInt64) + (iI (S.2.1 n)).toInt64) + (iI (S.2.2.1 n + 1)).toInt64)] _ _
  unfold npr at KK
  dsimp only at KK
  generalize 31 * (31 * (31 * (17 : Int64) + (iI (kK K n)).toInt64) + (iI (S.2.1 n)).toInt64) + (iI (S.2.2.1 n + 1)).toInt64 = p0 at *
  refine n_go f_175_62 rfl (pc' := 64) (ls' := [_, _, _, _, _, _, _, _, _, _]) rfl ?_
  refine n_go f_175_64 rfl (pc' := 65) rfl ?_
  refine n_go f_175_65 rfl (pc' := 67) rfl ?_
  refine n_go f_175_67 rfl (pc' := 68) rfl ?_
  refine n_go f_175_68 rfl (pc' := 69) rfl ?_
  refine n_cv (ls' := [_, _, _, _, _, _, _, _, _]) f_175_69 (by decide) m_186 rfl rfl (by assumption) rfl ?_
  refine c_withWords hK hS h28 hn ?_
  show En V _ 175 72 _ [_] _ _
  generalize (if kK K n = 2 then wpr K S n p0 (kW K).toNat else p0) = p1 at *
  refine n_go f_175_72 rfl (pc' := 74) (ls' := [_, _, _, _, _, _, _, _, _, _]) rfl ?_
  refine n_go f_175_74 rfl (pc' := 75) rfl ?_
  refine n_gf f_175_75 rfl (by assumption) rfl ?_
  refine n_go f_175_78 rfl (pc' := 79) rfl ?_
  refine n_cv (ls' := [_, _]) f_175_79 (by decide) m_169 rfl rfl (by assumption) rfl ?_
  refine c_sweepLength hK hn ?_
  show En V _ 175 82 _ [_] _ _
  refine n_go f_175_82 rfl (pc' := 84) (ls' := [_, _, _, _, _, _, _, _, _, _]) rfl ?_
  refine n_go f_175_84 rfl (pc' := 85) (st' := .int (iI 0) :: _) rfl ?_
  refine n_go f_175_85 rfl (pc' := 87) (ls' := [_, _, _, _, _, _, _, _, _, _]) rfl ?_
  refine n_for (lo := 0) (hi := swL K n) hw.1 (fun i ls st h' => (∃ u, ls = [some (.ref 28), some (.ref a), some (.int (iI n)), some (.int (iI 0)), some (.ref 44), some (.long (kpr K S n f p1 i.toNat)), none, some (.int (iI (swL K n))), some (.int (iI i)), u]) ∧ st = [] ∧ h' = h) ⟨⟨_, rfl⟩, rfl, rfl⟩ ?_ ?_
  · rintro i ls st h' h1 h2 ⟨⟨u, rfl⟩, rfl, rfl⟩ kk
    have hm := met_r kr S n i (by omega) (fun e => by have := hw.2.2 e; omega)
    have e0 : (i + 1).toNat = i.toNat + 1 := by omega
    have e1 : ((i.toNat : Nat) : Int) = i := by omega
    have ws : kpr K S n f p1 (i + 1).toNat = if 0 ≤ met K S n i then 31 * kpr K S n f p1 i.toNat + f (met K S n i) else kpr K S n f p1 i.toNat := by
      rw [e0]
      show (if 0 ≤ met K S n (i.toNat : Nat) then 31 * kpr K S n f p1 i.toNat + f (met K S n (i.toNat : Nat)) else kpr K S n f p1 i.toNat) = _
      rw [e1]
    refine n_go f_175_87 rfl (pc' := 89) rfl ?_
    refine n_go f_175_89 rfl (pc' := 91) rfl ?_
    refine n_ic_ge f_175_91 rfl rfl ⟨by omega, by omega⟩ (fun e9 => absurd e9 (by omega)) (fun _ => ?_)
    refine n_go f_175_94 rfl (pc' := 95) rfl ?_
    refine n_gf f_175_95 rfl (by assumption) rfl ?_
    refine n_go f_175_98 rfl (pc' := 99) rfl ?_
    refine n_go f_175_99 rfl (pc' := 100) rfl ?_
    refine n_go f_175_100 rfl (pc' := 102) rfl ?_
    refine n_cv (ls' := [_, _, _, _, _, _]) f_175_102 (by decide) m_170 rfl rfl (by assumption) rfl ?_
    refine c_childMet hK hS hn ⟨h1, h2⟩ ?_
    show En V _ 175 105 _ [_] _ _
    refine n_go f_175_105 rfl (pc' := 107) (ls' := [_, _, _, _, _, _, _, _, _, _]) rfl ?_
    refine n_go f_175_107 rfl (pc' := 109) rfl ?_
    refine n_if_lt f_175_109 rfl rfl (by omega) (fun e => ?_) (fun e => ?_)
    · rw [if_neg (by omega)] at ws
      refine n_iinc (m' := 1) (ls' := [_, _, _, _, _, _, _, _, _, _]) f_175_134 rfl rfl rfl rfl ?_
      refine n_go f_175_137 rfl (pc' := 87) rfl ?_
      exact kk _ _ _ ⟨⟨_, by rw [ws]⟩, rfl, rfl⟩
    rw [if_pos (by omega)] at ws
    refine n_go f_175_112 rfl (pc' := 114) rfl ?_
    refine n_go f_175_114 rfl (pc' := 116) rfl ?_
    refine n_aln f_175_116 rfl (by assumption) rfl (by unfold ev_ext; omega) ?_
    refine n_ic_ge f_175_117 rfl rfl ⟨by omega, by omega⟩ (fun e9 => absurd e9 (by omega)) (fun _ => ?_)
    refine n_go f_175_120 rfl (pc' := 123) rfl ?_
    refine n_go f_175_123 rfl (pc' := 125) rfl ?_
    refine n_go f_175_125 rfl (pc' := 126) rfl ?_
    refine n_go f_175_126 rfl (pc' := 128) rfl ?_
    refine n_go f_175_128 rfl (pc' := 130) rfl ?_
    refine n_lal f_175_130 rfl (by assumption) (by omega) ?_
    refine n_go f_175_131 rfl (pc' := 132) rfl ?_
    show En V _ _ 132 _ [.long (31 * kpr K S n f p1 i.toNat + f (met K S n i))] _ _
    refine n_go f_175_132 rfl (pc' := 134) (ls' := [_, _, _, _, _, _, _, _, _, _]) rfl ?_
    refine n_iinc (m' := 1) (ls' := [_, _, _, _, _, _, _, _, _, _]) f_175_134 rfl rfl rfl rfl ?_
    refine n_go f_175_137 rfl (pc' := 87) rfl ?_
    exact kk _ _ _ ⟨⟨_, by rw [ws]⟩, rfl, rfl⟩
  rintro ls st h ⟨⟨u, rfl⟩, rfl, rfl⟩
  generalize kpr K S n f p1 (swL K n).toNat = p2 at *
  refine n_go f_175_87 rfl (pc' := 89) rfl ?_
  refine n_go f_175_89 rfl (pc' := 91) rfl ?_
  refine n_ic_ge f_175_91 rfl rfl ⟨by omega, by omega⟩ (fun _ => ?_) (fun e9 => absurd (by omega) e9)
  refine n_go f_175_140 rfl (pc' := 141) (st' := .int (iI 0) :: _) rfl ?_
  refine n_go f_175_141 rfl (pc' := 143) (ls' := [_, _, _, _, _, _, _, _, _, _]) rfl ?_
  refine n_for (lo := 0) (hi := 5) (by decide) (fun i ls st h' => ls = [some (.ref 28), some (.ref a), some (.int (iI n)), some (.int (iI 0)), some (.ref 44), some (.long (zpr p2 i.toNat)), none, some (.int (iI (swL K n))), some (.int (iI i)), u] ∧ st = [] ∧ h' = h) ⟨rfl, rfl, rfl⟩ ?_ ?_
  · rintro i ls st h' h1 h2 ⟨rfl, rfl, rfl⟩ kk
    have e0 : (i + 1).toNat = i.toNat + 1 := by omega
    refine n_go f_175_143 rfl (pc' := 145) rfl ?_
    refine n_go f_175_145 rfl (pc' := 146) (st' := .int (iI 5) :: _) rfl ?_
    refine n_ic_ge f_175_146 rfl rfl ⟨by omega, by omega⟩ (fun e9 => absurd e9 (by omega)) (fun _ => ?_)
    refine n_go f_175_149 rfl (pc' := 152) rfl ?_
    refine n_go f_175_152 rfl (pc' := 154) rfl ?_
    refine n_go f_175_154 rfl (pc' := 155) rfl ?_
    refine n_go f_175_155 rfl (pc' := 156) rfl ?_
    refine n_if_eq f_175_156 rfl rfl (by omega) (fun _ => ?_) (fun e9 => absurd (by omega) e9)
    refine n_go f_175_163 rfl (pc' := 164) rfl ?_
    refine n_go f_175_164 rfl (pc' := 165) rfl ?_
    refine n_go f_175_165 rfl (pc' := 167) rfl ?_
    refine n_cv (ls' := [_, _, _]) f_175_167 (by decide) m_176 rfl rfl (by assumption) rfl ?_
    refine c_conflictOf hS (by omega) (by omega) ?_
    show En V _ 175 170 _ [_, _] _ _
    refine n_go f_175_170 rfl (pc' := 172) rfl ?_
    refine n_cs (ls' := [_, _]) f_175_172 (by decide) m_187 rfl rfl ?_
    refine c_conflictPrint (by omega) ?_
    show En V _ 175 175 _ [_, _] _ _
    refine n_go f_175_175 rfl (pc' := 176) rfl ?_
    refine n_go f_175_176 rfl (pc' := 177) rfl ?_
    show En V _ _ 177 _ [.long (31 * zpr p2 i.toNat + (iI 0).toInt64)] _ _
    refine n_go f_175_177 rfl (pc' := 179) (ls' := [_, _, _, _, _, _, _, _, _, _]) rfl ?_
    refine n_iinc (m' := 1) (ls' := [_, _, _, _, _, _, _, _, _, _]) f_175_179 rfl rfl rfl rfl ?_
    refine n_go f_175_182 rfl (pc' := 143) rfl ?_
    refine kk _ _ _ ⟨?_, rfl, rfl⟩
    rw [e0]
    rfl
  rintro ls st h ⟨rfl, rfl, rfl⟩
  refine n_go f_175_143 rfl (pc' := 145) rfl ?_
  refine n_go f_175_145 rfl (pc' := 146) (st' := .int (iI 5) :: _) rfl ?_
  refine n_ic_ge f_175_146 rfl rfl ⟨by omega, by omega⟩ (fun _ => ?_) (fun e9 => absurd (by omega) e9)
  refine n_go f_175_185 rfl (pc' := 187) rfl ?_
  refine n_ret f_175_187 rfl rfl ?_
  exact KK
end CP
