/-! The law's print. -/
/-- words, children told in a print -/
def lwp (W X : Int → Int) (o m i : Int) (p : Int64) : Nat → Int64
  | 0 => p
  | n + 1 => lwp W X o m i p n * 31 + (iI (W (wdF W X o i n m.toNat) / 16 % 128)).toInt64 + 1
def lkp (D F : Int → Int) (o m i : Int) (f : Int → Int64) (p : Int64) : Nat → Int64
  | 0 => p
  | n + 1 => lkp D F o m i f p n * 31 + f (kdF D o i (decide (F i = 1)) n m.toNat)
/-- a node's print by those of its children -/
def lnp (D X F W : Int → Int) (o m m1 : Int) (f : Int → Int64) (i : Int) : Int64 :=
  lkp D F o m i f (lwp W X o m1 i ((((527 : Int64) + (iI (F i)).toInt64) * 31 + (iI (D (o + i) / 256 % 16)).toInt64) * 31 + (iI (D (o + i) / 4096)).toInt64) (cnI m1 (lu W X o i)).toNat) (cnI m (lk D o i)).toNat * 28629151
theorem uz_uz {A : Type} (f : Int → A) (i : Int) (v v' : A) : uz (uz f i v) i v' = uz f i v' := by
  funext j
  unfold uz
  split <;> rfl
theorem lkp_c {D F : Int → Int} {o m i : Int} {f g : Int → Int64} {p : Int64} (n : Nat) (hfg : ∀ q : Nat, q < n → f (kdF D o i (decide (F i = 1)) q m.toNat) = g (kdF D o i (decide (F i = 1)) q m.toNat)) : lkp D F o m i f p n = lkp D F o m i g p n := by
  induction n with
  | zero => rfl
  | succ n ih =>
    unfold lkp
    rw [ih (fun q hq => hfg q (by omega)), hfg n (by omega)]
theorem kdF_k {D : Int → Int} {o p : Int} {is1 : Bool} {q : Int} (j : Nat) (h : 0 ≤ kdF D o p is1 q j) : lk D o p (kdF D o p is1 q j) = true ∧ kdF D o p is1 q j < (j : Int) := by
  induction j with
  | zero => exact absurd (show (0 : Int) ≤ -1 from h) (by decide)
  | succ j ih =>
    by_cases e : lk D o p j = true ∧ (if is1 = true then cnI j (lk D o p) else lrow D o j) = q
    · have e1 : kdF D o p is1 q (j + 1) = (j : Int) := if_pos e
      rw [e1]
      exact ⟨e.1, by omega⟩
    · have e1 : kdF D o p is1 q (j + 1) = kdF D o p is1 q j := if_neg e
      rw [e1] at h ⊢
      have := ih h
      exact ⟨this.1, by omega⟩
section LR
variable {V : ev_V} {d : Nat} {h : ev_H} {P : ev_O → ev_H → Prop} {A B C N M L : Nat} {D X E F W : Int → Int} {o m m1 : Int} {dp : Int → Nat} {f : Int → Int64}
/-- one node's print -/
theorem c_lpr1 (hL : h.1[L]? = some (aL 10 f)) (hl : 92 ≤ L ∧ L < 1048576) (hB : Rw h B 8 E) (hm : E 0 = m ∧ 1 ≤ m ∧ m ≤ 10) (hm1 : E 1 = m1 ∧ 0 ≤ m1 ∧ m1 ≤ 10) (hD : Rw h A N D) (hX : Rw h M N X) (hF : Rw h C 10 F) {O : Nat} (hW : Rw h O 10 W) (hr : 0 ≤ o ∧ o + 10 ≤ N) {i z7 : Int} (hi : 0 ≤ i ∧ i < m)
    (hw : ∀ q, 0 ≤ q → q < cnI m1 (lu W X o i) → 0 ≤ wdF W X o i q m1.toNat) (hk : ∀ q, 0 ≤ q → q < cnI m (lk D o i) → 0 ≤ kdF D o i (decide (F i = 1)) q m.toNat) (hne : lk D o i i = false) {u9 : Option Value}
    (KK : ∀ u9, En V (d + 2) 34 245 [some (.ref B), some (.ref A), some (.ref M), some (.int (iI o)), some (.ref C), some (.ref O), some (.ref L), some (.int (iI z7)), some (.int (iI i)), u9] [] (ev_set h L (aL 10 (uz f i (lnp D X F W o m m1 f i)))) P) :
    En V (d + 2) 34 48 [some (.ref B), some (.ref A), some (.ref M), some (.int (iI o)), some (.ref C), some (.ref O), some (.ref L), some (.int (iI z7)), some (.int (iI i)), u9] [] h P := by
  have f5 := hF.2.2.2.2 i
  have d5 := hD.2.2.2.2 (o + i)
  have hN : (N : Int) ≤ 60 := by have := hD.2.2.2.1; omega
  have sA : ∀ {a n : Nat} {Q : Int → Int} {c : ev_C}, Rw h a n Q → Rw (ev_set h L c) a n Q := fun hR => hR.set (by have := hR.2.2.1; omega)
  have eL : ∀ v, (ev_set h L (aL 10 (uz f i v))).1[L]? = some (aL 10 (uz f i v)) := fun v => g_eq hL
  have eU : ∀ v v', ev_set (ev_set h L (aL 10 (uz f i v))) L (aL 10 (uz (uz f i v) i v')) = ev_set h L (aL 10 (uz f i v')) := fun v v' => by rw [g_ss, uz_uz]
  have hf1 := hF.1
  have bA := hD.2.2.1
  have bC := hF.2.2.1
  have bO := hW.2.2.1
  refine n_go f_34_48 rfl (pc' := 50) rfl ?_
  refine n_go f_34_50 rfl (pc' := 52) rfl ?_
  refine n_go f_34_52 rfl (pc' := 55) rfl ?_
  refine n_go f_34_55 rfl (pc' := 57) rfl ?_
  refine n_go f_34_57 rfl (pc' := 59) rfl ?_
  refine n_ial f_34_59 rfl (hf1) (by unfold ev_ext; omega) (by omega) ?_
  refine n_go f_34_60 rfl (pc' := 61) rfl ?_
  refine n_go f_34_61 rfl (pc' := 62) rfl ?_
  refine n_las f_34_62 rfl (hL) (by omega) ?_
  show En V _ _ 63 _ [] (ev_set h L (aL 10 (uz f i ((527 : Int64) + (iI (F i)).toInt64)))) _
  have hd1 : ∀ v, (ev_set h L (aL 10 (uz f i v))).1[A]? = _ := fun v => (sA hD).1
  unfold lnp at KK
  generalize (527 : Int64) + (iI (F i)).toInt64 = v1 at *
  refine n_go f_34_63 rfl (pc' := 65) rfl ?_
  refine n_go f_34_65 rfl (pc' := 67) rfl ?_
  refine n_go f_34_67 rfl (pc' := 69) rfl ?_
  refine n_go f_34_69 rfl (pc' := 71) rfl ?_
  refine n_lal f_34_71 rfl (eL v1) (by omega) ?_
  rw [uz_same]
  refine n_go f_34_72 rfl (pc' := 75) rfl ?_
  refine n_go f_34_75 rfl (pc' := 76) rfl ?_
  refine n_go f_34_76 rfl (pc' := 77) rfl ?_
  refine n_go f_34_77 rfl (pc' := 78) rfl ?_
  refine n_go f_34_78 rfl (pc' := 80) rfl ?_
  refine n_iadd f_34_80 rfl ?_
  refine n_ial f_34_81 rfl (hd1 v1) (by unfold ev_ext; omega) (by omega) ?_
  refine n_sip (m := 256) f_34_82 rfl (by decide) ?_
  refine n_idiv f_34_85 rfl (by omega) ?_
  refine n_bip (m := 16) f_34_86 rfl (by decide) ?_
  refine n_irem f_34_88 rfl (by omega) ?_
  refine n_go f_34_89 rfl (pc' := 90) rfl ?_
  refine n_go f_34_90 rfl (pc' := 91) rfl ?_
  refine n_las f_34_91 rfl (eL v1) (by omega) ?_
  rw [eU]
  show En V _ _ 92 _ [] (ev_set h L (aL 10 (uz f i (v1 * 31 + (iI (D (o + i) / 256 % 16)).toInt64)))) _
  generalize v1 * 31 + (iI (D (o + i) / 256 % 16)).toInt64 = v2 at *
  refine n_go f_34_92 rfl (pc' := 94) rfl ?_
  refine n_go f_34_94 rfl (pc' := 96) rfl ?_
  refine n_go f_34_96 rfl (pc' := 98) rfl ?_
  refine n_go f_34_98 rfl (pc' := 100) rfl ?_
  refine n_lal f_34_100 rfl (eL v2) (by omega) ?_
  rw [uz_same]
  refine n_go f_34_101 rfl (pc' := 104) rfl ?_
  refine n_go f_34_104 rfl (pc' := 105) rfl ?_
  refine n_go f_34_105 rfl (pc' := 106) rfl ?_
  refine n_go f_34_106 rfl (pc' := 107) rfl ?_
  refine n_go f_34_107 rfl (pc' := 109) rfl ?_
  refine n_iadd f_34_109 rfl ?_
  refine n_ial f_34_110 rfl (hd1 v2) (by unfold ev_ext; omega) (by omega) ?_
  refine n_sip (m := 4096) f_34_111 rfl (by decide) ?_
  refine n_idiv f_34_114 rfl (by omega) ?_
  refine n_go f_34_115 rfl (pc' := 116) rfl ?_
  refine n_go f_34_116 rfl (pc' := 117) rfl ?_
  refine n_las f_34_117 rfl (eL v2) (by omega) ?_
  rw [eU]
  show En V _ _ 118 _ [] (ev_set h L (aL 10 (uz f i (v2 * 31 + (iI (D (o + i) / 4096)).toInt64)))) _
  generalize v2 * 31 + (iI (D (o + i) / 4096)).toInt64 = v3 at *
  have hc1 := cnI_r (p := lu W X o i) hm1.2.1
  have hc2 := cnI_r (p := lk D o i) (by omega : 0 ≤ m)
  refine n_go f_34_118 rfl (pc' := 119) (st' := .int (iI 0) :: _) rfl ?_
  refine n_go f_34_119 rfl (pc' := 121) (ls' := [_, _, _, _, _, _, _, _, _, _]) rfl ?_
  refine n_for (lo := 0) (hi := cnI m1 (lu W X o i)) hc1.1 (fun j ls st h' => ls = [some (.ref B), some (.ref A), some (.ref M), some (.int (iI o)), some (.ref C), some (.ref O), some (.ref L), some (.int (iI z7)), some (.int (iI i)), some (.int (iI j))] ∧ st = [] ∧ h' = ev_set h L (aL 10 (uz f i (lwp W X o m1 i v3 j.toNat)))) ⟨rfl, rfl, rfl⟩ ?_ ?_
  · rintro j ls st h' j1 j2 ⟨rfl, rfl, rfl⟩ kk
    have ejs : (j + 1).toNat = j.toNat + 1 := by omega
    have ej : ((j.toNat : Nat) : Int) = j := by omega
    have hwj := hw j j1 j2
    have hwr := wdF_r W X o i j m1.toNat
    have w5 := hW.2.2.2.2 (wdF W X o i j m1.toNat)
    have hw1 : ∀ v, (ev_set h L (aL 10 (uz f i v))).1[O]? = _ := fun v => (sA hW).1
    refine n_go f_34_121 rfl (pc' := 123) rfl ?_
    refine n_go f_34_123 rfl (pc' := 124) rfl ?_
    refine n_go f_34_124 rfl (pc' := 125) rfl ?_
    refine n_go f_34_125 rfl (pc' := 126) rfl ?_
    refine n_go f_34_126 rfl (pc' := 128) rfl ?_
    refine n_go f_34_128 rfl (pc' := 130) rfl ?_
    refine n_cs (ls' := [_, _, _, _, _, _, _]) f_34_130 (by decide) m_9 rfl rfl ?_
    refine c_lwords (sA hB) hm1 (sA hX) (sA hW) hr (by omega) ?_
    show En V _ 34 133 _ [_, _] _ _
    refine n_ic_ge f_34_133 rfl rfl ⟨by omega, by omega⟩ (fun e9 => absurd e9 (by omega)) (fun _ => ?_)
    refine n_go f_34_136 rfl (pc' := 138) rfl ?_
    refine n_go f_34_138 rfl (pc' := 140) rfl ?_
    refine n_go f_34_140 rfl (pc' := 142) rfl ?_
    refine n_go f_34_142 rfl (pc' := 144) rfl ?_
    refine n_lal f_34_144 rfl (eL _) (by omega) ?_
    rw [uz_same]
    refine n_go f_34_145 rfl (pc' := 148) rfl ?_
    refine n_go f_34_148 rfl (pc' := 149) rfl ?_
    refine n_go f_34_149 rfl (pc' := 151) rfl ?_
    refine n_go f_34_151 rfl (pc' := 152) rfl ?_
    refine n_go f_34_152 rfl (pc' := 153) rfl ?_
    refine n_go f_34_153 rfl (pc' := 154) rfl ?_
    refine n_go f_34_154 rfl (pc' := 156) rfl ?_
    refine n_go f_34_156 rfl (pc' := 158) rfl ?_
    refine n_go f_34_158 rfl (pc' := 160) rfl ?_
    refine n_cs (ls' := [_, _, _, _, _, _, _, _]) f_34_160 (by decide) m_10 rfl rfl ?_
    refine c_lword (sA hB) hm1 (sA hX) (sA hW) hr (by omega) (by omega) ?_
    show En V _ 34 163 _ [_, _, _, _, _] _ _
    refine n_ial f_34_163 rfl (hw1 _) (by unfold ev_ext; omega) (by omega) ?_
    refine n_bip (m := 16) f_34_164 rfl (by decide) ?_
    refine n_idiv f_34_166 rfl (by omega) ?_
    refine n_sip (m := 128) f_34_167 rfl (by decide) ?_
    refine n_irem f_34_170 rfl (by omega) ?_
    refine n_go f_34_171 rfl (pc' := 172) rfl ?_
    refine n_go f_34_172 rfl (pc' := 173) rfl ?_
    refine n_go f_34_173 rfl (pc' := 174) rfl ?_
    refine n_go f_34_174 rfl (pc' := 175) rfl ?_
    refine n_las f_34_175 rfl (eL _) (by omega) ?_
    rw [eU]
    refine n_iinc (m' := 1) (ls' := [_, _, _, _, _, _, _, _, _, _]) f_34_176 rfl rfl rfl rfl ?_
    refine n_go f_34_179 rfl (pc' := 121) rfl ?_
    refine kk _ _ _ ⟨rfl, rfl, ?_⟩
    have e9 : lwp W X o m1 i v3 (j.toNat + 1) = lwp W X o m1 i v3 j.toNat * 31 + (iI (W (wdF W X o i j m1.toNat) / 16 % 128)).toInt64 + 1 := by
      show lwp W X o m1 i v3 j.toNat * 31 + (iI (W (wdF W X o i ((j.toNat : Nat) : Int) m1.toNat) / 16 % 128)).toInt64 + 1 = _
      rw [ej]
    rw [ejs, e9]
    rfl
  rintro ls st h' ⟨rfl, rfl, rfl⟩
  refine n_go f_34_121 rfl (pc' := 123) rfl ?_
  refine n_go f_34_123 rfl (pc' := 124) rfl ?_
  refine n_go f_34_124 rfl (pc' := 125) rfl ?_
  refine n_go f_34_125 rfl (pc' := 126) rfl ?_
  refine n_go f_34_126 rfl (pc' := 128) rfl ?_
  refine n_go f_34_128 rfl (pc' := 130) rfl ?_
  refine n_cs (ls' := [_, _, _, _, _, _, _]) f_34_130 (by decide) m_9 rfl rfl ?_
  refine c_lwords (sA hB) hm1 (sA hX) (sA hW) hr (by omega) ?_
  show En V _ 34 133 _ [_, _] _ _
  refine n_ic_ge f_34_133 rfl rfl ⟨by omega, by omega⟩ (fun _ => ?_) (fun e9 => absurd (by omega) e9)
  refine n_go f_34_182 rfl (pc' := 183) (st' := .int (iI 0) :: _) rfl ?_
  refine n_go f_34_183 rfl (pc' := 185) (ls' := [_, _, _, _, _, _, _, _, _, _]) rfl ?_
  generalize lwp W X o m1 i v3 (cnI m1 (lu W X o i)).toNat = v4 at *
  refine n_for (lo := 0) (hi := cnI m (lk D o i)) hc2.1 (fun j ls st h' => ls = [some (.ref B), some (.ref A), some (.ref M), some (.int (iI o)), some (.ref C), some (.ref O), some (.ref L), some (.int (iI z7)), some (.int (iI i)), some (.int (iI j))] ∧ st = [] ∧ h' = ev_set h L (aL 10 (uz f i (lkp D F o m i f v4 j.toNat)))) ⟨rfl, rfl, rfl⟩ ?_ ?_
  · rintro j ls st h' j1 j2 ⟨rfl, rfl, rfl⟩ kk
    have ejs : (j + 1).toNat = j.toNat + 1 := by omega
    have ej : ((j.toNat : Nat) : Int) = j := by omega
    have hkj := hk j j1 j2
    have hkr := kdF_k m.toNat hkj
    have hki : ¬ kdF D o i (decide (F i = 1)) j m.toNat = i := fun e => by
      have := hkr.1
      rw [e] at this
      exact absurd (this.symm.trans hne) (by decide)
    refine n_go f_34_185 rfl (pc' := 187) rfl ?_
    refine n_go f_34_187 rfl (pc' := 188) rfl ?_
    refine n_go f_34_188 rfl (pc' := 189) rfl ?_
    refine n_go f_34_189 rfl (pc' := 190) rfl ?_
    refine n_go f_34_190 rfl (pc' := 192) rfl ?_
    refine n_cs (ls' := [_, _, _, _, _, _]) f_34_192 (by decide) m_4 rfl rfl ?_
    refine c_lkids (sA hB) hm (sA hD) hr (by omega) ?_
    show En V _ 34 195 _ [_, _] _ _
    refine n_ic_ge f_34_195 rfl rfl ⟨by omega, by omega⟩ (fun e9 => absurd e9 (by omega)) (fun _ => ?_)
    refine n_go f_34_198 rfl (pc' := 200) rfl ?_
    refine n_go f_34_200 rfl (pc' := 202) rfl ?_
    refine n_go f_34_202 rfl (pc' := 204) rfl ?_
    refine n_go f_34_204 rfl (pc' := 206) rfl ?_
    refine n_lal f_34_206 rfl (eL _) (by omega) ?_
    rw [uz_same]
    refine n_go f_34_207 rfl (pc' := 210) rfl ?_
    refine n_go f_34_210 rfl (pc' := 211) rfl ?_
    refine n_go f_34_211 rfl (pc' := 213) rfl ?_
    refine n_go f_34_213 rfl (pc' := 214) rfl ?_
    refine n_go f_34_214 rfl (pc' := 215) rfl ?_
    refine n_go f_34_215 rfl (pc' := 216) rfl ?_
    refine n_go f_34_216 rfl (pc' := 218) rfl ?_
    refine n_go f_34_218 rfl (pc' := 220) rfl ?_
    refine n_go f_34_220 rfl (pc' := 222) rfl ?_
    refine n_cs (ls' := [_, _, _, _, _, _, _, _, _]) f_34_222 (by decide) m_76 rfl rfl ?_
    refine c_lkid (sA hB) hm (sA hD) (sA hF) hr (by omega) (by omega) ?_
    show En V _ 34 225 _ [_, _, _, _, _] _ _
    refine n_lal f_34_225 rfl (eL _) (by omega) ?_
    rw [uz_ne _ _ hki]
    refine n_go f_34_226 rfl (pc' := 227) rfl ?_
    refine n_las f_34_227 rfl (eL _) (by omega) ?_
    rw [eU]
    refine n_iinc (m' := 1) (ls' := [_, _, _, _, _, _, _, _, _, _]) f_34_228 rfl rfl rfl rfl ?_
    refine n_go f_34_231 rfl (pc' := 185) rfl ?_
    refine kk _ _ _ ⟨rfl, rfl, ?_⟩
    have e9 : lkp D F o m i f v4 (j.toNat + 1) = lkp D F o m i f v4 j.toNat * 31 + f (kdF D o i (decide (F i = 1)) j m.toNat) := by
      show lkp D F o m i f v4 j.toNat * 31 + f (kdF D o i (decide (F i = 1)) ((j.toNat : Nat) : Int) m.toNat) = _
      rw [ej]
    rw [ejs, e9]
    rfl
  rintro ls st h' ⟨rfl, rfl, rfl⟩
  refine n_go f_34_185 rfl (pc' := 187) rfl ?_
  refine n_go f_34_187 rfl (pc' := 188) rfl ?_
  refine n_go f_34_188 rfl (pc' := 189) rfl ?_
  refine n_go f_34_189 rfl (pc' := 190) rfl ?_
  refine n_go f_34_190 rfl (pc' := 192) rfl ?_
  refine n_cs (ls' := [_, _, _, _, _, _]) f_34_192 (by decide) m_4 rfl rfl ?_
  refine c_lkids (sA hB) hm (sA hD) hr (by omega) ?_
  show En V _ 34 195 _ [_, _] _ _
  refine n_ic_ge f_34_195 rfl rfl ⟨by omega, by omega⟩ (fun _ => ?_) (fun e9 => absurd (by omega) e9)
  generalize lkp D F o m i f v4 (cnI m (lk D o i)).toNat = v5 at *
  refine n_go f_34_234 rfl (pc' := 236) rfl ?_
  refine n_go f_34_236 rfl (pc' := 238) rfl ?_
  refine n_go f_34_238 rfl (pc' := 239) rfl ?_
  refine n_lal f_34_239 rfl (eL _) (by omega) ?_
  rw [uz_same]
  refine n_go f_34_240 rfl (pc' := 243) rfl ?_
  refine n_go f_34_243 rfl (pc' := 244) rfl ?_
  refine n_las f_34_244 rfl (eL _) (by omega) ?_
  rw [eU]
  exact KK _
end LR
