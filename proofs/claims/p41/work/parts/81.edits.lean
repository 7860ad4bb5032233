/-! The law's edits: nodes removed. -/
theorem sh_bit0 : ∀ (m : Fin 256) (t : Fin 10), (iI (m.val : Int) >>> (iI (t.val : Int) &&& 31)) &&& iI 1 = iI (b2 (m.val.testBit t.val)) := by decide +kernel
theorem sh_bit1 : ∀ (m : Fin 256) (t : Fin 10), (iI ((256 + m.val : Nat) : Int) >>> (iI (t.val : Int) &&& 31)) &&& iI 1 = iI (b2 ((256 + m.val).testBit t.val)) := by decide +kernel
theorem sh_bit2 : ∀ (m : Fin 256) (t : Fin 10), (iI ((512 + m.val : Nat) : Int) >>> (iI (t.val : Int) &&& 31)) &&& iI 1 = iI (b2 ((512 + m.val).testBit t.val)) := by decide +kernel
theorem sh_bit3 : ∀ (m : Fin 256) (t : Fin 10), (iI ((768 + m.val : Nat) : Int) >>> (iI (t.val : Int) &&& 31)) &&& iI 1 = iI (b2 ((768 + m.val).testBit t.val)) := by decide +kernel
theorem sh_bit (B : Nat) (t : Int) (hB : B < 1024) (ht : 0 ≤ t ∧ t < 10) : (iI (B : Int) >>> (iI t &&& 31)) &&& iI 1 = iI (b2 (B.testBit t.toNat)) := by
  have e : ((t.toNat : Nat) : Int) = t := by omega
  have h0 := sh_bit0 ⟨B % 256, by omega⟩ ⟨t.toNat, by omega⟩
  have h1 := sh_bit1 ⟨B % 256, by omega⟩ ⟨t.toNat, by omega⟩
  have h2 := sh_bit2 ⟨B % 256, by omega⟩ ⟨t.toNat, by omega⟩
  have h3 := sh_bit3 ⟨B % 256, by omega⟩ ⟨t.toNat, by omega⟩
  dsimp only at h0 h1 h2 h3
  rw [e] at h0 h1 h2 h3
  rcases (by omega : B / 256 = 0 ∨ B / 256 = 1 ∨ B / 256 = 2 ∨ B / 256 = 3) with c | c | c | c
  · rw [show B % 256 = B by omega] at h0; exact h0
  · rw [show 256 + B % 256 = B by omega] at h1; exact h1
  · rw [show 512 + B % 256 = B by omega] at h2; exact h2
  · rw [show 768 + B % 256 = B by omega] at h3; exact h3
section LH
variable {V : ev_V} {d : Nat} {h : ev_H} {P : ev_O → ev_H → Prop} {w : dW} {b kd nd pa pl sm tg : Int} {n dd e z v f y k q p : Int → Int}
/-- the rows as nodes go, one by one -/
def goD (D : Int → Int) (X : Int → Bool) (o j : Int) : Int → Int := fun i => if o + 1 ≤ i ∧ i < o + j ∧ X (i - o) = true then 0 else D i
def goE (E W : Int → Int) (X : Int → Bool) (o m j : Int) : Int → Int := fun i => if (o ≤ i ∧ i < o + m) ∧ (1 ≤ W (i - o) % 16 ∧ W (i - o) % 16 < j) ∧ X (W (i - o) % 16) = true then 0 else E i
theorem goD_f {D : Int → Int} {X : Int → Bool} {o j : Int} (hx : X j = false) : goD D X o (j + 1) = goD D X o j := by
  funext i
  unfold goD
  refine ite_c ⟨fun c => ⟨c.1, ?_, c.2.2⟩, fun c => ⟨c.1, by omega, c.2.2⟩⟩ _ _
  by_cases c2 : i = o + j
  · rw [c2, show o + j - o = j by omega, hx] at c; cases c.2.2
  · omega
theorem goE_f {E W : Int → Int} {X : Int → Bool} {o m j : Int} (hx : X j = false) : goE E W X o m (j + 1) = goE E W X o m j := by
  funext i
  unfold goE
  refine ite_c ⟨fun c => ⟨c.1, ⟨c.2.1.1, ?_⟩, c.2.2⟩, fun c => ⟨c.1, ⟨c.2.1.1, by omega⟩, c.2.2⟩⟩ _ _
  by_cases c2 : W (i - o) % 16 = j
  · rw [c2, hx] at c; cases c.2.2
  · omega
theorem goD_t {D : Int → Int} {X : Int → Bool} {o j : Int} (h1 : 1 ≤ j) (hx : X j = true) : uz (goD D X o j) (o + j) 0 = goD D X o (j + 1) := by
  funext i
  by_cases c : i = o + j
  · rw [c, uz_same]
    exact (if_pos ⟨by omega, by omega, by rw [show o + j - o = j by omega]; exact hx⟩).symm
  · rw [uz_ne _ _ c]
    unfold goD
    exact ite_c ⟨fun c2 => ⟨c2.1, by omega, c2.2.2⟩, fun c2 => ⟨c2.1, by omega, c2.2.2⟩⟩ _ _
theorem goE_t {E W : Int → Int} {X : Int → Bool} {o m j : Int} (h1 : 1 ≤ j) (hx : X j = true) : drF W (goE E W X o m j) o j m = goE E W X o m (j + 1) := by
  funext i
  unfold drF
  by_cases c : o ≤ i ∧ i < o + m ∧ W (i - o) % 16 = j
  · rw [if_pos c]
    exact (if_pos ⟨⟨c.1, c.2.1⟩, ⟨by omega, by omega⟩, by rw [c.2.2]; exact hx⟩).symm
  · rw [if_neg c]
    unfold goE
    refine ite_c ⟨fun c2 => ⟨c2.1, ⟨c2.2.1.1, by omega⟩, c2.2.2⟩, fun c2 => ⟨c2.1, ⟨c2.2.1.1, ?_⟩, c2.2.2⟩⟩ _ _
    by_cases c3 : W (i - o) % 16 = j
    · exact absurd ⟨c2.1.1, c2.1.2, c3⟩ c
    · omega
theorem c_ledR (hL : Lst h w n dd e z v f y k q p) (hl : 92 ≤ h.1.length ∧ h.1.length < 900000) (hb : 0 ≤ b ∧ b < wB w) (hnd : hs (wD w b) nd = true) (hn1 : 1 ≤ nd)
    (OK : okS (wK w) (outS (wK w) (wD w b) (wD w b) nd 40) → ∀ h' d' e' z', Wd h' w → Gw h h' 3 30 → Hp h' n d' e' z' v f y k q p → rD (wK w) (outS (wK w) (wD w b) (wD w b) nd 40) d' z' (10 * b) → rE (wK w) (outS (wK w) (wD w b) (wD w b) nd 40) e' (10 * b) → (∀ i, ¬ (10 * b ≤ i ∧ i < 10 * b + 10) → d' i = dd i ∧ e' i = e i ∧ z' i = z i) → P (.inl (some (.int (iI (cnI 40 (rmv (wK w) (wD w b) nd)))))) h')
    (NO : ¬ okS (wK w) (outS (wK w) (wD w b) (wD w b) nd 40) → ∀ h', Wd h' w → Gw h h' 3 30 → Hp h' n dd e z v f y k q p → P (.inl (some (.int (iI (-13))))) h') :
    En V (d + 3) 5 0 [some (.ref 82), some (.ref 83), some (.ref 84), some (.ref 85), some (.int (iI (10 * b))), some (.ref 89), some (.ref 90), some (.int (iI 1)), some (.int (iI nd)), some (.int (iI pa)), some (.int (iI pl)), some (.int (iI sm)), some (.int (iI tg)), none, none, none, none, none, none, none, none, none, none] [] h P := by
  obtain ⟨hW, hK, ⟨n0, n1, n2, n3, n7, n4⟩, hP, hOO, rw', rf', hH, hE, hpp, hbd, hbv⟩ := id hL
  have tb := hW.2.2.1.2.2.2.1
  have kn := hK.2.2.1
  have kw := hK.2.2.2.1
  obtain ⟨⟨hI, ⟨dp, hT⟩, hOk⟩, hR, hEe⟩ := hOO.1 b hb.1 hb.2
  have hnr := hs_r hnd
  have hnn := (hI.1.1 nd hnr.1 hnr.2.1 hnd).1
  have bn : ∀ i, (0 ≤ n i ∧ n i < 1000000) ∧ (0 ≤ dd i ∧ dd i < 1000000) ∧ (0 ≤ e i ∧ e i < 1000000) ∧ 0 ≤ z i ∧ z i < 1000000 := fun i => ⟨hH.1.2.2.2.2 i, hH.2.1.2.2.2.2 i, hH.2.2.1.2.2.2.2 i, hH.2.2.2.1.2.2.2.2 i⟩
  have hor : 0 ≤ 10 * b ∧ 10 * b + 10 ≤ 30 := by omega
  refine c_led0 hW.2.2.2.2.2.2.2.2 hl hH hor (fun h0 a hG0 hl0 ho0 hS0 => ?_)
  have hW0 : Wd h0 w := Wd_grow hW ho0 hl0
  have H0 := hH.gm hG0
  have d0 := H0.2.1.1
  have c0 := H0.1.1
  have bd0 := (bn (10 * b + nd)).2.1
  have rn := (rD_t hK hI.1 hR hnd).1
  have hhr := tI_c hI hT hn1 hnd
  have hhr2 := hs_r hhr.1
  have hhn := (hI.1.1 _ hhr2.1 hhr2.2.1 hhr.1).1
  have erow : dd (10 * b + nd) / 16 % 16 = lrow dd (10 * b) nd := rfl
  have x0 := rm_0 hI (show ¬ nd = 0 by omega)
  have xr : ∀ i, rmv (wK w) (wD w b) nd i = true → 1 ≤ i ∧ i < kN (wK w) := fun i c => by
    have c2 : (hs (wD w b) i && wth (hold (wK w) (wD w b)) 40 i nd) = true := c
    rw [Bool.and_eq_true] at c2
    have c3 := hs_r c2.1
    have c4 := (hI.1.1 i c3.1 c3.2.1 c2.1).1
    by_cases c5 : i = 0
    · rw [c5, x0] at c; cases c
    · omega
  have rm1 := rm_D (Z' := goD z (rmv (wK w) (wD w b) nd) (10 * b) (kN (wK w))) (D' := shF (goD dd (rmv (wK w) (wD w b) nd) (10 * b) (kN (wK w))) (10 * b) (hold (wK w) (wD w b) nd) (lrow dd (10 * b) nd) (-1) (kN (wK w))) (D0 := goD dd (rmv (wK w) (wD w b) nd) (10 * b) (kN (wK w))) hK hI hT hR hnd hn1
  have f0 : ∀ (D : Int → Int) i, 0 ≤ i → i < 10 → goD D (rmv (wK w) (wD w b) nd) (10 * b) (kN (wK w)) (10 * b + i) = if rmv (wK w) (wD w b) nd i = true then 0 else D (10 * b + i) := fun D i i1 i2 => by
    unfold goD
    rw [show 10 * b + i - 10 * b = i by omega]
    refine ite_c ⟨fun c => c.2.2, fun c => ⟨?_, ?_, c⟩⟩ _ _
    · have := xr i c; omega
    · have := xr i c; omega
  have rm2 := rm1 (fun i i1 i2 => f0 dd i i1 i2) (fun i i1 i2 => rfl) (fun i i1 i2 => f0 z i i1 i2)
  have rm3 : rE (wK w) (outS (wK w) (wD w b) (wD w b) nd 40) (goE e q (rmv (wK w) (wD w b) nd) (10 * b) (kW (wK w)) (kN (wK w))) (10 * b) := rm_E hK hI hEe (fun x x1 x2 => by
    unfold goE
    rw [show 10 * b + x - 10 * b = x by omega]
    by_cases c : x < kW (wK w)
    · have w1 := rw' x x1 c
      have e3 : q x % 16 = kL (wK w) x := by
        have := hW.1.2.2.2.2.2.2.2.2.2.2.2.2.2.2.2.2.2.2.1 x
        omega
      rw [e3]
      refine ite_c ⟨fun c2 => ⟨c, c2.2.2⟩, fun c2 => ⟨⟨by omega, by omega⟩, ?_, c2.2⟩⟩ _ _
      have := xr _ c2.2; omega
    · rw [if_neg (fun c2 => c (by omega)), if_neg (fun c2 => c c2.1)])
  have hlo := fun i (i1 : 0 ≤ i) (i2 : i < 10) h1 h2 => sh_lo (i := i) hK hI.1 hR hnd hn1 (rmv (wK w) (wD w b) nd) (rm_n hnd) (f0 dd) ⟨i1, i2⟩ h1 h2
  have xe : ∀ i, 1 ≤ i → i < kN (wK w) → hs (wD w b) i = true → rmv (wK w) (wD w b) nd i = (decide (i = nd) || wth (hold (wK w) (wD w b)) 40 (hold (wK w) (wD w b) i) nd) := fun i i1 i2 c => by
    unfold rmv
    rw [c, Bool.true_and]
    by_cases c2 : i = nd
    · rw [decide_eq_true c2, c2, wt_n (by omega)]; rfl
    · rw [decide_eq_false c2, Bool.false_or]
      exact wt_up hI hT c i1 c2
  generalize hX : rmv (wK w) (wD w b) nd = X at *
  refine n_go f_5_59 rfl (pc' := 61) rfl ?_
  refine n_if_ne f_5_61 rfl rfl (by omega) (fun _ => ?_) (fun e9 => absurd (by omega) e9)
  refine n_go f_5_156 rfl (pc' := 158) rfl ?_
  refine n_go f_5_158 rfl (pc' := 159) (st' := .int (iI 1) :: _) rfl ?_
  refine n_ic_ne f_5_159 rfl rfl ⟨by omega, by omega⟩ (fun e9 => absurd e9 (by omega)) (fun _ => ?_)
  refine n_go f_5_162 rfl (pc' := 163) (st' := .int (iI 0) :: _) rfl ?_
  refine n_go f_5_163 rfl (pc' := 165) (ls' := [_, _, _, _, _, _, _, _, _, _, _, _, _, _, _, _, _, _, _, _, _, _, _]) rfl ?_
  refine n_go f_5_165 rfl (pc' := 166) (st' := .int (iI 1) :: _) rfl ?_
  refine n_go f_5_166 rfl (pc' := 168) (ls' := [_, _, _, _, _, _, _, _, _, _, _, _, _, _, _, _, _, _, _, _, _, _, _]) rfl ?_
  -- which nodes go
  refine n_for (lo := 1) (hi := kN (wK w)) (by omega) (fun i ls st h' => (∃ B : Nat, B < 1024 ∧ (∀ g : Nat, B.testBit g = true ↔ ((1 : Int) ≤ g ∧ (g : Int) < i) ∧ X g = true) ∧ ls = [some (.ref 82), some (.ref 83), some (.ref 84), some (.ref 85), some (.int (iI (10 * b))), some (.ref 89), some (.ref 90), some (.int (iI 1)), some (.int (iI nd)), some (.int (iI pa)), some (.int (iI pl)), some (.int (iI sm)), some (.int (iI tg)), some (.ref a), some (.ref (a + 1)), some (.ref (a + 2)), some (.int (iI (n 0))), some (.int (iI (n 7))), some (.int (iI 0)), some (.int (iI (B : Int))), some (.int (iI i)), none, none]) ∧ st = [] ∧ h' = h0) ⟨⟨0, by decide, fun g => ⟨fun c => (by rw [Nat.zero_testBit] at c; cases c), fun c => (by omega)⟩, rfl⟩, rfl, rfl⟩ ?_ ?_
  · rintro i ls st h' i1 i2 ⟨⟨B, hB, hg, rfl⟩, rfl, rfl⟩ kk
    have nxt : ∀ m : Nat, ((X i = true ∧ m = 2 ^ i.toNat) ∨ (X i = false ∧ m = 0)) → En V (d + 3) 5 217 [some (.ref 82), some (.ref 83), some (.ref 84), some (.ref 85), some (.int (iI (10 * b))), some (.ref 89), some (.ref 90), some (.int (iI 1)), some (.int (iI nd)), some (.int (iI pa)), some (.int (iI pl)), some (.int (iI sm)), some (.int (iI tg)), some (.ref a), some (.ref (a + 1)), some (.ref (a + 2)), some (.int (iI (n 0))), some (.int (iI (n 7))), some (.int (iI 0)), some (.int (iI (B : Int))), some (.int (iI i)), none, none] [.int (iI (m : Int)), .int (iI (B : Int))] h' P := fun m hm => by
      refine n_iot f_5_217 rfl ?_
      refine n_go f_5_218 rfl (pc' := 220) (ls' := [_, _, _, _, _, _, _, _, _, _, _, _, _, _, _, _, _, _, _, _, _, _, _]) rfl ?_
      refine n_iinc (m' := 1) (ls' := [_, _, _, _, _, _, _, _, _, _, _, _, _, _, _, _, _, _, _, _, _, _, _]) f_5_220 rfl rfl rfl rfl ?_
      refine n_go f_5_223 rfl (pc' := 168) rfl ?_
      refine kk _ _ _ ⟨⟨B ||| m, ?_, fun g => ?_, rfl⟩, rfl, rfl⟩
      · rcases hm with ⟨_, c⟩ | ⟨_, c⟩
        · rw [c]; exact Nat.or_lt_two_pow (n := 10) hB (Nat.pow_lt_pow_right (by decide) (by omega))
        · rw [c, Nat.or_zero]; exact hB
      · rw [Nat.testBit_or, Bool.or_eq_true, hg]
        rcases hm with ⟨c1, c⟩ | ⟨c1, c⟩
        · rw [c, Nat.testBit_two_pow, decide_eq_true_eq]
          constructor
          · rintro (c2 | c2)
            · exact ⟨⟨c2.1.1, by omega⟩, c2.2⟩
            · have c3 : (g : Int) = i := by omega
              rw [c3]
              exact ⟨⟨by omega, by omega⟩, c1⟩
          · rintro ⟨c2, c3⟩
            by_cases c4 : (g : Int) = i
            · exact Or.inr (by omega)
            · exact Or.inl ⟨⟨c2.1, by omega⟩, c3⟩
        · rw [c, Nat.zero_testBit]
          constructor
          · rintro (c2 | c2)
            · exact ⟨⟨c2.1.1, by omega⟩, c2.2⟩
            · cases c2
          · rintro ⟨c2, c3⟩
            by_cases c4 : (g : Int) = i
            · rw [c4, c1] at c3; cases c3
            · exact Or.inl ⟨⟨c2.1, by omega⟩, c3⟩
    have yes : X i = true → En V (d + 3) 5 209 [some (.ref 82), some (.ref 83), some (.ref 84), some (.ref 85), some (.int (iI (10 * b))), some (.ref 89), some (.ref 90), some (.int (iI 1)), some (.int (iI nd)), some (.int (iI pa)), some (.int (iI pl)), some (.int (iI sm)), some (.int (iI tg)), some (.ref a), some (.ref (a + 1)), some (.ref (a + 2)), some (.int (iI (n 0))), some (.int (iI (n 7))), some (.int (iI 0)), some (.int (iI (B : Int))), some (.int (iI i)), none, none] [.int (iI (B : Int))] h' P := fun c => by
      refine n_go f_5_209 rfl (pc' := 210) (st' := .int (iI 1) :: _) rfl ?_
      refine n_go f_5_210 rfl (pc' := 212) rfl ?_
      refine n_ish1 f_5_212 rfl (by omega) ?_
      refine n_go f_5_213 rfl (pc' := 217) rfl ?_
      exact nxt _ (Or.inl ⟨c, rfl⟩)
    have nope : X i = false → En V (d + 3) 5 216 [some (.ref 82), some (.ref 83), some (.ref 84), some (.ref 85), some (.int (iI (10 * b))), some (.ref 89), some (.ref 90), some (.int (iI 1)), some (.int (iI nd)), some (.int (iI pa)), some (.int (iI pl)), some (.int (iI sm)), some (.int (iI tg)), some (.ref a), some (.ref (a + 1)), some (.ref (a + 2)), some (.int (iI (n 0))), some (.int (iI (n 7))), some (.int (iI 0)), some (.int (iI (B : Int))), some (.int (iI i)), none, none] [.int (iI (B : Int))] h' P := fun c => by
      refine n_go f_5_216 rfl (pc' := 217) (st' := .int (iI 0) :: _) rfl ?_
      exact nxt 0 (Or.inr ⟨c, rfl⟩)
    have gn0 := (bn 0).1
    refine n_go f_5_168 rfl (pc' := 170) rfl ?_
    refine n_go f_5_170 rfl (pc' := 171) rfl ?_
    refine n_go f_5_171 rfl (pc' := 172) (st' := .int (iI 0) :: _) rfl ?_
    refine n_ial f_5_172 rfl (c0) (by unfold ev_ext; omega) (by omega) ?_
    refine n_ic_ge f_5_173 rfl rfl ⟨by omega, by omega⟩ (fun e9 => absurd e9 (by omega)) (fun _ => ?_)
    refine n_go f_5_176 rfl (pc' := 178) rfl ?_
    refine n_go f_5_178 rfl (pc' := 179) rfl ?_
    refine n_go f_5_179 rfl (pc' := 181) rfl ?_
    refine n_go f_5_181 rfl (pc' := 183) rfl ?_
    refine n_cs (ls' := [_, _, _]) f_5_183 (by decide) m_3 rfl rfl ?_
    refine c_lthere H0.2.1 (by omega) ?_
    show En V _ 5 186 _ [_, _] _ _
    refine n_ib_eq f_5_186 rfl rfl (fun c1 => ?_) (fun c1 => ?_)
    · rw [rD_lt hK hI.1 hR (by omega)] at c1
      refine nope ?_
      rw [← hX]
      unfold rmv
      rw [c1, Bool.false_and]
    · rw [rD_lt hK hI.1 hR (by omega)] at c1
      have xi := xe i i1 i2 c1
      refine n_go f_5_189 rfl (pc' := 191) rfl ?_
      refine n_go f_5_191 rfl (pc' := 193) rfl ?_
      refine n_ic_eq f_5_193 rfl rfl ⟨by omega, by omega⟩ (fun c2 => ?_) (fun c2 => ?_)
      · exact yes (by rw [xi, decide_eq_true c2, Bool.true_or])
      · rw [decide_eq_false c2, Bool.false_or] at xi
        obtain ⟨kb, k1, k2, k3⟩ := bl_K hK hI hT hR (show 0 ≤ nd by omega) (dp i + 1) i (by omega) c1
        refine n_go f_5_196 rfl (pc' := 197) rfl ?_
        refine n_go f_5_197 rfl (pc' := 199) rfl ?_
        refine n_go f_5_199 rfl (pc' := 201) rfl ?_
        refine n_go f_5_201 rfl (pc' := 203) rfl ?_
        refine n_cs (ls' := [_, _, _, _, _]) f_5_203 (by decide) m_8 rfl rfl ?_
        refine c_lbelow H0.2.1 hor kb (by omega) (by omega) k1 k2 ?_
        show En V _ 5 206 _ [_, _] _ _
        refine n_ib_eq f_5_206 rfl rfl (fun c3 => ?_) (fun c3 => ?_)
        · exact nope (by rw [xi, ← k3]; exact c3)
        · exact yes (by rw [xi, ← k3]; exact c3)
  · rintro ls st h' ⟨⟨B, hB, hg, rfl⟩, rfl, rfl⟩
    have gn0 := (bn 0).1
    have hgX : ∀ i, 1 ≤ i → i < kN (wK w) → B.testBit i.toNat = X i := fun i i1 i2 => by
      have c := hg i.toNat
      rw [show ((i.toNat : Nat) : Int) = i by omega] at c
      cases c2 : X i with
      | true => exact c.mpr ⟨⟨i1, i2⟩, c2⟩
      | false =>
        cases c3 : B.testBit i.toNat with
        | true => have := (c.mp c3).2; rw [c2] at this; cases this
        | false => rfl
    refine n_go f_5_168 rfl (pc' := 170) rfl ?_
    refine n_go f_5_170 rfl (pc' := 171) rfl ?_
    refine n_go f_5_171 rfl (pc' := 172) (st' := .int (iI 0) :: _) rfl ?_
    refine n_ial f_5_172 rfl (c0) (by unfold ev_ext; omega) (by omega) ?_
    refine n_ic_ge f_5_173 rfl rfl ⟨by omega, by omega⟩ (fun _ => ?_) (fun e9 => absurd (by omega) e9)
    refine n_go f_5_226 rfl (pc' := 227) rfl ?_
    refine n_go f_5_227 rfl (pc' := 229) rfl ?_
    refine n_go f_5_229 rfl (pc' := 231) rfl ?_
    refine n_cs (ls' := [_, _, _]) f_5_231 (by decide) m_7 rfl rfl ?_
    refine c_lholder H0.2.1 (by omega) ?_
    show En V _ 5 234 _ [_] _ _
    rw [rn.2.1]
    refine n_go f_5_234 rfl (pc' := 236) (ls' := [_, _, _, _, _, _, _, _, _, _, _, _, _, _, _, _, _, _, _, _, _, _, _]) rfl ?_
    refine n_go f_5_236 rfl (pc' := 237) rfl ?_
    refine n_go f_5_237 rfl (pc' := 239) rfl ?_
    refine n_go f_5_239 rfl (pc' := 241) rfl ?_
    refine n_iadd f_5_241 rfl ?_
    refine n_ial f_5_242 rfl (d0) (by unfold ev_ext; omega) (by omega) ?_
    refine n_bip (m := 16) f_5_243 rfl (by decide) ?_
    refine n_idiv f_5_245 rfl (by omega) ?_
    refine n_bip (m := 16) f_5_246 rfl (by decide) ?_
    refine n_irem f_5_248 rfl (by omega) ?_
    rw [erow]
    have xn0 : X nd = true := by rw [← hX]; exact rm_n hnd
    refine n_go f_5_249 rfl (pc' := 251) (ls' := [_, _, _, _, _, _, _, _, _, _, _, _, _, _, _, _, _, _, _, _, _, _, _]) rfl ?_
    refine n_go f_5_251 rfl (pc' := 252) (st' := .int (iI 1) :: _) rfl ?_
    refine n_go f_5_252 rfl (pc' := 254) (ls' := [_, _, _, _, _, _, _, _, _, _, _, _, _, _, _, _, _, _, _, _, _, _, _]) rfl ?_
    refine n_for (lo := 1) (hi := kN (wK w)) (by omega) (fun i ls st h'' => ls = [some (.ref 82), some (.ref 83), some (.ref 84), some (.ref 85), some (.int (iI (10 * b))), some (.ref 89), some (.ref 90), some (.int (iI 1)), some (.int (iI nd)), some (.int (iI pa)), some (.int (iI pl)), some (.int (iI sm)), some (.int (iI tg)), some (.ref a), some (.ref (a + 1)), some (.ref (a + 2)), some (.int (iI (n 0))), some (.int (iI (n 7))), some (.int (iI (cnI i X))), some (.int (iI (B : Int))), some (.int (iI (hold (wK w) (wD w b) nd))), some (.int (iI (lrow dd (10 * b) nd))), some (.int (iI i))] ∧ st = [] ∧ Ek h' h'' ∧ Hp h'' n (goD dd X (10 * b) i) (goE e q X (10 * b) (kW (wK w)) i) (goD z X (10 * b) i) v f y k q p) ⟨?_, rfl, Ek.rf _, ?_⟩ ?_ ?_
    · rw [show cnI 1 X = 0 from cnI_f (i := 0) (by decide) x0]
    · have g1 : ∀ D : Int → Int, goD D X (10 * b) 1 = D := fun D => by
        funext i
        exact if_neg (fun c => by omega)
      have g2 : goE e q X (10 * b) (kW (wK w)) 1 = e := by
        funext i
        exact if_neg (fun c => by omega)
      rw [g1, g1, g2]
      exact H0
    · rintro i ls st h1 i1 i2 ⟨rfl, rfl, hE1, H1⟩ kk
      have c1 := H1.1.1
      have hcr := cnI_r (p := X) (show 0 ≤ i by omega)
      refine n_go f_5_254 rfl (pc' := 256) rfl ?_
      refine n_go f_5_256 rfl (pc' := 257) rfl ?_
      refine n_go f_5_257 rfl (pc' := 258) (st' := .int (iI 0) :: _) rfl ?_
      refine n_ial f_5_258 rfl (c1) (by unfold ev_ext; omega) (by omega) ?_
      refine n_ic_ge f_5_259 rfl rfl ⟨by omega, by omega⟩ (fun e9 => absurd e9 (by omega)) (fun _ => ?_)
      refine n_go f_5_262 rfl (pc' := 264) rfl ?_
      refine n_go f_5_264 rfl (pc' := 266) rfl ?_
      refine n_go f_5_266 rfl (pc' := 267) rfl ?_
      refine n_go f_5_267 rfl (pc' := 268) (st' := .int (iI 1) :: _) rfl ?_
      refine n_go f_5_268 rfl (pc' := 269) rfl ?_
      show En V _ _ 269 _ [.int ((iI (B : Int) >>> (iI i &&& 31)) &&& iI 1)] _ _
      rw [sh_bit B i hB (by omega), hgX i i1 i2]
      refine n_go f_5_269 rfl (pc' := 270) (st' := .int (iI 1) :: _) rfl ?_
      cases cx : X i with
      | false =>
        show En V _ _ 270 _ [.int (iI 1), .int (iI 0)] _ _
        refine n_ic_ne f_5_270 rfl rfl ⟨by omega, by omega⟩ (fun _ => ?_) (fun e9 => absurd (by omega) e9)
        refine n_iinc (m' := 1) (ls' := [_, _, _, _, _, _, _, _, _, _, _, _, _, _, _, _, _, _, _, _, _, _, _]) f_5_296 rfl rfl rfl rfl ?_
        refine n_go f_5_299 rfl (pc' := 254) rfl ?_
        refine kk _ _ _ ⟨?_, rfl, hE1, ?_⟩
        · rw [cnI_f (by omega) cx]
        · rw [goD_f cx, goD_f cx, goE_f cx]
          exact H1
      | true =>
        show En V _ _ 270 _ [.int (iI 1), .int (iI 1)] _ _
        refine n_ic_ne f_5_270 rfl rfl ⟨by omega, by omega⟩ (fun e9 => absurd e9 (by omega)) (fun _ => ?_)
        refine n_go f_5_273 rfl (pc' := 274) rfl ?_
        refine n_go f_5_274 rfl (pc' := 275) rfl ?_
        refine n_go f_5_275 rfl (pc' := 276) rfl ?_
        refine n_go f_5_276 rfl (pc' := 278) rfl ?_
        refine n_go f_5_278 rfl (pc' := 280) rfl ?_
        refine n_go f_5_280 rfl (pc' := 282) rfl ?_
        refine n_cs (ls' := [_, _, _, _, _, _, _]) f_5_282 (by decide) m_40 rfl rfl ?_
        refine c_ldrops H1.1 ⟨n1, kw⟩ H1.2.1 H1.2.2.1 H1.2.2.2.2.2.2.2.2.1 (by decide) hor (by omega) ?_
        show En V _ 5 285 _ [] _ _
        rw [goD_t i1 cx, goE_t i1 cx]
        have H2 := Hp_d H1 (g := goD dd X (10 * b) (i + 1)) (fun j => by have := (bn j).2.1; unfold goD; split <;> omega)
        have E2 : Ek h' (ev_set h1 83 (aI 30 (goD dd X (10 * b) (i + 1)))) := hE1.tr (Ek.set (by decide))
        generalize ev_set h1 83 (aI 30 (goD dd X (10 * b) (i + 1))) = h2 at *
        have H3 := Hp_e H2 (g := goE e q X (10 * b) (kW (wK w)) (i + 1)) (fun j => by have := (bn j).2.2.1; unfold goE; split <;> omega)
        have E3 : Ek h' (ev_set h2 84 (aI 30 (goE e q X (10 * b) (kW (wK w)) (i + 1)))) := E2.tr (Ek.set (by decide))
        generalize ev_set h2 84 (aI 30 (goE e q X (10 * b) (kW (wK w)) (i + 1))) = h3 at *
        have z3 := H3.2.2.2.1.1
        refine n_go f_5_285 rfl (pc' := 286) rfl ?_
        refine n_go f_5_286 rfl (pc' := 288) rfl ?_
        refine n_go f_5_288 rfl (pc' := 290) rfl ?_
        refine n_iadd f_5_290 rfl ?_
        refine n_go f_5_291 rfl (pc' := 292) (st' := .int (iI 0) :: _) rfl ?_
        refine n_ias f_5_292 rfl (z3) (by omega) ?_
        rw [goD_t i1 cx]
        have H4 := Hp_z H3 (g := goD z X (10 * b) (i + 1)) (fun j => by have := (bn j).2.2.2; unfold goD; split <;> omega)
        have E4 : Ek h' (ev_set h3 85 (aI 30 (goD z X (10 * b) (i + 1)))) := E3.tr (Ek.set (by decide))
        generalize ev_set h3 85 (aI 30 (goD z X (10 * b) (i + 1))) = h4 at *
        refine n_iinc (m' := 1) (ls' := [_, _, _, _, _, _, _, _, _, _, _, _, _, _, _, _, _, _, _, _, _, _, _]) f_5_293 rfl rfl rfl rfl ?_
        refine n_iinc (m' := 1) (ls' := [_, _, _, _, _, _, _, _, _, _, _, _, _, _, _, _, _, _, _, _, _, _, _]) f_5_296 rfl rfl rfl rfl ?_
        refine n_go f_5_299 rfl (pc' := 254) rfl ?_
        refine kk _ _ _ ⟨?_, rfl, E4, H4⟩
        rw [cnI_t (by omega) cx]
    · rintro ls st h1 ⟨rfl, rfl, hE1, H1⟩
      have c1 := H1.1.1
      have gb : ∀ (D : Int → Int) (c : Int), (∀ i, 0 ≤ D i ∧ D i < c) → ∀ i, 0 ≤ goD D X (10 * b) (kN (wK w)) i ∧ (goD D X (10 * b) (kN (wK w)) i < c ∨ goD D X (10 * b) (kN (wK w)) i = 0) := fun D c hD i => by
        have := hD i
        unfold goD
        split <;> omega
      have gbd := gb dd 60000 (fun i => ⟨(bn i).2.1.1, hbd i⟩)
      have hI2 : sI (wK w) (outS (wK w) (wD w b) (wD w b) nd 40) := rm_I hK hI hT hnd (by omega)
      have hT2 : tI (wK w) (outS (wK w) (wD w b) (wD w b) nd 40) dp := rm_T hT
      have oD : ∀ i, ¬ (10 * b ≤ i ∧ i < 10 * b + 10) → shF (goD dd X (10 * b) (kN (wK w))) (10 * b) (hold (wK w) (wD w b) nd) (lrow dd (10 * b) nd) (-1) (kN (wK w)) i = dd i := fun i c => by
        unfold shF
        rw [if_neg (fun c2 => c (by omega))]
        exact if_neg (fun c2 => c (by omega))
      have bD := bd_D hK hI2.1 rm2 (fun i => ⟨(bn i).2.1.1, hbd i⟩) oD
      have oE : ∀ i, ¬ (10 * b ≤ i ∧ i < 10 * b + 10) → goE e q X (10 * b) (kW (wK w)) (kN (wK w)) i = e i ∧ goD z X (10 * b) (kN (wK w)) i = z i := fun i c => ⟨if_neg (fun c2 => c (by omega)), if_neg (fun c2 => c (by omega))⟩
      have hb9 : ∀ i, goD dd X (10 * b) (kN (wK w)) i < 900000 := fun i => by have := gbd i; omega
      refine n_go f_5_254 rfl (pc' := 256) rfl ?_
      refine n_go f_5_256 rfl (pc' := 257) rfl ?_
      refine n_go f_5_257 rfl (pc' := 258) (st' := .int (iI 0) :: _) rfl ?_
      refine n_ial f_5_258 rfl (c1) (by unfold ev_ext; omega) (by omega) ?_
      refine n_ic_ge f_5_259 rfl rfl ⟨by omega, by omega⟩ (fun _ => ?_) (fun e9 => absurd (by omega) e9)
      refine n_go f_5_302 rfl (pc' := 303) rfl ?_
      refine n_go f_5_303 rfl (pc' := 304) rfl ?_
      refine n_go f_5_304 rfl (pc' := 306) rfl ?_
      refine n_go f_5_306 rfl (pc' := 308) rfl ?_
      refine n_go f_5_308 rfl (pc' := 310) rfl ?_
      refine n_go f_5_310 rfl (pc' := 311) (st' := .int (iI (-1)) :: _) rfl ?_
      refine n_cs (ls' := [_, _, _, _, _, _, _, _]) f_5_311 (by decide) m_39 rfl rfl ?_
      refine c_lshifts H1.1 ⟨n0, kn⟩ H1.2.1 (by decide) hor (by omega) (by omega) (Or.inr rfl) hb9 (fun i i1 i2 g1 g2 => Or.inr (hlo i i1 i2 g1 g2)) ?_
      show En V _ 5 314 _ [] _ _
      refine n_go f_5_314 rfl (pc' := 489) rfl ?_
      generalize shF (goD dd X (10 * b) (kN (wK w))) (10 * b) (hold (wK w) (wD w b) nd) (lrow dd (10 * b) nd) (-1) (kN (wK w)) = d' at *
      have H2 := Hp_d H1 (g := d') (fun i => by have := bD i; omega)
      have E2 : Ek h' (ev_set h1 83 (aI 30 d')) := hE1.tr (Ek.set (by decide))
      generalize ev_set h1 83 (aI 30 d') = h2 at *
      have ecn : cnI (kN (wK w)) X = cnI 40 X := (cnI_cut (by omega) (by omega) (fun i i1 i2 => by
        cases c : X i with
        | true => have := xr i c; omega
        | false => rfl)).symm
      rw [ecn]
      exact c_led9 (K := wK w) H2 n0 hK hI2 hT2 rm2 rf' (hS0.ek E2) hor (fun i c => ⟨oD i c, oE i c⟩) (fun i c1 c2 => rfl) bn rfl rfl (fun hO => OK hO h2 d' _ _ (Wd_ek hW0 E2) ((hG0.gw.tr E2.gw).le (by omega) (by omega)) H2 rm2 rm3 (fun i c => ⟨oD i c, oE i c⟩)) (fun hO h7 hE7 hH7 => NO hO h7 (Wd_ek (Wd_ek hW0 E2) hE7) (((hG0.gw.tr E2.gw).tr hE7.gw).le (by omega) (by omega)) hH7)
end LH
