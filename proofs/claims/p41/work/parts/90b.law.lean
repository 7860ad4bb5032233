/-! The law from its first instruction to its last. -/
theorem K0_I : kI K0 := ⟨⟨fun i a b => absurd b (by show ¬ i < 0; omega), fun i j a b => absurd b (by show ¬ i < 0; omega), fun x a b => absurd b (by show ¬ x < 0; omega)⟩, ⟨fun i a b => absurd b (by show ¬ i < 0; omega), fun i j a b => absurd b (by show ¬ i < 0; omega), fun x a b => absurd b (by show ¬ x < 0; omega)⟩, ⟨by decide, by decide⟩, ⟨by decide, by decide⟩, by decide, by decide⟩
theorem S0_h (i : Int) : hs S0 i = decide (i = 0) := by
  by_cases e : i = 0
  · rw [e]
    rfl
  · rw [decide_eq_false e]
    refine decide_eq_false (fun z => z.2.2 ?_)
    exact uz_ne _ _ e
theorem S0_J : sJ K0 S0 := by
  refine ⟨fun i a b h => ?_, rfl, fun i a b h => ?_, fun i a b h => ?_⟩
  · rw [S0_h, decide_eq_true_eq] at h
    rw [h]
    exact ⟨by decide, by decide, by decide, by decide⟩
  · rw [S0_h, decide_eq_true_eq] at h
    omega
  · rw [S0_h, decide_eq_false_iff_not] at h
    exact ⟨uz_ne _ _ h, uz_ne _ _ h, uz_ne _ _ h⟩
theorem S0_I : sI K0 S0 := ⟨S0_J, rfl, fun i a b h => by rw [S0_h, decide_eq_true_eq] at h; omega, fun x h => by cases h⟩
theorem S0_T : tI K0 S0 (fun _ => 0) := ⟨rfl, fun i a b h => by rw [S0_h, decide_eq_true_eq] at h; omega⟩
theorem S0_d (i : Int) : hold K0 S0 i = -1 := by
  by_cases e : i = 0
  · rw [e]
    exact hd_0 S0_J
  · exact hd_f S0_J (by rw [S0_h]; exact decide_eq_false e)
theorem S0_ok : okS K0 S0 := by
  refine ⟨fun i j _ _ _ q => ?_, fun i a b h => ?_, fun j a b => ?_, fun i a b => ?_, fun i a b h => ?_⟩
  · have := q.2.1
    rw [S0_d] at this
    omega
  · exfalso
    by_cases e : i = 0
    · rw [e] at h
      exact absurd h (by decide)
    · have : S0.2.2.1 i = -2 := uz_ne _ _ e
      omega
  · rw [cnI_cut (M := 0) (by decide) (by decide) (fun i c d => decide_eq_false (fun q => by rw [S0_d] at q; omega))]
    show (0 : Int) ≤ 8
    decide
  · show dep K0 S0 i ≤ 8
    cases e : hs S0 i with
    | true => rw [dp_t S0_I S0_T e]; decide
    | false => rw [dp_f e]; decide
  · have e := dp_t S0_I S0_T h
    unfold dep at e
    rw [e]
    decide
theorem S0_g : gd K0 S0 := ⟨S0_I, ⟨_, S0_T⟩, S0_ok⟩
theorem S0_D : rD K0 S0 (uz (fun _ => 0) 0 1) (fun _ => 0) 0 := by
  refine ⟨fun i a b h => ?_, fun i a b h => ?_⟩
  · rw [S0_h, decide_eq_false_iff_not] at h
    exact ⟨uz_ne _ _ (by omega), rfl⟩
  · rw [S0_h, decide_eq_true_eq] at h
    rw [h]
    exact ⟨rfl, 0, rfl, fun _ => rfl, fun z => by omega⟩
theorem S0_E : rE K0 S0 (fun _ => 0) 0 := ⟨fun x a b h => rfl, fun x a b h => by cases h⟩
def n1F : Int → Int := uz (uz (uz (uz (fun _ => 0) 0 1) 2 1) 3 1) 7 1
theorem zz_b : (0 : Int) ≤ 0 ∧ (0 : Int) < 1000000 := by decide
theorem zz_c : (0 : Int) < 60000 := by decide
theorem n1_b (i : Int) : 0 ≤ n1F i ∧ n1F i < 1000000 := by
  unfold n1F uz
  split
  · decide
  · split
    · decide
    · split
      · decide
      · split
        · decide
        · exact zz_b
theorem d1_b (i : Int) : 0 ≤ uz (fun _ => (0 : Int)) 0 1 i ∧ uz (fun _ => (0 : Int)) 0 1 i < 1000000 := by
  unfold uz
  split
  · decide
  · exact zz_b
theorem L0 {h : ev_H} (hW : Wd h w0) (H : Hp h n1F (uz (fun _ => 0) 0 1) (fun _ => 0) (fun _ => 0) (uz (fun _ => 0) 0 1) (fun _ => 0) (fun _ => 0) (fun _ => 0) (fun _ => 0) (fun _ => 0)) : Lst h w0 n1F (uz (fun _ => 0) 0 1) (fun _ => 0) (fun _ => 0) (uz (fun _ => 0) 0 1) (fun _ => 0) (fun _ => 0) (fun _ => 0) (fun _ => 0) (fun _ => 0) := by
  have hd : ∀ i, uz (fun _ => (0 : Int)) 0 1 i < 60000 := fun i => by
    unfold uz
    split
    · decide
    · exact zz_c
  refine ⟨hW, K0_I, ⟨rfl, rfl, rfl, rfl, rfl, fun b b0 b1 => ?_⟩, ⟨⟨rfl, rfl⟩, fun v v0 v1 => ?_, fun v v0 v1 => ?_⟩, ⟨fun b b0 b1 => ?_, fun u u0 u1 => ?_⟩, fun x x0 x1 => ?_, fun i i0 i1 => ?_, H, fun b => ⟨by show (0 : Int) ≤ 0; decide, by show (0 : Int) < 1; decide⟩, fun i => ⟨(by decide : (0 : Int) ≤ 0), (by decide : (0 : Int) < 6)⟩, hd, hd⟩
  · have b1 : b < 1 := b1
    rw [show b = 0 by omega]
    rfl
  · have v1 : v < 1 := v1
    rw [show v = 0 by omega]
    rfl
  · have v1 : v < 1 := v1
    omega
  · have b1 : b < 1 := b1
    rw [show b = 0 by omega]
    exact ⟨S0_g, S0_D, S0_E⟩
  · have u1 : u < 1 := u1
    rw [show u = 0 by omega]
    exact ⟨S0_g, S0_D, S0_E⟩
  · have x1 : x < 0 := x1
    omega
  · have i1 : i < 1 := i1
    rw [show i = 0 by omega]
    rfl
section LPZ
variable {V : ev_V} {d : Nat} {h : ev_H} {P : ev_O → ev_H → Prop} {w : dW} {n dd e z v f y k q p : Int → Int}
theorem L_loop (hL : Lst h w n dd e z v f y k q p) (hl : 92 ≤ h.1.length ∧ h.1.length < 200) (hV : V.1 ≤ 260) (hS : kS (wK w) = 0) (KK : ∀ h', Gw h h' 50000 500000 → h'.2.1 = h'.1.length → P (.inl (some (.int (iI 1)))) h') (u14 u15 u16 u17 u18 u19 u20 u21 u22 u23 u24 u25 u26 u27 u28 : Option Value) : En V (d + 9) 0 120 [some (.ref ev_ext), some (.ref 0), some (.ref 82), some (.ref 83), some (.ref 84), some (.ref 85), some (.ref 86), some (.ref 87), some (.ref 88), some (.ref 89), some (.ref 90), some (.ref 91), some (.int (iI 1)), some (.int (iI 0)), u14, u15, u16, u17, u18, u19, u20, u21, u22, u23, u24, u25, u26, u27, u28] [] h P := by
  refine n_for (lo := 0) (hi := 110) (by decide) (fun i ls st h' => (∃ u14 u15 u16 u17 u18 u19 u20 u21 u22 u23 u24 u25 u26 u27 u28 : Option Value, ls = [some (.ref ev_ext), some (.ref 0), some (.ref 82), some (.ref 83), some (.ref 84), some (.ref 85), some (.ref 86), some (.ref 87), some (.ref 88), some (.ref 89), some (.ref 90), some (.ref 91), some (.int (iI 1)), some (.int (iI i)), u14, u15, u16, u17, u18, u19, u20, u21, u22, u23, u24, u25, u26, u27, u28]) ∧ st = [] ∧ ∃ w n dd e z v f y k q p, Lst h' w n dd e z v f y k q p ∧ kS (wK w) ≤ i ∧ Gw h h' (200 * i.toNat) (2000 * i.toNat)) ⟨⟨_, _, _, _, _, _, _, _, _, _, _, _, _, _, _, rfl⟩, rfl, w, n, dd, e, z, v, f, y, k, q, p, hL, by omega, (Ek.rf h).gw⟩ ?_ ?_
  · rintro i ls st h1 i1 i2 ⟨⟨u14, u15, u16, u17, u18, u19, u20, u21, u22, u23, u24, u25, u26, u27, u28, rfl⟩, rfl, w, n, dd, e, z, v, f, y, k, q, p, hL1, hS1, hG1⟩ kk
    have l1 := hG1.1
    have l2 := hG1.2.1
    have ei : (i + 1).toNat = i.toNat + 1 := by omega
    -- a number of the script's
    have at170 : ∀ q0 : Int, 0 ≤ q0 → q0 < 2147483648 → En V (d + 9) 0 170 [some (.ref ev_ext), some (.ref 0), some (.ref 82), some (.ref 83), some (.ref 84), some (.ref 85), some (.ref 86), some (.ref 87), some (.ref 88), some (.ref 89), some (.ref 90), some (.ref 91), some (.int (iI 1)), some (.int (iI i)), u14, u15, u16, u17, u18, u19, u20, u21, u22, u23, u24, u25, u26, u27, u28] [.int (iI q0)] h1 P := fun q0 q1 q2 => by
      refine n_go f_0_170 rfl (pc' := 172) (ls' := [_, _, _, _, _, _, _, _, _, _, _, _, _, _, _, _, _, _, _, _, _, _, _, _, _, _, _, _, _]) rfl ?_
      refine L_turn (c := q0 / 30) hL1 (by omega) ⟨i1, i2⟩ ⟨q1, q2⟩ (by omega) rfl (fun h2 w2 n' d' e' z' v' f' y' k' q' p' v15 v17 v18 v19 v20 v21 v22 v23 v24 v25 v26 v27 v28 hL2 hS2 hG2 => ?_) u15 u16 u17 u18 u19 u20 u21 u22 u23
      have l3 := hG2.1
      have l4 := hG2.2.1
      have hG3 := hG1.tr hG2
      refine n_go f_0_2227 rfl (pc' := 2229) rfl ?_
      refine n_if_eq f_0_2229 rfl rfl (by omega) (fun e9 => absurd e9 (by omega)) (fun _ => ?_)
      refine n_go f_0_2232 rfl (pc' := 2234) rfl ?_
      refine n_go f_0_2234 rfl (pc' := 2235) (st' := .int (iI 4) :: _) rfl ?_
      refine n_irem f_0_2235 rfl (by omega) ?_
      refine n_go f_0_2236 rfl (pc' := 2237) (st' := .int (iI 3) :: _) rfl ?_
      refine n_ic_lt f_0_2237 rfl rfl ⟨by omega, by omega⟩ (fun g1 => ?_) (fun g1 => ?_)
      · refine n_go f_0_2267 rfl (pc' := 2268) (st' := .int (iI 1) :: _) rfl ?_
        refine n_go f_0_2268 rfl (pc' := 2272) rfl ?_
        refine n_go f_0_2272 rfl (pc' := 2274) (ls' := [_, _, _, _, _, _, _, _, _, _, _, _, _, _, _, _, _, _, _, _, _, _, _, _, _, _, _, _, _]) rfl ?_
        refine n_iinc (m' := 1) (ls' := [_, _, _, _, _, _, _, _, _, _, _, _, _, _, _, _, _, _, _, _, _, _, _, _, _, _, _, _, _]) f_0_2274 rfl rfl rfl rfl ?_
        refine n_go f_0_2277 rfl (pc' := 120) rfl ?_
        exact kk _ _ _ ⟨⟨_, _, _, _, _, _, _, _, _, _, _, _, _, _, _, rfl⟩, rfl, w2, n', d', e', z', v', f', y', k', q', p', hL2, by omega, hG3.le (by omega) (by omega)⟩
      · refine n_go f_0_2240 rfl (pc' := 2241) rfl ?_
        refine n_go f_0_2241 rfl (pc' := 2242) rfl ?_
        refine n_go f_0_2242 rfl (pc' := 2243) rfl ?_
        refine n_go f_0_2243 rfl (pc' := 2245) rfl ?_
        refine n_go f_0_2245 rfl (pc' := 2247) rfl ?_
        refine n_go f_0_2247 rfl (pc' := 2249) rfl ?_
        refine n_go f_0_2249 rfl (pc' := 2251) rfl ?_
        refine n_go f_0_2251 rfl (pc' := 2253) rfl ?_
        refine n_go f_0_2253 rfl (pc' := 2255) rfl ?_
        refine n_go f_0_2255 rfl (pc' := 2257) rfl ?_
        refine n_go f_0_2257 rfl (pc' := 2259) rfl ?_
        refine n_go f_0_2259 rfl (pc' := 2261) rfl ?_
        refine n_cs (ls' := [_, _, _, _, _, _, _, _, _, _, _, _, _, _, _, _, _, _]) f_0_2261 (by decide) m_2 rfl rfl ?_
        refine c_lstore hL2 (by omega) (by omega) (fun h3 hL3 hG4 => ?_)
        show En V _ _ 2264 _ [.int (iI 1)] h3 _
        refine n_if_eq f_0_2264 rfl rfl (by omega) (fun e9 => absurd e9 (by omega)) (fun _ => ?_)
        refine n_go f_0_2267 rfl (pc' := 2268) (st' := .int (iI 1) :: _) rfl ?_
        refine n_go f_0_2268 rfl (pc' := 2272) rfl ?_
        refine n_go f_0_2272 rfl (pc' := 2274) (ls' := [_, _, _, _, _, _, _, _, _, _, _, _, _, _, _, _, _, _, _, _, _, _, _, _, _, _, _, _, _]) rfl ?_
        refine n_iinc (m' := 1) (ls' := [_, _, _, _, _, _, _, _, _, _, _, _, _, _, _, _, _, _, _, _, _, _, _, _, _, _, _, _, _]) f_0_2274 rfl rfl rfl rfl ?_
        refine n_go f_0_2277 rfl (pc' := 120) rfl ?_
        exact kk _ _ _ ⟨⟨_, _, _, _, _, _, _, _, _, _, _, _, _, _, _, rfl⟩, rfl, w2, n', d', e', z', v', f', y', k', q', p', hL3, by omega, (hG3.tr hG4.gw).le (by omega) (by omega)⟩
    refine n_go f_0_120 rfl (pc' := 122) rfl ?_
    refine n_bip (m := 110) f_0_122 rfl (by decide) ?_
    refine n_ic_ge f_0_124 rfl rfl ⟨by omega, by omega⟩ (fun e9 => absurd e9 (by omega)) (fun _ => ?_)
    refine n_go f_0_127 rfl (pc' := 129) rfl ?_
    refine n_if_eq f_0_129 rfl rfl (by omega) (fun e9 => absurd e9 (by omega)) (fun _ => ?_)
    refine n_go f_0_132 rfl (pc' := 134) rfl ?_
    refine n_go f_0_134 rfl (pc' := 135) rfl ?_
    refine n_alnx f_0_135 rfl ?_
    refine n_ic_ge f_0_136 rfl rfl ⟨by omega, by omega⟩ (fun g1 => ?_) (fun g1 => ?_)
    · obtain ⟨zz, z0, ez⟩ := and_pos (iI (44017 * i * i + 8009 * i + 47))
      refine n_ldc (m := 44017) f_0_149 rfl (by decide) ?_
      refine n_go f_0_151 rfl (pc' := 153) rfl ?_
      refine n_imul f_0_153 rfl ?_
      refine n_go f_0_154 rfl (pc' := 156) rfl ?_
      refine n_imul f_0_156 rfl ?_
      refine n_sip (m := 8009) f_0_157 rfl (by decide) ?_
      refine n_go f_0_160 rfl (pc' := 162) rfl ?_
      refine n_imul f_0_162 rfl ?_
      refine n_iadd f_0_163 rfl ?_
      refine n_bip (m := 47) f_0_164 rfl (by decide) ?_
      refine n_iadd f_0_166 rfl ?_
      refine n_ldc (m := 2147483647) f_0_167 rfl (by decide) ?_
      refine n_go f_0_169 rfl (pc' := 170) rfl ?_
      show En V (d + 9) 0 170 [some (.ref ev_ext), some (.ref 0), some (.ref 82), some (.ref 83), some (.ref 84), some (.ref 85), some (.ref 86), some (.ref 87), some (.ref 88), some (.ref 89), some (.ref 90), some (.ref 91), some (.int (iI 1)), some (.int (iI i)), u14, u15, u16, u17, u18, u19, u20, u21, u22, u23, u24, u25, u26, u27, u28] [.int (iI (44017 * i * i + 8009 * i + 47) &&& iI 2147483647)] h1 P
      rw [ez]
      exact at170 zz z0.1 z0.2
    · obtain ⟨zz, z0, ez⟩ := and_pos (V.2 i.toNat)
      refine n_go f_0_139 rfl (pc' := 140) rfl ?_
      refine n_go f_0_140 rfl (pc' := 142) rfl ?_
      refine n_ialx f_0_142 rfl ⟨i1, by omega, by omega⟩ ?_
      refine n_ldc (m := 2147483647) f_0_143 rfl (by decide) ?_
      refine n_go f_0_145 rfl (pc' := 146) rfl ?_
      refine n_go f_0_146 rfl (pc' := 170) rfl ?_
      show En V (d + 9) 0 170 [some (.ref ev_ext), some (.ref 0), some (.ref 82), some (.ref 83), some (.ref 84), some (.ref 85), some (.ref 86), some (.ref 87), some (.ref 88), some (.ref 89), some (.ref 90), some (.ref 91), some (.int (iI 1)), some (.int (iI i)), u14, u15, u16, u17, u18, u19, u20, u21, u22, u23, u24, u25, u26, u27, u28] [.int (V.2 i.toNat &&& iI 2147483647)] h1 P
      rw [ez]
      exact at170 zz z0.1 z0.2
  · rintro ls st h1 ⟨⟨u14, u15, u16, u17, u18, u19, u20, u21, u22, u23, u24, u25, u26, u27, u28, rfl⟩, rfl, w, n, dd, e, z, v, f, y, k, q, p, hL1, hS1, hG1⟩
    have l1 := hG1.1
    have l2 := hG1.2.1
    refine n_go f_0_120 rfl (pc' := 122) rfl ?_
    refine n_bip (m := 110) f_0_122 rfl (by decide) ?_
    refine n_ic_ge f_0_124 rfl rfl ⟨by omega, by omega⟩ (fun _ => ?_) (fun e9 => absurd (by omega) e9)
    refine n_go f_0_2280 rfl (pc' := 2282) rfl ?_
    refine n_if_eq f_0_2282 rfl rfl (by omega) (fun e9 => absurd e9 (by omega)) (fun _ => ?_)
    refine n_go f_0_2285 rfl (pc' := 2286) rfl ?_
    refine n_go f_0_2286 rfl (pc' := 2287) rfl ?_
    refine n_go f_0_2287 rfl (pc' := 2288) rfl ?_
    refine n_go f_0_2288 rfl (pc' := 2290) rfl ?_
    refine n_go f_0_2290 rfl (pc' := 2292) rfl ?_
    refine n_go f_0_2292 rfl (pc' := 2294) rfl ?_
    refine n_go f_0_2294 rfl (pc' := 2296) rfl ?_
    refine n_go f_0_2296 rfl (pc' := 2298) rfl ?_
    refine n_go f_0_2298 rfl (pc' := 2300) rfl ?_
    refine n_go f_0_2300 rfl (pc' := 2302) rfl ?_
    refine n_go f_0_2302 rfl (pc' := 2304) rfl ?_
    refine n_bip (m := 19) f_0_2304 rfl (by decide) ?_
    refine n_cs (ls' := [_, _, _, _, _, _, _, _, _, _, _, _, _, _, _, _, _, _]) f_0_2306 (by decide) m_2 rfl rfl ?_
    refine c_lstore hL1 (by omega) (by decide) (fun h3 hL3 hG4 => ?_)
    show En V _ _ 2309 _ [.int (iI 1)] h3 _
    refine n_if_eq f_0_2309 rfl rfl (by omega) (fun e9 => absurd e9 (by omega)) (fun _ => ?_)
    refine n_go f_0_2312 rfl (pc' := 2313) (st' := .int (iI 1) :: _) rfl ?_
    refine n_go f_0_2313 rfl (pc' := 2317) rfl ?_
    first | refine n_rtz f_0_2317 rfl ?_ | refine n_rt0 f_0_2317 rfl ?_ | refine n_rt1 f_0_2317 rfl ?_
    exact KK h3 ((hG1.tr hG4.gw).le (by decide) (by decide)) hL3.1.2.2.2.2.2.2.2.2
theorem L_law (hV : V.1 ≤ 260) (KK : ∀ h', h'.1.length ≤ 60000 → h'.2.2 ≤ 600000 → h'.2.1 = h'.1.length → P (.inl (some (.int (iI 1)))) h') : En V (d + 9) 0 0 [some (.ref ev_ext), none, none, none, none, none, none, none, none, none, none, none, none, none, none, none, none, none, none, none, none, none, none, none, none, none, none, none, none] [] ([], 0, 0) P := by
  have M0 : Ht (([], 0, 0) : ev_H) [] 0 0 := ⟨rfl, rfl, rfl, fun a c e => by cases e⟩
  have M1 := M0.pu (c := .inr (0, fx_dft 0)) (k := (fx_dft 0).length) (n' := 1) rfl
  refine n_new f_0_0 (by decide) (rfl) ?_
  refine n_go f_0_3 rfl (pc' := 4) rfl ?_
  show En V _ _ 4 _ _ (ev_push ([], 0, 0) (.inr (0, fx_dft 0)) (fx_dft 0).length) _
  generalize ev_push (([], 0, 0) : ev_H) (.inr (0, fx_dft 0)) (fx_dft 0).length = hh at *
  refine n_ci (ls' := [_, _]) f_0_4 (by decide) m_1 rfl rfl rfl ?_
  refine c_new0 M1 (fun hA hW len sl => ?_)
  have fl0 : (fx_dft 0).length = 12 := rfl
  rw [fl0] at sl
  show En V _ _ 7 _ _ hA _
  have w2 := hW.2.2.2.2.2.2.2.2
  have s0 : hA.2.2 ≤ 6000 := by omega
  have a0 : hA.1.length = 82 := len
  have e0 : hA.2.1 = 82 := by rw [w2]; exact a0
  clear w2 sl len
  refine n_go f_0_7 rfl (pc' := 8) (ls' := [_, _, _, _, _, _, _, _, _, _, _, _, _, _, _, _, _, _, _, _, _, _, _, _, _, _, _, _, _]) rfl ?_
  obtain ⟨p01, p02, p03, p04⟩ := pu_f (h := hA) (c := aI 8 (fun _ => 0)) (n := 8) (by rw [e0, a0])
  have hW0 : Wd (ev_push hA (aI 8 (fun _ => 0)) 8) w0 := hW.psh
  have s1 : (ev_push hA (aI 8 (fun _ => 0)) 8).2.2 ≤ 6008 := by show hA.2.2 + 8 ≤ _; omega
  refine n_bip (m := 8) f_0_8 rfl (by decide) ?_
  refine n_nai f_0_10 rfl (by omega) (e0) ?_
  show En V _ _ 12 _ [.ref 82] (ev_push hA (aI 8 (fun _ => 0)) 8) _
  generalize ev_push hA (aI 8 (fun _ => 0)) 8 = h0 at *
  rw [a0] at p02 p03 p04
  have a1 : h0.1.length = 83 := p02
  have e1 : h0.2.1 = 83 := p01.trans a1
  refine n_go f_0_12 rfl (pc' := 13) (ls' := [_, _, _, _, _, _, _, _, _, _, _, _, _, _, _, _, _, _, _, _, _, _, _, _, _, _, _, _, _]) rfl ?_
  have c0_0 : h0.1[82]? = some (aI 8 (fun _ => 0)) := p03
  obtain ⟨p11, p12, p13, p14⟩ := pu_f (h := h0) (c := aI 30 (fun _ => 0)) (n := 30) (by rw [e1, a1])
  have hW1 : Wd (ev_push h0 (aI 30 (fun _ => 0)) 30) w0 := hW0.psh
  have s2 : (ev_push h0 (aI 30 (fun _ => 0)) 30).2.2 ≤ 6038 := by show h0.2.2 + 30 ≤ _; omega
  refine n_bip (m := 30) f_0_13 rfl (by decide) ?_
  refine n_nai f_0_15 rfl (by omega) (e1) ?_
  show En V _ _ 17 _ [.ref 83] (ev_push h0 (aI 30 (fun _ => 0)) 30) _
  generalize ev_push h0 (aI 30 (fun _ => 0)) 30 = h1 at *
  rw [a1] at p12 p13 p14
  have a2 : h1.1.length = 84 := p12
  have e2 : h1.2.1 = 84 := p11.trans a2
  refine n_go f_0_17 rfl (pc' := 18) (ls' := [_, _, _, _, _, _, _, _, _, _, _, _, _, _, _, _, _, _, _, _, _, _, _, _, _, _, _, _, _]) rfl ?_
  have c1_0 : h1.1[82]? = some (aI 8 (fun _ => 0)) := (p14 82 (by decide)).trans c0_0
  have c1_1 : h1.1[83]? = some (aI 30 (fun _ => 0)) := p13
  obtain ⟨p21, p22, p23, p24⟩ := pu_f (h := h1) (c := aI 30 (fun _ => 0)) (n := 30) (by rw [e2, a2])
  have hW2 : Wd (ev_push h1 (aI 30 (fun _ => 0)) 30) w0 := hW1.psh
  have s3 : (ev_push h1 (aI 30 (fun _ => 0)) 30).2.2 ≤ 6068 := by show h1.2.2 + 30 ≤ _; omega
  refine n_bip (m := 30) f_0_18 rfl (by decide) ?_
  refine n_nai f_0_20 rfl (by omega) (e2) ?_
  show En V _ _ 22 _ [.ref 84] (ev_push h1 (aI 30 (fun _ => 0)) 30) _
  generalize ev_push h1 (aI 30 (fun _ => 0)) 30 = h2 at *
  rw [a2] at p22 p23 p24
  have a3 : h2.1.length = 85 := p22
  have e3 : h2.2.1 = 85 := p21.trans a3
  refine n_go f_0_22 rfl (pc' := 24) (ls' := [_, _, _, _, _, _, _, _, _, _, _, _, _, _, _, _, _, _, _, _, _, _, _, _, _, _, _, _, _]) rfl ?_
  have c2_0 : h2.1[82]? = some (aI 8 (fun _ => 0)) := (p24 82 (by decide)).trans c1_0
  have c2_1 : h2.1[83]? = some (aI 30 (fun _ => 0)) := (p24 83 (by decide)).trans c1_1
  have c2_2 : h2.1[84]? = some (aI 30 (fun _ => 0)) := p23
  obtain ⟨p31, p32, p33, p34⟩ := pu_f (h := h2) (c := aI 30 (fun _ => 0)) (n := 30) (by rw [e3, a3])
  have hW3 : Wd (ev_push h2 (aI 30 (fun _ => 0)) 30) w0 := hW2.psh
  have s4 : (ev_push h2 (aI 30 (fun _ => 0)) 30).2.2 ≤ 6098 := by show h2.2.2 + 30 ≤ _; omega
  refine n_bip (m := 30) f_0_24 rfl (by decide) ?_
  refine n_nai f_0_26 rfl (by omega) (e3) ?_
  show En V _ _ 28 _ [.ref 85] (ev_push h2 (aI 30 (fun _ => 0)) 30) _
  generalize ev_push h2 (aI 30 (fun _ => 0)) 30 = h3 at *
  rw [a3] at p32 p33 p34
  have a4 : h3.1.length = 86 := p32
  have e4 : h3.2.1 = 86 := p31.trans a4
  refine n_go f_0_28 rfl (pc' := 30) (ls' := [_, _, _, _, _, _, _, _, _, _, _, _, _, _, _, _, _, _, _, _, _, _, _, _, _, _, _, _, _]) rfl ?_
  have c3_0 : h3.1[82]? = some (aI 8 (fun _ => 0)) := (p34 82 (by decide)).trans c2_0
  have c3_1 : h3.1[83]? = some (aI 30 (fun _ => 0)) := (p34 83 (by decide)).trans c2_1
  have c3_2 : h3.1[84]? = some (aI 30 (fun _ => 0)) := (p34 84 (by decide)).trans c2_2
  have c3_3 : h3.1[85]? = some (aI 30 (fun _ => 0)) := p33
  obtain ⟨p41, p42, p43, p44⟩ := pu_f (h := h3) (c := aI 60 (fun _ => 0)) (n := 60) (by rw [e4, a4])
  have hW4 : Wd (ev_push h3 (aI 60 (fun _ => 0)) 60) w0 := hW3.psh
  have s5 : (ev_push h3 (aI 60 (fun _ => 0)) 60).2.2 ≤ 6158 := by show h3.2.2 + 60 ≤ _; omega
  refine n_bip (m := 60) f_0_30 rfl (by decide) ?_
  refine n_nai f_0_32 rfl (by omega) (e4) ?_
  show En V _ _ 34 _ [.ref 86] (ev_push h3 (aI 60 (fun _ => 0)) 60) _
  generalize ev_push h3 (aI 60 (fun _ => 0)) 60 = h4 at *
  rw [a4] at p42 p43 p44
  have a5 : h4.1.length = 87 := p42
  have e5 : h4.2.1 = 87 := p41.trans a5
  refine n_go f_0_34 rfl (pc' := 36) (ls' := [_, _, _, _, _, _, _, _, _, _, _, _, _, _, _, _, _, _, _, _, _, _, _, _, _, _, _, _, _]) rfl ?_
  have c4_0 : h4.1[82]? = some (aI 8 (fun _ => 0)) := (p44 82 (by decide)).trans c3_0
  have c4_1 : h4.1[83]? = some (aI 30 (fun _ => 0)) := (p44 83 (by decide)).trans c3_1
  have c4_2 : h4.1[84]? = some (aI 30 (fun _ => 0)) := (p44 84 (by decide)).trans c3_2
  have c4_3 : h4.1[85]? = some (aI 30 (fun _ => 0)) := (p44 85 (by decide)).trans c3_3
  have c4_4 : h4.1[86]? = some (aI 60 (fun _ => 0)) := p43
  obtain ⟨p51, p52, p53, p54⟩ := pu_f (h := h4) (c := aI 60 (fun _ => 0)) (n := 60) (by rw [e5, a5])
  have hW5 : Wd (ev_push h4 (aI 60 (fun _ => 0)) 60) w0 := hW4.psh
  have s6 : (ev_push h4 (aI 60 (fun _ => 0)) 60).2.2 ≤ 6218 := by show h4.2.2 + 60 ≤ _; omega
  refine n_bip (m := 60) f_0_36 rfl (by decide) ?_
  refine n_nai f_0_38 rfl (by omega) (e5) ?_
  show En V _ _ 40 _ [.ref 87] (ev_push h4 (aI 60 (fun _ => 0)) 60) _
  generalize ev_push h4 (aI 60 (fun _ => 0)) 60 = h5 at *
  rw [a5] at p52 p53 p54
  have a6 : h5.1.length = 88 := p52
  have e6 : h5.2.1 = 88 := p51.trans a6
  refine n_go f_0_40 rfl (pc' := 42) (ls' := [_, _, _, _, _, _, _, _, _, _, _, _, _, _, _, _, _, _, _, _, _, _, _, _, _, _, _, _, _]) rfl ?_
  have c5_0 : h5.1[82]? = some (aI 8 (fun _ => 0)) := (p54 82 (by decide)).trans c4_0
  have c5_1 : h5.1[83]? = some (aI 30 (fun _ => 0)) := (p54 83 (by decide)).trans c4_1
  have c5_2 : h5.1[84]? = some (aI 30 (fun _ => 0)) := (p54 84 (by decide)).trans c4_2
  have c5_3 : h5.1[85]? = some (aI 30 (fun _ => 0)) := (p54 85 (by decide)).trans c4_3
  have c5_4 : h5.1[86]? = some (aI 60 (fun _ => 0)) := (p54 86 (by decide)).trans c4_4
  have c5_5 : h5.1[87]? = some (aI 60 (fun _ => 0)) := p53
  obtain ⟨p61, p62, p63, p64⟩ := pu_f (h := h5) (c := aI 60 (fun _ => 0)) (n := 60) (by rw [e6, a6])
  have hW6 : Wd (ev_push h5 (aI 60 (fun _ => 0)) 60) w0 := hW5.psh
  have s7 : (ev_push h5 (aI 60 (fun _ => 0)) 60).2.2 ≤ 6278 := by show h5.2.2 + 60 ≤ _; omega
  refine n_bip (m := 60) f_0_42 rfl (by decide) ?_
  refine n_nai f_0_44 rfl (by omega) (e6) ?_
  show En V _ _ 46 _ [.ref 88] (ev_push h5 (aI 60 (fun _ => 0)) 60) _
  generalize ev_push h5 (aI 60 (fun _ => 0)) 60 = h6 at *
  rw [a6] at p62 p63 p64
  have a7 : h6.1.length = 89 := p62
  have e7 : h6.2.1 = 89 := p61.trans a7
  refine n_go f_0_46 rfl (pc' := 48) (ls' := [_, _, _, _, _, _, _, _, _, _, _, _, _, _, _, _, _, _, _, _, _, _, _, _, _, _, _, _, _]) rfl ?_
  have c6_0 : h6.1[82]? = some (aI 8 (fun _ => 0)) := (p64 82 (by decide)).trans c5_0
  have c6_1 : h6.1[83]? = some (aI 30 (fun _ => 0)) := (p64 83 (by decide)).trans c5_1
  have c6_2 : h6.1[84]? = some (aI 30 (fun _ => 0)) := (p64 84 (by decide)).trans c5_2
  have c6_3 : h6.1[85]? = some (aI 30 (fun _ => 0)) := (p64 85 (by decide)).trans c5_3
  have c6_4 : h6.1[86]? = some (aI 60 (fun _ => 0)) := (p64 86 (by decide)).trans c5_4
  have c6_5 : h6.1[87]? = some (aI 60 (fun _ => 0)) := (p64 87 (by decide)).trans c5_5
  have c6_6 : h6.1[88]? = some (aI 60 (fun _ => 0)) := p63
  obtain ⟨p71, p72, p73, p74⟩ := pu_f (h := h6) (c := aI 10 (fun _ => 0)) (n := 10) (by rw [e7, a7])
  have hW7 : Wd (ev_push h6 (aI 10 (fun _ => 0)) 10) w0 := hW6.psh
  have s8 : (ev_push h6 (aI 10 (fun _ => 0)) 10).2.2 ≤ 6288 := by show h6.2.2 + 10 ≤ _; omega
  refine n_bip (m := 10) f_0_48 rfl (by decide) ?_
  refine n_nai f_0_50 rfl (by omega) (e7) ?_
  show En V _ _ 52 _ [.ref 89] (ev_push h6 (aI 10 (fun _ => 0)) 10) _
  generalize ev_push h6 (aI 10 (fun _ => 0)) 10 = h7 at *
  rw [a7] at p72 p73 p74
  have a8 : h7.1.length = 90 := p72
  have e8 : h7.2.1 = 90 := p71.trans a8
  refine n_go f_0_52 rfl (pc' := 54) (ls' := [_, _, _, _, _, _, _, _, _, _, _, _, _, _, _, _, _, _, _, _, _, _, _, _, _, _, _, _, _]) rfl ?_
  have c7_0 : h7.1[82]? = some (aI 8 (fun _ => 0)) := (p74 82 (by decide)).trans c6_0
  have c7_1 : h7.1[83]? = some (aI 30 (fun _ => 0)) := (p74 83 (by decide)).trans c6_1
  have c7_2 : h7.1[84]? = some (aI 30 (fun _ => 0)) := (p74 84 (by decide)).trans c6_2
  have c7_3 : h7.1[85]? = some (aI 30 (fun _ => 0)) := (p74 85 (by decide)).trans c6_3
  have c7_4 : h7.1[86]? = some (aI 60 (fun _ => 0)) := (p74 86 (by decide)).trans c6_4
  have c7_5 : h7.1[87]? = some (aI 60 (fun _ => 0)) := (p74 87 (by decide)).trans c6_5
  have c7_6 : h7.1[88]? = some (aI 60 (fun _ => 0)) := (p74 88 (by decide)).trans c6_6
  have c7_7 : h7.1[89]? = some (aI 10 (fun _ => 0)) := p73
  obtain ⟨p81, p82, p83, p84⟩ := pu_f (h := h7) (c := aI 10 (fun _ => 0)) (n := 10) (by rw [e8, a8])
  have hW8 : Wd (ev_push h7 (aI 10 (fun _ => 0)) 10) w0 := hW7.psh
  have s9 : (ev_push h7 (aI 10 (fun _ => 0)) 10).2.2 ≤ 6298 := by show h7.2.2 + 10 ≤ _; omega
  refine n_bip (m := 10) f_0_54 rfl (by decide) ?_
  refine n_nai f_0_56 rfl (by omega) (e8) ?_
  show En V _ _ 58 _ [.ref 90] (ev_push h7 (aI 10 (fun _ => 0)) 10) _
  generalize ev_push h7 (aI 10 (fun _ => 0)) 10 = h8 at *
  rw [a8] at p82 p83 p84
  have a9 : h8.1.length = 91 := p82
  have e9 : h8.2.1 = 91 := p81.trans a9
  refine n_go f_0_58 rfl (pc' := 60) (ls' := [_, _, _, _, _, _, _, _, _, _, _, _, _, _, _, _, _, _, _, _, _, _, _, _, _, _, _, _, _]) rfl ?_
  have c8_0 : h8.1[82]? = some (aI 8 (fun _ => 0)) := (p84 82 (by decide)).trans c7_0
  have c8_1 : h8.1[83]? = some (aI 30 (fun _ => 0)) := (p84 83 (by decide)).trans c7_1
  have c8_2 : h8.1[84]? = some (aI 30 (fun _ => 0)) := (p84 84 (by decide)).trans c7_2
  have c8_3 : h8.1[85]? = some (aI 30 (fun _ => 0)) := (p84 85 (by decide)).trans c7_3
  have c8_4 : h8.1[86]? = some (aI 60 (fun _ => 0)) := (p84 86 (by decide)).trans c7_4
  have c8_5 : h8.1[87]? = some (aI 60 (fun _ => 0)) := (p84 87 (by decide)).trans c7_5
  have c8_6 : h8.1[88]? = some (aI 60 (fun _ => 0)) := (p84 88 (by decide)).trans c7_6
  have c8_7 : h8.1[89]? = some (aI 10 (fun _ => 0)) := (p84 89 (by decide)).trans c7_7
  have c8_8 : h8.1[90]? = some (aI 10 (fun _ => 0)) := p83
  obtain ⟨p91, p92, p93, p94⟩ := pu_f (h := h8) (c := aI 6 (fun _ => 0)) (n := 6) (by rw [e9, a9])
  have hW9 : Wd (ev_push h8 (aI 6 (fun _ => 0)) 6) w0 := hW8.psh
  have s10 : (ev_push h8 (aI 6 (fun _ => 0)) 6).2.2 ≤ 6304 := by show h8.2.2 + 6 ≤ _; omega
  refine n_bip (m := 6) f_0_60 rfl (by decide) ?_
  refine n_nai f_0_62 rfl (by omega) (e9) ?_
  show En V _ _ 64 _ [.ref 91] (ev_push h8 (aI 6 (fun _ => 0)) 6) _
  generalize ev_push h8 (aI 6 (fun _ => 0)) 6 = h9 at *
  rw [a9] at p92 p93 p94
  have a10 : h9.1.length = 92 := p92
  have e10 : h9.2.1 = 92 := p91.trans a10
  refine n_go f_0_64 rfl (pc' := 66) (ls' := [_, _, _, _, _, _, _, _, _, _, _, _, _, _, _, _, _, _, _, _, _, _, _, _, _, _, _, _, _]) rfl ?_
  have c9_0 : h9.1[82]? = some (aI 8 (fun _ => 0)) := (p94 82 (by decide)).trans c8_0
  have c9_1 : h9.1[83]? = some (aI 30 (fun _ => 0)) := (p94 83 (by decide)).trans c8_1
  have c9_2 : h9.1[84]? = some (aI 30 (fun _ => 0)) := (p94 84 (by decide)).trans c8_2
  have c9_3 : h9.1[85]? = some (aI 30 (fun _ => 0)) := (p94 85 (by decide)).trans c8_3
  have c9_4 : h9.1[86]? = some (aI 60 (fun _ => 0)) := (p94 86 (by decide)).trans c8_4
  have c9_5 : h9.1[87]? = some (aI 60 (fun _ => 0)) := (p94 87 (by decide)).trans c8_5
  have c9_6 : h9.1[88]? = some (aI 60 (fun _ => 0)) := (p94 88 (by decide)).trans c8_6
  have c9_7 : h9.1[89]? = some (aI 10 (fun _ => 0)) := (p94 89 (by decide)).trans c8_7
  have c9_8 : h9.1[90]? = some (aI 10 (fun _ => 0)) := (p94 90 (by decide)).trans c8_8
  have c9_9 : h9.1[91]? = some (aI 6 (fun _ => 0)) := p93
  have z0 : ∀ i : Int, 0 ≤ (fun _ : Int => (0 : Int)) i ∧ (fun _ : Int => (0 : Int)) i < 1000000 := fun i => zz_b
  have H0 : Hp h9 (fun _ => 0) (fun _ => 0) (fun _ => 0) (fun _ => 0) (fun _ => 0) (fun _ => 0) (fun _ => 0) (fun _ => 0) (fun _ => 0) (fun _ => 0) := ⟨⟨c9_0, by decide, by decide, by decide, z0⟩, ⟨c9_1, by decide, by decide, by decide, z0⟩, ⟨c9_2, by decide, by decide, by decide, z0⟩, ⟨c9_3, by decide, by decide, by decide, z0⟩, ⟨c9_4, by decide, by decide, by decide, z0⟩, ⟨c9_5, by decide, by decide, by decide, z0⟩, ⟨c9_6, by decide, by decide, by decide, z0⟩, ⟨c9_7, by decide, by decide, by decide, z0⟩, ⟨c9_8, by decide, by decide, by decide, z0⟩, ⟨c9_9, by decide, by decide, by decide, z0⟩⟩
  have x0 := H0.1.1
  refine n_go f_0_66 rfl (pc' := 67) rfl ?_
  refine n_go f_0_67 rfl (pc' := 68) (st' := .int (iI 0) :: _) rfl ?_
  refine n_go f_0_68 rfl (pc' := 69) (st' := .int (iI 1) :: _) rfl ?_
  refine n_ias f_0_69 rfl (x0) (by omega) ?_
  have x1 : (ev_set h9 82 (aI 8 (uz (fun _ => 0) 0 1))).1[82]? = some (aI 8 (uz (fun _ => 0) 0 1)) := g_eq x0
  refine n_go f_0_70 rfl (pc' := 71) rfl ?_
  refine n_go f_0_71 rfl (pc' := 72) (st' := .int (iI 2) :: _) rfl ?_
  refine n_go f_0_72 rfl (pc' := 73) (st' := .int (iI 1) :: _) rfl ?_
  refine n_ias f_0_73 rfl (x1) (by omega) ?_
  rw [g_ss]
  have x2 : (ev_set h9 82 (aI 8 (uz (uz (fun _ => 0) 0 1) 2 1))).1[82]? = some (aI 8 (uz (uz (fun _ => 0) 0 1) 2 1)) := g_eq x0
  refine n_go f_0_74 rfl (pc' := 75) rfl ?_
  refine n_go f_0_75 rfl (pc' := 76) (st' := .int (iI 3) :: _) rfl ?_
  refine n_go f_0_76 rfl (pc' := 77) (st' := .int (iI 1) :: _) rfl ?_
  refine n_ias f_0_77 rfl (x2) (by omega) ?_
  rw [g_ss]
  have x3 : (ev_set h9 82 (aI 8 (uz (uz (uz (fun _ => 0) 0 1) 2 1) 3 1))).1[82]? = some (aI 8 (uz (uz (uz (fun _ => 0) 0 1) 2 1) 3 1)) := g_eq x0
  refine n_go f_0_78 rfl (pc' := 79) rfl ?_
  refine n_bip (m := 7) f_0_79 rfl (by decide) ?_
  refine n_go f_0_81 rfl (pc' := 82) (st' := .int (iI 1) :: _) rfl ?_
  refine n_ias f_0_82 rfl (x3) (by omega) ?_
  rw [g_ss]
  show En V _ _ 83 _ _ (ev_set h9 82 (aI 8 n1F)) _
  have H1 := Hp_n H0 (g := n1F) n1_b
  have E1 : Ek h9 (ev_set h9 82 (aI 8 n1F)) := Ek.set (by decide)
  generalize ev_set h9 82 (aI 8 n1F) = g1 at *
  have x4 := H1.2.1.1
  refine n_go f_0_83 rfl (pc' := 84) rfl ?_
  refine n_go f_0_84 rfl (pc' := 85) (st' := .int (iI 0) :: _) rfl ?_
  refine n_go f_0_85 rfl (pc' := 86) (st' := .int (iI 1) :: _) rfl ?_
  refine n_ias f_0_86 rfl (x4) (by omega) ?_
  have H2 := Hp_d H1 (g := uz (fun _ => 0) 0 1) d1_b
  have E2 : Ek h9 (ev_set g1 83 (aI 30 (uz (fun _ => 0) 0 1))) := E1.tr (Ek.set (by decide))
  generalize ev_set g1 83 (aI 30 (uz (fun _ => 0) 0 1)) = g2 at *
  have x5 := H2.2.2.2.2.1.1
  refine n_go f_0_87 rfl (pc' := 89) rfl ?_
  refine n_go f_0_89 rfl (pc' := 90) (st' := .int (iI 0) :: _) rfl ?_
  refine n_go f_0_90 rfl (pc' := 91) (st' := .int (iI 1) :: _) rfl ?_
  refine n_ias f_0_91 rfl (x5) (by omega) ?_
  have H3 := Hp_v H2 (g := uz (fun _ => 0) 0 1) d1_b
  have E3 : Ek h9 (ev_set g2 86 (aI 60 (uz (fun _ => 0) 0 1))) := E2.tr (Ek.set (by decide))
  generalize ev_set g2 86 (aI 60 (uz (fun _ => 0) 0 1)) = g3 at *
  have hL := L0 (Wd_ek hW9 E3) H3
  have l3 : g3.1.length = 92 := by rw [E3.2.1]; exact a10
  have s3 : g3.2.2 ≤ 6400 := by rw [E3.1]; omega
  refine n_go f_0_92 rfl (pc' := 93) rfl ?_
  refine n_go f_0_93 rfl (pc' := 94) rfl ?_
  refine n_go f_0_94 rfl (pc' := 95) rfl ?_
  refine n_go f_0_95 rfl (pc' := 97) rfl ?_
  refine n_go f_0_97 rfl (pc' := 99) rfl ?_
  refine n_go f_0_99 rfl (pc' := 101) rfl ?_
  refine n_go f_0_101 rfl (pc' := 103) rfl ?_
  refine n_go f_0_103 rfl (pc' := 105) rfl ?_
  refine n_go f_0_105 rfl (pc' := 107) rfl ?_
  refine n_go f_0_107 rfl (pc' := 109) rfl ?_
  refine n_go f_0_109 rfl (pc' := 111) rfl ?_
  refine n_go f_0_111 rfl (pc' := 112) (st' := .int (iI 0) :: _) rfl ?_
  refine n_cs (ls' := [_, _, _, _, _, _, _, _, _, _, _, _, _, _, _, _, _, _]) f_0_112 (by decide) m_2 rfl rfl ?_
  refine c_lstore hL (by omega) (by decide) (fun g4 hL4 hG4 => ?_)
  show En V _ _ 115 _ [.int (iI 1)] g4 _
  have m1 := hG4.1
  have m2 := hG4.2.1
  have m3 := hG4.2.2.1
  refine n_go f_0_115 rfl (pc' := 117) (ls' := [_, _, _, _, _, _, _, _, _, _, _, _, _, _, _, _, _, _, _, _, _, _, _, _, _, _, _, _, _]) rfl ?_
  refine n_go f_0_117 rfl (pc' := 118) (st' := .int (iI 0) :: _) rfl ?_
  refine n_go f_0_118 rfl (pc' := 120) (ls' := [_, _, _, _, _, _, _, _, _, _, _, _, _, _, _, _, _, _, _, _, _, _, _, _, _, _, _, _, _]) rfl ?_
  refine L_loop hL4 (by omega) hV rfl (fun h' hG he => KK h' ?_ ?_ he) _ _ _ _ _ _ _ _ _ _ _ _ _ _ _
  · have := hG.2.1
    omega
  · have := hG.2.2
    omega
end LPZ
