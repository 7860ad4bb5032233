/-! The law: a turn. -/
theorem and_pos (x : Int32) : ∃ zz : Int, (0 ≤ zz ∧ zz < 2147483648) ∧ x &&& iI 2147483647 = iI zz := by
  have h2 : ∀ k : Nat, (iI (k : Int)).toBitVec.toNat = k % 2 ^ 32 := fun k => by
    show (BitVec.ofInt 32 (k : Int)).toNat = _
    simp
  have h1 : (x &&& iI 2147483647).toBitVec.toNat = x.toBitVec.toNat &&& 2147483647 := by
    show (x.toBitVec &&& (iI ((2147483647 : Nat) : Int)).toBitVec).toNat = _
    rw [BitVec.toNat_and, h2]
  have h3 : x.toBitVec.toNat &&& 2147483647 ≤ 2147483647 := Nat.and_le_right
  refine ⟨((x.toBitVec.toNat &&& 2147483647 : Nat) : Int), by omega, ?_⟩
  apply Int32.toBitVec.inj
  apply BitVec.eq_of_toNat_eq
  rw [h1, h2, Nat.mod_eq_of_lt (by omega)]
section NX
variable {V : ev_V} {d mi pc u : Nat} {ls : ev_L} {st : List Value} {h : ev_H} {P : ev_O → ev_H → Prop} {q : ev_Q} {w : Nat × Nat × Nat × Nat} {a : Int}
theorem n_ialx (hF : nF mi q pc (.iaload, w)) (hu : pc + 1 = u) (hr : 0 ≤ a ∧ a < V.1 ∧ V.1 < 2147483648) (K : En V d mi u ls (.int (V.2 a.toNat) :: st) h P) : En V d mi pc ls (.int (iI a) :: .ref ev_ext :: st) h P := by
  subst hu
  rw [← iI_cl (a := a) ⟨hr.1, by omega⟩] at K
  exact n_go hF rfl (by simp only [ev_s, ev_aldi, true_and, if_true, and_self, iI_ix hr, Option.map_some]) K
theorem n_alnx (hF : nF mi q pc (.arraylength, w)) (hu : pc + 1 = u) (K : En V d mi u ls (.int (iI (V.1 : Int)) :: st) h P) : En V d mi pc ls (.ref ev_ext :: st) h P := by
  subst hu
  exact n_go hF rfl (by simp only [ev_s, if_true]; rfl) K
end NX
section LPT
variable {V : ev_V} {d : Nat} {h : ev_H} {P : ev_O → ev_H → Prop} {w : dW} {tn q0 kd c b nd ot tg kc : Int} {io : Bool} {n dd e z v f y k q p : Int → Int} {u24 u25 u26 u27 u28 : Option Value}
theorem L_turn (hL : Lst h w n dd e z v f y k q p) (hl : 92 ≤ h.1.length ∧ h.1.length < 800000) (htn : 0 ≤ tn ∧ tn < 110) (hq0 : 0 ≤ q0 ∧ q0 < 2147483648) (hS : kS (wK w) < 111) (hc9 : c = q0 / 30) (KK : ∀ h' w' n' d' e' z' v' f' y' k' q' p' (u15 u17 u18 u19 u20 u21 u22 u23 u24 u25 u26 u27 u28 : Option Value), Lst h' w' n' d' e' z' v' f' y' k' q' p' → kS (wK w') ≤ kS (wK w) + 1 → Gw h h' 100 1000 → En V (d + 9) 0 2227 [some (.ref ev_ext), some (.ref 0), some (.ref 82), some (.ref 83), some (.ref 84), some (.ref 85), some (.ref 86), some (.ref 87), some (.ref 88), some (.ref 89), some (.ref 90), some (.ref 91), some (.int (iI 1)), some (.int (iI tn)), some (.int (iI q0)), u15, some (.int (iI c)), u17, u18, u19, u20, u21, u22, u23, u24, u25, u26, u27, u28] [] h' P) (u15 u16 u17 u18 u19 u20 u21 u22 u23 : Option Value) : En V (d + 9) 0 172 [some (.ref ev_ext), some (.ref 0), some (.ref 82), some (.ref 83), some (.ref 84), some (.ref 85), some (.ref 86), some (.ref 87), some (.ref 88), some (.ref 89), some (.ref 90), some (.ref 91), some (.int (iI 1)), some (.int (iI tn)), some (.int (iI q0)), u15, u16, u17, u18, u19, u20, u21, u22, u23, u24, u25, u26, u27, u28] [] h P := by
  obtain ⟨hW, hK, ⟨n0, n1, n2, n3, n7, n4⟩, hP, hOO, rw', rf', hH, hE, hpp, hbd, hbv⟩ := id hL
  have tb := hW.2.2.1.2.2.2.1
  have kn := hK.2.2.1
  have b0 := hH.1.1
  have gn0 := hH.1.2.2.2.2 0
  have gn1 := hH.1.2.2.2.2 1
  have gn2 := hH.1.2.2.2.2 2
  have gn3 := hH.1.2.2.2.2 3
  have hhn := hW.2.1.2.2.2.2.2.2.2.1
  have hc : 0 ≤ c ∧ c < 2147483648 := by omega
  have at187 : ∀ kd : Int, 0 ≤ kd → kd < 30 → En V (d + 9) 0 187 [some (.ref ev_ext), some (.ref 0), some (.ref 82), some (.ref 83), some (.ref 84), some (.ref 85), some (.ref 86), some (.ref 87), some (.ref 88), some (.ref 89), some (.ref 90), some (.ref 91), some (.int (iI 1)), some (.int (iI tn)), some (.int (iI q0)), u15, u16, u17, u18, u19, u20, u21, u22, u23, u24, u25, u26, u27, u28] [.int (iI kd)] h P := fun kd kd0 kd1 => by
    have KK := fun h' w' n' d' e' z' v' f' y' k' q' p' u19 u20 u21 u22 u23 u24 u25 u26 u27 u28 a1 a2 a3 => KK h' w' n' d' e' z' v' f' y' k' q' p' (some (.int (iI kd))) (some (.int (iI (c % n 2)))) (some (.int (iI (10 * (c % n 2))))) u19 u20 u21 u22 u23 u24 u25 u26 u27 u28 a1 a2 a3
    have hb : 0 ≤ c % n 2 ∧ c % n 2 < n 2 := ⟨Int.emod_nonneg _ (by omega), Int.emod_lt_of_pos _ (by omega)⟩
    have hx0 : 0 ≤ c / 3 % n 0 ∧ c / 3 % n 0 < n 0 := ⟨Int.emod_nonneg _ (by omega), Int.emod_lt_of_pos _ (by omega)⟩
    have ho0 : 0 ≤ c / 41 % n 0 ∧ c / 41 % n 0 < n 0 := ⟨Int.emod_nonneg _ (by omega), Int.emod_lt_of_pos _ (by omega)⟩
    have ht0 : 0 ≤ c / 29 % 5 ∧ c / 29 % 5 < 5 := by omega
    refine n_go f_0_187 rfl (pc' := 189) (ls' := [_, _, _, _, _, _, _, _, _, _, _, _, _, _, _, _, _, _, _, _, _, _, _, _, _, _, _, _, _]) rfl ?_
    have z9 : True := trivial
    refine n_go f_0_189 rfl (pc' := 191) rfl ?_
    refine n_bip (m := 30) f_0_191 rfl (by decide) ?_
    refine n_idiv f_0_193 rfl (by omega) ?_
    rw [← hc9]
    refine n_go f_0_194 rfl (pc' := 196) (ls' := [_, _, _, _, _, _, _, _, _, _, _, _, _, _, _, _, _, _, _, _, _, _, _, _, _, _, _, _, _]) rfl ?_
    refine n_go f_0_196 rfl (pc' := 198) rfl ?_
    refine n_go f_0_198 rfl (pc' := 199) rfl ?_
    refine n_go f_0_199 rfl (pc' := 200) (st' := .int (iI 2) :: _) rfl ?_
    refine n_ial f_0_200 rfl (b0) (by unfold ev_ext; omega) (by omega) ?_
    refine n_irem f_0_201 rfl (by omega) ?_
    refine n_go f_0_202 rfl (pc' := 204) (ls' := [_, _, _, _, _, _, _, _, _, _, _, _, _, _, _, _, _, _, _, _, _, _, _, _, _, _, _, _, _]) rfl ?_
    generalize c % n 2 = b at *
    have hb : 0 ≤ b ∧ b < wB w := ⟨hb.1, by omega⟩
    have hOb := hOO.1 b hb.1 hb.2
    obtain ⟨⟨hI, ⟨dp, hT⟩, hOk⟩, hR, hEe⟩ := id hOb
    refine n_bip (m := 10) f_0_204 rfl (by decide) ?_
    refine n_go f_0_206 rfl (pc' := 208) rfl ?_
    refine n_imul f_0_208 rfl ?_
    refine n_go f_0_209 rfl (pc' := 211) (ls' := [_, _, _, _, _, _, _, _, _, _, _, _, _, _, _, _, _, _, _, _, _, _, _, _, _, _, _, _, _]) rfl ?_
    refine n_go f_0_211 rfl (pc' := 213) rfl ?_
    refine n_go f_0_213 rfl (pc' := 214) (st' := .int (iI 3) :: _) rfl ?_
    refine n_idiv f_0_214 rfl (by omega) ?_
    refine n_go f_0_215 rfl (pc' := 216) rfl ?_
    refine n_go f_0_216 rfl (pc' := 217) (st' := .int (iI 0) :: _) rfl ?_
    refine n_ial f_0_217 rfl (b0) (by unfold ev_ext; omega) (by omega) ?_
    refine n_irem f_0_218 rfl (by omega) ?_
    refine n_go f_0_219 rfl (pc' := 221) (ls' := [_, _, _, _, _, _, _, _, _, _, _, _, _, _, _, _, _, _, _, _, _, _, _, _, _, _, _, _, _]) rfl ?_
    refine n_go f_0_221 rfl (pc' := 222) (st' := .int (iI 0) :: _) rfl ?_
    refine n_go f_0_222 rfl (pc' := 224) (ls' := [_, _, _, _, _, _, _, _, _, _, _, _, _, _, _, _, _, _, _, _, _, _, _, _, _, _, _, _, _]) rfl ?_
    -- what is to be done
    have at308 : ∀ nx ot tg : Int, 0 ≤ nx → nx < kN (wK w) → 0 ≤ ot → ot < kN (wK w) → 0 ≤ tg → tg < 5 → En V (d + 9) 0 308 [some (.ref ev_ext), some (.ref 0), some (.ref 82), some (.ref 83), some (.ref 84), some (.ref 85), some (.ref 86), some (.ref 87), some (.ref 88), some (.ref 89), some (.ref 90), some (.ref 91), some (.int (iI 1)), some (.int (iI tn)), some (.int (iI q0)), some (.int (iI kd)), some (.int (iI c)), some (.int (iI b)), some (.int (iI (10 * b))), some (.int (iI nx)), some (.int (iI (b2 (hs (wD w b) nx)))), some (.int (iI ot)), some (.int (iI tg)), some (.int (iI ((cnI 40 (fun i => decide (hold (wK w) (wD w b) i = nx)))))), u24, u25, u26, u27, u28] [] h P := fun nx ot tg x0 x1 y0 y1 t0 t1 => by
      have a2021 := L_mer hL hl htn hc hb ⟨x0, x1⟩ rfl ⟨y0, y1⟩ ⟨t0, t1⟩ rfl hS KK (u24 := u24) (u25 := u25) (u26 := u26) (u27 := u27) (u28 := u28)
      have a1899 : En V (d + 9) 0 1899 [some (.ref ev_ext), some (.ref 0), some (.ref 82), some (.ref 83), some (.ref 84), some (.ref 85), some (.ref 86), some (.ref 87), some (.ref 88), some (.ref 89), some (.ref 90), some (.ref 91), some (.int (iI 1)), some (.int (iI tn)), some (.int (iI q0)), some (.int (iI kd)), some (.int (iI c)), some (.int (iI b)), some (.int (iI (10 * b))), some (.int (iI nx)), some (.int (iI (b2 (hs (wD w b) nx)))), some (.int (iI ot)), some (.int (iI tg)), some (.int (iI ((cnI 40 (fun i => decide (hold (wK w) (wD w b) i = nx)))))), u24, u25, u26, u27, u28] [] h P := by
        refine n_go f_0_1899 rfl (pc' := 1901) rfl ?_
        refine n_bip (m := 26) f_0_1901 rfl (by decide) ?_
        refine n_ic_ne f_0_1903 rfl rfl ⟨by omega, by omega⟩ (fun g1 => ?_) (fun g1 => ?_)
        · exact a2021
        · refine n_go f_0_1906 rfl (pc' := 1907) rfl ?_
          refine n_go f_0_1907 rfl (pc' := 1908) (st' := .int (iI 2) :: _) rfl ?_
          refine n_ial f_0_1908 rfl (b0) (by unfold ev_ext; omega) (by omega) ?_
          refine n_go f_0_1909 rfl (pc' := 1910) (st' := .int (iI 3) :: _) rfl ?_
          refine n_ic_ge f_0_1910 rfl rfl ⟨by omega, by omega⟩ (fun g2 => ?_) (fun g2 => ?_)
          · exact a2021
          · exact L_for hL hl htn hc hb ⟨x0, x1⟩ rfl ⟨y0, y1⟩ ⟨t0, t1⟩ rfl hS (by omega) KK
      have a1769 : En V (d + 9) 0 1769 [some (.ref ev_ext), some (.ref 0), some (.ref 82), some (.ref 83), some (.ref 84), some (.ref 85), some (.ref 86), some (.ref 87), some (.ref 88), some (.ref 89), some (.ref 90), some (.ref 91), some (.int (iI 1)), some (.int (iI tn)), some (.int (iI q0)), some (.int (iI kd)), some (.int (iI c)), some (.int (iI b)), some (.int (iI (10 * b))), some (.int (iI nx)), some (.int (iI (b2 (hs (wD w b) nx)))), some (.int (iI ot)), some (.int (iI tg)), some (.int (iI ((cnI 40 (fun i => decide (hold (wK w) (wD w b) i = nx)))))), u24, u25, u26, u27, u28] [] h P := by
        refine n_go f_0_1769 rfl (pc' := 1771) rfl ?_
        refine n_bip (m := 25) f_0_1771 rfl (by decide) ?_
        refine n_ic_ne f_0_1773 rfl rfl ⟨by omega, by omega⟩ (fun g1 => ?_) (fun g1 => ?_)
        · exact a1899
        · exact L_res hL hl htn hc hb ⟨x0, x1⟩ rfl ⟨y0, y1⟩ ⟨t0, t1⟩ rfl hS KK
      have a1603 : En V (d + 9) 0 1603 [some (.ref ev_ext), some (.ref 0), some (.ref 82), some (.ref 83), some (.ref 84), some (.ref 85), some (.ref 86), some (.ref 87), some (.ref 88), some (.ref 89), some (.ref 90), some (.ref 91), some (.int (iI 1)), some (.int (iI tn)), some (.int (iI q0)), some (.int (iI kd)), some (.int (iI c)), some (.int (iI b)), some (.int (iI (10 * b))), some (.int (iI nx)), some (.int (iI (b2 (hs (wD w b) nx)))), some (.int (iI ot)), some (.int (iI tg)), some (.int (iI ((cnI 40 (fun i => decide (hold (wK w) (wD w b) i = nx)))))), u24, u25, u26, u27, u28] [] h P := by
        refine n_go f_0_1603 rfl (pc' := 1605) rfl ?_
        refine n_bip (m := 25) f_0_1605 rfl (by decide) ?_
        refine n_ic_ge f_0_1607 rfl rfl ⟨by omega, by omega⟩ (fun g1 => ?_) (fun g1 => ?_)
        · exact a1769
        · refine n_go f_0_1610 rfl (pc' := 1611) rfl ?_
          refine n_go f_0_1611 rfl (pc' := 1612) (st' := .int (iI 3) :: _) rfl ?_
          refine n_ial f_0_1612 rfl (b0) (by unfold ev_ext; omega) (by omega) ?_
          refine n_bip (m := 6) f_0_1613 rfl (by decide) ?_
          refine n_ic_ge f_0_1615 rfl rfl ⟨by omega, by omega⟩ (fun g2 => ?_) (fun g2 => ?_)
          · exact a1769
          · exact L_com hL hl htn hc hb ⟨x0, x1⟩ rfl ⟨y0, y1⟩ ⟨t0, t1⟩ rfl hS (by omega) KK
      have a1550 : En V (d + 9) 0 1550 [some (.ref ev_ext), some (.ref 0), some (.ref 82), some (.ref 83), some (.ref 84), some (.ref 85), some (.ref 86), some (.ref 87), some (.ref 88), some (.ref 89), some (.ref 90), some (.ref 91), some (.int (iI 1)), some (.int (iI tn)), some (.int (iI q0)), some (.int (iI kd)), some (.int (iI c)), some (.int (iI b)), some (.int (iI (10 * b))), some (.int (iI nx)), some (.int (iI (b2 (hs (wD w b) nx)))), some (.int (iI ot)), some (.int (iI tg)), some (.int (iI ((cnI 40 (fun i => decide (hold (wK w) (wD w b) i = nx)))))), u24, u25, u26, u27, u28] [] h P := by
        refine n_go f_0_1550 rfl (pc' := 1552) rfl ?_
        refine n_bip (m := 22) f_0_1552 rfl (by decide) ?_
        refine n_ic_ne f_0_1554 rfl rfl ⟨by omega, by omega⟩ (fun g1 => ?_) (fun g1 => ?_)
        · exact a1603
        · exact L_set hL hl htn hc hb ⟨x0, x1⟩ rfl ⟨y0, y1⟩ ⟨t0, t1⟩ rfl hS KK
      have a1360 : En V (d + 9) 0 1360 [some (.ref ev_ext), some (.ref 0), some (.ref 82), some (.ref 83), some (.ref 84), some (.ref 85), some (.ref 86), some (.ref 87), some (.ref 88), some (.ref 89), some (.ref 90), some (.ref 91), some (.int (iI 1)), some (.int (iI tn)), some (.int (iI q0)), some (.int (iI kd)), some (.int (iI c)), some (.int (iI b)), some (.int (iI (10 * b))), some (.int (iI nx)), some (.int (iI (b2 (hs (wD w b) nx)))), some (.int (iI ot)), some (.int (iI tg)), some (.int (iI ((cnI 40 (fun i => decide (hold (wK w) (wD w b) i = nx)))))), u24, u25, u26, u27, u28] [] h P := by
        refine n_go f_0_1360 rfl (pc' := 1362) rfl ?_
        refine n_bip (m := 21) f_0_1362 rfl (by decide) ?_
        refine n_ic_ne f_0_1364 rfl rfl ⟨by omega, by omega⟩ (fun g1 => ?_) (fun g1 => ?_)
        · exact a1550
        · exact L_str hL hl htn hc hb ⟨x0, x1⟩ rfl ⟨y0, y1⟩ ⟨t0, t1⟩ rfl hS KK
      have a1065 : En V (d + 9) 0 1065 [some (.ref ev_ext), some (.ref 0), some (.ref 82), some (.ref 83), some (.ref 84), some (.ref 85), some (.ref 86), some (.ref 87), some (.ref 88), some (.ref 89), some (.ref 90), some (.ref 91), some (.int (iI 1)), some (.int (iI tn)), some (.int (iI q0)), some (.int (iI kd)), some (.int (iI c)), some (.int (iI b)), some (.int (iI (10 * b))), some (.int (iI nx)), some (.int (iI (b2 (hs (wD w b) nx)))), some (.int (iI ot)), some (.int (iI tg)), some (.int (iI ((cnI 40 (fun i => decide (hold (wK w) (wD w b) i = nx)))))), u24, u25, u26, u27, u28] [] h P := by
        refine n_go f_0_1065 rfl (pc' := 1067) rfl ?_
        refine n_bip (m := 21) f_0_1067 rfl (by decide) ?_
        refine n_ic_ge f_0_1069 rfl rfl ⟨by omega, by omega⟩ (fun g1 => ?_) (fun g1 => ?_)
        · exact a1360
        · refine n_go f_0_1072 rfl (pc' := 1073) rfl ?_
          refine n_go f_0_1073 rfl (pc' := 1074) (st' := .int (iI 1) :: _) rfl ?_
          refine n_ial f_0_1074 rfl (b0) (by unfold ev_ext; omega) (by omega) ?_
          refine n_bip (m := 10) f_0_1075 rfl (by decide) ?_
          refine n_ic_ge f_0_1077 rfl rfl ⟨by omega, by omega⟩ (fun g2 => ?_) (fun g2 => ?_)
          · exact a1360
          · exact L_wri hL hl htn hc hb ⟨x0, x1⟩ rfl ⟨y0, y1⟩ ⟨t0, t1⟩ rfl hS (by omega) KK
      have a869 : En V (d + 9) 0 869 [some (.ref ev_ext), some (.ref 0), some (.ref 82), some (.ref 83), some (.ref 84), some (.ref 85), some (.ref 86), some (.ref 87), some (.ref 88), some (.ref 89), some (.ref 90), some (.ref 91), some (.int (iI 1)), some (.int (iI tn)), some (.int (iI q0)), some (.int (iI kd)), some (.int (iI c)), some (.int (iI b)), some (.int (iI (10 * b))), some (.int (iI nx)), some (.int (iI (b2 (hs (wD w b) nx)))), some (.int (iI ot)), some (.int (iI tg)), some (.int (iI ((cnI 40 (fun i => decide (hold (wK w) (wD w b) i = nx)))))), u24, u25, u26, u27, u28] [] h P := by
        refine n_go f_0_869 rfl (pc' := 871) rfl ?_
        refine n_bip (m := 18) f_0_871 rfl (by decide) ?_
        refine n_ic_ge f_0_873 rfl rfl ⟨by omega, by omega⟩ (fun g1 => ?_) (fun g1 => ?_)
        · exact a1065
        · exact L_aim hL hl htn hc hb ⟨x0, x1⟩ rfl ⟨y0, y1⟩ ⟨t0, t1⟩ rfl hS KK
      have a799 : En V (d + 9) 0 799 [some (.ref ev_ext), some (.ref 0), some (.ref 82), some (.ref 83), some (.ref 84), some (.ref 85), some (.ref 86), some (.ref 87), some (.ref 88), some (.ref 89), some (.ref 90), some (.ref 91), some (.int (iI 1)), some (.int (iI tn)), some (.int (iI q0)), some (.int (iI kd)), some (.int (iI c)), some (.int (iI b)), some (.int (iI (10 * b))), some (.int (iI nx)), some (.int (iI (b2 (hs (wD w b) nx)))), some (.int (iI ot)), some (.int (iI tg)), some (.int (iI ((cnI 40 (fun i => decide (hold (wK w) (wD w b) i = nx)))))), u24, u25, u26, u27, u28] [] h P := by
        refine n_go f_0_799 rfl (pc' := 801) rfl ?_
        refine n_bip (m := 16) f_0_801 rfl (by decide) ?_
        refine n_ic_ge f_0_803 rfl rfl ⟨by omega, by omega⟩ (fun g1 => ?_) (fun g1 => ?_)
        · exact a869
        · exact L_tag hL hl htn hc hb ⟨x0, x1⟩ rfl ⟨y0, y1⟩ ⟨t0, t1⟩ rfl hS KK
      have a588 : En V (d + 9) 0 588 [some (.ref ev_ext), some (.ref 0), some (.ref 82), some (.ref 83), some (.ref 84), some (.ref 85), some (.ref 86), some (.ref 87), some (.ref 88), some (.ref 89), some (.ref 90), some (.ref 91), some (.int (iI 1)), some (.int (iI tn)), some (.int (iI q0)), some (.int (iI kd)), some (.int (iI c)), some (.int (iI b)), some (.int (iI (10 * b))), some (.int (iI nx)), some (.int (iI (b2 (hs (wD w b) nx)))), some (.int (iI ot)), some (.int (iI tg)), some (.int (iI ((cnI 40 (fun i => decide (hold (wK w) (wD w b) i = nx)))))), u24, u25, u26, u27, u28] [] h P := by
        refine n_go f_0_588 rfl (pc' := 590) rfl ?_
        refine n_bip (m := 14) f_0_590 rfl (by decide) ?_
        refine n_ic_ge f_0_592 rfl rfl ⟨by omega, by omega⟩ (fun g1 => ?_) (fun g1 => ?_)
        · exact a799
        · exact L_mov hL hl htn hc hb ⟨x0, x1⟩ rfl ⟨y0, y1⟩ ⟨t0, t1⟩ rfl hS KK
      have a510 : En V (d + 9) 0 510 [some (.ref ev_ext), some (.ref 0), some (.ref 82), some (.ref 83), some (.ref 84), some (.ref 85), some (.ref 86), some (.ref 87), some (.ref 88), some (.ref 89), some (.ref 90), some (.ref 91), some (.int (iI 1)), some (.int (iI tn)), some (.int (iI q0)), some (.int (iI kd)), some (.int (iI c)), some (.int (iI b)), some (.int (iI (10 * b))), some (.int (iI nx)), some (.int (iI (b2 (hs (wD w b) nx)))), some (.int (iI ot)), some (.int (iI tg)), some (.int (iI ((cnI 40 (fun i => decide (hold (wK w) (wD w b) i = nx)))))), u24, u25, u26, u27, u28] [] h P := by
        refine n_go f_0_510 rfl (pc' := 512) rfl ?_
        refine n_bip (m := 9) f_0_512 rfl (by decide) ?_
        refine n_ic_ne f_0_514 rfl rfl ⟨by omega, by omega⟩ (fun g1 => ?_) (fun g1 => ?_)
        · exact a588
        · exact L_rem hL hl htn hc hb ⟨x0, x1⟩ rfl ⟨y0, y1⟩ ⟨t0, t1⟩ rfl hS KK
      refine n_go f_0_308 rfl (pc' := 310) rfl ?_
      refine n_bip (m := 9) f_0_310 rfl (by decide) ?_
      refine n_ic_ge f_0_312 rfl rfl ⟨by omega, by omega⟩ (fun g1 => ?_) (fun g1 => ?_)
      · exact a510
      · refine n_go f_0_315 rfl (pc' := 316) rfl ?_
        refine n_go f_0_316 rfl (pc' := 317) (st' := .int (iI 0) :: _) rfl ?_
        refine n_ial f_0_317 rfl (b0) (by unfold ev_ext; omega) (by omega) ?_
        refine n_bip (m := 10) f_0_318 rfl (by decide) ?_
        refine n_ic_ge f_0_320 rfl rfl ⟨by omega, by omega⟩ (fun g2 => ?_) (fun g2 => ?_)
        · exact a510
        · exact L_put hL hl htn hc hb ⟨x0, x1⟩ rfl ⟨y0, y1⟩ ⟨t0, t1⟩ rfl hS (by omega) KK
    have at267 : ∀ (nx i : Int), 0 ≤ nx → nx < kN (wK w) → En V (d + 9) 0 267 [some (.ref ev_ext), some (.ref 0), some (.ref 82), some (.ref 83), some (.ref 84), some (.ref 85), some (.ref 86), some (.ref 87), some (.ref 88), some (.ref 89), some (.ref 90), some (.ref 91), some (.int (iI 1)), some (.int (iI tn)), some (.int (iI q0)), some (.int (iI kd)), some (.int (iI c)), some (.int (iI b)), some (.int (iI (10 * b))), some (.int (iI nx)), some (.int (iI i)), u21, u22, u23, u24, u25, u26, u27, u28] [] h P := fun nx i x0 x1 => by
      have hbb := b2_r (hs (wD w b) nx)
      refine n_go f_0_267 rfl (pc' := 268) rfl ?_
      refine n_go f_0_268 rfl (pc' := 270) rfl ?_
      refine n_go f_0_270 rfl (pc' := 272) rfl ?_
      refine n_cs (ls' := [_, _, _]) f_0_272 (by decide) m_3 rfl rfl ?_
      refine c_lthere hH.2.1 (by omega) ?_
      show En V _ 0 275 _ [_] _ _
      rw [rD_lt hK hI.1 hR (by omega)]
      refine n_go f_0_275 rfl (pc' := 277) (ls' := [_, _, _, _, _, _, _, _, _, _, _, _, _, _, _, _, _, _, _, _, _, _, _, _, _, _, _, _, _]) rfl ?_
      refine n_go f_0_277 rfl (pc' := 279) rfl ?_
      refine n_bip (m := 41) f_0_279 rfl (by decide) ?_
      refine n_idiv f_0_281 rfl (by omega) ?_
      refine n_go f_0_282 rfl (pc' := 283) rfl ?_
      refine n_go f_0_283 rfl (pc' := 284) (st' := .int (iI 0) :: _) rfl ?_
      refine n_ial f_0_284 rfl (b0) (by unfold ev_ext; omega) (by omega) ?_
      refine n_irem f_0_285 rfl (by omega) ?_
      refine n_go f_0_286 rfl (pc' := 288) (ls' := [_, _, _, _, _, _, _, _, _, _, _, _, _, _, _, _, _, _, _, _, _, _, _, _, _, _, _, _, _]) rfl ?_
      refine n_go f_0_288 rfl (pc' := 290) rfl ?_
      refine n_bip (m := 29) f_0_290 rfl (by decide) ?_
      refine n_idiv f_0_292 rfl (by omega) ?_
      refine n_go f_0_293 rfl (pc' := 294) (st' := .int (iI 5) :: _) rfl ?_
      refine n_irem f_0_294 rfl (by omega) ?_
      refine n_go f_0_295 rfl (pc' := 297) (ls' := [_, _, _, _, _, _, _, _, _, _, _, _, _, _, _, _, _, _, _, _, _, _, _, _, _, _, _, _, _]) rfl ?_
      refine n_go f_0_297 rfl (pc' := 298) rfl ?_
      refine n_go f_0_298 rfl (pc' := 299) rfl ?_
      refine n_go f_0_299 rfl (pc' := 301) rfl ?_
      refine n_go f_0_301 rfl (pc' := 303) rfl ?_
      refine n_cs (ls' := [_, _, _, _, _, _]) f_0_303 (by decide) m_4 rfl rfl ?_
      refine c_lkids hH.1 ⟨n0, kn⟩ hH.2.1 (by omega) (by omega) ?_
      show En V _ 0 306 _ [_] _ _
      rw [rD_kids hK hI.1 hR x0]
      refine n_go f_0_306 rfl (pc' := 308) (ls' := [_, _, _, _, _, _, _, _, _, _, _, _, _, _, _, _, _, _, _, _, _, _, _, _, _, _, _, _, _]) rfl ?_
      exact at308 nx _ _ x0 x1 ho0.1 (by omega) ht0.1 ht0.2
    refine n_for (lo := 0) (hi := kN (wK w)) (by omega) (fun i ls st h' => (∃ nx, (0 ≤ nx ∧ nx < kN (wK w)) ∧ ls = [some (.ref ev_ext), some (.ref 0), some (.ref 82), some (.ref 83), some (.ref 84), some (.ref 85), some (.ref 86), some (.ref 87), some (.ref 88), some (.ref 89), some (.ref 90), some (.ref 91), some (.int (iI 1)), some (.int (iI tn)), some (.int (iI q0)), some (.int (iI kd)), some (.int (iI c)), some (.int (iI b)), some (.int (iI (10 * b))), some (.int (iI nx)), some (.int (iI i)), u21, u22, u23, u24, u25, u26, u27, u28]) ∧ st = [] ∧ h' = h) ⟨⟨_, ⟨hx0.1, by omega⟩, rfl⟩, rfl, rfl⟩ ?_ ?_
    · rintro i ls st h' i1 i2 ⟨⟨nx, nx0, rfl⟩, rfl, rfl⟩ kk
      refine n_go f_0_224 rfl (pc' := 226) rfl ?_
      refine n_go f_0_226 rfl (pc' := 227) rfl ?_
      refine n_go f_0_227 rfl (pc' := 228) (st' := .int (iI 0) :: _) rfl ?_
      refine n_ial f_0_228 rfl (b0) (by unfold ev_ext; omega) (by omega) ?_
      refine n_ic_ge f_0_229 rfl rfl ⟨by omega, by omega⟩ (fun e9 => absurd e9 (by omega)) (fun _ => ?_)
      refine n_go f_0_232 rfl (pc' := 234) rfl ?_
      refine n_bip (m := 7) f_0_234 rfl (by decide) ?_
      refine n_irem f_0_236 rfl (by omega) ?_
      refine n_if_le f_0_237 rfl rfl (by omega) (fun g1 => ?_) (fun g1 => ?_)
      · exact at267 nx i nx0.1 nx0.2
      · refine n_go f_0_240 rfl (pc' := 241) rfl ?_
        refine n_go f_0_241 rfl (pc' := 243) rfl ?_
        refine n_go f_0_243 rfl (pc' := 245) rfl ?_
        refine n_cs (ls' := [_, _, _]) f_0_245 (by decide) m_3 rfl rfl ?_
        refine c_lthere hH.2.1 (by omega) ?_
        show En V _ 0 248 _ [_] _ _
        refine n_ib_ne f_0_248 rfl rfl (fun g2 => ?_) (fun g2 => ?_)
        · exact at267 nx i nx0.1 nx0.2
        · have hq : 0 ≤ (nx + 1) % n 0 ∧ (nx + 1) % n 0 < n 0 := ⟨Int.emod_nonneg _ (by omega), Int.emod_lt_of_pos _ (by omega)⟩
          refine n_go f_0_251 rfl (pc' := 253) rfl ?_
          refine n_go f_0_253 rfl (pc' := 254) (st' := .int (iI 1) :: _) rfl ?_
          refine n_iadd f_0_254 rfl ?_
          refine n_go f_0_255 rfl (pc' := 256) rfl ?_
          refine n_go f_0_256 rfl (pc' := 257) (st' := .int (iI 0) :: _) rfl ?_
          refine n_ial f_0_257 rfl (b0) (by unfold ev_ext; omega) (by omega) ?_
          refine n_irem f_0_258 rfl (by omega) ?_
          refine n_go f_0_259 rfl (pc' := 261) (ls' := [_, _, _, _, _, _, _, _, _, _, _, _, _, _, _, _, _, _, _, _, _, _, _, _, _, _, _, _, _]) rfl ?_
          refine n_iinc (m' := 1) (ls' := [_, _, _, _, _, _, _, _, _, _, _, _, _, _, _, _, _, _, _, _, _, _, _, _, _, _, _, _, _]) f_0_261 rfl rfl rfl rfl ?_
          refine n_go f_0_264 rfl (pc' := 224) rfl ?_
          exact kk _ _ _ ⟨⟨_, ⟨hq.1, by omega⟩, rfl⟩, rfl, rfl⟩
    · rintro ls st h' ⟨⟨nx, nx0, rfl⟩, rfl, rfl⟩
      refine n_go f_0_224 rfl (pc' := 226) rfl ?_
      refine n_go f_0_226 rfl (pc' := 227) rfl ?_
      refine n_go f_0_227 rfl (pc' := 228) (st' := .int (iI 0) :: _) rfl ?_
      refine n_ial f_0_228 rfl (b0) (by unfold ev_ext; omega) (by omega) ?_
      refine n_ic_ge f_0_229 rfl rfl ⟨by omega, by omega⟩ (fun _ => ?_) (fun e9 => absurd (by omega) e9)
      exact at267 nx _ nx0.1 nx0.2
  have hk0 : 0 ≤ q0 % 30 ∧ q0 % 30 < 30 := by omega
  refine n_go f_0_172 rfl (pc' := 174) rfl ?_
  refine n_go f_0_174 rfl (pc' := 175) (st' := .int (iI 2) :: _) rfl ?_
  refine n_ic_ge f_0_175 rfl rfl ⟨by omega, by omega⟩ (fun g1 => ?_) (fun g1 => ?_)
  · refine n_go f_0_182 rfl (pc' := 184) rfl ?_
    refine n_bip (m := 30) f_0_184 rfl (by decide) ?_
    refine n_irem f_0_186 rfl (by omega) ?_
    exact at187 _ hk0.1 hk0.2
  · refine n_go f_0_178 rfl (pc' := 179) (st' := .int (iI 0) :: _) rfl ?_
    refine n_go f_0_179 rfl (pc' := 187) rfl ?_
    exact at187 0 (by decide) (by decide)
end LPT
