/-! Calls that look. -/
theorem edn_mem {F T : dS} {k : Int} {x : Int × Int} : ∀ n : Nat, x ∈ edn F T k n → x.1 = k ∧ 0 ≤ x.2 ∧ x.2 < n ∧ due F T k x.2 = true := by
  intro n
  induction n with
  | zero => intro hx; cases hx
  | succ n ih =>
    intro hx
    have e : edn F T k (n + 1) = edn F T k n ++ (if due F T k n = true then [(k, (n : Int))] else []) := rfl
    rw [e] at hx
    rcases List.mem_append.mp hx with q | q
    · have := ih q
      exact ⟨this.1, this.2.1, by omega, this.2.2.2⟩
    · split at q
      · next hd =>
        cases List.mem_singleton.mp q
        exact ⟨rfl, by show (0 : Int) ≤ n; omega, by show (n : Int) < ((n + 1 : Nat) : Int); omega, hd⟩
      · cases q
theorem edk_mem {F T : dS} {x : Int × Int} : ∀ k : Nat, x ∈ edk F T k → (0 ≤ x.1 ∧ x.1 < k) ∧ 0 ≤ x.2 ∧ due F T x.1 x.2 = true := by
  intro k
  induction k with
  | zero => intro hx; cases hx
  | succ k ih =>
    intro hx
    have e : edk F T (k + 1) = edk F T k ++ edn F T k (lim k).toNat := rfl
    rw [e] at hx
    rcases List.mem_append.mp hx with q | q
    · have := ih q
      exact ⟨by omega, this.2⟩
    · obtain ⟨q1, q2, q3, q4⟩ := edn_mem _ q
      exact ⟨by omega, q2, by rw [q1]; exact q4⟩
theorem edk_small {F T : dS} (hd : dlo F T) : small (edk F T 8) := by
  refine ⟨by have := edk_le F T hd 8; omega, fun x hx => ?_⟩
  obtain ⟨q1, q2, q3⟩ := edk_mem 8 hx
  refine ⟨⟨q1.1, by omega⟩, q2, ?_⟩
  by_cases h : 10 ≤ x.2
  · rw [hd _ _ h] at q3; cases q3
  · omega
section CQ
variable {V : ev_V} {d : Nat} {h : ev_H} {P : ev_O → ev_H → Prop} {a : Nat} {w : dW} {S : dS} {n k b v o c m : Int}
theorem c_versions (hW : Wd h w) (KK : P (.inl (some (.int (iI (hN (wH w)))))) h) : En V (d + 2) 29 0 [some (.ref 0)] [] h P := by
  obtain ⟨wk, wh, wt, wd, wq, w28, w23, we, wl⟩ := hW
  obtain ⟨t0, t1, t2, t3, t4⟩ := wt
  have h12 := wh.1
  refine n_go f_29_0 rfl (pc' := 1) rfl ?_
  refine n_gf f_29_1 rfl (by assumption) rfl ?_
  refine n_cv (ls' := [_]) f_29_4 (by decide) m_69 rfl rfl (by assumption) rfl ?_
  refine c_hcount wh ?_
  show En V _ 29 7 _ [_] _ _
  refine n_ret f_29_7 rfl rfl ?_
  exact KK
theorem c_head (hW : Wd h w) (hb : 0 ≤ b ∧ b < wB w) (KK : P (.inl (some (.int (iI (wE w b))))) h) : En V (d + 1) 30 0 [some (.ref 0), some (.int (iI b))] [] h P := by
  have hW0 := hW
  obtain ⟨wk, wh, wt, wd, wq, w28, w23, we, wl⟩ := hW
  obtain ⟨t0, t1, t2, t3, t4⟩ := wt
  refine n_go f_30_0 rfl (pc' := 1) rfl ?_
  refine n_go f_30_1 rfl (pc' := 2) rfl ?_
  refine n_cv (ls' := [_, _]) f_30_2 (by decide) m_61 rfl rfl (by assumption) rfl ?_
  refine c_needBranch hW0 hb ?_
  show En V _ 30 5 _ [] _ _
  refine n_go f_30_5 rfl (pc' := 6) rfl ?_
  refine n_gf f_30_6 rfl (by assumption) rfl ?_
  refine n_go f_30_9 rfl (pc' := 10) rfl ?_
  refine n_ial f_30_10 rfl (by assumption) (by unfold ev_ext; omega) (by omega) ?_
  refine n_ret f_30_11 rfl rfl ?_
  exact KK
/-- the script of two states that are held, told -/
theorem Wd_told {F T : dS} {fk fn : Int → Int} (hW : Wd h w) (hL : holds (edk F T 8) fk fn) : Wd (wC h (edk F T 8).length fk fn) w ∧ Qk h (wC h (edk F T 8).length fk fn) ∧ ScL (wC h (edk F T 8).length fk fn) (edk F T 8) := by
  have hC := hW.2.2.2.2.1.2.2.1
  exact ⟨hW.wC, Qk.wC, fk, fn, wC_25 hC, wC_26 hC, wC_27 hC, hL⟩
theorem c_deskClean (hW : Wd h w) (hb : 0 ≤ b ∧ b < wB w) (hd : dlo (wD w b) (hV (wH w) (wE w b))) (KK : ∀ h', Wd h' w → Qk h h' → P (.inl (some (.int (iI (b2 (decide (edk (wD w b) (hV (wH w) (wE w b)) 8 = []))))))) h') : En V (d + 5) 62 0 [some (.ref 0), some (.int (iI b))] [] h P := by
  have hW0 := hW
  obtain ⟨wk, wh, wt, wd, wq, w28, w23, we, wl⟩ := hW
  obtain ⟨t0, t1, t2, t3, t4⟩ := wt
  have hC := wq.2.2.1
  have e1 := we b hb.1 hb.2
  have e2 := t4 b
  have ha := wh.2.2.2.2.2.2.2.2.2.2.2 _ e2.1 e1
  obtain ⟨sz, f0, f1, c1, c2, c3⟩ := id hC
  refine n_go f_62_0 rfl (pc' := 1) rfl ?_
  refine n_gf f_62_1 rfl (by assumption) rfl ?_
  refine n_go f_62_4 rfl (pc' := 5) rfl ?_
  refine n_go f_62_5 rfl (pc' := 6) rfl ?_
  refine n_cv (ls' := [_, _]) f_62_6 (by decide) m_59 rfl rfl (by assumption) rfl ?_
  refine c_deskOf hW0 hb ?_
  show En V _ 62 9 _ [_, _] _ _
  refine n_go f_62_9 rfl (pc' := 10) rfl ?_
  refine n_go f_62_10 rfl (pc' := 11) rfl ?_
  refine n_cv (ls' := [_, _]) f_62_11 (by decide) m_128 rfl rfl (by assumption) rfl ?_
  refine c_headState hW0 hb ?_
  show En V _ 62 14 _ [_, _, _] _ _
  refine n_cv (ls' := [_, _, _, _, _, _]) f_62_14 (by decide) m_56 rfl rfl (by assumption) rfl ?_
  refine c_tell hC (wd b hb.1 (by omega)) (wh.2.2.2.2.2.2.1 _ e2.1 e1) (by omega) (by omega) hd (fun fk fn hL => ?_)
  obtain ⟨g1, g2, g3⟩ := Wd_told hW0 hL
  generalize wC h (edk (wD w b) (hV (wH w) (wE w b)) 8).length fk fn = h' at *
  generalize hLe : edk (wD w b) (hV (wH w) (wE w b)) 8 = L at *
  have u0 := g1.2.2.1.1
  obtain ⟨fk', fn', u25, -⟩ := id g3
  have hlen := edk_le _ _ hd 8
  rw [hLe] at hlen
  have KK := KK h' g1 g2
  show En V _ _ 17 _ [] _ _
  refine n_go f_62_17 rfl (pc' := 18) rfl ?_
  refine n_gf f_62_18 rfl (by assumption) rfl ?_
  refine n_cv (ls' := [_]) f_62_21 (by decide) m_57 rfl rfl (by assumption) rfl ?_
  refine c_count g3 ?_
  show En V _ 62 24 _ [_] _ _
  refine n_if_ne f_62_24 rfl rfl (by omega) (fun e => ?_) (fun e => ?_)
  · rw [decide_eq_false (fun q => e (by rw [q]; rfl))] at KK
    refine n_go f_62_31 rfl (pc' := 32) (st' := .int (iI 0) :: _) rfl ?_
    first | refine n_rtz f_62_32 rfl ?_ | refine n_rt0 f_62_32 rfl ?_ | refine n_rt1 f_62_32 rfl ?_
    exact KK
  · rw [decide_eq_true (List.length_eq_zero_iff.mp (by omega))] at KK
    refine n_go f_62_27 rfl (pc' := 28) (st' := .int (iI 1) :: _) rfl ?_
    refine n_go f_62_28 rfl (pc' := 32) rfl ?_
    first | refine n_rtz f_62_32 rfl ?_ | refine n_rt0 f_62_32 rfl ?_ | refine n_rt1 f_62_32 rfl ?_
    exact KK
theorem c_isClean (hW : Wd h w) (hb : 0 ≤ b ∧ b < wB w) (hd : dlo (wD w b) (hV (wH w) (wE w b))) (KK : ∀ h', Wd h' w → Qk h h' → P (.inl (some (.int (iI (b2 (decide (edk (wD w b) (hV (wH w) (wE w b)) 8 = []))))))) h') : En V (d + 6) 16 0 [some (.ref 0), some (.int (iI b))] [] h P := by
  have t0 := hW.2.2.1.1
  refine n_go f_16_0 rfl (pc' := 1) rfl ?_
  refine n_go f_16_1 rfl (pc' := 2) rfl ?_
  refine n_cv (ls' := [_, _]) f_16_2 (by decide) m_61 rfl rfl (by assumption) rfl ?_
  refine c_needBranch hW hb ?_
  show En V _ 16 5 _ [] _ _
  refine n_go f_16_5 rfl (pc' := 6) rfl ?_
  refine n_go f_16_6 rfl (pc' := 7) rfl ?_
  refine n_cv (ls' := [_, _]) f_16_7 (by decide) m_62 rfl rfl (by assumption) rfl ?_
  refine c_deskClean hW hb hd (fun h' g1 g2 => ?_)
  show En V _ _ 10 _ [_] _ _
  first | refine n_rtz f_16_10 rfl ?_ | refine n_rt0 f_16_10 rfl ?_ | refine n_rt1 f_16_10 rfl ?_
  exact KK h' g1 g2
theorem c_parent (hW : Wd h w) (hv : 0 ≤ v ∧ v < hN (wH w)) (hk : k = 0 ∨ k = 1) (KK : P (.inl (some (.int (iI (if k = 0 then hF (wH w) v else hG (wH w) v))))) h) : En V (d + 3) 32 0 [some (.ref 0), some (.int (iI v)), some (.int (iI k))] [] h P := by
  have hW0 := hW
  obtain ⟨wk, wh, wt, wd, wq, w28, w23, we, wl⟩ := hW
  obtain ⟨t0, t1, t2, t3, t4⟩ := wt
  have h12 := wh.1
  refine n_go f_32_0 rfl (pc' := 1) rfl ?_
  refine n_go f_32_1 rfl (pc' := 2) rfl ?_
  refine n_cv (ls' := [_, _]) f_32_2 (by decide) m_81 rfl rfl (by assumption) rfl ?_
  refine c_needVersion hW0 hv ?_
  show En V _ 32 5 _ [] _ _
  refine n_go f_32_5 rfl (pc' := 6) rfl ?_
  refine n_go f_32_6 rfl (pc' := 7) rfl ?_
  refine n_go f_32_7 rfl (pc' := 8) (st' := .int (iI 1) :: _) rfl ?_
  refine n_cv (ls' := [_, _, _]) f_32_8 (by decide) m_82 rfl rfl (by assumption) rfl ?_
  refine c_needRange (by omega) (by omega) (fun _ _ => ?_) (fun q => absurd (by omega) q)
  show En V _ _ 11 _ [] _ _
  refine n_go f_32_11 rfl (pc' := 12) rfl ?_
  refine n_gf f_32_12 rfl (by assumption) rfl ?_
  refine n_go f_32_15 rfl (pc' := 16) rfl ?_
  refine n_go f_32_16 rfl (pc' := 17) rfl ?_
  refine n_cv (ls' := [_, _, _]) f_32_17 (by decide) m_83 rfl rfl (by assumption) rfl ?_
  refine c_parentOf wh hv hk ?_
  show En V _ 32 20 _ [_] _ _
  refine n_ret f_32_20 rfl rfl ?_
  exact KK
theorem c_bases (hW : Wd h w) (hv : 0 ≤ v ∧ v < hN (wH w)) (ho : 0 ≤ o ∧ o < hN (wH w)) (i : Nat) (hi : i < 6) (hl : lcF (wH w) (lin (wH w) v &&& lin (wH w) o) 40 = 2 ^ i) (KK : P (.inl (some (.int (iI 1)))) h) : En V (d + 4) 33 0 [some (.ref 0), some (.int (iI v)), some (.int (iI o))] [] h P := by
  have hW0 := hW
  obtain ⟨wk, wh, wt, wd, wq, w28, w23, we, wl⟩ := hW
  obtain ⟨t0, t1, t2, t3, t4⟩ := wt
  have h12 := wh.1
  refine n_go f_33_0 rfl (pc' := 1) rfl ?_
  refine n_go f_33_1 rfl (pc' := 2) rfl ?_
  refine n_cv (ls' := [_, _]) f_33_2 (by decide) m_81 rfl rfl (by assumption) rfl ?_
  refine c_needVersion hW0 hv ?_
  show En V _ 33 5 _ [] _ _
  refine n_go f_33_5 rfl (pc' := 6) rfl ?_
  refine n_go f_33_6 rfl (pc' := 7) rfl ?_
  refine n_cv (ls' := [_, _]) f_33_7 (by decide) m_81 rfl rfl (by assumption) rfl ?_
  refine c_needVersion hW0 ho ?_
  show En V _ 33 10 _ [] _ _
  refine n_go f_33_10 rfl (pc' := 11) rfl ?_
  refine n_gf f_33_11 rfl (by assumption) rfl ?_
  refine n_go f_33_14 rfl (pc' := 15) rfl ?_
  refine n_go f_33_15 rfl (pc' := 16) rfl ?_
  refine n_cv (ls' := [_, _, _, _, _, _, _, _]) f_33_16 (by decide) m_84 rfl rfl (by assumption) rfl ?_
  refine c_lastCommon wh hv ho ?_
  show En V _ 33 19 _ [_] _ _
  rw [hl]
  refine n_cs (ls' := [_, _]) f_33_19 (by decide) m_85 rfl rfl ?_
  refine c_bitCount i hi ?_
  show En V _ 33 22 _ [_] _ _
  refine n_ret f_33_22 rfl rfl ?_
  exact KK
theorem c_isThere (hW : Wd h w) (hv : vwO w v) (hn : 0 ≤ n ∧ n < kN (wK w)) (KK : P (.inl (some (.int (iI (b2 (hs (vwS w v) n)))))) h) : En V (d + 5) 72 0 [some (.ref 0), some (.int (iI v)), some (.int (iI n)), none] [] h P := by
  have t0 := hW.2.2.1.1
  obtain ⟨hS, -⟩ := hW.vw hv
  have kr := hW.1.2.2.2.2.2.2.2.2.2.2.1
  have s0 := hS.1
  refine n_go f_72_0 rfl (pc' := 1) rfl ?_
  refine n_go f_72_1 rfl (pc' := 2) rfl ?_
  refine n_cv (ls' := [_, _]) f_72_2 (by decide) m_55 rfl rfl (by assumption) rfl ?_
  refine c_viewed hW hv ?_
  show En V _ 72 5 _ [_] _ _
  refine n_go f_72_5 rfl (pc' := 6) (ls' := [_, _, _, _]) rfl ?_
  refine n_go f_72_6 rfl (pc' := 7) rfl ?_
  refine n_go f_72_7 rfl (pc' := 8) rfl ?_
  refine n_cv (ls' := [_, _]) f_72_8 (by decide) m_132 rfl rfl (by assumption) rfl ?_
  refine c_needNode hW hn ?_
  show En V _ 72 11 _ [] _ _
  refine n_go f_72_11 rfl (pc' := 12) rfl ?_
  refine n_go f_72_12 rfl (pc' := 13) rfl ?_
  refine n_cv (ls' := [_, _]) f_72_13 (by decide) m_133 rfl rfl (by assumption) rfl ?_
  refine c_has hS (by omega) ?_
  show En V _ 72 16 _ [_] _ _
  first | refine n_rtz f_72_16 rfl ?_ | refine n_rt0 f_72_16 rfl ?_ | refine n_rt1 f_72_16 rfl ?_
  exact KK
theorem c_kind (hW : Wd h w) (hn : 0 ≤ n ∧ n < kN (wK w)) (KK : P (.inl (some (.int (iI (kK (wK w) n))))) h) : En V (d + 2) 73 0 [some (.ref 0), some (.int (iI n))] [] h P := by
  have t0 := hW.2.2.1.1
  have kr := hW.1.2.2.2.2.2.2.2.2.2.2.1
  have k1 := hW.1.1
  refine n_go f_73_0 rfl (pc' := 1) rfl ?_
  refine n_go f_73_1 rfl (pc' := 2) rfl ?_
  refine n_cv (ls' := [_, _]) f_73_2 (by decide) m_132 rfl rfl (by assumption) rfl ?_
  refine c_needNode hW hn ?_
  show En V _ 73 5 _ [] _ _
  refine n_go f_73_5 rfl (pc' := 6) rfl ?_
  refine n_gf f_73_6 rfl (by assumption) rfl ?_
  refine n_go f_73_9 rfl (pc' := 10) rfl ?_
  refine n_cv (ls' := [_, _]) f_73_10 (by decide) m_108 rfl rfl (by assumption) rfl ?_
  refine c_kindOf hW.1 (by omega) ?_
  show En V _ 73 13 _ [_] _ _
  refine n_ret f_73_13 rfl rfl ?_
  exact KK
theorem c_holder (hW : Wd h w) (hv : vwO w v) (hn : -2147483648 ≤ n ∧ n < 2147483648) (K1 : hs (vwS w v) n = true → P (.inl (some (.int (iI (hold (wK w) (vwS w v) n))))) h) (K2 : hs (vwS w v) n = false → P (.inr 11) (xH h 11)) : En V (d + 5) 53 0 [some (.ref 0), some (.int (iI v)), some (.int (iI n)), none] [] h P := by
  have t0 := hW.2.2.1.1
  obtain ⟨hS, -⟩ := hW.vw hv
  have k10 := hW.1.2.2.2.2.2.2.2.2.2.1
  refine n_go f_53_0 rfl (pc' := 1) rfl ?_
  refine n_go f_53_1 rfl (pc' := 2) rfl ?_
  refine n_cv (ls' := [_, _]) f_53_2 (by decide) m_55 rfl rfl (by assumption) rfl ?_
  refine c_viewed hW hv ?_
  show En V _ 53 5 _ [_] _ _
  refine n_go f_53_5 rfl (pc' := 6) (ls' := [_, _, _, _]) rfl ?_
  refine n_go f_53_6 rfl (pc' := 7) rfl ?_
  refine n_go f_53_7 rfl (pc' := 8) rfl ?_
  refine n_go f_53_8 rfl (pc' := 9) rfl ?_
  refine n_cv (ls' := [_, _, _]) f_53_9 (by decide) m_94 rfl rfl (by assumption) rfl ?_
  refine c_needThere hS hn (fun e => ?_) (fun e => n_up rfl (K2 e))
  show En V _ _ 12 _ [] _ _
  refine n_go f_53_12 rfl (pc' := 13) rfl ?_
  refine n_gf f_53_13 rfl (by assumption) rfl ?_
  refine n_go f_53_16 rfl (pc' := 17) rfl ?_
  refine n_go f_53_17 rfl (pc' := 18) rfl ?_
  refine n_cv (ls' := [_, _, _]) f_53_18 (by decide) m_122 rfl rfl (by assumption) rfl ?_
  refine c_holderIn hW.1 hS hn ?_
  show En V _ 53 21 _ [_] _ _
  refine n_ret f_53_21 rfl rfl ?_
  exact K1 e
theorem c_children (hW : Wd h w) (hv : vwO w v) (hn : 0 ≤ n ∧ n < 40) (hh : hs (vwS w v) n = true) (KK : P (.inl (some (.int (iI (cnI 40 (fun i => decide (¬ i = -1 ∧ hold (wK w) (vwS w v) i = n))))))) h) : En V (d + 5) 74 0 [some (.ref 0), some (.int (iI v)), some (.int (iI n)), none] [] h P := by
  have t0 := hW.2.2.1.1
  obtain ⟨hS, -⟩ := hW.vw hv
  have k10 := hW.1.2.2.2.2.2.2.2.2.2.1
  refine n_go f_74_0 rfl (pc' := 1) rfl ?_
  refine n_go f_74_1 rfl (pc' := 2) rfl ?_
  refine n_cv (ls' := [_, _]) f_74_2 (by decide) m_55 rfl rfl (by assumption) rfl ?_
  refine c_viewed hW hv ?_
  show En V _ 74 5 _ [_] _ _
  refine n_go f_74_5 rfl (pc' := 6) (ls' := [_, _, _, _]) rfl ?_
  refine n_go f_74_6 rfl (pc' := 7) rfl ?_
  refine n_go f_74_7 rfl (pc' := 8) rfl ?_
  refine n_go f_74_8 rfl (pc' := 9) rfl ?_
  refine n_cv (ls' := [_, _, _]) f_74_9 (by decide) m_94 rfl rfl (by assumption) rfl ?_
  refine c_needThere hS (by omega) (fun e => ?_) (fun e => absurd (hh.symm.trans e) (by decide))
  show En V _ _ 12 _ [] _ _
  refine n_go f_74_12 rfl (pc' := 13) rfl ?_
  refine n_gf f_74_13 rfl (by assumption) rfl ?_
  refine n_go f_74_16 rfl (pc' := 17) rfl ?_
  refine n_go f_74_17 rfl (pc' := 18) rfl ?_
  refine n_go f_74_18 rfl (pc' := 19) (st' := .int (iI (-1)) :: _) rfl ?_
  refine n_cv (ls' := [_, _, _, _, _, _]) f_74_19 (by decide) m_95 rfl rfl (by assumption) rfl ?_
  refine c_countChildren hW.1 hS (by omega) (by omega) ?_
  show En V _ 74 22 _ [_] _ _
  refine n_ret f_74_22 rfl rfl ?_
  exact KK
theorem c_child (hW : Wd h w) (hv : vwO w v) (hn : 0 ≤ n ∧ n < 40) (hh : hs (vwS w v) n = true) (hm : 0 ≤ m ∧ m < 2147483648)
    (K1 : ∀ j, 0 ≤ j → j < swL (wK w) n → mOk (wK w) (vwS w v) n (-1) j = true → cnI j (mOk (wK w) (vwS w v) n (-1)) = m → P (.inl (some (.int (iI (met (wK w) (vwS w v) n j))))) h)
    (K2 : (∀ j, 0 ≤ j → j < swL (wK w) n → mOk (wK w) (vwS w v) n (-1) j = true → ¬ cnI j (mOk (wK w) (vwS w v) n (-1)) = m) → P (.inl (some (.int (iI (-1))))) h) :
    En V (d + 5) 75 0 [some (.ref 0), some (.int (iI v)), some (.int (iI n)), some (.int (iI m)), none] [] h P := by
  have t0 := hW.2.2.1.1
  obtain ⟨hS, -⟩ := hW.vw hv
  have k10 := hW.1.2.2.2.2.2.2.2.2.2.1
  refine n_go f_75_0 rfl (pc' := 1) rfl ?_
  refine n_go f_75_1 rfl (pc' := 2) rfl ?_
  refine n_cv (ls' := [_, _]) f_75_2 (by decide) m_55 rfl rfl (by assumption) rfl ?_
  refine c_viewed hW hv ?_
  show En V _ 75 5 _ [_] _ _
  refine n_go f_75_5 rfl (pc' := 7) (ls' := [_, _, _, _, _]) rfl ?_
  refine n_go f_75_7 rfl (pc' := 8) rfl ?_
  refine n_go f_75_8 rfl (pc' := 10) rfl ?_
  refine n_go f_75_10 rfl (pc' := 11) rfl ?_
  refine n_cv (ls' := [_, _, _]) f_75_11 (by decide) m_94 rfl rfl (by assumption) rfl ?_
  refine c_needThere hS (by omega) (fun e => ?_) (fun e => absurd (hh.symm.trans e) (by decide))
  show En V _ _ 14 _ [] _ _
  refine n_go f_75_14 rfl (pc' := 15) rfl ?_
  refine n_if_ge f_75_15 rfl rfl (by omega) (fun _ => ?_) (fun e9 => absurd (by omega) e9)
  refine n_go f_75_29 rfl (pc' := 30) rfl ?_
  refine n_gf f_75_30 rfl (by assumption) rfl ?_
  refine n_go f_75_33 rfl (pc' := 35) rfl ?_
  refine n_go f_75_35 rfl (pc' := 36) rfl ?_
  refine n_go f_75_36 rfl (pc' := 37) rfl ?_
  refine n_go f_75_37 rfl (pc' := 38) (st' := .int (iI (-1)) :: _) rfl ?_
  refine n_cv (ls' := [_, _, _, _, _, _, _, _, _]) f_75_38 (by decide) m_134 rfl rfl (by assumption) rfl ?_
  refine c_childAt hW.1 hS hn (by omega) (by omega) (fun j q1 q2 q3 q4 => ?_) (fun q => ?_)
  · show En V _ _ 41 _ [_] _ _
    refine n_ret f_75_41 rfl rfl ?_
    exact K1 j q1 q2 q3 q4
  · show En V _ _ 41 _ [_] _ _
    refine n_ret f_75_41 rfl rfl ?_
    exact K2 q
theorem c_tag (hW : Wd h w) (hv : vwO w v) (hn : 0 ≤ n ∧ n < 40) (hh : hs (vwS w v) n = true) (KK : P (.inl (some (.int (iI ((vwS w v).2.1 n))))) h) : En V (d + 5) 77 0 [some (.ref 0), some (.int (iI v)), some (.int (iI n)), none] [] h P := by
  have t0 := hW.2.2.1.1
  obtain ⟨hS, -⟩ := hW.vw hv
  have s0 := hS.1
  have g1 : gS (vwS w v).2.1 n = (vwS w v).2.1 n := if_pos hn
  refine n_go f_77_0 rfl (pc' := 1) rfl ?_
  refine n_go f_77_1 rfl (pc' := 2) rfl ?_
  refine n_cv (ls' := [_, _]) f_77_2 (by decide) m_55 rfl rfl (by assumption) rfl ?_
  refine c_viewed hW hv ?_
  show En V _ 77 5 _ [_] _ _
  refine n_go f_77_5 rfl (pc' := 6) (ls' := [_, _, _, _]) rfl ?_
  refine n_go f_77_6 rfl (pc' := 7) rfl ?_
  refine n_go f_77_7 rfl (pc' := 8) rfl ?_
  refine n_go f_77_8 rfl (pc' := 9) rfl ?_
  refine n_cv (ls' := [_, _, _]) f_77_9 (by decide) m_94 rfl rfl (by assumption) rfl ?_
  refine c_needThere hS (by omega) (fun e => ?_) (fun e => absurd (hh.symm.trans e) (by decide))
  show En V _ _ 12 _ [] _ _
  refine n_go f_77_12 rfl (pc' := 13) rfl ?_
  refine n_go f_77_13 rfl (pc' := 14) rfl ?_
  refine n_cv (ls' := [_, _]) f_77_14 (by decide) m_107 rfl rfl (by assumption) rfl ?_
  refine c_tagOf hS (by omega) ?_
  show En V _ 77 17 _ [_] _ _
  refine n_ret f_77_17 rfl rfl ?_
  rw [g1]
  exact KK
theorem c_aimOf (hW : Wd h w) (hv : vwO w v) (hn : 0 ≤ n ∧ n < 40) (hh : hs (vwS w v) n = true) (KK : P (.inl (some (.int (iI ((vwS w v).2.2.1 n))))) h) : En V (d + 5) 78 0 [some (.ref 0), some (.int (iI v)), some (.int (iI n)), none] [] h P := by
  have t0 := hW.2.2.1.1
  obtain ⟨hS, -⟩ := hW.vw hv
  have s0 := hS.1
  have g1 : gS (vS (vwS w v) 2) n = (vwS w v).2.2.1 n := if_pos hn
  refine n_go f_78_0 rfl (pc' := 1) rfl ?_
  refine n_go f_78_1 rfl (pc' := 2) rfl ?_
  refine n_cv (ls' := [_, _]) f_78_2 (by decide) m_55 rfl rfl (by assumption) rfl ?_
  refine c_viewed hW hv ?_
  show En V _ 78 5 _ [_] _ _
  refine n_go f_78_5 rfl (pc' := 6) (ls' := [_, _, _, _]) rfl ?_
  refine n_go f_78_6 rfl (pc' := 7) rfl ?_
  refine n_go f_78_7 rfl (pc' := 8) rfl ?_
  refine n_go f_78_8 rfl (pc' := 9) rfl ?_
  refine n_cv (ls' := [_, _, _]) f_78_9 (by decide) m_94 rfl rfl (by assumption) rfl ?_
  refine c_needThere hS (by omega) (fun e => ?_) (fun e => absurd (hh.symm.trans e) (by decide))
  show En V _ _ 12 _ [] _ _
  refine n_go f_78_12 rfl (pc' := 13) rfl ?_
  refine n_go f_78_13 rfl (pc' := 14) rfl ?_
  refine n_go f_78_14 rfl (pc' := 15) (st' := .int (iI 2) :: _) rfl ?_
  refine n_cv (ls' := [_, _, _]) f_78_15 (by decide) m_109 rfl rfl (by assumption) rfl ?_
  refine c_valueOf hS (by omega) (by omega) ?_
  show En V _ 78 18 _ [_] _ _
  refine n_ret f_78_18 rfl rfl ?_
  rw [g1]
  exact KK
theorem c_words (hW : Wd h w) (hv : vwO w v) (hn : 0 ≤ n ∧ n < 40) (hh : hs (vwS w v) n = true) (KK : P (.inl (some (.int (iI (cnI (kW (wK w)) (wOk (wK w) (vwS w v) n)))))) h) : En V (d + 5) 79 0 [some (.ref 0), some (.int (iI v)), some (.int (iI n)), none] [] h P := by
  have t0 := hW.2.2.1.1
  obtain ⟨hS, -⟩ := hW.vw hv
  have k10 := hW.1.2.2.2.2.2.2.2.2.2.1
  refine n_go f_79_0 rfl (pc' := 1) rfl ?_
  refine n_go f_79_1 rfl (pc' := 2) rfl ?_
  refine n_cv (ls' := [_, _]) f_79_2 (by decide) m_55 rfl rfl (by assumption) rfl ?_
  refine c_viewed hW hv ?_
  show En V _ 79 5 _ [_] _ _
  refine n_go f_79_5 rfl (pc' := 6) (ls' := [_, _, _, _]) rfl ?_
  refine n_go f_79_6 rfl (pc' := 7) rfl ?_
  refine n_go f_79_7 rfl (pc' := 8) rfl ?_
  refine n_go f_79_8 rfl (pc' := 9) rfl ?_
  refine n_cv (ls' := [_, _, _]) f_79_9 (by decide) m_94 rfl rfl (by assumption) rfl ?_
  refine c_needThere hS (by omega) (fun e => ?_) (fun e => absurd (hh.symm.trans e) (by decide))
  show En V _ _ 12 _ [] _ _
  refine n_go f_79_12 rfl (pc' := 13) rfl ?_
  refine n_gf f_79_13 rfl (by assumption) rfl ?_
  refine n_go f_79_16 rfl (pc' := 17) rfl ?_
  refine n_go f_79_17 rfl (pc' := 18) rfl ?_
  refine n_cv (ls' := [_, _, _, _, _]) f_79_18 (by decide) m_110 rfl rfl (by assumption) rfl ?_
  refine c_countWords hW.1 hS (by omega) ?_
  show En V _ 79 21 _ [_] _ _
  refine n_ret f_79_21 rfl rfl ?_
  exact KK
theorem c_neededWord (hW : Wd h w) (hS : St h a S) (hn : -2147483648 ≤ n ∧ n < 2147483648) (hm : -2147483648 ≤ m ∧ m < 2147483648)
    (K1 : hs S n = true → ∀ j, 0 ≤ j → j < kW (wK w) → uOk (wK w) S n j = true → cnI j (uOk (wK w) S n) = m → P (.inl (some (.int (iI (kU (wK w) j))))) h)
    (K2 : (hs S n = true → ∀ j, 0 ≤ j → j < kW (wK w) → uOk (wK w) S n j = true → ¬ cnI j (uOk (wK w) S n) = m) → P (.inr 11) (xH h 11)) :
    En V (d + 2) 115 0 [some (.ref 0), some (.ref a), some (.int (iI n)), some (.int (iI m)), none] [] h P := by
  have t0 := hW.2.2.1.1
  have k10 := hW.1.2.2.2.2.2.2.2.2.2.1
  have kr := hW.1.2.2.2.2.2.2.2.2.2.2
  refine n_go f_115_0 rfl (pc' := 1) rfl ?_
  refine n_go f_115_1 rfl (pc' := 2) rfl ?_
  refine n_go f_115_2 rfl (pc' := 3) rfl ?_
  refine n_cv (ls' := [_, _, _]) f_115_3 (by decide) m_94 rfl rfl (by assumption) rfl ?_
  refine c_needThere hS hn (fun e => ?_) (fun e => n_up rfl (K2 (fun q => absurd (q.symm.trans e) (by decide))))
  show En V _ _ 6 _ [] _ _
  refine n_go f_115_6 rfl (pc' := 7) rfl ?_
  refine n_gf f_115_7 rfl (by assumption) rfl ?_
  refine n_go f_115_10 rfl (pc' := 11) rfl ?_
  refine n_go f_115_11 rfl (pc' := 12) rfl ?_
  refine n_go f_115_12 rfl (pc' := 13) rfl ?_
  refine n_cv (ls' := [_, _, _, _, _, _, _]) f_115_13 (by decide) m_112 rfl rfl (by assumption) rfl ?_
  refine c_wordAt hW.1 hS hn hm (fun j q1 q2 q3 q4 => ?_) (fun q => ?_)
  · have hu := kr.2.2.2.2.2.2.2.2.2.2 j
    show En V _ _ 16 _ [_] _ _
    refine n_go f_115_16 rfl (pc' := 18) (ls' := [_, _, _, _, _]) rfl ?_
    refine n_go f_115_18 rfl (pc' := 20) rfl ?_
    refine n_go f_115_20 rfl (pc' := 21) (st' := .int (iI (-1)) :: _) rfl ?_
    refine n_ic_ne f_115_21 rfl rfl ⟨by omega, by omega⟩ (fun _ => ?_) (fun e9 => absurd (by omega) e9)
    refine n_go f_115_35 rfl (pc' := 37) rfl ?_
    refine n_ret f_115_37 rfl rfl ?_
    exact K1 e j q1 q2 q3 q4
  · show En V _ _ 16 _ [_] _ _
    refine n_go f_115_16 rfl (pc' := 18) (ls' := [_, _, _, _, _]) rfl ?_
    refine n_go f_115_18 rfl (pc' := 20) rfl ?_
    refine n_go f_115_20 rfl (pc' := 21) (st' := .int (iI (-1)) :: _) rfl ?_
    refine n_ic_ne f_115_21 rfl rfl ⟨by omega, by omega⟩ (fun e9 => absurd e9 (by omega)) (fun _ => ?_)
    refine n_thr f_115_24 rfl rfl ?_
    exact K2 (fun _ => q)
theorem c_word (hW : Wd h w) (hv : vwO w v) (hn : 0 ≤ n ∧ n < 40) (hh : hs (vwS w v) n = true) (hm : 0 ≤ m ∧ m < 2147483648)
    (K1 : ∀ j, 0 ≤ j → j < kW (wK w) → uOk (wK w) (vwS w v) n j = true → cnI j (uOk (wK w) (vwS w v) n) = m → P (.inl (some (.int (iI (10 * kE (wK w) (kU (wK w) j) + kR (wK w) (kU (wK w) j)))))) h)
    (K2 : ∃ j, 0 ≤ j ∧ j < kW (wK w) ∧ uOk (wK w) (vwS w v) n j = true ∧ cnI j (uOk (wK w) (vwS w v) n) = m) :
    En V (d + 5) 80 0 [some (.ref 0), some (.int (iI v)), some (.int (iI n)), some (.int (iI m)), none] [] h P := by
  have t0 := hW.2.2.1.1
  obtain ⟨hS, -⟩ := hW.vw hv
  have k1 := hW.1.1
  have kr := hW.1.2.2.2.2.2.2.2.2.2.2
  refine n_go f_80_0 rfl (pc' := 1) rfl ?_
  refine n_go f_80_1 rfl (pc' := 2) rfl ?_
  refine n_go f_80_2 rfl (pc' := 3) rfl ?_
  refine n_cv (ls' := [_, _]) f_80_3 (by decide) m_55 rfl rfl (by assumption) rfl ?_
  refine c_viewed hW hv ?_
  show En V _ 80 6 _ [_, _] _ _
  refine n_go f_80_6 rfl (pc' := 7) rfl ?_
  refine n_go f_80_7 rfl (pc' := 8) rfl ?_
  refine n_cv (ls' := [_, _, _, _, _]) f_80_8 (by decide) m_115 rfl rfl (by assumption) rfl ?_
  refine c_neededWord hW hS (by omega) (by omega) (fun _ j q1 q2 q3 q4 => ?_) (fun q => ?_)
  · have hu := kr.2.2.2.2.2.2.2.2.2.2 j
    show En V _ _ 11 _ [_] _ _
    refine n_go f_80_11 rfl (pc' := 13) (ls' := [_, _, _, _, _]) rfl ?_
    refine n_bip (m := 10) f_80_13 rfl (by decide) ?_
    refine n_go f_80_15 rfl (pc' := 16) rfl ?_
    refine n_gf f_80_16 rfl (by assumption) rfl ?_
    refine n_go f_80_19 rfl (pc' := 21) rfl ?_
    refine n_cv (ls' := [_, _]) f_80_21 (by decide) m_116 rfl rfl (by assumption) rfl ?_
    refine c_senseOf hW.1 (by omega) ?_
    show En V _ 80 24 _ [_, _] _ _
    refine n_imul f_80_24 rfl ?_
    refine n_go f_80_25 rfl (pc' := 26) rfl ?_
    refine n_gf f_80_26 rfl (by assumption) rfl ?_
    refine n_go f_80_29 rfl (pc' := 31) rfl ?_
    refine n_cv (ls' := [_, _]) f_80_31 (by decide) m_135 rfl rfl (by assumption) rfl ?_
    refine c_writerOf hW.1 (by omega) ?_
    show En V _ 80 34 _ [_, _] _ _
    refine n_iadd f_80_34 rfl ?_
    refine n_ret f_80_35 rfl rfl ?_
    exact K1 j q1 q2 q3 q4
  · obtain ⟨j, q1, q2, q3, q4⟩ := K2
    exact absurd q4 (q hh j q1 q2 q3)
theorem c_conflicts (hW : Wd h w) (hv : vwO w v) (KK : P (.inl (some (.int (iI 0)))) h) : En V (d + 5) 70 0 [some (.ref 0), some (.int (iI v))] [] h P := by
  have t0 := hW.2.2.1.1
  obtain ⟨hS, -⟩ := hW.vw hv
  have s0 := hS.1
  have hc : ∀ Q : ev_O → ev_H → Prop, Q (.inl (some (.int (iI 0)))) h → En V (d + 4) 131 0 [some (.ref (vwA w v)), none, none] [] h Q := by
    intro Q hQ
    obtain ⟨s0, s1, s2, s3, s4, s5, sr, sx⟩ := hS
    refine n_go f_131_0 rfl (pc' := 1) (st' := .int (iI 0) :: _) rfl ?_
    refine n_go f_131_1 rfl (pc' := 2) (ls' := [_, _, _]) rfl ?_
    refine n_go f_131_2 rfl (pc' := 3) (st' := .int (iI 0) :: _) rfl ?_
    refine n_go f_131_3 rfl (pc' := 4) (ls' := [_, _, _]) rfl ?_
    refine n_for (lo := 0) (hi := 200) (by decide) (fun i ls st h' => ls = [some (.ref (vwA w v)), some (.int (iI 0)), some (.int (iI i))] ∧ st = [] ∧ h' = h) ⟨rfl, rfl, rfl⟩ ?_ ?_
    · rintro i ls st h' g1 g2 ⟨rfl, rfl, rfl⟩ kk
      have s4' := s4
      unfold aI at s4'
      refine n_go f_131_4 rfl (pc' := 5) rfl ?_
      refine n_go f_131_5 rfl (pc' := 6) rfl ?_
      refine n_gf f_131_6 rfl (s0) rfl ?_
      refine n_aln f_131_9 rfl (s4') rfl (by unfold ev_ext; omega) ?_
      refine n_ic_ge f_131_10 rfl rfl ⟨by omega, by omega⟩ (fun e9 => absurd e9 (by omega)) (fun _ => ?_)
      refine n_go f_131_13 rfl (pc' := 14) rfl ?_
      refine n_gf f_131_14 rfl (s0) rfl ?_
      refine n_go f_131_17 rfl (pc' := 18) rfl ?_
      refine n_ial f_131_18 rfl (s4) (by unfold ev_ext; omega) (by omega) ?_
      refine n_ldc (m := 1048576) f_131_19 rfl (by decide) ?_
      refine n_ic_eq f_131_21 rfl rfl ⟨by omega, by omega⟩ (fun _ => ?_) (fun e9 => absurd (by omega) e9)
      refine n_iinc (m' := 1) (ls' := [_, _, _]) f_131_27 rfl rfl rfl rfl ?_
      refine n_go f_131_30 rfl (pc' := 4) rfl ?_
      exact kk _ _ _ ⟨rfl, rfl, rfl⟩
    · rintro ls st h ⟨rfl, rfl, rfl⟩
      have s4' := s4
      unfold aI at s4'
      refine n_go f_131_4 rfl (pc' := 5) rfl ?_
      refine n_go f_131_5 rfl (pc' := 6) rfl ?_
      refine n_gf f_131_6 rfl (s0) rfl ?_
      refine n_aln f_131_9 rfl (s4') rfl (by unfold ev_ext; omega) ?_
      refine n_ic_ge f_131_10 rfl rfl ⟨by omega, by omega⟩ (fun _ => ?_) (fun e9 => absurd (by omega) e9)
      refine n_go f_131_33 rfl (pc' := 34) rfl ?_
      refine n_ret f_131_34 rfl rfl ?_
      exact hQ
  refine n_go f_70_0 rfl (pc' := 1) rfl ?_
  refine n_go f_70_1 rfl (pc' := 2) rfl ?_
  refine n_cv (ls' := [_, _]) f_70_2 (by decide) m_55 rfl rfl (by assumption) rfl ?_
  refine c_viewed hW hv ?_
  show En V _ 70 5 _ [_] _ _
  refine n_cv (ls' := [_, _, _]) f_70_5 (by decide) m_131 rfl rfl (by assumption) rfl ?_
  refine hc _ ?_
  show En V _ 70 8 _ [_] _ _
  refine n_ret f_70_8 rfl rfl ?_
  exact KK
theorem c_print (hW : Wd h w) (hv : vwO w v) (hd : deeper (wK w) (vwS w v)) (KK : ∀ h' f, Wd h' w → Qk h h' → (∀ n, 0 ≤ n → n < 40 → 0 ≤ dep (wK w) (vwS w v) n → f n = npr (wK w) (vwS w v) f n) → P (.inl (some (.long (f 0)))) h') : En V (d + 6) 71 0 [some (.ref 0), some (.int (iI v))] [] h P := by
  have t0 := hW.2.2.1.1
  obtain ⟨hS, ha, ha2⟩ := hW.vw hv
  obtain ⟨⟨t1, q1⟩, ⟨T, q2⟩, q3, ⟨t2, q4⟩, ⟨f2, q5⟩⟩ := hW.2.2.2.2.1
  refine n_go f_71_0 rfl (pc' := 1) rfl ?_
  refine n_go f_71_1 rfl (pc' := 2) rfl ?_
  refine n_go f_71_2 rfl (pc' := 3) rfl ?_
  refine n_cv (ls' := [_, _]) f_71_3 (by decide) m_55 rfl rfl (by assumption) rfl ?_
  refine c_viewed hW hv ?_
  show En V _ 71 6 _ [_, _] _ _
  refine n_cv (ls' := [_, _]) f_71_6 (by decide) m_89 rfl rfl (by assumption) rfl ?_
  refine c_rootPrint hW.1 hS (by omega) ⟨_, t0⟩ hW.2.2.2.2.2.1 q4 q5 hd (fun t f hf => ?_)
  show En V _ _ 9 _ [_] _ _
  refine n_ret f_71_9 rfl rfl ?_
  exact KK _ f hW.prt (Qk.tr (Qk.set (by decide)) (Qk.set (by decide))) hf
theorem c_edits (hW : Wd h w) (hv : vwO w v) (ho : vwO w o) (hd : dlo (vwS w v) (vwS w o)) (KK : ∀ h', Wd h' w → Qk h h' → P (.inl (some (.int (iI (edk (vwS w v) (vwS w o) 8).length)))) h') : En V (d + 5) 13 0 [some (.ref 0), some (.int (iI v)), some (.int (iI o))] [] h P := by
  have t0 := hW.2.2.1.1
  have hC := hW.2.2.2.2.1.2.2.1
  obtain ⟨hS, ha, ha2⟩ := hW.vw hv
  obtain ⟨hT, hb, hb2⟩ := hW.vw ho
  obtain ⟨sz, f0, f1, c1, c2, c3⟩ := id hC
  refine n_go f_13_0 rfl (pc' := 1) rfl ?_
  refine n_gf f_13_1 rfl (by assumption) rfl ?_
  refine n_go f_13_4 rfl (pc' := 5) rfl ?_
  refine n_go f_13_5 rfl (pc' := 6) rfl ?_
  refine n_cv (ls' := [_, _]) f_13_6 (by decide) m_55 rfl rfl (by assumption) rfl ?_
  refine c_viewed hW hv ?_
  show En V _ 13 9 _ [_, _] _ _
  refine n_go f_13_9 rfl (pc' := 10) rfl ?_
  refine n_go f_13_10 rfl (pc' := 11) rfl ?_
  refine n_cv (ls' := [_, _]) f_13_11 (by decide) m_55 rfl rfl (by assumption) rfl ?_
  refine c_viewed hW ho ?_
  show En V _ 13 14 _ [_, _, _] _ _
  refine n_cv (ls' := [_, _, _, _, _, _]) f_13_14 (by decide) m_56 rfl rfl (by assumption) rfl ?_
  refine c_tell hC hS hT (by omega) (by omega) hd (fun fk fn hL => ?_)
  obtain ⟨g1, g2, g3⟩ := Wd_told hW hL
  have KK := KK _ g1 g2
  generalize wC h (edk (vwS w v) (vwS w o) 8).length fk fn = h' at *
  have u0 := g1.2.2.1.1
  obtain ⟨fk', fn', u25, -⟩ := id g3
  show En V _ _ 17 _ [] _ _
  refine n_go f_13_17 rfl (pc' := 18) rfl ?_
  refine n_gf f_13_18 rfl (by assumption) rfl ?_
  refine n_cv (ls' := [_]) f_13_21 (by decide) m_57 rfl rfl (by assumption) rfl ?_
  refine c_count g3 ?_
  show En V _ 13 24 _ [_] _ _
  refine n_ret f_13_24 rfl rfl ?_
  exact KK
theorem c_scriptAt (hW : Wd h w) (hv : vwO w v) (ho : vwO w o) (hd : dlo (vwS w v) (vwS w o)) (hm : 0 ≤ m ∧ m < 1000)
    (K1 : ∀ (e : Nat) x r, m = 3 * e + r → 0 ≤ r → r < 3 → (edk (vwS w v) (vwS w o) 8)[e]? = some x → ∀ h', Wd h' w → Qk h h' → P (.inl (some (.int (iI (chr x r))))) h')
    (K2 : 3 * (edk (vwS w v) (vwS w o) 8).length ≤ m → ∀ h', Wd h' w → Qk h h' → P (.inr 14) (xH h' 14)) : En V (d + 5) 54 0 [some (.ref 0), some (.int (iI v)), some (.int (iI o)), some (.int (iI m))] [] h P := by
  have t0 := hW.2.2.1.1
  have hC := hW.2.2.2.2.1.2.2.1
  obtain ⟨hS, ha, ha2⟩ := hW.vw hv
  obtain ⟨hT, hb, hb2⟩ := hW.vw ho
  obtain ⟨sz, f0, f1, c1, c2, c3⟩ := id hC
  have hsm := edk_small hd
  refine n_go f_54_0 rfl (pc' := 1) rfl ?_
  refine n_gf f_54_1 rfl (by assumption) rfl ?_
  refine n_go f_54_4 rfl (pc' := 5) rfl ?_
  refine n_go f_54_5 rfl (pc' := 6) rfl ?_
  refine n_cv (ls' := [_, _]) f_54_6 (by decide) m_55 rfl rfl (by assumption) rfl ?_
  refine c_viewed hW hv ?_
  show En V _ 54 9 _ [_, _] _ _
  refine n_go f_54_9 rfl (pc' := 10) rfl ?_
  refine n_go f_54_10 rfl (pc' := 11) rfl ?_
  refine n_cv (ls' := [_, _]) f_54_11 (by decide) m_55 rfl rfl (by assumption) rfl ?_
  refine c_viewed hW ho ?_
  show En V _ 54 14 _ [_, _, _] _ _
  refine n_cv (ls' := [_, _, _, _, _, _]) f_54_14 (by decide) m_56 rfl rfl (by assumption) rfl ?_
  refine c_tell hC hS hT (by omega) (by omega) hd (fun fk fn hL => ?_)
  obtain ⟨g1, g2, g3⟩ := Wd_told hW hL
  generalize wC h (edk (vwS w v) (vwS w o) 8).length fk fn = h' at *
  generalize hLe : edk (vwS w v) (vwS w o) 8 = L at *
  have u0 := g1.2.2.1.1
  obtain ⟨fk', fn', u25, -⟩ := id g3
  have hs1 := hsm.1
  show En V _ _ 17 _ [] _ _
  refine n_go f_54_17 rfl (pc' := 18) rfl ?_
  refine n_if_lt f_54_18 rfl rfl (by omega) (fun e9 => absurd e9 (by omega)) (fun _ => ?_)
  refine n_go f_54_21 rfl (pc' := 22) rfl ?_
  refine n_go f_54_22 rfl (pc' := 23) rfl ?_
  refine n_gf f_54_23 rfl (by assumption) rfl ?_
  refine n_cv (ls' := [_, _, _]) f_54_26 (by decide) m_123 rfl rfl (by assumption) rfl ?_
  refine c_textLength g3 hsm ?_
  show En V _ 54 29 _ [_, _] _ _
  refine n_ic_lt f_54_29 rfl rfl ⟨by omega, by omega⟩ (fun e => ?_) (fun e => ?_)
  · obtain ⟨x, hx⟩ : ∃ x, L[(m / 3).toNat]? = some x := ⟨_, List.getElem?_eq_getElem (by omega)⟩
    have K1 := K1 (m / 3).toNat x (m % 3) (by omega) (by omega) (by omega) hx h' g1 g2
    have hcr : 0 ≤ chr x (m % 3) ∧ chr x (m % 3) ≤ 65535 := by
      have := sgn_r x.1
      have hx2 := (hsm.2 x (List.mem_of_getElem? hx)).2
      unfold chr
      split
      · omega
      · split <;> omega
    have ta : ∀ Q : ev_O → ev_H → Prop, Q (.inl (some (.int (iI (chr x (m % 3)))))) h' → En V (d + 4) 124 0 [some (.ref 25), some (.int (iI m)), none, none, none] [] h' Q := by
      intro Q hQ
      have := c_textAt (V := V) (d := d + 2) g3 hsm (m / 3).toNat hx (r := m % 3) (by omega) hQ
      rw [show 3 * (((m / 3).toNat : Nat) : Int) + m % 3 = m by omega] at this
      exact this
    refine n_go f_54_43 rfl (pc' := 44) rfl ?_
    refine n_gf f_54_44 rfl (by assumption) rfl ?_
    refine n_go f_54_47 rfl (pc' := 48) rfl ?_
    refine n_cv (ls' := [_, _, _, _, _]) f_54_48 (by decide) m_124 rfl rfl (by assumption) rfl ?_
    refine ta _ ?_
    show En V _ 54 51 _ [_] _ _
    refine n_rtc f_54_51 rfl (by omega) ?_
    exact K1
  · refine n_thr f_54_32 rfl rfl ?_
    exact K2 (by omega) h' g1 g2
end CQ
