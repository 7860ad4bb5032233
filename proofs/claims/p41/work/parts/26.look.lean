/-! Counting; Look's methods. -/
def cnt (n : Nat) (p : Int → Bool) : Int := match n with
  | 0 => 0
  | n + 1 => cnt n p + b2 (p n)
def cnI (i : Int) (p : Int → Bool) : Int := cnt i.toNat p
section CN
variable {i n : Int} {p q : Int → Bool}
theorem cnI_t (hi : 0 ≤ i) (h : p i = true) : cnI (i + 1) p = cnI i p + 1 := by
  unfold cnI
  rw [show (i + 1).toNat = i.toNat + 1 by omega]
  show cnt i.toNat p + b2 (p (i.toNat : Nat)) = _
  rw [show ((i.toNat : Nat) : Int) = i by omega, h]
  rfl
theorem cnI_f (hi : 0 ≤ i) (h : p i = false) : cnI (i + 1) p = cnI i p := by
  unfold cnI
  rw [show (i + 1).toNat = i.toNat + 1 by omega]
  show cnt i.toNat p + b2 (p (i.toNat : Nat)) = _
  rw [show ((i.toNat : Nat) : Int) = i by omega, h]
  exact Int.add_zero _
theorem cnt_r (m : Nat) : 0 ≤ cnt m p ∧ cnt m p ≤ m := by
  induction m with
  | zero => exact ⟨Int.le_refl _, Int.le_refl _⟩
  | succ m ih =>
    have e : cnt (m + 1) p = cnt m p + b2 (p m) := rfl
    have : b2 (p m) = 0 ∨ b2 (p m) = 1 := by cases p m <;> decide
    omega
theorem cnI_r (hi : 0 ≤ i) : 0 ≤ cnI i p ∧ cnI i p ≤ i := by
  have := cnt_r (p := p) i.toNat
  unfold cnI
  omega
end CN
/-- going up from a node, at most so often -/
def wth (f : Int → Int) (m : Nat) (at' top : Int) : Bool := match m with
  | 0 => false
  | m + 1 => if at' = -1 then false else if at' = top then true else wth f m (f at') top
def dpF (th : Int → Bool) (f : Int → Int) (m : Nat) (acc at' : Int) : Int := match m with
  | 0 => -1
  | m + 1 => if th at' = true then (if at' = 0 then acc else dpF th f m (acc + 1) (f at')) else -1
/-- how many steps a sweep through the children of a node has, and what it meets -/
def swL (K : dK) (n : Int) : Int := if kK K n = 0 then kS K else if kK K n = 1 then kN K else 0
def met (K : dK) (S : dS) (n i : Int) : Int := if kK K n = 1 then (if hold K S i = n then i else -1) else if kH K (kQ K i) = n ∧ gS S.1 (kO K (kQ K i)) = kQ K i then kO K (kQ K i) else -1
section CL
variable {V : ev_V} {d : Nat} {h : ev_H} {P : ev_O → ev_H → Prop} {a b : Nat} {S T : dS} {K : dK} {n k v s m : Int}
theorem c_isWithin (hK : Sk h K) (hS : St h a S) (hn : -1 ≤ n ∧ n < 40) (hm : -2147483648 ≤ m ∧ m < 2147483648) (KK : P (.inl (some (.int (iI (b2 (wth (hold K S) 40 n m)))))) h) : En V (d + 2) 151 0 [some (.ref 10), some (.ref a), some (.int (iI n)), some (.int (iI m)), none, none] [] h P := by
  have k10 := hK.2.2.2.2.2.2.2.2.2.1
  refine n_go f_151_0 rfl (pc' := 1) rfl ?_
  refine n_go f_151_1 rfl (pc' := 3) (ls' := [_, _, _, _, _, _]) rfl ?_
  refine n_go f_151_3 rfl (pc' := 4) (st' := .int (iI 0) :: _) rfl ?_
  refine n_go f_151_4 rfl (pc' := 6) (ls' := [_, _, _, _, _, _]) rfl ?_
  have key : ∀ (j : Nat) (at' : Int), j ≤ 40 → -1 ≤ at' ∧ at' < 40 → P (.inl (some (.int (iI (b2 (wth (hold K S) j at' m)))))) h → En V (d + 2) 151 6 [some (.ref 10), some (.ref a), some (.int (iI n)), some (.int (iI m)), some (.int (iI at')), some (.int (iI (40 - j)))] [] h P := by
    intro j
    induction j with
    | zero =>
      intro at' hj ha hP
      refine n_go f_151_6 rfl (pc' := 8) rfl ?_
      refine n_bip (m := 40) f_151_8 rfl (by decide) ?_
      refine n_ic_ge f_151_10 rfl rfl ⟨by omega, by omega⟩ (fun _ => ?_) (fun e9 => absurd (by omega) e9)
      refine n_go f_151_42 rfl (pc' := 43) (st' := .int (iI 0) :: _) rfl ?_
      first | refine n_rt0 f_151_43 rfl ?_ | refine n_rt1 f_151_43 rfl ?_ | refine n_rtz f_151_43 rfl ?_
      exact hP
    | succ j ih =>
      intro at' hj ha hP
      unfold wth at hP
      refine n_go f_151_6 rfl (pc' := 8) rfl ?_
      refine n_bip (m := 40) f_151_8 rfl (by decide) ?_
      refine n_ic_ge f_151_10 rfl rfl ⟨by omega, by omega⟩ (fun e9 => absurd e9 (by omega)) (fun _ => ?_)
      refine n_go f_151_13 rfl (pc' := 15) rfl ?_
      refine n_go f_151_15 rfl (pc' := 16) (st' := .int (iI (-1)) :: _) rfl ?_
      refine n_ic_eq f_151_16 rfl rfl ⟨by omega, by omega⟩ (fun e => ?_) (fun e => ?_)
      · rw [if_pos e] at hP
        refine n_go f_151_42 rfl (pc' := 43) (st' := .int (iI 0) :: _) rfl ?_
        first | refine n_rt0 f_151_43 rfl ?_ | refine n_rt1 f_151_43 rfl ?_ | refine n_rtz f_151_43 rfl ?_
        exact hP
      rw [if_neg e] at hP
      refine n_go f_151_19 rfl (pc' := 21) rfl ?_
      refine n_go f_151_21 rfl (pc' := 22) rfl ?_
      refine n_ic_ne f_151_22 rfl rfl ⟨by omega, by omega⟩ (fun e2 => ?_) (fun e2 => ?_)
      · rw [if_neg e2] at hP
        have hr := hold_r hK.2.2.2.2.2.2.2.2.2.2 S at'
        refine n_go f_151_27 rfl (pc' := 28) rfl ?_
        refine n_go f_151_28 rfl (pc' := 29) rfl ?_
        refine n_go f_151_29 rfl (pc' := 31) rfl ?_
        refine n_cv (ls' := [_, _, _]) f_151_31 (by decide) m_122 rfl rfl (by assumption) rfl ?_
        refine c_holderIn hK hS (by omega) ?_
        show En V _ 151 34 _ [_] _ _
        refine n_go f_151_34 rfl (pc' := 36) (ls' := [_, _, _, _, _, _]) rfl ?_
        refine n_iinc (m' := 1) (ls' := [_, _, _, _, _, _]) f_151_36 rfl rfl rfl rfl ?_
        refine n_go f_151_39 rfl (pc' := 6) rfl ?_
        rw [show (40 - ((j + 1 : Nat) : Int)) + 1 = 40 - (j : Nat) by omega]
        exact ih _ (by omega) hr hP
      rw [if_pos (by omega)] at hP
      refine n_go f_151_25 rfl (pc' := 26) (st' := .int (iI 1) :: _) rfl ?_
      first | refine n_rt0 f_151_26 rfl ?_ | refine n_rt1 f_151_26 rfl ?_ | refine n_rtz f_151_26 rfl ?_
      exact hP
  exact key 40 n (by omega) hn KK
theorem c_depthIn (hK : Sk h K) (hS : St h a S) (hn : -1 ≤ n ∧ n < 40) (KK : P (.inl (some (.int (iI (dpF (hs S) (hold K S) 40 0 n))))) h) : En V (d + 2) 137 0 [some (.ref 10), some (.ref a), some (.int (iI n)), none, none] [] h P := by
  have k10 := hK.2.2.2.2.2.2.2.2.2.1
  refine n_go f_137_0 rfl (pc' := 1) rfl ?_
  refine n_go f_137_1 rfl (pc' := 2) (ls' := [_, _, _, _, _]) rfl ?_
  refine n_go f_137_2 rfl (pc' := 3) (st' := .int (iI 0) :: _) rfl ?_
  refine n_go f_137_3 rfl (pc' := 5) (ls' := [_, _, _, _, _]) rfl ?_
  have key : ∀ (j : Nat) (at' : Int), j ≤ 40 → -1 ≤ at' ∧ at' < 40 → P (.inl (some (.int (iI (dpF (hs S) (hold K S) j (40 - j) at'))))) h → En V (d + 2) 137 5 [some (.ref 10), some (.ref a), some (.int (iI n)), some (.int (iI at')), some (.int (iI (40 - j)))] [] h P := by
    intro j
    induction j with
    | zero =>
      intro at' hj ha hP
      refine n_go f_137_5 rfl (pc' := 7) rfl ?_
      refine n_bip (m := 40) f_137_7 rfl (by decide) ?_
      refine n_ic_ge f_137_9 rfl rfl ⟨by omega, by omega⟩ (fun _ => ?_) (fun e9 => absurd (by omega) e9)
      refine n_go f_137_40 rfl (pc' := 41) (st' := .int (iI (-1)) :: _) rfl ?_
      refine n_ret f_137_41 rfl rfl ?_
      exact hP
    | succ j ih =>
      intro at' hj ha hP
      have s0 := hS.1
      unfold dpF at hP
      refine n_go f_137_5 rfl (pc' := 7) rfl ?_
      refine n_bip (m := 40) f_137_7 rfl (by decide) ?_
      refine n_ic_ge f_137_9 rfl rfl ⟨by omega, by omega⟩ (fun e9 => absurd e9 (by omega)) (fun _ => ?_)
      refine n_go f_137_12 rfl (pc' := 13) rfl ?_
      refine n_go f_137_13 rfl (pc' := 14) rfl ?_
      refine n_cv (ls' := [_, _]) f_137_14 (by decide) m_133 rfl rfl (by assumption) rfl ?_
      refine c_has hS (by omega) ?_
      show En V _ 137 17 _ [_] _ _
      refine n_ib_eq f_137_17 rfl rfl (fun e => ?_) (fun e => ?_)
      · rw [if_neg (by rw [e]; decide)] at hP
        refine n_go f_137_40 rfl (pc' := 41) (st' := .int (iI (-1)) :: _) rfl ?_
        refine n_ret f_137_41 rfl rfl ?_
        exact hP
      rw [if_pos e] at hP
      refine n_go f_137_20 rfl (pc' := 21) rfl ?_
      refine n_if_ne f_137_21 rfl rfl (by omega) (fun e2 => ?_) (fun e2 => ?_)
      · rw [if_neg e2] at hP
        have hr := hold_r hK.2.2.2.2.2.2.2.2.2.2 S at'
        refine n_go f_137_27 rfl (pc' := 28) rfl ?_
        refine n_go f_137_28 rfl (pc' := 29) rfl ?_
        refine n_go f_137_29 rfl (pc' := 30) rfl ?_
        refine n_cv (ls' := [_, _, _]) f_137_30 (by decide) m_122 rfl rfl (by assumption) rfl ?_
        refine c_holderIn hK hS (by omega) ?_
        show En V _ 137 33 _ [_] _ _
        refine n_go f_137_33 rfl (pc' := 34) (ls' := [_, _, _, _, _]) rfl ?_
        refine n_iinc (m' := 1) (ls' := [_, _, _, _, _]) f_137_34 rfl rfl rfl rfl ?_
        refine n_go f_137_37 rfl (pc' := 5) rfl ?_
        rw [show (40 - ((j + 1 : Nat) : Int)) + 1 = 40 - (j : Nat) by omega] at hP ⊢
        exact ih _ (by omega) hr hP
      rw [if_pos (by omega)] at hP
      refine n_go f_137_24 rfl (pc' := 26) rfl ?_
      refine n_ret f_137_26 rfl rfl ?_
      exact hP
  exact key 40 n (by omega) hn KK
theorem c_sweepLength (hK : Sk h K) (hn : 0 ≤ n ∧ n < 40) (KK : P (.inl (some (.int (iI (swL K n))))) h) : En V (d + 1) 169 0 [some (.ref 10), some (.int (iI n))] [] h P := by
  have hK0 := hK
  obtain ⟨k1, k2, k3, k4, k5, k6, k7, k8, k9, k10, kr⟩ := hK
  have r := kr.2.2.2.1 n
  refine n_go f_169_0 rfl (pc' := 1) rfl ?_
  refine n_gf f_169_1 rfl (by assumption) rfl ?_
  refine n_go f_169_4 rfl (pc' := 5) rfl ?_
  refine n_cv (ls' := [_, _]) f_169_5 (by decide) m_108 rfl rfl (by assumption) rfl ?_
  refine c_kindOf hK0 hn ?_
  show En V _ 169 8 _ [_] _ _
  unfold swL at KK
  rcases (by omega : kK K n = 0 ∨ kK K n = 1 ∨ kK K n = 2 ∨ kK K n = 3) with e | e | e | e
  · rw [e] at KK ⊢
    refine n_lsw (t := 36) f_169_8 (by omega) rfl rfl ?_
    refine n_go f_169_36 rfl (pc' := 37) rfl ?_
    refine n_gf f_169_37 rfl (by assumption) rfl ?_
    refine n_cv (ls' := [_]) f_169_40 (by decide) m_179 rfl rfl (by assumption) rfl ?_
    refine c_spotCount hK0 ?_
    show En V _ 169 43 _ [_] _ _
    refine n_ret f_169_43 rfl rfl ?_
    exact KK
  · rw [e] at KK ⊢
    refine n_lsw (t := 44) f_169_8 (by omega) rfl rfl ?_
    refine n_go f_169_44 rfl (pc' := 45) rfl ?_
    refine n_gf f_169_45 rfl (by assumption) rfl ?_
    refine n_cv (ls' := [_]) f_169_48 (by decide) m_168 rfl rfl (by assumption) rfl ?_
    refine c_nodeCount hK0 ?_
    show En V _ 169 51 _ [_] _ _
    refine n_ret f_169_51 rfl rfl ?_
    exact KK
  · rw [e] at KK ⊢
    refine n_lsw (t := 52) f_169_8 (by omega) rfl rfl ?_
    refine n_go f_169_52 rfl (pc' := 53) (st' := .int (iI 0) :: _) rfl ?_
    refine n_ret f_169_53 rfl rfl ?_
    exact KK
  · rw [e] at KK ⊢
    refine n_lsw (t := 52) f_169_8 (by omega) rfl rfl ?_
    refine n_go f_169_52 rfl (pc' := 53) (st' := .int (iI 0) :: _) rfl ?_
    refine n_ret f_169_53 rfl rfl ?_
    exact KK
theorem c_childMet (hK : Sk h K) (hS : St h a S) (hn : 0 ≤ n ∧ n < 40) (hm : 0 ≤ m ∧ m < swL K n) (KK : P (.inl (some (.int (iI (met K S n m))))) h) : En V (d + 2) 170 0 [some (.ref 10), some (.ref a), some (.int (iI n)), some (.int (iI m)), none, none] [] h P := by
  have hK0 := hK
  obtain ⟨k1, k2, k3, k4, k5, k6, k7, k8, k9, k10, kr⟩ := hK
  have s0 := hS.1
  have r := kr.2.2.2.1 n
  have r1 := kr.1
  have r2 := kr.2.1
  have r3 := kr.2.2.2.2.1 (kQ K m)
  have r4 := kr.2.2.2.2.2.1 (kQ K m)
  have r5 := kr.2.2.2.2.2.2.1 m
  have r6 := hold_r kr S m
  have r7 := gS_r (fun i => (hS.2.2.2.2.2.2.1 i).1) (kO K (kQ K m))
  have hb : m < 120 := by unfold swL at hm; split at hm <;> (try split at hm) <;> omega
  have eo : sow K (kQ K m) = kO K (kQ K m) := if_pos ⟨r5.1, r5.2⟩
  have eh : sph K (kQ K m) = kH K (kQ K m) := if_pos ⟨r5.1, r5.2⟩
  unfold met at KK
  refine n_go f_170_0 rfl (pc' := 1) rfl ?_
  refine n_gf f_170_1 rfl (by assumption) rfl ?_
  refine n_go f_170_4 rfl (pc' := 5) rfl ?_
  refine n_cv (ls' := [_, _]) f_170_5 (by decide) m_108 rfl rfl (by assumption) rfl ?_
  refine c_kindOf hK0 hn ?_
  show En V _ 170 8 _ [_] _ _
  refine n_go f_170_8 rfl (pc' := 9) (st' := .int (iI 1) :: _) rfl ?_
  refine n_ic_ne f_170_9 rfl rfl ⟨by omega, by omega⟩ (fun e => ?_) (fun e => ?_)
  · rw [if_neg e] at KK
    have hk0 : m < kS K := by unfold swL at hm; split at hm <;> (try split at hm) <;> omega
    refine n_go f_170_28 rfl (pc' := 29) rfl ?_
    refine n_gf f_170_29 rfl (by assumption) rfl ?_
    refine n_go f_170_32 rfl (pc' := 33) rfl ?_
    refine n_cv (ls' := [_, _]) f_170_33 (by decide) m_180 rfl rfl (by assumption) rfl ?_
    refine c_spotInOrder hK0 ⟨hm.1, hk0⟩ ?_
    show En V _ 170 36 _ [_] _ _
    refine n_go f_170_36 rfl (pc' := 38) (ls' := [_, _, _, _, _, _]) rfl ?_
    refine n_go f_170_38 rfl (pc' := 39) rfl ?_
    refine n_gf f_170_39 rfl (by assumption) rfl ?_
    refine n_go f_170_42 rfl (pc' := 44) rfl ?_
    refine n_cv (ls' := [_, _]) f_170_44 (by decide) m_181 rfl rfl (by assumption) rfl ?_
    refine c_ownerOf hK0 (by omega) ?_
    show En V _ 170 47 _ [_] _ _
    refine n_go f_170_47 rfl (pc' := 49) (ls' := [_, _, _, _, _, _]) rfl ?_
    refine n_go f_170_49 rfl (pc' := 50) rfl ?_
    refine n_gf f_170_50 rfl (by assumption) rfl ?_
    refine n_go f_170_53 rfl (pc' := 55) rfl ?_
    refine n_cv (ls' := [_, _]) f_170_55 (by decide) m_159 rfl rfl (by assumption) rfl ?_
    refine c_spotHolder hK0 (by omega) ?_
    show En V _ 170 58 _ [_] _ _
    rw [eo, eh]
    refine n_go f_170_58 rfl (pc' := 59) rfl ?_
    refine n_ic_ne f_170_59 rfl rfl ⟨by omega, by omega⟩ (fun e1 => ?_) (fun e1 => ?_)
    · rw [if_neg (fun q => e1 q.1)] at KK
      refine n_go f_170_78 rfl (pc' := 79) (st' := .int (iI (-1)) :: _) rfl ?_
      refine n_ret f_170_79 rfl rfl ?_
      exact KK
    refine n_go f_170_62 rfl (pc' := 63) rfl ?_
    refine n_go f_170_63 rfl (pc' := 65) rfl ?_
    refine n_cv (ls' := [_, _]) f_170_65 (by decide) m_147 rfl rfl (by assumption) rfl ?_
    refine c_spotOf hS (by omega) ?_
    show En V _ 170 68 _ [_] _ _
    refine n_go f_170_68 rfl (pc' := 70) rfl ?_
    refine n_ic_ne f_170_70 rfl rfl ⟨by omega, by omega⟩ (fun e2 => ?_) (fun e2 => ?_)
    · rw [if_neg (fun q => e2 q.2)] at KK
      refine n_go f_170_78 rfl (pc' := 79) (st' := .int (iI (-1)) :: _) rfl ?_
      refine n_ret f_170_79 rfl rfl ?_
      exact KK
    rw [if_pos ⟨by omega, by omega⟩] at KK
    refine n_go f_170_73 rfl (pc' := 75) rfl ?_
    refine n_go f_170_75 rfl (pc' := 79) rfl ?_
    refine n_ret f_170_79 rfl rfl ?_
    exact KK
  rw [if_pos (by omega)] at KK
  refine n_go f_170_12 rfl (pc' := 13) rfl ?_
  refine n_go f_170_13 rfl (pc' := 14) rfl ?_
  refine n_go f_170_14 rfl (pc' := 15) rfl ?_
  refine n_cv (ls' := [_, _, _]) f_170_15 (by decide) m_122 rfl rfl (by assumption) rfl ?_
  refine c_holderIn hK0 hS (by omega) ?_
  show En V _ 170 18 _ [_] _ _
  refine n_go f_170_18 rfl (pc' := 19) rfl ?_
  refine n_ic_ne f_170_19 rfl rfl ⟨by omega, by omega⟩ (fun e1 => ?_) (fun e1 => ?_)
  · rw [if_neg e1] at KK
    refine n_go f_170_26 rfl (pc' := 27) (st' := .int (iI (-1)) :: _) rfl ?_
    refine n_ret f_170_27 rfl rfl ?_
    exact KK
  rw [if_pos (by omega)] at KK
  refine n_go f_170_22 rfl (pc' := 23) rfl ?_
  refine n_go f_170_23 rfl (pc' := 27) rfl ?_
  refine n_ret f_170_27 rfl rfl ?_
  exact KK
theorem c_countChildren (hK : Sk h K) (hS : St h a S) (hn : -2147483648 ≤ n ∧ n < 2147483648) (hm : -2147483648 ≤ m ∧ m < 2147483648) (KK : P (.inl (some (.int (iI (cnI 40 (fun i => decide (¬ i = m ∧ hold K S i = n))))))) h) : En V (d + 2) 95 0 [some (.ref 10), some (.ref a), some (.int (iI n)), some (.int (iI m)), none, none] [] h P := by
  have k10 := hK.2.2.2.2.2.2.2.2.2.1
  refine n_go f_95_0 rfl (pc' := 1) (st' := .int (iI 0) :: _) rfl ?_
  refine n_go f_95_1 rfl (pc' := 3) (ls' := [_, _, _, _, _, _]) rfl ?_
  refine n_go f_95_3 rfl (pc' := 4) (st' := .int (iI 0) :: _) rfl ?_
  refine n_go f_95_4 rfl (pc' := 6) (ls' := [_, _, _, _, _, _]) rfl ?_
  refine n_for (lo := 0) (hi := 40) (by decide) (fun i ls st h' => ls = [some (.ref 10), some (.ref a), some (.int (iI n)), some (.int (iI m)), some (.int (iI (cnI i (fun i => decide (¬ i = m ∧ hold K S i = n))))), some (.int (iI i))] ∧ st = [] ∧ h' = h) ⟨rfl, rfl, rfl⟩ ?_ ?_
  · rintro i ls st h' h1 h2 ⟨rfl, rfl, rfl⟩ kk
    have hr := hold_r hK.2.2.2.2.2.2.2.2.2.2 S i
    refine n_go f_95_6 rfl (pc' := 8) rfl ?_
    refine n_bip (m := 40) f_95_8 rfl (by decide) ?_
    refine n_ic_ge f_95_10 rfl rfl ⟨by omega, by omega⟩ (fun e9 => absurd e9 (by omega)) (fun _ => ?_)
    refine n_go f_95_13 rfl (pc' := 15) rfl ?_
    refine n_go f_95_15 rfl (pc' := 16) rfl ?_
    refine n_ic_eq f_95_16 rfl rfl ⟨by omega, by omega⟩ (fun e => ?_) (fun e => ?_)
    · refine n_iinc (m' := 1) (ls' := [_, _, _, _, _, _]) f_95_33 rfl rfl rfl rfl ?_
      refine n_go f_95_36 rfl (pc' := 6) rfl ?_
      exact kk _ _ _ ⟨by rw [cnI_f h1 (decide_eq_false (by omega))], rfl, rfl⟩
    refine n_go f_95_19 rfl (pc' := 20) rfl ?_
    refine n_go f_95_20 rfl (pc' := 21) rfl ?_
    refine n_go f_95_21 rfl (pc' := 23) rfl ?_
    refine n_cv (ls' := [_, _, _]) f_95_23 (by decide) m_122 rfl rfl (by assumption) rfl ?_
    refine c_holderIn hK hS (by omega) ?_
    show En V _ 95 26 _ [_] _ _
    refine n_go f_95_26 rfl (pc' := 27) rfl ?_
    refine n_ic_ne f_95_27 rfl rfl ⟨by omega, by omega⟩ (fun e2 => ?_) (fun e2 => ?_)
    · refine n_iinc (m' := 1) (ls' := [_, _, _, _, _, _]) f_95_33 rfl rfl rfl rfl ?_
      refine n_go f_95_36 rfl (pc' := 6) rfl ?_
      exact kk _ _ _ ⟨by rw [cnI_f h1 (decide_eq_false (by omega))], rfl, rfl⟩
    refine n_iinc (m' := 1) (ls' := [_, _, _, _, _, _]) f_95_30 rfl rfl rfl rfl ?_
    refine n_iinc (m' := 1) (ls' := [_, _, _, _, _, _]) f_95_33 rfl rfl rfl rfl ?_
    refine n_go f_95_36 rfl (pc' := 6) rfl ?_
    exact kk _ _ _ ⟨by rw [cnI_t h1 (decide_eq_true (by omega))], rfl, rfl⟩
  · rintro ls st h' ⟨rfl, rfl, rfl⟩
    refine n_go f_95_6 rfl (pc' := 8) rfl ?_
    refine n_bip (m := 40) f_95_8 rfl (by decide) ?_
    refine n_ic_ge f_95_10 rfl rfl ⟨by omega, by omega⟩ (fun _ => ?_) (fun e9 => absurd (by omega) e9)
    refine n_go f_95_39 rfl (pc' := 41) rfl ?_
    refine n_ret f_95_41 rfl rfl ?_
    exact KK
end CL
