/-! State's methods that set many values: drop, copyNode, copyFrom, seat. -/
def stK (S : dS) (n k : Int) (w : Int → Int) : dS := (if 0 < k then uz S.1 n (w 0) else S.1, if 1 < k then uz S.2.1 n (w 1) else S.2.1, if 2 < k then uz S.2.2.1 n (w 2) else S.2.2.1, S.2.2.2)
def setAt (S : dS) (n : Int) (w : Int → Int) : dS := (uz S.1 n (w 0), uz S.2.1 n (w 1), uz S.2.2.1 n (w 2), S.2.2.2)
theorem stK_0 (S : dS) (n : Int) (w : Int → Int) : stK S n 0 w = S := rfl
theorem stK_s {S : dS} {n k : Int} {w : Int → Int} (hk : 0 ≤ k ∧ k < 5) : uS (stK S n k w) k n (w k) = stK S n (k + 1) w := by
  rcases (by omega : k = 0 ∨ k = 1 ∨ k = 2 ∨ k = 3 ∨ k = 4) with rfl | rfl | rfl | rfl | rfl <;> rfl
theorem stK_5 (S : dS) (n : Int) (w : Int → Int) : stK S n 5 w = setAt S n w := rfl
theorem stK_r {S : dS} {n k : Int} {w : Int → Int} (hr : rS S) (hw : ∀ k, -2 ≤ w k ∧ w k ≤ 1000) : rS (stK S n k w) := by
  intro i
  unfold stK
  refine ⟨?_, ?_, ?_⟩ <;> dsimp only <;> split
  · exact uz_rg (fun i => (hr i).1) (hw 0) i
  · exact (hr i).1
  · exact uz_rg (fun i => (hr i).2.1) (hw 1) i
  · exact (hr i).2.1
  · exact uz_rg (fun i => (hr i).2.2) (hw 2) i
  · exact (hr i).2.2
theorem setAt_r {S : dS} {n : Int} {w : Int → Int} (hr : rS S) (hw : ∀ k, -2 ≤ w k ∧ w k ≤ 1000) : rS (setAt S n w) := stK_r (k := 5) hr hw
section CD
variable {V : ev_V} {d : Nat} {h : ev_H} {P : ev_O → ev_H → Prop} {a b : Nat} {S T : dS} {n v w : Int}
theorem c_drop (hS : St h a S) (hn : 0 ≤ n ∧ n < 40) (KK : P (.inl none) (wS h a (setAt S n (fun _ => -2)))) : En V (d + 1) 152 0 [some (.ref a), some (.int (iI n)), none] [] h P := by
  have sr := hS.2.2.2.2.2.2.1
  refine n_go f_152_0 rfl (pc' := 1) (st' := .int (iI 0) :: _) rfl ?_
  refine n_go f_152_1 rfl (pc' := 2) (ls' := [_, _, _]) rfl ?_
  refine n_for (lo := 0) (hi := 5) (by decide) (fun k ls st h' => ls = [some (.ref a), some (.int (iI n)), some (.int (iI k))] ∧ st = [] ∧ h' = wS h a (stK S n k (fun _ => -2))) ⟨rfl, rfl, (wS_self hS).symm⟩ ?_ ?_
  · rintro k ls st h' h1 h2 ⟨rfl, rfl, rfl⟩ kk
    have hr := stK_r (n := n) (k := k) (w := fun _ => -2) sr (fun _ => by decide)
    have hS' := wS_St hS hr
    have hS2 := wS_St hS (T := uS (stK S n k (fun _ => -2)) k n (-2)) (uS_r hr (by decide))
    have s0 := hS'.1
    have s02 := hS2.1
    refine n_go f_152_2 rfl (pc' := 3) rfl ?_
    refine n_go f_152_3 rfl (pc' := 4) (st' := .int (iI 5) :: _) rfl ?_
    refine n_ic_ge f_152_4 rfl rfl ⟨by omega, by omega⟩ (fun e9 => absurd e9 (by omega)) (fun _ => ?_)
    refine n_go f_152_7 rfl (pc' := 8) rfl ?_
    refine n_go f_152_8 rfl (pc' := 9) rfl ?_
    refine n_go f_152_9 rfl (pc' := 10) rfl ?_
    refine n_bip (m := (-2)) f_152_10 rfl (by decide) ?_
    refine n_cv (ls' := [_, _, _, _]) f_152_12 (by decide) m_65 rfl rfl (by assumption) rfl ?_
    refine c_setValue hS' hn (by omega) ?_
    show En V _ 152 15 _ [] _ _
    rw [wS_w]
    refine n_go f_152_15 rfl (pc' := 16) rfl ?_
    refine n_go f_152_16 rfl (pc' := 17) rfl ?_
    refine n_go f_152_17 rfl (pc' := 18) rfl ?_
    refine n_ldc (m := 1048576) f_152_18 rfl (by decide) ?_
    refine n_cv (ls' := [_, _, _, _]) f_152_20 (by decide) m_160 rfl rfl (by assumption) rfl ?_
    refine c_setConflict hS2 hn (by omega) ?_
    show En V _ 152 23 _ [] _ _
    refine n_iinc (m' := 1) (ls' := [_, _, _]) f_152_23 rfl rfl rfl rfl ?_
    refine n_go f_152_26 rfl (pc' := 2) rfl ?_
    refine kk _ _ _ ⟨rfl, rfl, ?_⟩
    rw [← stK_s ⟨h1, h2⟩]
  · rintro ls st h' ⟨rfl, rfl, rfl⟩
    refine n_go f_152_2 rfl (pc' := 3) rfl ?_
    refine n_go f_152_3 rfl (pc' := 4) (st' := .int (iI 5) :: _) rfl ?_
    refine n_ic_ge f_152_4 rfl rfl ⟨by omega, by omega⟩ (fun _ => ?_) (fun e9 => absurd (by omega) e9)
    refine n_ret f_152_29 rfl rfl ?_
    exact KK
theorem c_copyNode (hS : St h a S) (hT : St h b T) (hd : a + 6 ≤ b ∨ b + 6 ≤ a) (hn : 0 ≤ n ∧ n < 40) (KK : P (.inl none) (wS h a (setAt S n (fun k => vS T k n)))) : En V (d + 1) 184 0 [some (.ref a), some (.ref b), some (.int (iI n)), none] [] h P := by
  have sr := hS.2.2.2.2.2.2.1
  have tr := hT.2.2.2.2.2.2.1
  refine n_go f_184_0 rfl (pc' := 1) (st' := .int (iI 0) :: _) rfl ?_
  refine n_go f_184_1 rfl (pc' := 2) (ls' := [_, _, _, _]) rfl ?_
  refine n_for (lo := 0) (hi := 5) (by decide) (fun k ls st h' => ls = [some (.ref a), some (.ref b), some (.int (iI n)), some (.int (iI k))] ∧ st = [] ∧ h' = wS h a (stK S n k (fun k => vS T k n))) ⟨rfl, rfl, (wS_self hS).symm⟩ ?_ ?_
  · rintro k ls st h' h1 h2 ⟨rfl, rfl, rfl⟩ kk
    have hr := stK_r (n := n) (k := k) (w := fun k => vS T k n) sr (fun _ => vS_r tr _)
    have hS' := wS_St hS hr
    have hT' : St (wS h a (stK S n k (fun k => vS T k n))) b T := wS_ne hT hd
    have hS2 := wS_St hS (T := uS (stK S n k (fun k => vS T k n)) k n (vS T k n)) (uS_r hr (vS_r tr _))
    have hT2 : St (wS h a (uS (stK S n k (fun k => vS T k n)) k n (vS T k n))) b T := wS_ne hT hd
    have s0 := hS'.1
    have t0 := hT'.1
    have s02 := hS2.1
    have t02 := hT2.1
    have e : gS (vS T k) n = vS T k n := if_pos hn
    refine n_go f_184_2 rfl (pc' := 3) rfl ?_
    refine n_go f_184_3 rfl (pc' := 4) (st' := .int (iI 5) :: _) rfl ?_
    refine n_ic_ge f_184_4 rfl rfl ⟨by omega, by omega⟩ (fun e9 => absurd e9 (by omega)) (fun _ => ?_)
    refine n_go f_184_7 rfl (pc' := 8) rfl ?_
    refine n_go f_184_8 rfl (pc' := 9) rfl ?_
    refine n_go f_184_9 rfl (pc' := 10) rfl ?_
    refine n_go f_184_10 rfl (pc' := 11) rfl ?_
    refine n_go f_184_11 rfl (pc' := 12) rfl ?_
    refine n_go f_184_12 rfl (pc' := 13) rfl ?_
    refine n_cv (ls' := [_, _, _]) f_184_13 (by decide) m_109 rfl rfl (by assumption) rfl ?_
    refine c_valueOf hT' (by omega) (by omega) ?_
    show En V _ 184 16 _ [_, _, _, _] _ _
    rw [e]
    refine n_cv (ls' := [_, _, _, _]) f_184_16 (by decide) m_65 rfl rfl (by assumption) rfl ?_
    refine c_setValue hS' hn (by omega) ?_
    show En V _ 184 19 _ [] _ _
    rw [wS_w]
    refine n_go f_184_19 rfl (pc' := 20) rfl ?_
    refine n_go f_184_20 rfl (pc' := 21) rfl ?_
    refine n_go f_184_21 rfl (pc' := 22) rfl ?_
    refine n_go f_184_22 rfl (pc' := 23) rfl ?_
    refine n_go f_184_23 rfl (pc' := 24) rfl ?_
    refine n_go f_184_24 rfl (pc' := 25) rfl ?_
    refine n_cv (ls' := [_, _, _]) f_184_25 (by decide) m_176 rfl rfl (by assumption) rfl ?_
    refine c_conflictOf hT2 (by omega) (by omega) ?_
    show En V _ 184 28 _ [_, _, _, _] _ _
    refine n_cv (ls' := [_, _, _, _]) f_184_28 (by decide) m_160 rfl rfl (by assumption) rfl ?_
    refine c_setConflict hS2 hn (by omega) ?_
    show En V _ 184 31 _ [] _ _
    refine n_iinc (m' := 1) (ls' := [_, _, _, _]) f_184_31 rfl rfl rfl rfl ?_
    refine n_go f_184_34 rfl (pc' := 2) rfl ?_
    refine kk _ _ _ ⟨rfl, rfl, ?_⟩
    rw [← stK_s (w := fun k => vS T k n) ⟨h1, h2⟩]
  · rintro ls st h' ⟨rfl, rfl, rfl⟩
    refine n_go f_184_2 rfl (pc' := 3) rfl ?_
    refine n_go f_184_3 rfl (pc' := 4) (st' := .int (iI 5) :: _) rfl ?_
    refine n_ic_ge f_184_4 rfl rfl ⟨by omega, by omega⟩ (fun _ => ?_) (fun e9 => absurd (by omega) e9)
    refine n_ret f_184_37 rfl rfl ?_
    exact KK
theorem c_copyFrom (hS : St h a S) (hT : St h b T) (hd : a + 6 ≤ b ∨ b + 6 ≤ a) (KK : P (.inl none) (wS h a T)) : En V d 28 0 [some (.ref a), some (.ref b)] [] h P := by
  have sr := hS.2.2.2.2.2.2.1
  have tr := hT.2.2.2.2.2.2.1
  have hr1 : rS (T.1, S.2) := fun i => ⟨(tr i).1, (sr i).2⟩
  have hr2 : rS (T.1, T.2.1, S.2.2) := fun i => ⟨(tr i).1, (tr i).2.1, (sr i).2.2⟩
  have hr3 : rS (T.1, T.2.1, T.2.2.1, S.2.2.2) := fun i => tr i
  obtain ⟨s0, s1, s2, s3, s4, s5, -, sx⟩ := id hS
  obtain ⟨t0, t1, t2, t3, t4, t5, -, tx⟩ := id hT
  refine n_go f_28_0 rfl (pc' := 1) rfl ?_
  refine n_gf f_28_1 rfl (by assumption) rfl ?_
  refine n_go f_28_4 rfl (pc' := 5) (st' := .int (iI 0) :: _) rfl ?_
  refine n_go f_28_5 rfl (pc' := 6) rfl ?_
  refine n_gf f_28_6 rfl (by assumption) rfl ?_
  refine n_go f_28_9 rfl (pc' := 10) (st' := .int (iI 0) :: _) rfl ?_
  refine n_bip (m := 40) f_28_10 rfl (by decide) ?_
  refine n_cpI (n := 40) f_28_12 rfl (by assumption) (by assumption) (by decide) rfl ?_
  rw [wS_1 hS]
  have hS1 := wS_St hS hr1
  have hT1 : St (wS h a (T.1, S.2)) b T := wS_ne hT hd
  clear s0 s1 s2 s3 s4 s5 t0 t1 t2 t3 t4 t5
  obtain ⟨s0, s1, s2, s3, s4, s5, -, -⟩ := id hS1
  obtain ⟨t0, t1, t2, t3, t4, t5, -, -⟩ := id hT1
  refine n_go f_28_15 rfl (pc' := 16) rfl ?_
  refine n_gf f_28_16 rfl (by assumption) rfl ?_
  refine n_go f_28_19 rfl (pc' := 20) (st' := .int (iI 0) :: _) rfl ?_
  refine n_go f_28_20 rfl (pc' := 21) rfl ?_
  refine n_gf f_28_21 rfl (by assumption) rfl ?_
  refine n_go f_28_24 rfl (pc' := 25) (st' := .int (iI 0) :: _) rfl ?_
  refine n_bip (m := 40) f_28_25 rfl (by decide) ?_
  refine n_cpI (n := 40) f_28_27 rfl (by assumption) (by assumption) (by decide) rfl ?_
  rw [wS_2 hS1, wS_w]
  have hS2 := wS_St hS hr2
  have hT2 : St (wS h a (T.1, T.2.1, S.2.2)) b T := wS_ne hT hd
  clear s0 s1 s2 s3 s4 s5 t0 t1 t2 t3 t4 t5
  obtain ⟨s0, s1, s2, s3, s4, s5, -, -⟩ := id hS2
  obtain ⟨t0, t1, t2, t3, t4, t5, -, -⟩ := id hT2
  refine n_go f_28_30 rfl (pc' := 31) rfl ?_
  refine n_gf f_28_31 rfl (by assumption) rfl ?_
  refine n_go f_28_34 rfl (pc' := 35) (st' := .int (iI 0) :: _) rfl ?_
  refine n_go f_28_35 rfl (pc' := 36) rfl ?_
  refine n_gf f_28_36 rfl (by assumption) rfl ?_
  refine n_go f_28_39 rfl (pc' := 40) (st' := .int (iI 0) :: _) rfl ?_
  refine n_bip (m := 40) f_28_40 rfl (by decide) ?_
  refine n_cpI (n := 40) f_28_42 rfl (by assumption) (by assumption) (by decide) rfl ?_
  rw [wS_3 hS2, wS_w]
  have hS3 := wS_St hS hr3
  have hT3 : St (wS h a (T.1, T.2.1, T.2.2.1, S.2.2.2)) b T := wS_ne hT hd
  clear s0 s1 s2 s3 s4 s5 t0 t1 t2 t3 t4 t5
  obtain ⟨s0, s1, s2, s3, s4, s5, -, -⟩ := id hS3
  obtain ⟨t0, t1, t2, t3, t4, t5, -, -⟩ := id hT3
  refine n_go f_28_45 rfl (pc' := 46) rfl ?_
  refine n_gf f_28_46 rfl (by assumption) rfl ?_
  refine n_go f_28_49 rfl (pc' := 50) (st' := .int (iI 0) :: _) rfl ?_
  refine n_go f_28_50 rfl (pc' := 51) rfl ?_
  refine n_gf f_28_51 rfl (by assumption) rfl ?_
  refine n_go f_28_54 rfl (pc' := 55) (st' := .int (iI 0) :: _) rfl ?_
  refine n_sip (m := 200) f_28_55 rfl (by decide) ?_
  refine n_cpI (n := 200) f_28_58 rfl (by assumption) (by assumption) (by decide) rfl ?_
  rw [g_sf s4]
  refine n_go f_28_61 rfl (pc' := 62) rfl ?_
  refine n_gf f_28_62 rfl (by assumption) rfl ?_
  refine n_go f_28_65 rfl (pc' := 66) (st' := .int (iI 0) :: _) rfl ?_
  refine n_go f_28_66 rfl (pc' := 67) rfl ?_
  refine n_gf f_28_67 rfl (by assumption) rfl ?_
  refine n_go f_28_70 rfl (pc' := 71) (st' := .int (iI 0) :: _) rfl ?_
  refine n_bip (m := 120) f_28_71 rfl (by decide) ?_
  refine n_cpB (n := 120) f_28_73 rfl (by assumption) (by assumption) (by decide) rfl ?_
  rw [wS_5 hS3, wS_w]
  refine n_ret f_28_76 rfl rfl ?_
  exact KK
theorem c_seat (hS : St h a S) (hn : 0 ≤ n ∧ n < 40) (hv : -2 ≤ v ∧ v ≤ 1000) (hw : -2 ≤ w ∧ w ≤ 1000) (KK : P (.inl none) (wS h a (uz S.1 n v, uz S.2.1 n w, uz S.2.2.1 n (-1), S.2.2.2))) : En V (d + 1) 26 0 [some (.ref a), some (.int (iI n)), some (.int (iI v)), some (.int (iI w))] [] h P := by
  have sr := hS.2.2.2.2.2.2.1
  have hr1 : rS (uS S 0 n v) := uS_r sr hv
  have hr2 : rS (uS (uS S 0 n v) 1 n w) := uS_r hr1 hw
  have hS1 := wS_St hS hr1
  have hS2 := wS_St hS hr2
  have s0 := hS.1
  have s01 := hS1.1
  have s02 := hS2.1
  refine n_go f_26_0 rfl (pc' := 1) rfl ?_
  refine n_go f_26_1 rfl (pc' := 2) rfl ?_
  refine n_go f_26_2 rfl (pc' := 3) (st' := .int (iI 0) :: _) rfl ?_
  refine n_go f_26_3 rfl (pc' := 4) rfl ?_
  refine n_cv (ls' := [_, _, _, _]) f_26_4 (by decide) m_65 rfl rfl (by assumption) rfl ?_
  refine c_setValue (k := 0) hS hn (by omega) ?_
  show En V _ 26 7 _ [] _ _
  refine n_go f_26_7 rfl (pc' := 8) rfl ?_
  refine n_go f_26_8 rfl (pc' := 9) rfl ?_
  refine n_go f_26_9 rfl (pc' := 10) (st' := .int (iI 1) :: _) rfl ?_
  refine n_go f_26_10 rfl (pc' := 11) rfl ?_
  refine n_cv (ls' := [_, _, _, _]) f_26_11 (by decide) m_65 rfl rfl (by assumption) rfl ?_
  refine c_setValue (k := 1) hS1 hn (by omega) ?_
  show En V _ 26 14 _ [] _ _
  rw [wS_w]
  refine n_go f_26_14 rfl (pc' := 15) rfl ?_
  refine n_go f_26_15 rfl (pc' := 16) rfl ?_
  refine n_go f_26_16 rfl (pc' := 17) (st' := .int (iI 2) :: _) rfl ?_
  refine n_go f_26_17 rfl (pc' := 18) (st' := .int (iI (-1)) :: _) rfl ?_
  refine n_cv (ls' := [_, _, _, _]) f_26_18 (by decide) m_65 rfl rfl (by assumption) rfl ?_
  refine c_setValue (k := 2) hS2 hn (by omega) ?_
  show En V _ 26 21 _ [] _ _
  rw [wS_w]
  refine n_ret f_26_21 rfl rfl ?_
  exact KK
end CD
