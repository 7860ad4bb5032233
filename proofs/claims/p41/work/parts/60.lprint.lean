/-! The law's print of a state. -/
section LS
variable {V : ev_V} {d : Nat} {h : ev_H} {P : ev_O → ev_H → Prop} {A B C N M : Nat} {D X E F W : Int → Int} {o m m1 : Int} {dp : Int → Nat}
theorem c_lprint (hwd : h.2.1 = h.1.length) (hl : 92 ≤ h.1.length ∧ h.1.length < 1048576) (hB : Rw h B 8 E) (hm : E 0 = m ∧ 1 ≤ m ∧ m ≤ 10) (hm1 : E 1 = m1 ∧ 0 ≤ m1 ∧ m1 ≤ 10) (hD : Rw h A N D) (hX : Rw h M N X) (hF : Rw h C 10 F) {O : Nat} (hW : Rw h O 10 W) (hr : 0 ≤ o ∧ o + 10 ≤ N)
    (hdp : ∀ i, 0 ≤ i → i < m → lt D o i = true → dpO D o (dp i) i ∧ dp i ≤ 9) (hdk : ∀ i j, 0 ≤ i → i < m → 0 ≤ j → j < m → lt D o i = true → lk D o i j = true → dp j = dp i + 1)
    (hw : ∀ i q, 0 ≤ i → i < m → lt D o i = true → 0 ≤ q → q < cnI m1 (lu W X o i) → 0 ≤ wdF W X o i q m1.toNat) (hk : ∀ i q, 0 ≤ i → i < m → lt D o i = true → 0 ≤ q → q < cnI m (lk D o i) → 0 ≤ kdF D o i (decide (F i = 1)) q m.toNat)
    (KK : ∀ f : Int → Int64, (∀ i, 0 ≤ i → i < m → lt D o i = true → f i = lnp D X F W o m m1 f i) → P (.inl (some (.long (f 0)))) (ev_push h (aL 10 f) 10)) :
    En V (d + 2) 34 0 [some (.ref B), some (.ref A), some (.ref M), some (.int (iI o)), some (.ref C), some (.ref O), none, none, none, none] [] h P := by
  have sA : ∀ {a n : Nat} {Q : Int → Int} {c : ev_C}, Rw h a n Q → Rw (ev_push h c 10) a n Q := fun hR => ⟨g_pu hR.1, hR.2⟩
  have eL : ∀ f, (ev_push h (aL 10 f) 10).1[h.1.length]? = some (aL 10 f) := fun f => by
    have := g_pn (c := aL 10 f) (n := 10) hwd
    rw [hwd] at this
    exact this
  have bB := hB.2.2.1
  have lnc : ∀ i f v, 0 ≤ i → i < m → lt D o i = true → ∀ j, 0 ≤ j → j < m → lt D o j = true → dp i ≤ dp j → lnp D X F W o m m1 (uz f i v) j = lnp D X F W o m m1 f j := by
    intro i f v i1 i2 i3 j j1 j2 j3 j4
    unfold lnp
    rw [lkp_c (f := uz f i v) (g := f) _ (fun q hq => ?_)]
    have hq0 := cnI_r (p := lk D o j) (by omega : 0 ≤ m)
    have h1 := kdF_k m.toNat (hk j q j1 j2 j3 (by omega) (by omega))
    have h2 := hk j q j1 j2 j3 (by omega) (by omega)
    refine uz_ne _ _ (fun e => ?_)
    have h3 := hdk j _ j1 j2 h2 (by omega) j3 h1.1
    rw [e] at h3
    omega
  have key : ∀ r : Nat, r ≤ 10 → ∀ (f : Int → Int64) u8 u9, (∀ i, 0 ≤ i → i < m → lt D o i = true → r ≤ dp i → f i = lnp D X F W o m m1 f i) → En V (d + 2) 34 10 [some (.ref B), some (.ref A), some (.ref M), some (.int (iI o)), some (.ref C), some (.ref O), some (.ref h.1.length), some (.int (iI ((r : Int) - 1))), u8, u9] [] (ev_push h (aL 10 f) 10) P := by
    intro r
    induction r with
    | zero =>
      intro _ f u8 u9 hf
      refine n_go f_34_10 rfl (pc' := 12) rfl ?_
      refine n_if_lt f_34_12 rfl rfl (by omega) (fun _ => ?_) (fun e9 => absurd (by omega) e9)
      refine n_go f_34_257 rfl (pc' := 259) rfl ?_
      refine n_go f_34_259 rfl (pc' := 260) (st' := .int (iI 0) :: _) rfl ?_
      refine n_lal f_34_260 rfl (eL f) (by omega) ?_
      refine n_ret f_34_261 rfl rfl ?_
      exact KK f (fun i i1 i2 i3 => hf i i1 i2 i3 (by omega))
    | succ r ih =>
      intro hr1 f u8 u9 hf
      rw [show ((r + 1 : Nat) : Int) - 1 = r by omega]
      refine n_go f_34_10 rfl (pc' := 12) rfl ?_
      refine n_if_lt f_34_12 rfl rfl (by omega) (fun e9 => absurd e9 (by omega)) (fun _ => ?_)
      refine n_go f_34_15 rfl (pc' := 16) (st' := .int (iI 0) :: _) rfl ?_
      refine n_go f_34_16 rfl (pc' := 18) (ls' := [_, _, _, _, _, _, _, _, _, _]) rfl ?_
      refine n_for (lo := 0) (hi := m) (by omega) (fun i ls st h' => ∃ f, (∃ u9, ls = [some (.ref B), some (.ref A), some (.ref M), some (.int (iI o)), some (.ref C), some (.ref O), some (.ref h.1.length), some (.int (iI (r : Int))), some (.int (iI i)), u9]) ∧ st = [] ∧ h' = ev_push h (aL 10 f) 10 ∧ ∀ j, 0 ≤ j → j < m → lt D o j = true → (r + 1 ≤ dp j ∨ (dp j = r ∧ j < i)) → f j = lnp D X F W o m m1 f j) ⟨f, ⟨_, rfl⟩, rfl, rfl, fun j j1 j2 j3 j4 => hf j j1 j2 j3 (by omega)⟩ ?_ ?_
      · rintro i ls st h' i1 i2 ⟨f, ⟨u9, rfl⟩, rfl, rfl, hf⟩ kk
        have b1 := (sA (c := aL 10 f) hB).1
        have skip : ¬ (lt D o i = true ∧ dp i = r) → En V (d + 2) 34 245 [some (.ref B), some (.ref A), some (.ref M), some (.int (iI o)), some (.ref C), some (.ref O), some (.ref h.1.length), some (.int (iI (r : Int))), some (.int (iI i)), u9] [] (ev_push h (aL 10 f) 10) P := fun hn => by
          refine n_iinc (m' := 1) (ls' := [_, _, _, _, _, _, _, _, _, _]) f_34_245 rfl rfl rfl rfl ?_
          refine n_go f_34_248 rfl (pc' := 18) rfl ?_
          refine kk _ _ _ ⟨f, ⟨_, rfl⟩, rfl, rfl, fun j j1 j2 j3 j4 => hf j j1 j2 j3 ?_⟩
          rcases j4 with j4 | j4
          · exact Or.inl j4
          · by_cases hj : j = i
            · exact absurd ⟨hj ▸ j3, hj ▸ j4.1⟩ hn
            · exact Or.inr ⟨j4.1, by omega⟩
        refine n_go f_34_18 rfl (pc' := 20) rfl ?_
        refine n_go f_34_20 rfl (pc' := 21) rfl ?_
        refine n_go f_34_21 rfl (pc' := 22) (st' := .int (iI 0) :: _) rfl ?_
        refine n_ial f_34_22 rfl (b1) (by unfold ev_ext; omega) (by omega) ?_
        show En V _ _ 23 _ [.int (iI (E 0)), .int (iI i)] _ _
        rw [hm.1]
        refine n_ic_ge f_34_23 rfl rfl ⟨by omega, by omega⟩ (fun e9 => absurd e9 (by omega)) (fun _ => ?_)
        refine n_go f_34_26 rfl (pc' := 27) rfl ?_
        refine n_go f_34_27 rfl (pc' := 28) rfl ?_
        refine n_go f_34_28 rfl (pc' := 30) rfl ?_
        refine n_cs (ls' := [_, _, _]) f_34_30 (by decide) m_3 rfl rfl ?_
        refine c_lthere (sA hD) (by omega) ?_
        show En V _ 34 33 _ [_] _ _
        refine n_ib_eq f_34_33 rfl rfl (fun e1 => ?_) (fun e1 => ?_)
        · exact skip (fun q => absurd (q.1.symm.trans e1) (by decide))
        obtain ⟨⟨p1, p2, p3⟩, p4⟩ := hdp i i1 i2 e1
        refine n_go f_34_36 rfl (pc' := 37) rfl ?_
        refine n_go f_34_37 rfl (pc' := 38) rfl ?_
        refine n_go f_34_38 rfl (pc' := 40) rfl ?_
        refine n_cs (ls' := [_, _, _, _, _]) f_34_40 (by decide) m_86 rfl rfl ?_
        refine c_ldepth (sA hD) hr (dp i) p1 (by omega) p2 p3 ?_
        show En V _ 34 43 _ [_] _ _
        refine n_go f_34_43 rfl (pc' := 45) rfl ?_
        refine n_ic_ne f_34_45 rfl rfl ⟨by omega, by omega⟩ (fun e2 => ?_) (fun e2 => ?_)
        · exact skip (fun q => e2 (by rw [q.2]))
        have e3 : dp i = r := by have := Classical.not_not.mp e2; omega
        have hne : lk D o i i = false := by
          cases e : lk D o i i with
          | false => rfl
          | true => have := hdk i i i1 i2 i1 i2 e1 e; omega
        refine c_lpr1 (eL f) hl (sA hB) hm hm1 (sA hD) (sA hX) (sA hF) (sA hW) hr ⟨i1, i2⟩ (fun q q1 q2 => hw i q i1 i2 e1 q1 q2) (fun q q1 q2 => hk i q i1 i2 e1 q1 q2) hne (fun u9 => ?_)
        rw [set_push]
        refine n_iinc (m' := 1) (ls' := [_, _, _, _, _, _, _, _, _, _]) f_34_245 rfl rfl rfl rfl ?_
        refine n_go f_34_248 rfl (pc' := 18) rfl ?_
        refine kk _ _ _ ⟨_, ⟨_, rfl⟩, rfl, rfl, fun j j1 j2 j3 j4 => ?_⟩
        by_cases hj : j = i
        · rw [hj, uz_same, lnc i f _ i1 i2 e1 i i1 i2 e1 (Nat.le_refl _)]
        · rw [uz_ne _ _ hj, lnc i f _ i1 i2 e1 j j1 j2 j3 (by omega)]
          exact hf j j1 j2 j3 (by omega)
      · rintro ls st h' ⟨f, ⟨u9, rfl⟩, rfl, rfl, hf⟩
        have b1 := (sA (c := aL 10 f) hB).1
        refine n_go f_34_18 rfl (pc' := 20) rfl ?_
        refine n_go f_34_20 rfl (pc' := 21) rfl ?_
        refine n_go f_34_21 rfl (pc' := 22) (st' := .int (iI 0) :: _) rfl ?_
        refine n_ial f_34_22 rfl (b1) (by unfold ev_ext; omega) (by omega) ?_
        show En V _ _ 23 _ [.int (iI (E 0)), .int (iI m)] _ _
        rw [hm.1]
        refine n_ic_ge f_34_23 rfl rfl ⟨by omega, by omega⟩ (fun _ => ?_) (fun e9 => absurd (by omega) e9)
        refine n_iinc (m' := (-1)) (ls' := [_, _, _, _, _, _, _, _, _, _]) f_34_251 rfl rfl rfl rfl ?_
        refine n_go f_34_254 rfl (pc' := 10) rfl ?_
        exact ih (by omega) f _ _ (fun j j1 j2 j3 j4 => hf j j1 j2 j3 (by omega))
  refine n_bip (m := 10) f_34_0 rfl (by decide) ?_
  refine n_nal f_34_2 rfl (by omega) (hwd) ?_
  refine n_go f_34_4 rfl (pc' := 6) (ls' := [_, _, _, _, _, _, _, _, _, _]) rfl ?_
  refine n_bip (m := 9) f_34_6 rfl (by decide) ?_
  refine n_go f_34_8 rfl (pc' := 10) (ls' := [_, _, _, _, _, _, _, _, _, _]) rfl ?_
  exact key 10 (by decide) (fun _ => 0) none none (fun i i1 i2 i3 i4 => by have := (hdp i i1 i2 i3).2; omega)
end LS
