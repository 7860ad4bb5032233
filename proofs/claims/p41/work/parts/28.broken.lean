/-! The rules that count in a row: twins and crowds; the lowest broken rule. -/
def twn (K : dK) (S : dS) (i j : Int) : Prop := hold K S i = hold K S j ∧ 0 ≤ hold K S i ∧ kK K (hold K S i) = 1 ∧ S.2.1 i = S.2.1 j
theorem bit_0 {n t : Nat} (h : ((n &&& 2 ^ t : Nat) : Int) = 0) : n.testBit t = false := by
  have h1 : n &&& 2 ^ t = 0 := by omega
  have h2 : (n &&& 2 ^ t).testBit t = false := by rw [h1]; exact Nat.zero_testBit t
  rw [Nat.testBit_and, Nat.testBit_two_pow_self, Bool.and_true] at h2
  exact h2
theorem bit_1 {n t : Nat} (h : ¬ ((n &&& 2 ^ t : Nat) : Int) = 0) : n.testBit t = true := by
  cases e : n.testBit t with
  | true => rfl
  | false =>
    refine absurd ?_ h
    have : n &&& 2 ^ t = 0 := by
      apply Nat.eq_of_testBit_eq
      intro i
      rw [Nat.testBit_and, Nat.zero_testBit, Nat.testBit_two_pow]
      by_cases hi : t = i
      · subst hi; rw [e]; rfl
      · rw [decide_eq_false hi, Bool.and_false]
    omega
section CB
variable {V : ev_V} {d : Nat} {h : ev_H} {P : ev_O → ev_H → Prop} {a : Nat} {S : dS} {K : dK} {t0 : Int → Int}
theorem c_hasTwins (hK : Sk h K) (hS : St h a S) (ht : h.1[11]? = some (aI 40 t0)) (hg : ∀ i, 0 ≤ i → i < 40 → 0 ≤ hold K S i → 0 ≤ S.2.1 i ∧ S.2.1 i < 10) (K1 : ∀ i j f, 0 ≤ i → i < j → j < 40 → twn K S i j → P (.inl (some (.int (iI 1)))) (ev_set h 11 (aI 40 f))) (K2 : (∀ i j, 0 ≤ i → i < j → j < 40 → ¬ twn K S i j) → ∀ f, P (.inl (some (.int (iI 0)))) (ev_set h 11 (aI 40 f))) : En V (d + 2) 143 0 [some (.ref 10), some (.ref a), none, none, none] [] h P := by
  have k10 := hK.2.2.2.2.2.2.2.2.2.1
  have kr := hK.2.2.2.2.2.2.2.2.2.2
  refine n_go f_143_0 rfl (pc' := 1) rfl ?_
  refine n_gf f_143_1 rfl (by assumption) rfl ?_
  refine n_go f_143_4 rfl (pc' := 5) (st' := .int (iI 0) :: _) rfl ?_
  refine n_cs (ls' := [_, _, _, _]) f_143_5 (by decide) m_64 rfl rfl ?_
  refine c_fill ht (by decide) (by decide) ?_
  show En V _ 143 8 _ [] _ _
  refine n_go f_143_8 rfl (pc' := 9) (st' := .int (iI 0) :: _) rfl ?_
  refine n_go f_143_9 rfl (pc' := 10) (ls' := [_, _, _, _, _]) rfl ?_
  refine n_for (lo := 0) (hi := 40) (by decide) (fun i ls st h' => (∃ u v, ls = [some (.ref 10), some (.ref a), some (.int (iI i)), u, v]) ∧ st = [] ∧ ∃ B : Int → Nat, h' = ev_set h 11 (aI 40 (fun j => (B j : Int))) ∧ (∀ j, B j < 1024) ∧ (∀ (j : Int) (g : Nat), 0 ≤ j → j < 40 → ((B j).testBit g = true ↔ ∃ i', 0 ≤ i' ∧ i' < i ∧ hold K S i' = j ∧ S.2.1 i' = g ∧ kK K j = 1)) ∧ ∀ i' j, 0 ≤ i' → i' < j → j < i → ¬ twn K S i' j) ⟨⟨_, _, rfl⟩, rfl, fun _ => 0, rfl, fun _ => (by show (0 : Nat) < 1024; decide), fun j g h1 h2 => ⟨fun q => (by rw [Nat.zero_testBit] at q; cases q), fun ⟨i', q1, q2, _⟩ => absurd q2 (by omega)⟩, fun i' j h1 h2 h3 => absurd h3 (by omega)⟩ ?_ ?_
  · rintro i ls st h' h1 h2 ⟨⟨u, v, rfl⟩, rfl, B, rfl, hB, hbit, hno⟩ kk
    have ht' : (ev_set h 11 (aI 40 (fun j => (B j : Int)))).1[11]? = some (aI 40 (fun j => (B j : Int))) := g_eq ht
    have hK' : Sk (ev_set h 11 (aI 40 (fun j => (B j : Int)))) K := hK.set (by decide)
    have hS' : St (ev_set h 11 (aI 40 (fun j => (B j : Int)))) a S := hS.set (by have := hS.2.2.2.2.2.2.2; omega)
    have k10 := hK'.2.2.2.2.2.2.2.2.2.1
    have k1 := hK'.1
    have s0 := hS'.1
    have hr := hold_r kr S i
    -- a step that notes nothing
    have skip : (¬ (0 ≤ hold K S i ∧ kK K (hold K S i) = 1)) → (∀ (j : Int) (g : Nat), 0 ≤ j → j < 40 → ((B j).testBit g = true ↔ ∃ i', 0 ≤ i' ∧ i' < i + 1 ∧ hold K S i' = j ∧ S.2.1 i' = g ∧ kK K j = 1)) ∧ ∀ i' j, 0 ≤ i' → i' < j → j < i + 1 → ¬ twn K S i' j := by
      intro hn
      refine ⟨fun j g g1 g2 => (hbit j g g1 g2).trans ⟨fun ⟨i', q1, q2, q3⟩ => ⟨i', q1, by omega, q3⟩, fun ⟨i', q1, q2, q3, q4, q5⟩ => ⟨i', q1, ?_, q3, q4, q5⟩⟩, fun i' j g1 g2 g3 => ?_⟩
      · by_cases hi : i' = i
        · subst hi; exact absurd ⟨by omega, by rw [q3]; exact q5⟩ hn
        · omega
      · by_cases hj : j = i
        · subst hj
          rintro ⟨q1, q2, q3, q4⟩
          exact hn ⟨by omega, by rw [← q1]; exact q3⟩
        · exact hno i' j g1 g2 (by omega)
    refine n_go f_143_10 rfl (pc' := 11) rfl ?_
    refine n_bip (m := 40) f_143_11 rfl (by decide) ?_
    refine n_ic_ge f_143_13 rfl rfl ⟨by omega, by omega⟩ (fun e9 => absurd e9 (by omega)) (fun _ => ?_)
    refine n_go f_143_16 rfl (pc' := 17) rfl ?_
    refine n_go f_143_17 rfl (pc' := 18) rfl ?_
    refine n_go f_143_18 rfl (pc' := 19) rfl ?_
    refine n_cv (ls' := [_, _, _]) f_143_19 (by decide) m_122 rfl rfl (by assumption) rfl ?_
    refine c_holderIn hK' hS' (by omega) ?_
    show En V _ 143 22 _ [_] _ _
    refine n_go f_143_22 rfl (pc' := 23) (ls' := [_, _, _, _, _]) rfl ?_
    refine n_go f_143_23 rfl (pc' := 24) rfl ?_
    refine n_if_lt f_143_24 rfl rfl (by omega) (fun e => ?_) (fun e => ?_)
    · obtain ⟨s1, s2⟩ := skip (by omega)
      refine n_iinc (m' := 1) (ls' := [_, _, _, _, _]) f_143_79 rfl rfl rfl rfl ?_
      refine n_go f_143_82 rfl (pc' := 10) rfl ?_
      exact kk _ _ _ ⟨⟨_, _, rfl⟩, rfl, B, rfl, hB, s1, s2⟩
    refine n_go f_143_27 rfl (pc' := 28) rfl ?_
    refine n_bip (m := 40) f_143_28 rfl (by decide) ?_
    refine n_ic_ge f_143_30 rfl rfl ⟨by omega, by omega⟩ (fun e9 => absurd e9 (by omega)) (fun _ => ?_)
    refine n_go f_143_33 rfl (pc' := 34) rfl ?_
    refine n_gf f_143_34 rfl (by assumption) rfl ?_
    refine n_go f_143_37 rfl (pc' := 38) rfl ?_
    refine n_cv (ls' := [_, _]) f_143_38 (by decide) m_108 rfl rfl (by assumption) rfl ?_
    refine c_kindOf hK' (by omega) ?_
    show En V _ 143 41 _ [_] _ _
    have kkr := kr.2.2.2.1 (hold K S i)
    refine n_go f_143_41 rfl (pc' := 42) (st' := .int (iI 1) :: _) rfl ?_
    refine n_ic_ne f_143_42 rfl rfl ⟨by omega, by omega⟩ (fun e2 => ?_) (fun e2 => ?_)
    · obtain ⟨s1, s2⟩ := skip (fun q => e2 q.2)
      refine n_iinc (m' := 1) (ls' := [_, _, _, _, _]) f_143_79 rfl rfl rfl rfl ?_
      refine n_go f_143_82 rfl (pc' := 10) rfl ?_
      exact kk _ _ _ ⟨⟨_, _, rfl⟩, rfl, B, rfl, hB, s1, s2⟩
    have e2 : kK K (hold K S i) = 1 := by omega
    have eg := hg i h1 h2 (by omega)
    have et : gS S.2.1 i = S.2.1 i := if_pos ⟨h1, h2⟩
    refine n_go f_143_45 rfl (pc' := 46) (st' := .int (iI 1) :: _) rfl ?_
    refine n_go f_143_46 rfl (pc' := 47) rfl ?_
    refine n_go f_143_47 rfl (pc' := 48) rfl ?_
    refine n_cv (ls' := [_, _]) f_143_48 (by decide) m_107 rfl rfl (by assumption) rfl ?_
    refine c_tagOf hS' (by omega) ?_
    show En V _ 143 51 _ [_, _] _ _
    rw [et]
    have q9 : B (hold K S i) &&& 2 ^ (S.2.1 i).toNat < 1024 := Nat.lt_of_le_of_lt Nat.and_le_left (hB _)
    refine n_ish1 f_143_51 rfl (by omega) ?_
    refine n_go f_143_52 rfl (pc' := 54) (ls' := [_, _, _, _, _]) rfl ?_
    refine n_go f_143_54 rfl (pc' := 55) rfl ?_
    refine n_gf f_143_55 rfl (by assumption) rfl ?_
    refine n_go f_143_58 rfl (pc' := 59) rfl ?_
    refine n_ial f_143_59 rfl (by assumption) (by unfold ev_ext; omega) (by omega) ?_
    refine n_go f_143_60 rfl (pc' := 62) rfl ?_
    refine n_ian f_143_62 rfl ?_
    refine n_if_eq f_143_63 rfl rfl (by omega) (fun e3 => ?_) (fun e3 => ?_)
    · -- not noted yet
      have e3 := bit_0 e3
      refine n_go f_143_68 rfl (pc' := 69) rfl ?_
      refine n_gf f_143_69 rfl (by assumption) rfl ?_
      refine n_go f_143_72 rfl (pc' := 73) rfl ?_
      refine n_go f_143_73 rfl (pc' := 74) rfl ?_
      refine n_ial f_143_74 rfl (by assumption) (by unfold ev_ext; omega) (by omega) ?_
      refine n_go f_143_75 rfl (pc' := 77) rfl ?_
      refine n_iot f_143_77 rfl ?_
      refine n_ias f_143_78 rfl (by assumption) (by omega) ?_
      refine n_iinc (m' := 1) (ls' := [_, _, _, _, _]) f_143_79 rfl rfl rfl rfl ?_
      refine n_go f_143_82 rfl (pc' := 10) rfl ?_
      refine kk _ _ _ ⟨⟨_, _, rfl⟩, rfl, fun j => if j = hold K S i then B (hold K S i) ||| 2 ^ (S.2.1 i).toNat else B j, ?_, ?_, ?_, ?_⟩
      · rw [g_ss]
        congr 1
        refine aI_congr (fun j _ _ => ?_)
        unfold uz
        dsimp only
        by_cases hj : j = hold K S i
        · rw [if_pos hj, if_pos hj]
        · rw [if_neg hj, if_neg hj]
      · intro j
        dsimp only
        split
        · exact Nat.or_lt_two_pow (n := 10) (hB _) (Nat.pow_lt_pow_right (by decide) (by omega))
        · exact hB j
      · intro j g g1 g2
        dsimp only
        by_cases hj : j = hold K S i
        · subst hj
          rw [if_pos rfl, Nat.testBit_or, Nat.testBit_two_pow, Bool.or_eq_true, decide_eq_true_eq, hbit _ g g1 g2]
          constructor
          · rintro (⟨i', q1, q2, q3⟩ | q)
            · exact ⟨i', q1, by omega, q3⟩
            · exact ⟨i, h1, by omega, rfl, by omega, e2⟩
          · rintro ⟨i', q1, q2, q3, q4, q5⟩
            by_cases hi : i' = i
            · subst hi; exact Or.inr (by omega)
            · exact Or.inl ⟨i', q1, by omega, q3, q4, q5⟩
        · rw [if_neg hj, hbit j g g1 g2]
          refine ⟨fun ⟨i', q1, q2, q3⟩ => ⟨i', q1, by omega, q3⟩, fun ⟨i', q1, q2, q3, q4, q5⟩ => ⟨i', q1, ?_, q3, q4, q5⟩⟩
          by_cases hi : i' = i
          · subst hi; exact absurd q3.symm hj
          · omega
      · intro i' j g1 g2 g3
        by_cases hj : j = i
        · subst hj
          rintro ⟨q1, q2, q3, q4⟩
          have : (B (hold K S j)).testBit (S.2.1 j).toNat = true := (hbit _ _ (by omega) hr.2).mpr ⟨i', g1, g2, q1, by omega, by rw [← q1]; exact q3⟩
          rw [e3] at this
          cases this
        · exact hno i' j g1 g2 (by omega)
    have e3 := bit_1 e3
    obtain ⟨i', q1, q2, q3, q4, q5⟩ := (hbit _ _ (by omega) hr.2).mp e3
    refine n_go f_143_66 rfl (pc' := 67) (st' := .int (iI 1) :: _) rfl ?_
    first | refine n_rt0 f_143_67 rfl ?_ | refine n_rt1 f_143_67 rfl ?_ | refine n_rtz f_143_67 rfl ?_
    exact K1 i' i _ q1 q2 h2 ⟨q3, by omega, by rw [q3]; exact q5, by omega⟩
  · rintro ls st h' ⟨⟨u, v, rfl⟩, rfl, B, rfl, hB, hbit, hno⟩
    refine n_go f_143_10 rfl (pc' := 11) rfl ?_
    refine n_bip (m := 40) f_143_11 rfl (by decide) ?_
    refine n_ic_ge f_143_13 rfl rfl ⟨by omega, by omega⟩ (fun _ => ?_) (fun e9 => absurd (by omega) e9)
    refine n_go f_143_85 rfl (pc' := 86) (st' := .int (iI 0) :: _) rfl ?_
    first | refine n_rt0 f_143_86 rfl ?_ | refine n_rt1 f_143_86 rfl ?_ | refine n_rtz f_143_86 rfl ?_
    exact K2 (fun i j g1 g2 g3 => hno i j g1 g2 g3) _
theorem c_isCrowded (hK : Sk h K) (hS : St h a S) (ht : h.1[11]? = some (aI 40 t0)) (K1 : ∀ j f, 0 ≤ j → j < 40 → 8 < cnI 40 (fun i => decide (hold K S i = j)) → P (.inl (some (.int (iI 1)))) (ev_set h 11 (aI 40 f))) (K2 : (∀ j, 0 ≤ j → j < 40 → cnI 40 (fun i => decide (hold K S i = j)) ≤ 8) → ∀ f, P (.inl (some (.int (iI 0)))) (ev_set h 11 (aI 40 f))) : En V (d + 2) 145 0 [some (.ref 10), some (.ref a), none, none] [] h P := by
  have k10 := hK.2.2.2.2.2.2.2.2.2.1
  have kr := hK.2.2.2.2.2.2.2.2.2.2
  have mono : ∀ (p : Int → Bool) (i : Int), 0 ≤ i → cnI i p ≤ cnI (i + 1) p := by
    intro p i hi
    cases e : p i with
    | true => rw [cnI_t hi e]; omega
    | false => rw [cnI_f hi e]; omega
  have mono40 : ∀ (p : Int → Bool) (n : Nat) (i : Int), 0 ≤ i → cnI i p ≤ cnI (i + n) p := by
    intro p n
    induction n with
    | zero => intro i hi; rw [Int.natCast_zero, Int.add_zero]; exact Int.le_refl _
    | succ n ih => intro i hi; have h1 := ih i hi; have h2 := mono p (i + n) (by omega); rw [show i + ((n + 1 : Nat) : Int) = i + n + 1 by omega]; omega
  refine n_go f_145_0 rfl (pc' := 1) rfl ?_
  refine n_gf f_145_1 rfl (by assumption) rfl ?_
  refine n_go f_145_4 rfl (pc' := 5) (st' := .int (iI 0) :: _) rfl ?_
  refine n_cs (ls' := [_, _, _, _]) f_145_5 (by decide) m_64 rfl rfl ?_
  refine c_fill ht (by decide) (by decide) ?_
  show En V _ 145 8 _ [] _ _
  refine n_go f_145_8 rfl (pc' := 9) (st' := .int (iI 0) :: _) rfl ?_
  refine n_go f_145_9 rfl (pc' := 10) (ls' := [_, _, _, _]) rfl ?_
  refine n_for (lo := 0) (hi := 40) (by decide) (fun i ls st h' => (∃ u, ls = [some (.ref 10), some (.ref a), some (.int (iI i)), u]) ∧ st = [] ∧ h' = ev_set h 11 (aI 40 (fun j => cnI i (fun k => decide (hold K S k = j)))) ∧ ∀ j, 0 ≤ j → j < 40 → cnI i (fun k => decide (hold K S k = j)) ≤ 8) ⟨⟨_, rfl⟩, rfl, rfl, fun j _ _ => by show (0 : Int) ≤ 8; decide⟩ ?_ ?_
  · rintro i ls st h' h1 h2 ⟨⟨u, rfl⟩, rfl, rfl, hno⟩ kk
    have ht' : (ev_set h 11 (aI 40 (fun j => cnI i (fun k => decide (hold K S k = j))))).1[11]? = some (aI 40 (fun j => cnI i (fun k => decide (hold K S k = j)))) := g_eq ht
    have hK' : Sk (ev_set h 11 (aI 40 (fun j => cnI i (fun k => decide (hold K S k = j))))) K := hK.set (by decide)
    have hS' : St (ev_set h 11 (aI 40 (fun j => cnI i (fun k => decide (hold K S k = j))))) a S := hS.set (by have := hS.2.2.2.2.2.2.2; omega)
    have k10 := hK'.2.2.2.2.2.2.2.2.2.1
    have hr := hold_r kr S i
    have hf : ∀ j, ¬ hold K S i = j → cnI (i + 1) (fun k => decide (hold K S k = j)) = cnI i (fun k => decide (hold K S k = j)) := fun j q => cnI_f h1 (decide_eq_false q)
    have htt : cnI (i + 1) (fun k => decide (hold K S k = hold K S i)) = cnI i (fun k => decide (hold K S k = hold K S i)) + 1 := cnI_t h1 (decide_eq_true rfl)
    have hcr := cnI_r (p := fun k => decide (hold K S k = hold K S i)) h1
    refine n_go f_145_10 rfl (pc' := 11) rfl ?_
    refine n_bip (m := 40) f_145_11 rfl (by decide) ?_
    refine n_ic_ge f_145_13 rfl rfl ⟨by omega, by omega⟩ (fun e9 => absurd e9 (by omega)) (fun _ => ?_)
    refine n_go f_145_16 rfl (pc' := 17) rfl ?_
    refine n_go f_145_17 rfl (pc' := 18) rfl ?_
    refine n_go f_145_18 rfl (pc' := 19) rfl ?_
    refine n_cv (ls' := [_, _, _]) f_145_19 (by decide) m_122 rfl rfl (by assumption) rfl ?_
    refine c_holderIn hK' hS' (by omega) ?_
    show En V _ 145 22 _ [_] _ _
    refine n_go f_145_22 rfl (pc' := 23) (ls' := [_, _, _, _]) rfl ?_
    refine n_go f_145_23 rfl (pc' := 24) rfl ?_
    refine n_if_lt f_145_24 rfl rfl (by omega) (fun e => ?_) (fun e => ?_)
    · refine n_iinc (m' := 1) (ls' := [_, _, _, _]) f_145_56 rfl rfl rfl rfl ?_
      refine n_go f_145_59 rfl (pc' := 10) rfl ?_
      refine kk _ _ _ ⟨⟨_, rfl⟩, rfl, ?_, fun j g1 g2 => by rw [hf j (by omega)]; exact hno j g1 g2⟩
      congr 1
      exact aI_congr (fun j g1 g2 => (hf j (by omega)).symm)
    refine n_go f_145_27 rfl (pc' := 28) rfl ?_
    refine n_bip (m := 40) f_145_28 rfl (by decide) ?_
    refine n_ic_ge f_145_30 rfl rfl ⟨by omega, by omega⟩ (fun e9 => absurd e9 (by omega)) (fun _ => ?_)
    refine n_go f_145_33 rfl (pc' := 34) rfl ?_
    refine n_gf f_145_34 rfl (by assumption) rfl ?_
    refine n_go f_145_37 rfl (pc' := 38) rfl ?_
    refine n_go f_145_38 rfl (pc' := 39) rfl ?_
    refine n_ial f_145_39 rfl (by assumption) (by unfold ev_ext; omega) (by omega) ?_
    refine n_go f_145_40 rfl (pc' := 41) (st' := .int (iI 1) :: _) rfl ?_
    refine n_iadd f_145_41 rfl ?_
    refine n_ias f_145_42 rfl (by assumption) (by omega) ?_
    have hc2 : (ev_set (ev_set h 11 (aI 40 (fun j => cnI i (fun k => decide (hold K S k = j))))) 11 (aI 40 (uz (fun j => cnI i (fun k => decide (hold K S k = j))) (hold K S i) (cnI i (fun k => decide (hold K S k = hold K S i)) + 1)))) = ev_set h 11 (aI 40 (fun j => cnI (i + 1) (fun k => decide (hold K S k = j)))) := by
      rw [g_ss]
      congr 1
      refine aI_congr (fun j g1 g2 => ?_)
      unfold uz
      by_cases hj : j = hold K S i
      · rw [if_pos hj, hj, htt]
      · rw [if_neg hj, hf j (fun q => hj q.symm)]
    rw [hc2]
    have ht2 : (ev_set h 11 (aI 40 (fun j => cnI (i + 1) (fun k => decide (hold K S k = j))))).1[11]? = some (aI 40 (fun j => cnI (i + 1) (fun k => decide (hold K S k = j)))) := g_eq ht
    have k10' : (ev_set h 11 (aI 40 (fun j => cnI (i + 1) (fun k => decide (hold K S k = j))))).1[10]? = _ := (hK.set (by decide)).2.2.2.2.2.2.2.2.2.1
    have hcr2 := cnI_r (p := fun k => decide (hold K S k = hold K S i)) (i := i + 1) (by omega)
    refine n_go f_145_43 rfl (pc' := 44) rfl ?_
    refine n_gf f_145_44 rfl (by assumption) rfl ?_
    refine n_go f_145_47 rfl (pc' := 48) rfl ?_
    refine n_ial f_145_48 rfl (by assumption) (by unfold ev_ext; omega) (by omega) ?_
    refine n_bip (m := 8) f_145_49 rfl (by decide) ?_
    refine n_ic_le f_145_51 rfl rfl ⟨by omega, by omega⟩ (fun e3 => ?_) (fun e3 => ?_)
    · refine n_iinc (m' := 1) (ls' := [_, _, _, _]) f_145_56 rfl rfl rfl rfl ?_
      refine n_go f_145_59 rfl (pc' := 10) rfl ?_
      refine kk _ _ _ ⟨⟨_, rfl⟩, rfl, rfl, fun j g1 g2 => ?_⟩
      by_cases hj : j = hold K S i
      · rw [hj]; exact e3
      · rw [hf j (fun q => hj q.symm)]; exact hno j g1 g2
    refine n_go f_145_54 rfl (pc' := 55) (st' := .int (iI 1) :: _) rfl ?_
    first | refine n_rt0 f_145_55 rfl ?_ | refine n_rt1 f_145_55 rfl ?_ | refine n_rtz f_145_55 rfl ?_
    have m9 := mono40 (fun k => decide (hold K S k = hold K S i)) (40 - (i + 1)).toNat (i + 1) (by omega)
    rw [show i + 1 + (((40 - (i + 1)).toNat : Nat) : Int) = 40 by omega] at m9
    exact K1 (hold K S i) _ (by omega) hr.2 (by omega)
  · rintro ls st h' ⟨⟨u, rfl⟩, rfl, rfl, hno⟩
    refine n_go f_145_10 rfl (pc' := 11) rfl ?_
    refine n_bip (m := 40) f_145_11 rfl (by decide) ?_
    refine n_ic_ge f_145_13 rfl rfl ⟨by omega, by omega⟩ (fun _ => ?_) (fun e9 => absurd (by omega) e9)
    refine n_go f_145_62 rfl (pc' := 63) (st' := .int (iI 0) :: _) rfl ?_
    first | refine n_rt0 f_145_63 rfl ?_ | refine n_rt1 f_145_63 rfl ?_ | refine n_rtz f_145_63 rfl ?_
    exact K2 hno _
/-- a state that keeps all rules -/
def okS (K : dK) (S : dS) : Prop := (∀ i j, 0 ≤ i → i < j → j < 40 → ¬ twn K S i j) ∧ (∀ i, 0 ≤ i → i < 40 → 0 ≤ S.2.2.1 i → hs S (S.2.2.1 i) = true) ∧ (∀ j, 0 ≤ j → j < 40 → cnI 40 (fun i => decide (hold K S i = j)) ≤ 8) ∧ (∀ i, 0 ≤ i → i < 40 → dpF (hs S) (hold K S) 40 0 i ≤ 8) ∧ (∀ i, 0 ≤ i → i < 40 → hs S i = true → ¬ dpF (hs S) (hold K S) 40 0 i = -1)
theorem c_brokenRule (hK : Sk h K) (hS : St h a S) (ht : h.1[11]? = some (aI 40 t0)) (hg : ∀ i, 0 ≤ i → i < 40 → 0 ≤ hold K S i → 0 ≤ S.2.1 i ∧ S.2.1 i < 10) (K1 : ∀ r f, 1 ≤ r → r ≤ 5 → ¬ okS K S → P (.inl (some (.int (iI r)))) (ev_set h 11 (aI 40 f))) (K2 : okS K S → ∀ f, P (.inl (some (.int (iI 0)))) (ev_set h 11 (aI 40 f))) : En V (d + 4) 93 0 [some (.ref 10), some (.ref a)] [] h P := by
  have k10 := hK.2.2.2.2.2.2.2.2.2.1
  have hsx := hS.2.2.2.2.2.2.2
  refine n_go f_93_0 rfl (pc' := 1) rfl ?_
  refine n_go f_93_1 rfl (pc' := 2) rfl ?_
  refine n_cv (ls' := [_, _, _, _, _]) f_93_2 (by decide) m_143 rfl rfl (by assumption) rfl ?_
  refine c_hasTwins hK hS ht hg (fun i j f q1 q2 q3 q4 => ?_) (fun o1 f => ?_)
  · show En V _ 93 5 _ [_] _ _
    refine n_if_eq f_93_5 rfl rfl (by omega) (fun e9 => absurd e9 (by omega)) (fun _ => ?_)
    refine n_go f_93_8 rfl (pc' := 9) (st' := .int (iI 1) :: _) rfl ?_
    refine n_ret f_93_9 rfl rfl ?_
    exact K1 1 f (by decide) (by decide) (fun o => o.1 i j q1 q2 q3 q4)
  have hK1 : Sk (ev_set h 11 (aI 40 f)) K := hK.set (by decide)
  have hS1 : St (ev_set h 11 (aI 40 f)) a S := hS.set (by omega)
  have k11 := hK1.2.2.2.2.2.2.2.2.2.1
  have ht1 : (ev_set h 11 (aI 40 f)).1[11]? = some (aI 40 f) := g_eq ht
  show En V _ 93 5 _ [_] _ _
  refine n_if_eq f_93_5 rfl rfl (by omega) (fun _ => ?_) (fun e9 => absurd (by omega) e9)
  refine n_go f_93_10 rfl (pc' := 11) rfl ?_
  refine n_go f_93_11 rfl (pc' := 12) rfl ?_
  refine n_cv (ls' := [_, _, _, _]) f_93_12 (by decide) m_144 rfl rfl (by assumption) rfl ?_
  refine c_hasLooseAim hS1 (fun i q1 q2 q3 q4 => ?_) (fun o2 => ?_)
  · show En V _ 93 15 _ [_] _ _
    refine n_if_eq f_93_15 rfl rfl (by omega) (fun e9 => absurd e9 (by omega)) (fun _ => ?_)
    refine n_go f_93_18 rfl (pc' := 19) (st' := .int (iI 2) :: _) rfl ?_
    refine n_ret f_93_19 rfl rfl ?_
    exact K1 2 f (by decide) (by decide) (fun o => by have := o.2.1 i q1 q2 q3; rw [q4] at this; cases this)
  show En V _ 93 15 _ [_] _ _
  refine n_if_eq f_93_15 rfl rfl (by omega) (fun _ => ?_) (fun e9 => absurd (by omega) e9)
  refine n_go f_93_20 rfl (pc' := 21) rfl ?_
  refine n_go f_93_21 rfl (pc' := 22) rfl ?_
  refine n_cv (ls' := [_, _, _, _]) f_93_22 (by decide) m_145 rfl rfl (by assumption) rfl ?_
  refine c_isCrowded hK1 hS1 ht1 (fun j f2 q1 q2 q3 => ?_) (fun o3 f2 => ?_)
  · show En V _ 93 25 _ [_] _ _
    rw [g_ss]
    refine n_if_eq f_93_25 rfl rfl (by omega) (fun e9 => absurd e9 (by omega)) (fun _ => ?_)
    refine n_go f_93_28 rfl (pc' := 29) (st' := .int (iI 3) :: _) rfl ?_
    refine n_ret f_93_29 rfl rfl ?_
    exact K1 3 f2 (by decide) (by decide) (fun o => by have := o.2.2.1 j q1 q2; omega)
  rw [g_ss]
  have hK2 : Sk (ev_set h 11 (aI 40 f2)) K := hK.set (by decide)
  have hS2 : St (ev_set h 11 (aI 40 f2)) a S := hS.set (by omega)
  have k12 := hK2.2.2.2.2.2.2.2.2.2.1
  show En V _ 93 25 _ [_] _ _
  refine n_if_eq f_93_25 rfl rfl (by omega) (fun _ => ?_) (fun e9 => absurd (by omega) e9)
  refine n_go f_93_30 rfl (pc' := 31) rfl ?_
  refine n_go f_93_31 rfl (pc' := 32) rfl ?_
  refine n_cv (ls' := [_, _, _]) f_93_32 (by decide) m_146 rfl rfl (by assumption) rfl ?_
  refine c_isTooDeep hK2 hS2 (fun i q1 q2 q3 => ?_) (fun o4 => ?_)
  · show En V _ 93 35 _ [_] _ _
    refine n_if_eq f_93_35 rfl rfl (by omega) (fun e9 => absurd e9 (by omega)) (fun _ => ?_)
    refine n_go f_93_38 rfl (pc' := 39) (st' := .int (iI 4) :: _) rfl ?_
    refine n_ret f_93_39 rfl rfl ?_
    exact K1 4 f2 (by decide) (by decide) (fun o => by have := o.2.2.2.1 i q1 q2; omega)
  show En V _ 93 35 _ [_] _ _
  refine n_if_eq f_93_35 rfl rfl (by omega) (fun _ => ?_) (fun e9 => absurd (by omega) e9)
  refine n_go f_93_40 rfl (pc' := 41) rfl ?_
  refine n_go f_93_41 rfl (pc' := 42) rfl ?_
  refine n_cv (ls' := [_, _, _]) f_93_42 (by decide) m_88 rfl rfl (by assumption) rfl ?_
  refine c_isAdrift hK2 hS2 (fun i q1 q2 q3 q4 => ?_) (fun o5 => ?_)
  · show En V _ 93 45 _ [_] _ _
    refine n_if_eq f_93_45 rfl rfl (by omega) (fun e9 => absurd e9 (by omega)) (fun _ => ?_)
    refine n_go f_93_48 rfl (pc' := 49) (st' := .int (iI 5) :: _) rfl ?_
    refine n_go f_93_49 rfl (pc' := 53) rfl ?_
    refine n_ret f_93_53 rfl rfl ?_
    exact K1 5 f2 (by decide) (by decide) (fun o => o.2.2.2.2 i q1 q2 q3 q4)
  show En V _ 93 45 _ [_] _ _
  refine n_if_eq f_93_45 rfl rfl (by omega) (fun _ => ?_) (fun e9 => absurd (by omega) e9)
  refine n_go f_93_52 rfl (pc' := 53) (st' := .int (iI 0) :: _) rfl ?_
  refine n_ret f_93_53 rfl rfl ?_
  exact K2 ⟨o1, o2, o3, o4, o5⟩ f2
end CB
