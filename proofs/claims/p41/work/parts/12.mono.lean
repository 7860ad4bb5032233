/-! The heap of the evaluator only grows. -/
def ev_le (h h' : ev_H) : Prop := h.2.1 ≤ h'.2.1 ∧ h.2.2 ≤ h'.2.2
theorem ev_le_rf (h : ev_H) : ev_le h h := ⟨Nat.le_refl _, Nat.le_refl _⟩
theorem ev_le_tr {a b c : ev_H} (h : ev_le a b) (k : ev_le b c) : ev_le a c := ⟨Nat.le_trans h.1 k.1, Nat.le_trans h.2 k.2⟩
theorem ev_le_set (h : ev_H) (a : Nat) (c : ev_C) : ev_le h (ev_set h a c) := ⟨Nat.le_refl _, Nat.le_refl _⟩
theorem ev_le_push (h : ev_H) (c : ev_C) (n : Nat) : ev_le h (ev_push h c n) := ⟨Nat.le_succ _, Nat.le_add_right _ _⟩
theorem ev_asti_le {t : Nat} {st : List Value} {h : ev_H} {r : List Value × ev_H} (he : ev_asti t st h = some r) : ev_le h r.2 := by
  unfold ev_asti at he
  repeat' split at he
  all_goals first | (cases he; done) | (cases he; exact ev_le_set _ _ _)
theorem ev_astl_le {st : List Value} {h : ev_H} {r : List Value × ev_H} (he : ev_astl st h = some r) : ev_le h r.2 := by
  unfold ev_astl at he
  repeat' split at he
  all_goals first | (cases he; done) | (cases he; exact ev_le_set _ _ _)
theorem ev_astq_le {t ci : Nat} {st : List Value} {h : ev_H} {r : List Value × ev_H} (he : ev_astq t ci st h = some r) : ev_le h r.2 := by
  unfold ev_astq at he
  repeat' split at he
  all_goals first | (cases he; done) | (cases he; exact ev_le_set _ _ _)
theorem ev_cpy_le {st : List Value} {h : ev_H} {r : List Value × ev_H} (he : ev_cpy st h = some r) : ev_le h r.2 := by
  unfold ev_cpy at he
  repeat' split at he
  all_goals first | (cases he; done) | (cases he; exact ev_le_set _ _ _)
theorem ev_s_le {V : ev_V} {dft : Nat → List Value} {I : ev_I} {pc : Nat} {ls : ev_L} {st : List Value} {h : ev_H} {r : ev_R} (he : ev_s V dft I pc ls st h = some r) : ev_le h r.2.2.2 := by
  obtain ⟨i, len, x, y, z⟩ := I
  cases i with
  | iastore => simp only [ev_s] at he; obtain ⟨q, hq, e⟩ := Option.map_eq_some_iff.mp he; subst e; exact ev_asti_le hq
  | bastore => simp only [ev_s] at he; obtain ⟨q, hq, e⟩ := Option.map_eq_some_iff.mp he; subst e; exact ev_asti_le hq
  | lastore => simp only [ev_s] at he; obtain ⟨q, hq, e⟩ := Option.map_eq_some_iff.mp he; subst e; exact ev_astl_le hq
  | aastore => simp only [ev_s] at he; obtain ⟨q, hq, e⟩ := Option.map_eq_some_iff.mp he; subst e; exact ev_astq_le hq
  | tableswitch =>
    simp only [ev_s] at he
    split at he
    · obtain ⟨o, -, he⟩ := Option.bind_eq_some_iff.mp he
      obtain ⟨q, hq, e⟩ := Option.map_eq_some_iff.mp he; subst e; exact ev_le_rf _
    · cases he
  | getstatic =>
    simp only [ev_s] at he
    split at he
    · cases he; exact ev_le_rf _
    · cases he
  | ldc =>
    simp only [ev_s] at he
    split at he
    · cases he; exact ev_le_rf _
    · cases he; exact ev_le_rf _
  | if_acmp =>
    simp only [ev_s] at he
    split at he
    · split at he
      · obtain ⟨q, hq, e⟩ := Option.map_eq_some_iff.mp he; subst e; exact ev_le_rf _
      · cases he
    · cases he
  | lookupswitch =>
    simp only [ev_s] at he
    split at he
    · split at he
      · obtain ⟨q, hq, e⟩ := Option.map_eq_some_iff.mp he; subst e; exact ev_le_rf _
      · cases he
    · cases he
  | _ =>
    simp only [ev_s] at he
    first
      | (cases he; done)
      | (cases he; first | exact ev_le_rf _ | exact ev_le_push _ _ _)
      | (obtain ⟨q, hq, e⟩ := Option.map_eq_some_iff.mp he; subst e; exact ev_le_rf _)
      | (split at he
         · first
             | (cases he; done)
             | (cases he; exact ev_le_rf _)
             | (obtain ⟨q, hq, e⟩ := Option.map_eq_some_iff.mp he; subst e; exact ev_le_rf _)
             | (repeat' split at he
                all_goals first | (cases he; done) | (cases he; first | exact ev_le_rf _ | exact ev_le_set _ _ _ | exact ev_le_push _ _ _))
         · cases he)
def ev_fle (f : ev_F) : Prop := ∀ (d mi pc : Nat) (ls : ev_L) (st : List Value) (h : ev_H) (o : ev_O) (h' : ev_H), f d mi pc ls st h = some (o, h') → ev_le h h'
theorem ev_back_le {f : ev_F} (hf : ev_fle f) {hh : List (Nat × Nat × Nat × Nat)} {ks : List Nat} {code : ev_M} {d mi pc : Nat} {ls : ev_L} {rest : List Value} {o : ev_O} {h1 : ev_H} {o2 : ev_O} {h2 : ev_H} (he : ev_back f hh ks code d mi pc ls rest o h1 = some (o2, h2)) : ev_le h1 h2 := by
  unfold ev_back at he
  cases o with
  | inl v => exact hf _ _ _ _ _ _ _ _ he
  | inr k =>
    dsimp only at he
    split at he
    · split at he
      · cases he; exact ev_le_rf _
      · cases he
    · split at he
      · cases he
      · exact hf _ _ _ _ _ _ _ _ he
theorem ev_call_le {f : ev_F} (hf : ev_fle f) {mt : List ev_Q} {hh : List (Nat × Nat × Nat × Nat)} {ks : List Nat} {code : ev_M} {sp d mi pc x y z : Nat} {ls : ev_L} {st : List Value} {h : ev_H} {o2 : ev_O} {h2 : ev_H} (he : ev_call f mt hh ks code sp d mi pc x y z ls st h = some (o2, h2)) : ev_le h h2 := by
  unfold ev_call at he
  split at he
  · cases he
  · split at he
    · cases d with
      | zero => cases he
      | succ d =>
        dsimp only at he
        split at he
        · next r hr => exact ev_le_tr (hf _ _ _ _ _ _ r.1 r.2 hr) (ev_back_le hf he)
        · cases he
    · cases he
theorem ev_step_le {f : ev_F} (hf : ev_fle f) {V : ev_V} {dft : Nat → List Value} {I : ev_I} {d mi pc : Nat} {ls : ev_L} {st : List Value} {h : ev_H} {o2 : ev_O} {h2 : ev_H} (he : ev_step f V dft I d mi pc ls st h = some (o2, h2)) : ev_le h h2 := by
  unfold ev_step at he
  split at he
  · next r hr => exact ev_le_tr (ev_s_le hr) (hf _ _ _ _ _ _ _ _ he)
  · cases he
theorem ev_one_le {f : ev_F} (hf : ev_fle f) {mt : List ev_Q} {V : ev_V} {dft : Nat → List Value} {ret : Option FieldType} {hh : List (Nat × Nat × Nat × Nat)} {ks : List Nat} {code : ev_M} {I : ev_I} {d mi pc : Nat} {ls : ev_L} {st : List Value} {h : ev_H} {o2 : ev_O} {h2 : ev_H} (he : ev_one f mt V dft ret hh ks code I d mi pc ls st h = some (o2, h2)) : ev_le h h2 := by
  unfold ev_one at he
  split at he
  · obtain ⟨v, -, e⟩ := Option.map_eq_some_iff.mp he
    cases e; exact ev_le_rf _
  · split at he
    · split at he
      · split at he
        · exact hf _ _ _ _ _ _ _ _ he
        · cases he
      · cases he
    · exact ev_call_le hf he
  · split at he
    · split at he
      · next q hq =>
        split at he
        · exact ev_le_tr (ev_cpy_le hq) (hf _ _ _ _ _ _ _ _ he)
        · cases he
      · cases he
    · exact ev_call_le hf he
  · split at he
    · split at he
      · split at he
        · exact hf _ _ _ _ _ _ _ _ he
        · cases he
      · cases he
    · exact ev_call_le hf he
  · split at he
    · split at he
      · cases he; exact ev_le_push _ _ _
      · cases he
    · exact ev_step_le hf he
  · exact ev_step_le hf he
theorem ev_mono (mt : List ev_Q) (V : ev_V) (dft : Nat → List Value) (n : Nat) : ev_fle (ev mt V dft n) := by
  induction n with
  | zero => intro d mi pc ls st h o h' he; unfold ev at he; cases he
  | succ n ih =>
    intro d mi pc ls st h o h' he
    unfold ev at he
    split at he
    · cases he
    · split at he
      · cases he
      · exact ev_one_le ih he
