/-! The evaluator without fuel, and its equation. -/
def ev_sub (f g : ev_F) : Prop := ∀ (d mi pc : Nat) (ls : ev_L) (st : List Value) (h : ev_H) (r : ev_O × ev_H), f d mi pc ls st h = some r → g d mi pc ls st h = some r
/-- an increasing row of evaluators comes to g -/
def ev_sup (F : Nat → ev_F) (g : ev_F) : Prop := (∀ n, ev_sub (F n) (F (n + 1))) ∧ ∀ (d mi pc : Nat) (ls : ev_L) (st : List Value) (h : ev_H) (r : ev_O × ev_H), g d mi pc ls st h = some r → ∃ n, F n d mi pc ls st h = some r
theorem ev_sup_le {F : Nat → ev_F} {g : ev_F} (hs : ev_sup F g) {a b : Nat} (h : a ≤ b) : ev_sub (F a) (F b) := by
  induction b with
  | zero => have : a = 0 := by omega
            subst this; exact fun _ _ _ _ _ _ _ k => k
  | succ b ih =>
    by_cases hab : a = b + 1
    · subst hab; exact fun _ _ _ _ _ _ _ k => k
    · have h1 := ih (by omega)
      exact fun d mi pc ls st h r k => hs.1 b d mi pc ls st h r (h1 d mi pc ls st h r k)
section EvL
variable {f g : ev_F} {mt : List ev_Q} {V : ev_V} {dft : Nat → List Value} {ret : Option FieldType} {hh : List (Nat × Nat × Nat × Nat)} {ks : List Nat} {code : ev_M} {I : ev_I} {sp d mi pc x y z : Nat} {ls : ev_L} {st rest : List Value} {h h1 : ev_H} {o : ev_O} {r : ev_O × ev_H}
theorem ev_back_mono (hs : ev_sub f g) (he : ev_back f hh ks code d mi pc ls rest o h1 = some r) : ev_back g hh ks code d mi pc ls rest o h1 = some r := by
  unfold ev_back at he ⊢
  cases o with
  | inl v => exact hs _ _ _ _ _ _ _ he
  | inr k =>
    dsimp only at he ⊢
    split at he
    · next e1 => (try rw [e1]); exact he
    · next t e1 =>
      (try rw [e1])
      (try dsimp only)
      split at he
      · cases he
      · next q e2 => (try rw [e2]); exact hs _ _ _ _ _ _ _ he
theorem ev_call_mono (hs : ev_sub f g) (he : ev_call f mt hh ks code sp d mi pc x y z ls st h = some r) : ev_call g mt hh ks code sp d mi pc x y z ls st h = some r := by
  unfold ev_call at he ⊢
  split at he
  · cases he
  · next q e1 =>
    (try rw [e1])
    (try dsimp only)
    split at he
    · next hc =>
      (try rw [if_pos hc])
      cases d with
      | zero => cases he
      | succ d =>
        dsimp only at he ⊢
        split at he
        · next r1 e2 => rw [hs _ _ _ _ _ _ _ e2]; exact ev_back_mono hs he
        · cases he
    · cases he
theorem ev_step_mono (hs : ev_sub f g) (he : ev_step f V dft I d mi pc ls st h = some r) : ev_step g V dft I d mi pc ls st h = some r := by
  unfold ev_step at he ⊢
  split at he
  · next q e1 => (try rw [e1]); exact hs _ _ _ _ _ _ _ he
  · cases he
theorem ev_one_mono (hs : ev_sub f g) (he : ev_one f mt V dft ret hh ks code I d mi pc ls st h = some r) : ev_one g mt V dft ret hh ks code I d mi pc ls st h = some r := by
  unfold ev_one at he ⊢
  split at he
  · exact he
  · split at he
    · next hy =>
      (try rw [if_pos hy])
      split at he
      · next q e1 =>
        (try rw [e1])
        (try dsimp only)
        split at he
        · next h8 => (try rw [if_pos h8]); exact hs _ _ _ _ _ _ _ he
        · cases he
      · cases he
    · next hy => (try rw [if_neg hy]); exact ev_call_mono hs he
  · split at he
    · next hy =>
      (try rw [if_pos hy])
      split at he
      · next q e1 =>
        (try rw [e1])
        (try dsimp only)
        split at he
        · next h8 => (try rw [if_pos h8]); exact hs _ _ _ _ _ _ _ he
        · cases he
      · cases he
    · next hy => (try rw [if_neg hy]); exact ev_call_mono hs he
  · split at he
    · next hy =>
      (try rw [if_pos hy])
      split at he
      · split at he
        · next h8 => (try dsimp only); (try rw [if_pos h8]); exact hs _ _ _ _ _ _ _ he
        · cases he
      · cases he
    · next hy => (try rw [if_neg hy]); exact ev_call_mono hs he
  · split at he
    · next hz => (try rw [if_pos hz]); exact he
    · next hz => (try rw [if_neg hz]); exact ev_step_mono hs he
  · exact ev_step_mono hs he
variable {F : Nat → ev_F}
theorem ev_back_cont (hs : ev_sup F g) (he : ev_back g hh ks code d mi pc ls rest o h1 = some r) : ∃ n, ev_back (F n) hh ks code d mi pc ls rest o h1 = some r := by
  unfold ev_back at he
  cases o with
  | inl v => exact hs.2 _ _ _ _ _ _ _ he
  | inr k =>
    dsimp only at he
    split at he
    · next e1 => refine ⟨0, ?_⟩; unfold ev_back; (try dsimp only); (try rw [e1]); exact he
    · next t e1 =>
      split at he
      · cases he
      · next q e2 =>
        obtain ⟨n, hn⟩ := hs.2 _ _ _ _ _ _ _ he
        refine ⟨n, ?_⟩
        unfold ev_back; (try dsimp only); (try rw [e1]); (try dsimp only); (try rw [e2]); exact hn
theorem ev_call_cont (hs : ev_sup F g) (he : ev_call g mt hh ks code sp d mi pc x y z ls st h = some r) : ∃ n, ev_call (F n) mt hh ks code sp d mi pc x y z ls st h = some r := by
  unfold ev_call at he
  split at he
  · cases he
  · next q e1 =>
    split at he
    · next hc =>
      cases d with
      | zero => cases he
      | succ d =>
        dsimp only at he
        split at he
        · next r1 e2 =>
          obtain ⟨n1, k1⟩ := hs.2 _ _ _ _ _ _ _ e2
          obtain ⟨n2, k2⟩ := ev_back_cont hs he
          refine ⟨max n1 n2, ?_⟩
          unfold ev_call
          (try rw [e1]); (try dsimp only)
          (try rw [if_pos hc]); (try dsimp only)
          rw [ev_sup_le hs (Nat.le_max_left n1 n2) _ _ _ _ _ _ _ k1]
          exact ev_back_mono (ev_sup_le hs (Nat.le_max_right n1 n2)) k2
        · cases he
    · cases he
theorem ev_step_cont (hs : ev_sup F g) (he : ev_step g V dft I d mi pc ls st h = some r) : ∃ n, ev_step (F n) V dft I d mi pc ls st h = some r := by
  unfold ev_step at he
  split at he
  · next q e1 =>
    obtain ⟨n, k⟩ := hs.2 _ _ _ _ _ _ _ he
    refine ⟨n, ?_⟩
    unfold ev_step; (try rw [e1]); exact k
  · cases he
theorem ev_one_cont (hs : ev_sup F g) (he : ev_one g mt V dft ret hh ks code I d mi pc ls st h = some r) : ∃ n, ev_one (F n) mt V dft ret hh ks code I d mi pc ls st h = some r := by
  unfold ev_one at he ⊢
  split at he
  · exact ⟨0, he⟩
  · split at he
    · next hy =>
      simp only [if_pos hy]
      split at he
      · next q e1 =>
        split at he
        · next h8 =>
          obtain ⟨n, k⟩ := hs.2 _ _ _ _ _ _ _ he
          exact ⟨n, by (try rw [e1]); (try dsimp only); (try rw [if_pos h8]); exact k⟩
        · cases he
      · cases he
    · next hy => simp only [if_neg hy]; exact ev_call_cont hs he
  · split at he
    · next hy =>
      simp only [if_pos hy]
      split at he
      · next q e1 =>
        split at he
        · next h8 =>
          obtain ⟨n, k⟩ := hs.2 _ _ _ _ _ _ _ he
          exact ⟨n, by (try rw [e1]); (try dsimp only); (try rw [if_pos h8]); exact k⟩
        · cases he
      · cases he
    · next hy => simp only [if_neg hy]; exact ev_call_cont hs he
  · split at he
    · next hy =>
      simp only [if_pos hy]
      split at he
      · split at he
        · next h8 =>
          obtain ⟨n, k⟩ := hs.2 _ _ _ _ _ _ _ he
          exact ⟨n, by (try dsimp only); (try rw [if_pos h8]); exact k⟩
        · cases he
      · cases he
    · next hy => simp only [if_neg hy]; exact ev_call_cont hs he
  · split at he
    · next hz => exact ⟨0, by (try rw [if_pos hz]); exact he⟩
    · next hz => simp only [if_neg hz]; exact ev_step_cont hs he
  · exact ev_step_cont hs he
end EvL
def ev_body (f : ev_F) (mt : List ev_Q) (V : ev_V) (dft : Nat → List Value) : ev_F := fun d mi pc ls st h => match mt[mi]? with
  | none => none
  | some q => match ev_find q.2.2.2.2.2.2 pc with
    | none => none
    | some I => ev_one f mt V dft q.2.2.2.1 q.2.2.2.2.1 q.2.2.2.2.2.1 q.2.2.2.2.2.2 I d mi pc ls st h
theorem ev_succ (mt : List ev_Q) (V : ev_V) (dft : Nat → List Value) (n : Nat) : ev mt V dft (n + 1) = ev_body (ev mt V dft n) mt V dft := rfl
theorem ev_body_mono {f g : ev_F} {mt : List ev_Q} {V : ev_V} {dft : Nat → List Value} (hs : ev_sub f g) : ev_sub (ev_body f mt V dft) (ev_body g mt V dft) := by
  intro d mi pc ls st h r he
  unfold ev_body at he ⊢
  split at he
  · cases he
  · next q e1 =>
    (try rw [e1]); (try dsimp only)
    split at he
    · cases he
    · next I e2 => (try rw [e2]); exact ev_one_mono hs he
theorem ev_up (mt : List ev_Q) (V : ev_V) (dft : Nat → List Value) : ∀ n, ev_sub (ev mt V dft n) (ev mt V dft (n + 1)) := by
  intro n
  induction n with
  | zero => intro d mi pc ls st h r he; unfold ev at he; cases he
  | succ n ih => rw [ev_succ, ev_succ]; exact ev_body_mono ih
noncomputable def evL (mt : List ev_Q) (V : ev_V) (dft : Nat → List Value) : ev_F := fun d mi pc ls st h =>
  @dite _ (∃ r n, ev mt V dft n d mi pc ls st h = some r) (Classical.propDecidable _) (fun k => some (Classical.choose k)) (fun _ => none)
theorem evL_of {mt : List ev_Q} {V : ev_V} {dft : Nat → List Value} {d mi pc : Nat} {ls : ev_L} {st : List Value} {h : ev_H} {r : ev_O × ev_H} (he : evL mt V dft d mi pc ls st h = some r) : ∃ n, ev mt V dft n d mi pc ls st h = some r := by
  unfold evL at he
  split at he
  · next k =>
    have := Classical.choose_spec k
    cases he
    exact this
  · cases he
theorem evL_sup0 (mt : List ev_Q) (V : ev_V) (dft : Nat → List Value) : ev_sup (ev mt V dft) (evL mt V dft) := ⟨ev_up mt V dft, fun _ _ _ _ _ _ _ h => evL_of h⟩
theorem evL_eq {mt : List ev_Q} {V : ev_V} {dft : Nat → List Value} {n d mi pc : Nat} {ls : ev_L} {st : List Value} {h : ev_H} {r : ev_O × ev_H} (he : ev mt V dft n d mi pc ls st h = some r) : evL mt V dft d mi pc ls st h = some r := by
  have k : ∃ r n, ev mt V dft n d mi pc ls st h = some r := ⟨r, n, he⟩
  obtain ⟨n2, h2⟩ := Classical.choose_spec k
  have e1 := ev_sup_le (evL_sup0 mt V dft) (Nat.le_max_left n n2) _ _ _ _ _ _ _ he
  have e2 := ev_sup_le (evL_sup0 mt V dft) (Nat.le_max_right n n2) _ _ _ _ _ _ _ h2
  have e3 : r = Classical.choose k := Option.some.inj (e1.symm.trans e2)
  unfold evL
  rw [dif_pos k, e3]
theorem evL_fix (mt : List ev_Q) (V : ev_V) (dft : Nat → List Value) (d mi pc : Nat) (ls : ev_L) (st : List Value) (h : ev_H) : evL mt V dft d mi pc ls st h = ev_body (evL mt V dft) mt V dft d mi pc ls st h := by
  apply Option.ext
  intro r
  constructor
  · intro he
    obtain ⟨n, hn⟩ := evL_of he
    cases n with
    | zero => unfold ev at hn; cases hn
    | succ n =>
      rw [ev_succ] at hn
      exact ev_body_mono (fun d mi pc ls st h r k => evL_eq k) d mi pc ls st h r hn
  · intro he
    have he0 := he
    unfold ev_body at he
    split at he
    · cases he
    · next q e1 =>
      split at he
      · cases he
      · next I e2 =>
        obtain ⟨n, hn⟩ := ev_one_cont (evL_sup0 mt V dft) he
        refine evL_eq (n := n + 1) ?_
        rw [ev_succ]
        unfold ev_body
        (try rw [e1]); (try dsimp only)
        (try rw [e2]); exact hn
