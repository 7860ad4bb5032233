/-! The constructor. -/
def K0 : dK := (1, 0, 0, fun _ => 0, fun _ => 0, fun _ => 0, fun _ => 0, fun _ => 0, fun _ => 0, fun _ => 0, fun _ => 0)
def S0 : dS := (uz mtS.1 0 (-1), uz mtS.2.1 0 0, uz mtS.2.2.1 0 (-1), mtS.2.2.2)
theorem S0_r : rS S0 := fun i => ⟨uz_rg (fun i => (mtS_r i).1) (by decide) i, uz_rg (fun i => (mtS_r i).2.1) (by decide) i, uz_rg (fun i => (mtS_r i).2.2) (by decide) i⟩
def H0 : dH := (1, fun _ => 75, fun _ => S0, fun i => if i = 0 then -1 else 0, fun i => if i = 0 then -1 else 0, fun _ => 0)
def w0 : dW := (K0, H0, 1, fun _ => 0, fun b => if b = 0 then S0 else mtS)
section CN
variable {V : ev_V} {d : Nat} {h : ev_H} {P : ev_O → ev_H → Prop} {s n : Nat} {F : List (Nat × ev_C)}
/-- a list made -/
theorem H_list {c : Nat} {x y z : Value} (M : Ht h F n s) (hc : F.lookup c = some (.inr (4, [x, y, z]))) (KK : ∀ h', Ht h' ((c, .inr (4, [.ref (ev_ext + 1), y, .int 0])) :: F) n s → P (.inl none) h') : En V (d + 2) 63 0 [some (.ref c)] [] h P := by
  have c0 := M.get hc
  refine n_go f_63_0 rfl (pc' := 1) rfl ?_
  refine n_ci (ls' := [_]) f_63_1 (by decide) m_129 rfl rfl rfl ?_
  show En V _ 129 0 [some (.ref c)] [] h _
  refine n_go f_129_0 rfl (pc' := 1) rfl ?_
  refine n_ci (ls' := [_]) f_129_1 (by decide) m_166 rfl rfl rfl ?_
  show En V _ 166 0 [some (.ref c)] [] h _
  refine n_go f_166_0 rfl (pc' := 1) rfl ?_
  refine n_ob f_166_1 rfl rfl ?_
  refine n_ret f_166_4 rfl rfl ?_
  show En V _ _ 4 _ [] h _
  refine n_go f_129_4 rfl (pc' := 5) rfl ?_
  refine n_go f_129_5 rfl (pc' := 6) (st' := .int (iI 0) :: _) rfl ?_
  refine n_pf f_129_6 rfl c0 rfl ?_
  refine n_ret f_129_9 rfl rfl ?_
  show En V _ _ 4 _ [] (ev_set h c (.inr (4, [x, y, .int (iI 0)]))) _
  have M1 := M.st (c := .inr (4, [x, y, .int (iI 0)])) hc
  have c1 := M1.get (a := c) (c := .inr (4, [x, y, .int (iI 0)])) (by rw [List.lookup_cons, beq_self_eq_true])
  generalize ev_set h c (.inr (4, [x, y, .int (iI 0)])) = h1 at *
  refine n_go f_63_4 rfl (pc' := 5) rfl ?_
  refine n_go f_63_5 rfl (pc' := 8) (st' := .ref (ev_ext + 1) :: _) rfl ?_
  refine n_pf f_63_8 rfl c1 rfl ?_
  refine n_ret f_63_11 rfl rfl ?_
  refine KK (ev_set h1 c (.inr (4, [.ref (ev_ext + 1), y, .int 0]))) ?_
  obtain ⟨m1, m2, m3, m4⟩ := M1
  refine ⟨g_len.trans m1, m2, m3, fun b x e => ?_⟩
  rw [List.lookup_cons] at e
  by_cases ha : b = c
  · subst ha
    rw [beq_self_eq_true] at e
    dsimp only at e
    rw [← e]
    exact g_eq c1
  · have e1 : (b == c) = false := by simpa using ha
    rw [e1] at e
    refine (g_ne (fun q => ha q.symm)).trans (m4 b x ?_)
    rw [List.lookup_cons, e1]
    exact e
end CN
