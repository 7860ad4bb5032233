/-! The constructor, from a heap of one object. -/
/-- cells known of a heap, the newest first -/
def Ht (h : ev_H) (F : List (Nat × ev_C)) (n s : Nat) : Prop := h.1.length = n ∧ h.2.1 = n ∧ h.2.2 = s ∧ ∀ a c, F.lookup a = some c → h.1[a]? = some c
theorem Ht.get {h : ev_H} {F : List (Nat × ev_C)} {n s a : Nat} {c : ev_C} (M : Ht h F n s) (e : F.lookup a = some c) : h.1[a]? = some c := M.2.2.2 a c e
theorem Ht.pu {h : ev_H} {F : List (Nat × ev_C)} {n s k n' : Nat} {c : ev_C} (M : Ht h F n s) (hn : n + 1 = n') : Ht (ev_push h c k) ((n, c) :: F) n' (s + k) := by
  subst hn
  obtain ⟨m1, m2, m3, m4⟩ := M
  refine ⟨?_, ?_, ?_, fun a x e => ?_⟩
  · unfold ev_push
    dsimp only
    rw [List.length_append, m1]
    rfl
  · show h.2.1 + 1 = _
    rw [m2]
  · show h.2.2 + k = _
    rw [m3]
  · rw [List.lookup_cons] at e
    by_cases ha : a = n
    · subst ha
      rw [beq_self_eq_true] at e
      dsimp only at e
      have e2 : c = x := by simpa using e
      subst e2
      conv in a => rw [← m2]
      exact g_pn (by omega)
    · have e1 : (a == n) = false := by simpa using ha
      rw [e1] at e
      exact g_pu (m4 a x e)
theorem Ht.st {h : ev_H} {F : List (Nat × ev_C)} {n s a : Nat} {c o : ev_C} (M : Ht h F n s) (ho : F.lookup a = some o) : Ht (ev_set h a c) ((a, c) :: F) n s := by
  obtain ⟨m1, m2, m3, m4⟩ := M
  refine ⟨g_len.trans m1, m2, m3, fun b x e => ?_⟩
  rw [List.lookup_cons] at e
  by_cases ha : b = a
  · subst ha
    rw [beq_self_eq_true] at e
    dsimp only at e
    have e2 : c = x := by simpa using e
    subst e2
    exact g_eq (m4 b o ho)
  · have e1 : (b == a) = false := by simpa using ha
    rw [e1] at e
    exact (g_ne (fun q => ha q.symm)).trans (m4 b x e)
theorem Ht.more {h : ev_H} {F : List (Nat × ev_C)} {n s a : Nat} {c : ev_C} (M : Ht h F n s) (e : h.1[a]? = some c) : Ht h ((a, c) :: F) n s := by
  obtain ⟨m1, m2, m3, m4⟩ := M
  refine ⟨m1, m2, m3, fun b x e2 => ?_⟩
  rw [List.lookup_cons] at e2
  by_cases ha : b = a
  · subst ha
    rw [beq_self_eq_true] at e2
    dsimp only at e2
    have e3 : c = x := by simpa using e2
    subst e3
    exact e
  · have e1 : (b == a) = false := by simpa using ha
    rw [e1] at e2
    exact m4 b x e2
/-- the cells of a state -/
def stC (a : Nat) (S : dS) : List (Nat × ev_C) := [(a, .inr (5, [.ref (a + 1), .ref (a + 2), .ref (a + 3), .ref (a + 4), .ref (a + 5)])), (a + 1, aI 40 S.1), (a + 2, aI 40 S.2.1), (a + 3, aI 40 S.2.2.1), (a + 4, aI 200 (fun _ => 1048576)), (a + 5, aB 120 S.2.2.2)]
theorem Ht.sub {h h' : ev_H} {F : List (Nat × ev_C)} {n s a n' s' : Nat} {S : dS} (M : Ht h F n s) (hS : St h' a S) (h1 : ∀ j, ¬ (a ≤ j ∧ j ≤ a + 5) → j < n → h'.1[j]? = h.1[j]?) (h2 : h'.1.length = n') (h3 : h'.2.1 = n') (h4 : h'.2.2 = s') : Ht h' (stC a S ++ F) n' s' := by
  refine ⟨h2, h3, h4, fun b x e => ?_⟩
  obtain ⟨s0, s1, s2, s3, s4, s5, -, -⟩ := hS
  have rest : ¬ (a ≤ b ∧ b ≤ a + 5) → h'.1[b]? = some x := fun hb => by
    have e' : F.lookup b = some x := by
      unfold stC at e
      have n0 : (b == a) = false := by rw [beq_eq_false_iff_ne]; omega
      have n1 : (b == a + 1) = false := by rw [beq_eq_false_iff_ne]; omega
      have n2 : (b == a + 2) = false := by rw [beq_eq_false_iff_ne]; omega
      have n3 : (b == a + 3) = false := by rw [beq_eq_false_iff_ne]; omega
      have n4 : (b == a + 4) = false := by rw [beq_eq_false_iff_ne]; omega
      have n5 : (b == a + 5) = false := by rw [beq_eq_false_iff_ne]; omega
      simpa only [List.cons_append, List.nil_append, List.lookup_cons, n0, n1, n2, n3, n4, n5] using e
    have e2 := M.2.2.2 b x e'
    have hl : b < h.1.length := (List.getElem?_eq_some_iff.mp e2).1
    exact (h1 b hb (by rw [← M.1]; exact hl)).trans e2
  have z1 : (a + 1 == a) = false := by rw [beq_eq_false_iff_ne]; omega
  have z2 : (a + 2 == a) = false := by rw [beq_eq_false_iff_ne]; omega
  have z3 : (a + 3 == a) = false := by rw [beq_eq_false_iff_ne]; omega
  have z4 : (a + 4 == a) = false := by rw [beq_eq_false_iff_ne]; omega
  have z5 : (a + 5 == a) = false := by rw [beq_eq_false_iff_ne]; omega
  rcases (by omega : b = a ∨ b = a + 1 ∨ b = a + 2 ∨ b = a + 3 ∨ b = a + 4 ∨ b = a + 5 ∨ ¬ (a ≤ b ∧ b ≤ a + 5)) with q | q | q | q | q | q | q
  · subst q
    rw [s0, ← e]
    simp [stC, List.lookup_cons]
  · subst q
    rw [s1, ← e]
    simp [stC, List.lookup_cons, z1, z2, z3, z4, z5]
  · subst q
    rw [s2, ← e]
    simp [stC, List.lookup_cons, z1, z2, z3, z4, z5]
  · subst q
    rw [s3, ← e]
    simp [stC, List.lookup_cons, z1, z2, z3, z4, z5]
  · subst q
    rw [s4, ← e]
    simp [stC, List.lookup_cons, z1, z2, z3, z4, z5]
  · subst q
    rw [s5, ← e]
    simp [stC, List.lookup_cons, z1, z2, z3, z4, z5]
  · exact rest q
section HH
variable {V : ev_V} {d mi pc u : Nat} {ls : ev_L} {st : List Value} {h : ev_H} {P : ev_O → ev_H → Prop} {q : ev_Q} {len x y z k n s n' : Nat} {F : List (Nat × ev_C)} {c : Nat} {v : Value} {fs : List Value} {a : Int} {w : Nat × Nat × Nat × Nat}
theorem H_new (hF : nF mi q pc (.new k, len, x, y, z)) (hz : ¬ z = 1) (hn : n + 1 = n') (M : Ht h F n s) (K : ∀ h', Ht h' ((n, .inr (x, fx_dft x)) :: F) n' (s + (fx_dft x).length) → En V d mi (pc + 3) ls (.ref n :: st) h' P) : En V d mi pc ls st h P :=
  n_new hF hz M.2.1 (K _ (M.pu hn))
theorem H_nai (hF : nF mi q pc (.newarray .int, w)) (hu : pc + 2 = u) (hr : 0 ≤ a ∧ a ≤ 1000000) (hn : n + 1 = n') (M : Ht h F n s) (K : ∀ h', Ht h' ((n, aI a.toNat (fun _ => 0)) :: F) n' (s + a.toNat) → En V d mi u ls (.ref n :: st) h' P) : En V d mi pc ls (.int (iI a) :: st) h P :=
  n_nai hF hu hr M.2.1 (K _ (M.pu hn))
theorem H_nal (hF : nF mi q pc (.newarray .long, w)) (hu : pc + 2 = u) (hr : 0 ≤ a ∧ a ≤ 1000000) (hn : n + 1 = n') (M : Ht h F n s) (K : ∀ h', Ht h' ((n, aL a.toNat (fun _ => 0)) :: F) n' (s + a.toNat) → En V d mi u ls (.ref n :: st) h' P) : En V d mi pc ls (.int (iI a) :: st) h P :=
  n_nal hF hu hr M.2.1 (K _ (M.pu hn))
theorem H_nab (hF : nF mi q pc (.newarray .boolean, w)) (hu : pc + 2 = u) (hr : 0 ≤ a ∧ a ≤ 1000000) (hn : n + 1 = n') (M : Ht h F n s) (K : ∀ h', Ht h' ((n, aB a.toNat (fun _ => false)) :: F) n' (s + a.toNat) → En V d mi u ls (.ref n :: st) h' P) : En V d mi pc ls (.int (iI a) :: st) h P :=
  n_nab hF hu hr M.2.1 (K _ (M.pu hn))
theorem H_nar (hF : nF mi q pc (.anewarray k, len, x, y, z)) (hu : pc + 3 = u) (hr : 0 ≤ a ∧ a ≤ 1000000) (hn : n + 1 = n') (M : Ht h F n s) (K : ∀ h', Ht h' ((n, aR x a.toNat (fun _ => none)) :: F) n' (s + a.toNat) → En V d mi u ls (.ref n :: st) h' P) : En V d mi pc ls (.int (iI a) :: st) h P :=
  n_nar hF hu hr M.2.1 (K _ (M.pu hn))
theorem H_pf (hF : nF mi q pc (.putfield k, len, x, y, z)) (hu : pc + 3 = u) (M : Ht h F n s) (hc : F.lookup c = some (.inr (x, fs))) (hy : (ev_okf (z % 4) v && Nat.blt y fs.length) = true) (K : ∀ h', Ht h' ((c, .inr (x, fs.set y v)) :: F) n s → En V d mi u ls st h' P) : En V d mi pc ls (v :: .ref c :: st) h P :=
  n_pf hF hu (M.get hc) hy (K _ (M.st hc))
theorem H_aas {m r : Nat} {f : Int → Option Nat} (hF : nF mi q pc (.aastore, len, x, y, z)) (hu : pc + 1 = u) (M : Ht h F n s) (hc : F.lookup c = some (aR x m f)) (hr : 0 ≤ a ∧ a < m ∧ m < 2147483648) (hq : F.lookup r = some (.inr (y, fs))) (K : ∀ h', Ht h' ((c, aR x m (uz f a (some r))) :: F) n s → En V d mi u ls st h' P) : En V d mi pc ls (.ref r :: .int (iI a) :: .ref c :: st) h P :=
  n_aas hF hu (M.get hc) hr (M.get hq) (K _ (M.st hc))
theorem H_ias {m : Nat} {f : Int → Int} {b : Int} (hF : nF mi q pc (.iastore, w)) (hu : pc + 1 = u) (M : Ht h F n s) (hc : F.lookup c = some (aI m f)) (hr : 0 ≤ a ∧ a < m ∧ m < 2147483648) (K : ∀ h', Ht h' ((c, aI m (uz f a b)) :: F) n s → En V d mi u ls st h' P) : En V d mi pc ls (.int (iI b) :: .int (iI a) :: .ref c :: st) h P :=
  n_ias hF hu (M.get hc) hr (K _ (M.st hc))
theorem H_las {m : Nat} {f : Int → Int64} {b : Int64} (hF : nF mi q pc (.lastore, w)) (hu : pc + 1 = u) (M : Ht h F n s) (hc : F.lookup c = some (aL m f)) (hr : 0 ≤ a ∧ a < m ∧ m < 2147483648) (K : ∀ h', Ht h' ((c, aL m (uz f a b)) :: F) n s → En V d mi u ls st h' P) : En V d mi pc ls (.long b :: .int (iI a) :: .ref c :: st) h P :=
  n_las hF hu (M.get hc) hr (K _ (M.st hc))
end HH
