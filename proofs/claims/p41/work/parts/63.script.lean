/-! The law's isScript. -/
def ckk (kd : Nat) : Int := if kd < 4 then (kd : Int) else (kd : Int) + 1
def rlL (c : Int → Int → Bool) (kd : Nat) : Nat → List (Int × Int)
  | 0 => []
  | n + 1 => rlL c kd n ++ (if c kd n = true then [(ckk kd, (n : Int))] else [])
def llL (c : Int → Int → Bool) (cn : Nat → Nat) : Nat → List (Int × Int)
  | 0 => []
  | k + 1 => llL c cn k ++ rlL c k (cn k)
theorem rl_pre (c : Int → Int → Bool) (kd i : Nat) (hi : c kd i = true) : ∀ n : Nat, i < n → ∃ r, rlL c kd n = rlL c kd i ++ (ckk kd, (i : Int)) :: r := by
  intro n
  induction n with
  | zero => intro h; exact absurd h (by omega)
  | succ n ih =>
    intro h
    by_cases e : i = n
    · subst e
      exact ⟨[], by show rlL c kd i ++ (if c kd i = true then _ else _) = _; rw [if_pos hi]⟩
    · obtain ⟨r, hr⟩ := ih (by omega)
      refine ⟨r ++ (if c kd n = true then [(ckk kd, (n : Int))] else []), ?_⟩
      show rlL c kd n ++ _ = _
      rw [hr, List.append_assoc]
      rfl
theorem ll_pre (c : Int → Int → Bool) (cn : Nat → Nat) (k : Nat) : ∀ n : Nat, k ≤ n → ∃ r, llL c cn n = llL c cn k ++ r := by
  intro n
  induction n with
  | zero => intro h; exact ⟨[], by rw [show k = 0 by omega]; rfl⟩
  | succ n ih =>
    intro h
    by_cases e : k = n + 1
    · exact ⟨[], by rw [e, List.append_nil]⟩
    · obtain ⟨r, hr⟩ := ih (by omega)
      exact ⟨r ++ rlL c n (cn n), by show llL c cn n ++ _ = _; rw [hr, List.append_assoc]⟩
theorem ll_at (c : Int → Int → Bool) (cn : Nat → Nat) (k i : Nat) (hk : k < 7) (hi : i < cn k) (hc : c k i = true) : (llL c cn 7)[(llL c cn k ++ rlL c k i).length]? = some (ckk k, (i : Int)) := by
  obtain ⟨r1, h1⟩ := rl_pre c k i hc (cn k) hi
  obtain ⟨r2, h2⟩ := ll_pre c cn (k + 1) 7 (by omega)
  have h3 : llL c cn 7 = (llL c cn k ++ rlL c k i) ++ ((ckk k, (i : Int)) :: (r1 ++ r2)) := by
    rw [h2]
    show (llL c cn k ++ rlL c k (cn k)) ++ r2 = _
    rw [h1]
    simp only [List.append_assoc, List.cons_append]
  rw [h3, List.getElem?_append_right (Nat.le_refl _), Nat.sub_self]
  rfl
theorem Rw.qk {h h' : ev_H} {a n : Nat} {D : Int → Int} (hR : Rw h a n D) (hQ : Qk h h') : Rw h' a n D := ⟨(hQ.2.2 a hR.2.1).trans hR.1, hR.2⟩
