/-! Trees, cells, locals and stack: what passing on says. -/
theorem gt_nil (d : Nat) : ∀ i, fx_gt d .nil i = 0 := by
  induction d with
  | zero => intro i; cases i <;> rfl
  | succ d ih =>
    intro i
    show fx_gt d (Nat.rec (motive := fun _ => fx_A → fx_A) fx_sl (fun _ _ => fx_sr) (i % 2) .nil) (i / 2) = 0
    cases i % 2 with
    | zero => exact ih _
    | succ _ => exact ih _
theorem gt_step (d : Nat) (t : fx_A) (i : Nat) : fx_gt (d + 1) t i = if i % 2 = 0 then fx_gt d (fx_sl t) (i / 2) else fx_gt d (fx_sr t) (i / 2) := by
  show fx_gt d (Nat.rec (motive := fun _ => fx_A → fx_A) fx_sl (fun _ _ => fx_sr) (i % 2) t) (i / 2) = _
  cases hm : i % 2 with
  | zero => rfl
  | succ _ => rfl
theorem nd_ok {t : fx_A} {k : fx_A → fx_A → Bool} (h : fx_nd t k = true) : k (fx_sl t) (fx_sr t) = true := by cases t <;> exact h
theorem as_ok : ∀ {d : Nat} {t : fx_A} {i v : Nat} {k : fx_A → Bool}, fx_as d t i v k = true → ∃ t', k t' = true ∧ ∀ j, fx_gt d t' j = if j = i then v else fx_gt d t j := by
  intro d
  induction d with
  | zero =>
    intro t i v k h
    cases i with
    | zero =>
      refine ⟨.tag v .nil, h, fun j => ?_⟩
      cases j with
      | zero => rfl
      | succ j => rfl
    | succ i => cases h
  | succ d ih =>
    intro t i v k h
    have h : Nat.rec (motive := fun _ => fx_I → fx_I) fx_a0 (fun _ _ => fx_a1) (i % 2) (fx_as d) t (i / 2) v k = true := h
    cases hm : i % 2 with
    | zero =>
      rw [hm] at h
      have h := nd_ok (show fx_nd t (fun l r => fx_as d l (i / 2) v (fun l => k (.append l r))) = true from h)
      obtain ⟨l', a1, a2⟩ := ih h
      refine ⟨.append l' (fx_sr t), a1, fun j => ?_⟩
      rw [gt_step, gt_step]
      by_cases hj : j % 2 = 0
      · rw [if_pos hj, if_pos hj]
        show fx_gt d l' (j / 2) = _
        rw [a2]
        by_cases he : j = i
        · rw [if_pos he, if_pos (by rw [he])]
        · rw [if_neg he, if_neg (by omega)]
      · rw [if_neg hj, if_neg hj, if_neg (by intro e; rw [e] at hj; omega)]
        rfl
    | succ m =>
      rw [hm] at h
      have h := nd_ok (show fx_nd t (fun l r => fx_as d r (i / 2) v (fun r => k (.append l r))) = true from h)
      obtain ⟨r', a1, a2⟩ := ih h
      refine ⟨.append (fx_sl t) r', a1, fun j => ?_⟩
      rw [gt_step, gt_step]
      by_cases hj : j % 2 = 0
      · rw [if_pos hj, if_pos hj, if_neg (by intro e; rw [e] at hj; omega)]
        rfl
      · rw [if_neg hj, if_neg hj]
        show fx_gt d r' (j / 2) = _
        rw [a2]
        by_cases he : j = i
        · rw [if_pos he, if_pos (by rw [he])]
        · rw [if_neg he, if_neg (by omega)]
theorem t01_ok : ∀ {t : fx_A} (d : Nat), fx_01 t = true → ∀ i, fx_gt d t i ≤ 1 := by
  intro t
  induction t with
  | append l r ihl ihr =>
    intro d h i
    obtain ⟨h1, h2⟩ := if_t (show fx_if (fx_01 l) (fx_01 r) false = true from h)
    cases d with
    | zero => cases i with
      | zero => exact Nat.zero_le _
      | succ i => exact Nat.zero_le _
    | succ d =>
      rw [gt_step]
      split
      · exact ihl d h1 _
      · exact ihr d h2 _
  | tag n f ih =>
    intro d h i
    have h : Nat.ble n 1 = true := h
    cases d with
    | zero => cases i with
      | zero => exact ble_iff.mp h
      | succ i => exact Nat.zero_le _
    | succ d =>
      rw [gt_step]
      have e : ∀ j, fx_gt d .nil j ≤ 1 := fun j => by rw [gt_nil]; exact Nat.zero_le _
      split <;> exact e _
  | _ =>
    intro d h i
    cases d with
    | zero => cases i with
      | zero => exact Nat.zero_le _
      | succ i => exact Nat.zero_le _
    | succ d =>
      rw [gt_step]
      have e : ∀ j, fx_gt d .nil j ≤ 1 := fun j => by rw [gt_nil]; exact Nat.zero_le _
      split <;> exact e _
/-! cells -/
def fx_pr (d : Nat) (l r : fx_T d) : fx_T (d + 1) := @Prod.mk (fx_T d) (fx_T d) l r
theorem fx_as_pr (d : Nat) (t : fx_T (d + 1)) : ∃ l r, t = fx_pr d l r := ⟨@Prod.fst (fx_T d) (fx_T d) t, @Prod.snd (fx_T d) (fx_T d) t, rfl⟩
theorem hv_step (d : Nat) (l r : fx_T d) (i : Nat) : fx_hv (d + 1) (fx_pr d l r) i = if i % 2 = 0 then fx_hv d l (i / 2) else fx_hv d r (i / 2) := by
  show fx_hv d (Nat.rec (motive := fun _ => fx_T d) l (fun _ _ => r) (i % 2)) (i / 2) = _
  cases hm : i % 2 with
  | zero => rfl
  | succ _ => rfl
theorem hs_step (d : Nat) (l r : fx_T d) (i : Nat) (c : fx_C) (k : fx_T (d + 1) → Bool) : fx_hs (d + 1) (fx_pr d l r) i c k = Nat.rec (motive := fun _ => Bool) (fx_hs d l (i / 2) c (fun l => k (fx_pr d l r))) (fun _ _ => fx_hs d r (i / 2) c (fun r => k (fx_pr d l r))) (i % 2) := rfl
theorem hs_ok : ∀ {d : Nat} {t : fx_T d} {i : Nat} {c : fx_C} {k : fx_T d → Bool}, fx_hs d t i c k = true → ∃ t', k t' = true ∧ ∀ j, fx_hv d t' j = if j = i then c else fx_hv d t j := by
  intro d
  induction d with
  | zero =>
    intro t i c k h
    cases i with
    | zero =>
      refine ⟨c, h, fun j => ?_⟩
      cases j with
      | zero => rfl
      | succ j => rfl
    | succ i => cases h
  | succ d ih =>
    intro t i c k h
    obtain ⟨l, r, rfl⟩ := fx_as_pr d t
    rw [hs_step] at h
    cases hm : i % 2 with
    | zero =>
      rw [hm] at h
      obtain ⟨l', a1, a2⟩ := ih (k := fun l => k (fx_pr d l r)) h
      refine ⟨fx_pr d l' r, a1, fun j => ?_⟩
      rw [hv_step, hv_step]
      by_cases hj : j % 2 = 0
      · rw [if_pos hj, if_pos hj, a2]
        by_cases he : j = i
        · rw [if_pos he, if_pos (by rw [he])]
        · rw [if_neg he, if_neg (by omega)]
      · rw [if_neg hj, if_neg hj, if_neg (by intro e; rw [e] at hj; omega)]
    | succ m =>
      rw [hm] at h
      obtain ⟨r', a1, a2⟩ := ih (k := fun r => k (fx_pr d l r)) h
      refine ⟨fx_pr d l r', a1, fun j => ?_⟩
      rw [hv_step, hv_step]
      by_cases hj : j % 2 = 0
      · rw [if_pos hj, if_pos hj, if_neg (by intro e; rw [e] at hj; omega)]
      · rw [if_neg hj, if_neg hj, a2]
        by_cases he : j = i
        · rw [if_pos he, if_pos (by rw [he])]
        · rw [if_neg he, if_neg (by omega)]
theorem fd_at (ρ : Nat → Int32) (h : fx_H) {a : Nat} (ha : a < h.2.1) : (fd_h ρ h).1[a]? = some (fd_c ρ (fx_hv 7 h.1 a)) := by
  show ((List.range h.2.1).map (fun a => fd_c ρ (fx_hv 7 h.1 a)))[a]? = _
  simp [ha]
theorem ce_ok {h : fx_H} {a : Nat} {k : Nat → Nat → Nat → fx_A → List fx_V → Bool} (he : fx_ce h a k = true) : a < h.2.1 ∧ ∃ c : fx_C, fx_hv 7 h.1 a = c ∧ k c.1 c.2.1 c.2.2.1 c.2.2.2.1 c.2.2.2.2 = true := by
  obtain ⟨h1, h2⟩ := if_t he
  rw [blt_iff] at h1
  exact ⟨h1, _, rfl, h2⟩
theorem cs_ok {ρ : Nat → Int32} {h : fx_H} {a : Nat} {c : fx_C} {k : fx_H → Bool} (he : fx_cs h a c k = true) : ∃ h', fd_h ρ h' = ev_set (fd_h ρ h) a (fd_c ρ c) ∧ h'.2.2.2 = h.2.2.2 ∧ k h' = true := by
  obtain ⟨t, q⟩ := h
  obtain ⟨t', a1, a2⟩ := hs_ok (show fx_hs 7 t a c (fun t => k (t, q)) = true from he)
  refine ⟨(t', q), ?_, rfl, a1⟩
  show (_, _) = (_, _)
  congr 1
  apply List.ext_getElem?
  intro j
  show ((List.range q.1).map (fun a => fd_c ρ (fx_hv 7 t' a)))[j]? = (((List.range q.1).map (fun a => fd_c ρ (fx_hv 7 t a))).set a (fd_c ρ c))[j]?
  rw [List.getElem?_set]
  by_cases hj : j < q.1
  · by_cases e : a = j
    · subst e; simp [hj, a2]
    · simp [hj, a2, e, Ne.symm e]
  · by_cases e : a = j
    · subst e; simp [hj]
    · simp [hj, e]
theorem nw_ok {ρ : Nat → Int32} {h : fx_H} {c : fx_C} {m : Nat} {k : Nat → fx_H → Bool} (he : fx_nw h c m k = true) : ∃ h', fd_h ρ h' = ev_push (fd_h ρ h) (fd_c ρ c) m ∧ h'.2.2.2 = h.2.2.2 ∧ k (fd_h ρ h).2.1 h' = true := by
  obtain ⟨t, n, s, r⟩ := h
  obtain ⟨t', a1, a2⟩ := hs_ok (show fx_hs 7 t n c (fun t => fx_fr (Nat.add s m) (fun s => fx_fr (Nat.succ n) (fun n' => k n (t, n', s, r)))) = true from he)
  rw [fr_eq, fr_eq] at a1
  refine ⟨(t', n + 1, s + m, r), ?_, rfl, a1⟩
  show (_, _) = (_, _)
  congr 1
  show (List.range (n + 1)).map (fun a => fd_c ρ (fx_hv 7 t' a)) = (List.range n).map (fun a => fd_c ρ (fx_hv 7 t a)) ++ [fd_c ρ c]
  rw [List.range_succ, List.map_append]
  congr 1
  · apply List.map_congr_left
    intro a ha
    rw [a2, if_neg (by have := List.mem_range.mp ha; omega)]
  · simp [a2]
/-! stack and locals -/
theorem pt_ok {t : Nat} {st : List fx_V} {k : Nat → List fx_V → Bool} (h : fx_pt t st k = true) : ∃ x r, st = (t, x) :: r ∧ k x r = true := by
  cases st with
  | nil => cases h
  | cons v r =>
    obtain ⟨t', x⟩ := v
    obtain ⟨h1, h2⟩ := if_t (show fx_if (Nat.beq t' t) (k x r) false = true from h)
    rw [beq_iff] at h1
    subst h1
    exact ⟨x, r, rfl, h2⟩
theorem p_ok {st : List fx_V} {k : Nat → Nat → List fx_V → Bool} (h : fx_p st k = true) : ∃ t x r, st = (t, x) :: r ∧ k t x r = true := by
  cases st with
  | nil => cases h
  | cons v r => exact ⟨v.1, v.2, r, rfl, h⟩
theorem fd_li {ρ : Nat → Int32} {ls : List fx_V} {i : Nat} (h : (fx_li ls i).1 < 4) : ev_ldv (fd_l ρ ls) i = some (fd_v ρ (fx_li ls i)) := by
  rw [li_eq] at h ⊢
  unfold ev_ldv fd_l
  rw [List.getElem?_map]
  rw [List.getD_eq_getElem?_getD] at h ⊢
  cases hl : ls[i]? with
  | none => rw [hl] at h; exact absurd h (by decide)
  | some v =>
    rw [hl] at h
    have h : v.1 < 4 := h
    simp [fd_lo, h]
theorem fd_set (ρ : Nat → Int32) (ls : List fx_V) (i : Nat) (v : fx_V) : fd_l ρ (ls.set i v) = (fd_l ρ ls).set i (fd_lo ρ v) := by
  simp [fd_l]
theorem fd_cat (ρ : Nat → Int32) (v : fx_V) : (fd_v ρ v).category = if v.1 = 1 then 2 else 1 := by
  unfold fd_v
  by_cases h0 : v.1 = 0
  · simp [h0, Value.category]
  · by_cases h1 : v.1 = 1
    · simp [h1, Value.category]
    · by_cases h2 : v.1 = 2
      · simp [h2, Value.category]
      · simp [h0, h1, h2, Value.category]
theorem cl_ok {ρ : Nat → Int32} {ls : List fx_V} {i : Nat} {k : List fx_V → Bool} (h : fx_cl ls i k = true) : ∃ ls', fd_l ρ ls' = ev_clr (fd_l ρ ls) i ∧ ls'.length = ls.length ∧ k ls' = true := by
  cases i with
  | zero => exact ⟨ls, rfl, rfl, h⟩
  | succ j =>
    have h : fx_if (Nat.beq (fx_li ls j).1 1) (fx_ls ls j (4, 0) k) (k ls) = true := h
    have e0 : ∀ v, ls[j]? = some v → fx_li ls j = v := fun v hv => by rw [li_eq, List.getD_eq_getElem?_getD, hv]; rfl
    rcases if_or h with ⟨a, b⟩ | ⟨a, b⟩
    · rw [beq_iff] at a
      obtain ⟨b1, b2⟩ := ls_ok b
      refine ⟨ls.set j (4, 0), ?_, by simp, b2⟩
      rw [fd_set]
      have hv := e0 _ (List.getElem?_eq_getElem b1)
      rw [hv] at a
      unfold ev_clr
      have q : (fd_l ρ ls)[j]? = some (some (fd_v ρ ls[j])) := by
        unfold fd_l
        rw [List.getElem?_map, List.getElem?_eq_getElem b1]
        simp [fd_lo, a]
      dsimp only
      rw [q]
      dsimp only
      rw [fd_cat, if_pos a, if_pos rfl]
      rfl
    · rw [beq_no] at a
      refine ⟨ls, ?_, rfl, b⟩
      unfold ev_clr
      dsimp only
      split
      · next v hv =>
        unfold fd_l at hv
        rw [List.getElem?_map] at hv
        cases hl : ls[j]? with
        | none => rw [hl] at hv; cases hv
        | some w =>
          rw [hl] at hv
          rw [e0 w hl] at a
          have hv : fd_lo ρ w = some v := Option.some.inj hv
          unfold fd_lo at hv
          split at hv
          · cases hv
            rw [fd_cat, if_neg a, if_neg (by decide)]
          · cases hv
      · rfl
theorem s1_ok {ρ : Nat → Int32} {ls : List fx_V} {i : Nat} {v : fx_V} {k : List fx_V → Bool} (hv : v.1 < 4) (h : fx_s1 ls i v k = true) : ∃ ls', ev_st1 (fd_l ρ ls) i (fd_v ρ v) = some (fd_l ρ ls') ∧ k ls' = true := by
  obtain ⟨l1, a1, a2, a3⟩ := cl_ok (ρ := ρ) h
  obtain ⟨b1, b2⟩ := ls_ok a3
  refine ⟨l1.set i v, ?_, b2⟩
  unfold ev_st1
  rw [if_pos (by simp only [fd_l, List.length_map]; omega), fd_set, a1]
  simp [fd_lo, hv]
theorem s0_ok {ρ : Nat → Int32} {ls : List fx_V} {i : Nat} {k : List fx_V → Bool} (h : fx_s1 ls i (4, 0) k = true) : ∃ ls', ev_st0 (fd_l ρ ls) i = some (fd_l ρ ls') ∧ k ls' = true := by
  obtain ⟨l1, a1, a2, a3⟩ := cl_ok (ρ := ρ) h
  obtain ⟨b1, b2⟩ := ls_ok a3
  refine ⟨l1.set i (4, 0), ?_, b2⟩
  unfold ev_st0
  rw [if_pos (by simp only [fd_l, List.length_map]; omega), fd_set, a1]
  rfl
theorem s2_ok {ρ : Nat → Int32} {ls : List fx_V} {i : Nat} {v : fx_V} {k : List fx_V → Bool} (hv : v.1 < 4) (h : fx_s2 ls i v k = true) : ∃ ls', ev_st2 (fd_l ρ ls) i (fd_v ρ v) = some (fd_l ρ ls') ∧ k ls' = true := by
  obtain ⟨l1, a1, a2, a3⟩ := cl_ok (ρ := ρ) h
  obtain ⟨b1, b2⟩ := ls_ok a3
  obtain ⟨c1, c2⟩ := ls_ok b2
  refine ⟨(l1.set i v).set (i + 1) (4, 0), ?_, c2⟩
  unfold ev_st2
  have c1 : i + 1 < (l1.set i v).length := c1
  rw [List.length_set] at c1
  rw [if_pos (by simp only [fd_l, List.length_map]; omega), fd_set, fd_set, a1]
  simp [fd_lo, hv]
