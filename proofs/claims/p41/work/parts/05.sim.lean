/-! What the evaluator's state says of the machine's; a step of the one is a step of the other. -/
def ev_ad (base : Nat) (ex : Nat → Nat) (i : Nat) : Nat := if i < ev_ext then base + i else ex (i - ev_ext)
def ev_tv (ad : Nat → Nat) (v : Value) : Value := match v with
  | .ref i => .ref (ad i)
  | v => v
def ev_cv (ad : Nat → Nat) (aC : Nat → ClassId) (e : ev_C) : va_E := match e with
  | .inl (t, n, .inl f) => .inl (aC t, n, .inl f)
  | .inl (t, n, .inr (.inl f)) => .inl (aC t, n, .inr (.inl f))
  | .inl (t, n, .inr (.inr (.inl f))) => .inl (aC t, n, .inr (.inr (.inl f)))
  | .inl (t, n, .inr (.inr (.inr (.inl f)))) => .inl (aC t, n, .inr (.inr (.inr (.inl f))))
  | .inl (t, n, .inr (.inr (.inr (.inr f)))) => .inl (aC t, n, .inr (.inr (.inr (.inr (fun j => (f j).map ad)))))
  | .inr (ci, fs) => .inr (ci, fs.map (ev_tv ad))
def ev_ws (ad : Nat → Nat) (aC : Nat → ClassId) (cs : List ev_C) : va_W := cs.mapIdx (fun i e => (ad i, ev_cv ad aC e))
theorem ev_ws_get (ad : Nat → Nat) (aC : Nat → ClassId) (cs : List ev_C) (k : Nat) : (ev_ws ad aC cs)[k]? = (cs[k]?).map (fun e => (ad k, ev_cv ad aC e)) := by
  simp [ev_ws]
theorem ev_ws_at {ad : Nat → Nat} {aC : Nat → ClassId} {cs : List ev_C} {k : Nat} {e : ev_C} (h : cs[k]? = some e) : (ev_ws ad aC cs)[k]? = some (ad k, ev_cv ad aC e) := by
  rw [ev_ws_get, h]; rfl
theorem ev_ws_set {ad : Nat → Nat} {aC : Nat → ClassId} {cs : List ev_C} {k : Nat} {e : ev_C} : (ev_ws ad aC cs).set k (ad k, ev_cv ad aC e) = ev_ws ad aC (cs.set k e) := by
  apply List.ext_getElem?
  intro j
  rw [ev_ws_get, List.getElem?_set, List.getElem?_set, ev_ws_get]
  by_cases hj : k = j
  · subst hj
    by_cases hk : k < cs.length
    · simp [ev_ws, hk]
    · simp [ev_ws, hk]
  · simp [hj]
theorem ev_ws_push {ad : Nat → Nat} {aC : Nat → ClassId} {cs : List ev_C} {e : ev_C} : ev_ws ad aC cs ++ [(ad cs.length, ev_cv ad aC e)] = ev_ws ad aC (cs ++ [e]) := by
  simp [ev_ws, List.mapIdx_append]
theorem ev_ad_in {base : Nat} {ex : Nat → Nat} {i : Nat} (h : i < ev_ext) : ev_ad base ex i = base + i := by simp [ev_ad, h]
/-- the abstract heap and the machine's -/
def ev_rel (D : va_G) (cl : List vw_C) (aC : Nat → ClassId) (base : Nat) (ex : Nat → Nat) (h : ev_H) (H : Heap) : Prop :=
  va_P D cl (ev_ws (ev_ad base ex) aC h.1) H ∧ H.size = base + h.1.length ∧ h.2.1 = h.1.length ∧ h.1.length ≤ ev_ext
theorem ev_D {base : Nat} {ex : Nat → Nat} {aC : Nat → ClassId} {cs : List ev_C} (h : cs.length ≤ ev_ext) : va_D (fun q : Nat => base ≤ q) (ev_ws (ev_ad base ex) aC cs) := by
  have key : ∀ (k : Nat) (q : Nat × va_E), (ev_ws (ev_ad base ex) aC cs)[k]? = some q → q.1 = base + k := by
    intro k q hq
    rw [ev_ws_get] at hq
    cases hc : cs[k]? with
    | none => rw [hc] at hq; cases hq
    | some e =>
      rw [hc] at hq
      have hk : k < cs.length := (List.getElem?_eq_some_iff.mp hc).1
      cases hq
      exact ev_ad_in (Nat.lt_of_lt_of_le hk h)
  refine ⟨fun i j p q hi hj e => ?_, fun k q hk => ?_⟩
  · have h1 := key i p hi
    have h2 := key j q hj
    omega
  · have h1 := key k q hk
    show base ≤ q.1
    omega
/-- the locals -/
def ev_as (ad : Nat → Nat) (ls : ev_L) : List (Nat × Value) := (ls.mapIdx (fun i o => o.map (fun v => (i, ev_tv ad v)))).filterMap id
theorem ev_as_mem {ad : Nat → Nat} {ls : ev_L} {q : Nat × Value} : q ∈ ev_as ad ls ↔ ∃ v, ls[q.1]? = some (some v) ∧ q.2 = ev_tv ad v := by
  unfold ev_as
  rw [List.mem_filterMap]
  constructor
  · rintro ⟨o, ho, he⟩
    obtain ⟨i, hi⟩ := List.getElem?_of_mem ho
    rw [List.getElem?_mapIdx] at hi
    cases hl : ls[i]? with
    | none => rw [hl] at hi; cases hi
    | some u =>
      rw [hl] at hi
      cases u with
      | none => cases hi; cases he
      | some v => cases hi; cases he; exact ⟨v, hl, rfl⟩
  · rintro ⟨v, hv, he⟩
    refine ⟨some q, ?_, rfl⟩
    apply List.mem_of_getElem? (i := q.1)
    rw [List.getElem?_mapIdx, hv]
    show some (some (q.1, ev_tv ad v)) = some (some q)
    rw [← he]
def ev_lr (ad : Nat → Nat) (Ls : Array Slot) (ls : ev_L) : Prop := lv_has Ls ls.length (ev_as ad ls)
theorem ev_cat (ad : Nat → Nat) (v : Value) : (ev_tv ad v).category = v.category := by cases v <;> rfl
theorem ev_lr_at {ad : Nat → Nat} {Ls : Array Slot} {ls : ev_L} (h : ev_lr ad Ls ls) {i : Nat} {v : Value} (hv : ev_ldv ls i = some v) : Ls[i]? = some (.val (ev_tv ad v)) := by
  have h1 : ls[i]? = some (some v) := by
    unfold ev_ldv at hv
    split at hv
    · next e => rw [e]; cases hv; rfl
    · cases hv
  exact h.2.2 (i, ev_tv ad v) (ev_as_mem.mpr ⟨v, h1, rfl⟩)
theorem ev_lv_sub {Ls : Array Slot} {n : Nat} {l l' : List (Nat × Value)} (h : lv_has Ls n l) (hs : ∀ q ∈ l', q ∈ l) : lv_has Ls n l' := ⟨h.1, h.2.1, fun q hq => h.2.2 q (hs q hq)⟩
theorem ev_clr_len (ls : ev_L) (i : Nat) : (ev_clr ls i).length = ls.length := by
  unfold ev_clr
  cases i with
  | zero => rfl
  | succ j => dsimp only; split <;> (try split) <;> simp
theorem ev_clr_get {ls : ev_L} {i j : Nat} {v : Value} (h : (ev_clr ls i)[j]? = some (some v)) : ls[j]? = some (some v) ∧ ¬ (j + 1 = i ∧ v.category = 2) := by
  unfold ev_clr at h
  cases i with
  | zero => exact ⟨h, fun q => by omega⟩
  | succ k =>
    dsimp only at h
    split at h
    · next w e =>
      split at h
      · next hc =>
        by_cases hj : k = j
        · subst hj
          rw [List.getElem?_set] at h
          simp at h
        · rw [List.getElem?_set, if_neg hj] at h
          exact ⟨h, fun q => hj (by omega)⟩
      · next hc =>
        refine ⟨h, fun q => ?_⟩
        have : j = k := by omega
        subst this
        rw [e] at h
        cases h
        exact hc q.2
    · next hx =>
      refine ⟨h, fun q => ?_⟩
      have : j = k := by omega
      subst this
      exact hx v h
theorem ev_st1_lr {ad : Nat → Nat} {Ls : Array Slot} {ls ls' : ev_L} {i : Nat} {v : Value} (he : ev_st1 ls i v = some ls') : i < ls.length ∧ ls'.length = ls.length ∧ ∀ Ls', lv_has Ls' ls.length ((i, ev_tv ad v) :: (ev_as ad ls).filter (fun q => !(q.1 == i) && !(q.1 + 1 == i && q.2.category == 2))) → ev_lr ad Ls' ls' := by
  unfold ev_st1 at he
  split at he
  · next hi =>
    cases he
    have hlen : ((ev_clr ls i).set i (some v)).length = ls.length := by simp [ev_clr_len]
    refine ⟨hi, hlen, fun Ls' h => ?_⟩
    unfold ev_lr
    rw [hlen]
    refine ev_lv_sub h (fun q hq => ?_)
    obtain ⟨w, hw, e⟩ := ev_as_mem.mp hq
    by_cases hqi : i = q.1
    · rw [List.getElem?_set, if_pos hqi] at hw
      split at hw
      · cases hw
        rw [show q = (i, ev_tv ad v) from Prod.ext hqi.symm e]
        exact List.mem_cons_self
      · cases hw
    · rw [List.getElem?_set, if_neg hqi] at hw
      obtain ⟨h1, h2⟩ := ev_clr_get hw
      refine List.mem_cons_of_mem _ (List.mem_filter.mpr ⟨ev_as_mem.mpr ⟨w, h1, e⟩, ?_⟩)
      rw [e, ev_cat]
      simp only [Bool.and_eq_true, Bool.not_eq_true', beq_eq_false_iff_ne, ne_eq, Bool.and_eq_false_iff]
      refine ⟨fun z => hqi z.symm, ?_⟩
      by_cases hz : q.1 + 1 = i
      · exact Or.inr (fun z => h2 ⟨hz, z⟩)
      · exact Or.inl hz
  · cases he
theorem ev_st2_lr {ad : Nat → Nat} {ls ls' : ev_L} {i : Nat} {v : Value} (he : ev_st2 ls i v = some ls') : i + 1 < ls.length ∧ ls'.length = ls.length ∧ ∀ Ls', lv_has Ls' ls.length ((i, ev_tv ad v) :: (ev_as ad ls).filter (fun q => !(q.1 == i) && (!(q.1 == i + 1) && !(q.1 + 1 == i && q.2.category == 2)))) → ev_lr ad Ls' ls' := by
  unfold ev_st2 at he
  split at he
  · next hi =>
    cases he
    have hlen : (((ev_clr ls i).set i (some v)).set (i + 1) none).length = ls.length := by simp [ev_clr_len]
    refine ⟨hi, hlen, fun Ls' h => ?_⟩
    unfold ev_lr
    rw [hlen]
    refine ev_lv_sub h (fun q hq => ?_)
    obtain ⟨w, hw, e⟩ := ev_as_mem.mp hq
    have hq1 : ¬ i + 1 = q.1 := by
      intro z
      rw [List.getElem?_set, if_pos z] at hw
      split at hw <;> cases hw
    rw [List.getElem?_set, if_neg hq1] at hw
    by_cases hqi : i = q.1
    · rw [List.getElem?_set, if_pos hqi] at hw
      split at hw
      · cases hw
        rw [show q = (i, ev_tv ad v) from Prod.ext hqi.symm e]
        exact List.mem_cons_self
      · cases hw
    · rw [List.getElem?_set, if_neg hqi] at hw
      obtain ⟨h1, h2⟩ := ev_clr_get hw
      refine List.mem_cons_of_mem _ (List.mem_filter.mpr ⟨ev_as_mem.mpr ⟨w, h1, e⟩, ?_⟩)
      rw [e, ev_cat]
      simp only [Bool.and_eq_true, Bool.not_eq_true', beq_eq_false_iff_ne, ne_eq, Bool.and_eq_false_iff]
      refine ⟨fun z => hqi z.symm, fun z => hq1 z.symm, ?_⟩
      by_cases hz : q.1 + 1 = i
      · exact Or.inr (fun z => h2 ⟨hz, z⟩)
      · exact Or.inl hz
  · cases he
