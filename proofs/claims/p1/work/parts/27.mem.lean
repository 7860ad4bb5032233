/-! The same for rows, objects and constants. -/
section FxB
variable {ρ : Nat → Int32} {V : ev_V} {F : fx_F} {X : fx_X} {pc : Nat} {tl : ev_M} {w : Nat × Nat × Nat × Nat} {ls st : List fx_V} {h : fx_H}
theorem fc_int {c : fx_C} (hc : c.1 = 0 ∨ c.1 = 2) : fd_c ρ c = .inl (c.1, c.2.1, .inl (fd_fi ρ c.2.1 c.2.2.1 c.2.2.2.1)) := if_pos hc
theorem fc_long {c : fx_C} (hc : c.1 = 1) : fd_c ρ c = .inl (1, c.2.1, .inr (.inl (fd_fl c.2.1 c.2.2.1 c.2.2.2.1))) := by
  unfold fd_c
  rw [if_neg (by omega), if_pos hc]
theorem fc_ref {c : fx_C} (hc : c.1 = 3 ∨ c.1 = 4) : fd_c ρ c = .inl (c.1, c.2.1, .inr (.inr (.inr (.inr (fd_fq c.2.1 c.2.2.1 c.2.2.2.1))))) := by
  unfold fd_c
  rw [if_neg (by omega), if_neg (by omega), if_pos hc]
theorem fc_obj {c : fx_C} (hc : c.1 = 9) : fd_c ρ c = .inr (c.2.1, fd_s ρ c.2.2.2.2) := by
  unfold fd_c
  rw [if_neg (by omega), if_neg (by omega), if_neg (by omega)]
theorem ar_ok {t a i : Nat} {k : Nat → Nat → fx_A → List fx_V → Bool} (he : fx_ar t h a i k = true) : ∃ c : fx_C, (fd_h ρ h).1[a]? = some (fd_c ρ c) ∧ c.1 = t ∧ i < c.2.1 ∧ i < 2147483648 ∧ k c.2.1 c.2.2.1 c.2.2.2.1 c.2.2.2.2 = true := by
  obtain ⟨a1, c, a2, a3⟩ := ce_ok he
  obtain ⟨b1, b2⟩ := if_t a3
  obtain ⟨b2, b3⟩ := if_t b2
  obtain ⟨b3, b4⟩ := if_t b3
  rw [beq_iff] at b1
  rw [blt_iff] at b2 b3
  exact ⟨c, by rw [fd_at ρ h a1, a2], b1, b2, b3, b4⟩
theorem ob_ok {a ci : Nat} {k : List fx_V → Bool} (he : fx_ob h a ci k = true) : ∃ f, (fd_h ρ h).1[a]? = some (.inr (ci, fd_s ρ f)) ∧ k f = true := by
  obtain ⟨a1, c, a2, a3⟩ := ce_ok he
  obtain ⟨b1, b2⟩ := if_t a3
  obtain ⟨b2, b3⟩ := if_t b2
  rw [beq_iff] at b1 b2
  exact ⟨c.2.2.2.2, by rw [fd_at ρ h a1, a2, fc_obj b1, b2], b3⟩
theorem ext_no {a : Nat} (h : Nat.beq a 1048576 = false) : ¬ a = ev_ext := beq_no.mp h
theorem ial_ok (hV : fd_V ρ V) (hk : fd_k ρ h.2.2.2) {t : Nat} (ht : t = 0 ∨ t = 2) (he : fx_ial t F X pc tl w ls st h = true) : ∃ z s r, ev_aldi V t (fd_s ρ st) (fd_h ρ h) = some (.int (fd_i ρ z) :: fd_s ρ s) ∧ fd_k ρ r ∧ F X (pc + 1) tl ls ((0, z) :: s) (fd_w h r) = true := by
  obtain ⟨i, s1, rfl, a⟩ := pi_ok he
  obtain ⟨a0, s, rfl, b⟩ := pt_ok a
  obtain ⟨v, r, v1, v2, v3, v4⟩ := kn_ok (ρ := ρ) b hk
  rcases if_or v4 with ⟨c1, c2⟩ | ⟨c1, c2⟩
  · rw [beq_iff] at c1
    subst c1
    obtain ⟨d1, d2⟩ := if_t c2
    rw [beq_iff] at d1
    obtain ⟨L, r2, l1, l2, l3, l4⟩ := kn_ok (ρ := ρ) d2 v3
    obtain ⟨e1, e2⟩ := if_t l4
    obtain ⟨e2, e3⟩ := if_t e2
    rw [blt_iff] at e1 e2
    rw [fr_eq] at e3
    have hL : L = V.1 := by
      have q : fd_i ρ 4294967313 = ρ 17 := rfl
      rw [q, hV.1] at l2
      have := hV.2.1
      exact (fd_of_inj (by omega) l1 l2).symm
    subst hL
    obtain ⟨i1, i2⟩ := fo_ix e1 (by omega)
    refine ⟨4294967296 + v, s, r2, ?_, l3, e3⟩
    have e9 : fd_i ρ (4294967296 + v) = V.2 v := by
      unfold fd_i
      rw [if_neg (by omega), if_pos (by omega), Nat.add_sub_cancel_left]
      exact hV.2.2.1 v (by omega) e1
    rw [e9]
    simp only [ev_aldi, fsc, fv0, fv2, v2, i1, i2, d1]
    rfl
  · obtain ⟨c, d1, d2, d3, d4, d5⟩ := ar_ok (ρ := ρ) c2
    rw [fr_eq] at d5
    obtain ⟨i1, i2⟩ := fo_ix d3 d4
    have d1 : (fd_h ρ h).1[a0]? = some (fd_c ρ c) := d1
    rw [fc_int (by omega)] at d1
    refine ⟨_, s, r, ?_, v3, d5⟩
    simp only [ev_aldi, fsc, fv0, fv2, v2, i1, i2, d1, d2]
    rw [if_neg (fun q => ext_no c1 q.1)]
    simp [fd_fi, d3]
theorem st_iaload (hV : fd_V ρ V) (hsf : fx_sf X.2.2.1 tl) (hk : fd_k ρ h.2.2.2) (he : fx_ial 0 F X pc tl w ls st h = true) : fd_St ρ V F X (.iaload, w) pc ls st h := by
  obtain ⟨z, s, r, a, b, c⟩ := ial_ok hV hk (Or.inl rfl) he
  exact ⟨_, _, _, _, _, by simp only [ev_s, a]; rfl, hsf, c, b⟩
theorem st_baload (hV : fd_V ρ V) (hsf : fx_sf X.2.2.1 tl) (hk : fd_k ρ h.2.2.2) (he : fx_ial 2 F X pc tl w ls st h = true) : fd_St ρ V F X (.baload, w) pc ls st h := by
  obtain ⟨z, s, r, a, b, c⟩ := ial_ok hV hk (Or.inr rfl) he
  exact ⟨_, _, _, _, _, by simp only [ev_s, a]; rfl, hsf, c, b⟩
theorem st_laload (hsf : fx_sf X.2.2.1 tl) (hk : fd_k ρ h.2.2.2) (he : fx_lal F X pc tl w ls st h = true) : fd_St ρ V F X (.laload, w) pc ls st h := by
  obtain ⟨i, s1, rfl, a⟩ := pi_ok he
  obtain ⟨a0, s, rfl, b⟩ := pt_ok a
  obtain ⟨v, r, v1, v2, v3, v4⟩ := kn_ok (ρ := ρ) b hk
  obtain ⟨c, d1, d2, d3, d4, d5⟩ := ar_ok (ρ := ρ) v4
  rw [fr_eq] at d5
  obtain ⟨i1, i2⟩ := fo_ix d3 d4
  have d1 : (fd_h ρ h).1[a0]? = some (fd_c ρ c) := d1
  rw [fc_long d2] at d1
  refine ⟨_, _, _, _, _, ?_, hsf, d5, v3⟩
  simp only [ev_s, ev_aldl, fsc, fv0, fv1, fv2, v2, i1, i2, d1]
  simp [fd_fl, d3, fd_wh]
theorem st_aaload (hsf : fx_sf X.2.2.1 tl) (hk : fd_k ρ h.2.2.2) (he : fx_aal F X pc tl w ls st h = true) : fd_St ρ V F X (.aaload, w) pc ls st h := by
  obtain ⟨len, x, y, z⟩ := w
  obtain ⟨i, s1, rfl, a⟩ := pi_ok he
  obtain ⟨a0, s, rfl, b⟩ := pt_ok a
  obtain ⟨v, r, v1, v2, v3, v4⟩ := kn_ok (ρ := ρ) b hk
  obtain ⟨e1, e2⟩ := if_t v4
  have e1 : x = 3 ∨ x = 4 := by
    rcases if_or e1 with ⟨q, -⟩ | ⟨-, q⟩
    · exact Or.inl (beq_iff.mp q)
    · exact Or.inr (beq_iff.mp q)
  obtain ⟨c, d1, d2, d3, d4, d5⟩ := ar_ok (ρ := ρ) e2
  obtain ⟨i1, i2⟩ := fo_ix d3 d4
  have d1 : (fd_h ρ h).1[a0]? = some (fd_c ρ c) := d1
  have d2 : c.1 = x := d2
  rw [fc_ref (by omega)] at d1
  cases hq : fx_gt c.2.2.1 c.2.2.2.1 v with
  | zero => rw [hq] at d5; cases d5
  | succ q =>
    rw [hq] at d5
    refine ⟨_, _, _, _, _, ?_, hsf, d5, v3⟩
    simp only [ev_s, ev_aldq, fsc, fv0, fv2, v2, i1, i2, d1, d2]
    simp [fd_fq, d3, hq, fd_q, fd_wh]
theorem fi_set {n e : Nat} {t t' : fx_A} {i v : Nat} (hi : i < n) (h : ∀ j, fx_gt e t' j = if j = i then v else fx_gt e t j) : fd_fi ρ n e t' = upd (fd_fi ρ n e t) i (fd_i ρ v) := by
  funext j
  unfold fd_fi upd
  rw [h]
  by_cases hj : j = i
  · subst hj; simp [hi]
  · simp [hj]
theorem fl_set {n e : Nat} {t t' : fx_A} {i v : Nat} (hi : i < n) (h : ∀ j, fx_gt e t' j = if j = i then v else fx_gt e t j) : fd_fl n e t' = vp_updL (fd_fl n e t) i (Int64.ofNat v) := by
  funext j
  unfold fd_fl vp_updL
  rw [h]
  by_cases hj : j = i
  · subst hj; simp [hi]
  · simp [hj]
theorem fq_set {n e : Nat} {t t' : fx_A} {i q : Nat} (hi : i < n) (h : ∀ j, fx_gt e t' j = if j = i then q + 1 else fx_gt e t j) : fd_fq n e t' = va_up (fd_fq n e t) i (some q) := by
  funext j
  unfold fd_fq va_up
  rw [h]
  by_cases hj : j = i
  · subst hj; simp [hi, fd_q]
  · simp [hj]
theorem ias_ok (hk : fd_k ρ h.2.2.2) {t : Nat} (ht : t = 0 ∨ t = 2) (he : fx_ias t F X pc tl w ls st h = true) : ∃ s h', ev_asti t (fd_s ρ st) (fd_h ρ h) = some (fd_s ρ s, fd_h ρ h') ∧ fd_k ρ h'.2.2.2 ∧ F X (pc + 1) tl ls s h' = true := by
  obtain ⟨v, s1, rfl, a⟩ := pi_ok he
  obtain ⟨i, s2, rfl, b⟩ := pi_ok a
  obtain ⟨a0, s, rfl, c⟩ := pt_ok b
  obtain ⟨u, r, v1, v2, v3, v4⟩ := kn_ok (ρ := ρ) c hk
  rw [fr_eq] at v4
  obtain ⟨e1, e2⟩ := if_t v4
  have e1 : t = 0 ∨ fd_i ρ v = 0 ∨ fd_i ρ v = 1 := by
    rcases if_or e1 with ⟨q, -⟩ | ⟨-, q⟩
    · exact Or.inl (beq_iff.mp q)
    · have q := ble_iff.mp q
      rcases Nat.lt_or_ge v 1 with g | g
      · exact Or.inr (Or.inl (by rw [show v = 0 by omega]; rfl))
      · exact Or.inr (Or.inr (by rw [show v = 1 by omega]; rfl))
  obtain ⟨c, d1, d2, d3, d4, d5⟩ := ar_ok (ρ := ρ) e2
  obtain ⟨i1, i2⟩ := fo_ix d3 d4
  have d1 : (fd_h ρ h).1[a0]? = some (fd_c ρ c) := d1
  rw [fc_int (by omega)] at d1
  obtain ⟨x', f1, f2⟩ := as_ok d5
  obtain ⟨h', g1, g2, g3⟩ := cs_ok (ρ := ρ) f1
  refine ⟨s, h', ?_, by rw [g2]; exact v3, g3⟩
  have e9 : fd_c ρ (t, c.2.1, c.2.2.1, x', c.2.2.2.2) = .inl (t, c.2.1, .inl (upd (fd_fi ρ c.2.1 c.2.2.1 c.2.2.2.1) u (fd_i ρ v))) := by
    rw [fc_int (show t = 0 ∨ t = 2 from ht), ← fi_set d3 f2]
  rw [g1, e9, fd_wh]
  simp only [ev_asti, fsc, fv0, fv2, v2, i1, i2, d1, d2]
  rw [if_pos trivial, if_pos trivial, if_pos e1]
theorem st_iastore (hsf : fx_sf X.2.2.1 tl) (hk : fd_k ρ h.2.2.2) (he : fx_ias 0 F X pc tl w ls st h = true) : fd_St ρ V F X (.iastore, w) pc ls st h := by
  obtain ⟨s, h', a, b, c⟩ := ias_ok hk (Or.inl rfl) he
  exact ⟨_, _, _, _, _, by simp only [ev_s, a]; rfl, hsf, c, b⟩
theorem st_bastore (hsf : fx_sf X.2.2.1 tl) (hk : fd_k ρ h.2.2.2) (he : fx_ias 2 F X pc tl w ls st h = true) : fd_St ρ V F X (.bastore, w) pc ls st h := by
  obtain ⟨s, h', a, b, c⟩ := ias_ok hk (Or.inr rfl) he
  exact ⟨_, _, _, _, _, by simp only [ev_s, a]; rfl, hsf, c, b⟩
theorem st_lastore (hsf : fx_sf X.2.2.1 tl) (hk : fd_k ρ h.2.2.2) (he : fx_las F X pc tl w ls st h = true) : fd_St ρ V F X (.lastore, w) pc ls st h := by
  obtain ⟨v, s1, rfl, a⟩ := pt_ok he
  obtain ⟨i, s2, rfl, b⟩ := pi_ok a
  obtain ⟨a0, s, rfl, c⟩ := pt_ok b
  obtain ⟨u, r, v1, v2, v3, v4⟩ := kn_ok (ρ := ρ) c hk
  rw [fr_eq] at v4
  obtain ⟨c, d1, d2, d3, d4, d5⟩ := ar_ok (ρ := ρ) v4
  obtain ⟨i1, i2⟩ := fo_ix d3 d4
  have d1 : (fd_h ρ h).1[a0]? = some (fd_c ρ c) := d1
  rw [fc_long d2] at d1
  obtain ⟨x', f1, f2⟩ := as_ok d5
  obtain ⟨h', g1, g2, g3⟩ := cs_ok (ρ := ρ) f1
  refine ⟨_, _, _, _, _, ?_, hsf, g3, by rw [g2]; exact v3⟩
  have e9 : fd_c ρ (1, c.2.1, c.2.2.1, x', c.2.2.2.2) = .inl (1, c.2.1, .inr (.inl (vp_updL (fd_fl c.2.1 c.2.2.1 c.2.2.2.1) u (Int64.ofNat v)))) := by
    rw [fc_long rfl, ← fl_set d3 f2]
  rw [g1, e9, fd_wh]
  simp only [ev_s, ev_astl, fsc, fv0, fv1, fv2, v2, i1, i2, d1]
  rfl
theorem st_aastore (hsf : fx_sf X.2.2.1 tl) (hk : fd_k ρ h.2.2.2) (he : fx_aas F X pc tl w ls st h = true) : fd_St ρ V F X (.aastore, w) pc ls st h := by
  obtain ⟨len, x, y, z⟩ := w
  obtain ⟨q, s1, rfl, a⟩ := pt_ok he
  obtain ⟨i, s2, rfl, b⟩ := pi_ok a
  obtain ⟨a0, s, rfl, c⟩ := pt_ok b
  obtain ⟨u, r, v1, v2, v3, v4⟩ := kn_ok (ρ := ρ) c hk
  rw [fr_eq] at v4
  obtain ⟨e1, e2⟩ := if_t v4
  have e1 : x = 3 ∨ x = 4 := by
    rcases if_or e1 with ⟨q, -⟩ | ⟨-, q⟩
    · exact Or.inl (beq_iff.mp q)
    · exact Or.inr (beq_iff.mp q)
  obtain ⟨fs, o1, o2⟩ := ob_ok (ρ := ρ) e2
  have o1 : (fd_h ρ h).1[q]? = some (.inr (y, fd_s ρ fs)) := o1
  obtain ⟨c, d1, d2, d3, d4, d5⟩ := ar_ok (ρ := ρ) o2
  obtain ⟨i1, i2⟩ := fo_ix d3 d4
  have d1 : (fd_h ρ h).1[a0]? = some (fd_c ρ c) := d1
  have d2 : c.1 = x := d2
  rw [fc_ref (by omega)] at d1
  obtain ⟨x', f1, f2⟩ := as_ok d5
  obtain ⟨h', g1, g2, g3⟩ := cs_ok (ρ := ρ) f1
  refine ⟨_, _, _, _, _, ?_, hsf, g3, by rw [g2]; exact v3⟩
  have e9 : fd_c ρ (x, c.2.1, c.2.2.1, x', c.2.2.2.2) = .inl (x, c.2.1, .inr (.inr (.inr (.inr (va_up (fd_fq c.2.1 c.2.2.1 c.2.2.2.1) u (some q)))))) := by
    rw [fc_ref (show x = 3 ∨ x = 4 from e1), ← fq_set d3 f2]
  rw [g1, e9, fd_wh]
  simp only [ev_s, ev_astq, fsc, fv0, fv2, v2, i1, i2, d1, d2, o1, ev_isC, beq_self_eq_true]
  rfl
theorem st_aln (hV : fd_V ρ V) (hsf : fx_sf X.2.2.1 tl) (hk : fd_k ρ h.2.2.2) (he : fx_aln F X pc tl w ls st h = true) : fd_St ρ V F X (.arraylength, w) pc ls st h := by
  obtain ⟨a0, s, rfl, a⟩ := pt_ok he
  rcases if_or a with ⟨b1, b2⟩ | ⟨b1, b2⟩
  · rw [beq_iff] at b1
    refine ⟨_, _, _, _, _, ?_, hsf, b2, hk⟩
    have e : fd_i ρ 4294967313 = Int32.ofNat V.1 := hV.1
    simp only [ev_s, fsc, fv0, fv2, e]
    rw [if_pos (show a0 = ev_ext from b1)]
  · rcases if_or b2 with ⟨c1, c2⟩ | ⟨c1, c2⟩
    · rw [beq_iff] at c1
      refine ⟨_, _, _, _, _, ?_, hsf, c2, hk⟩
      simp only [ev_s, fsc, fv0, fv2]
      rw [if_neg (ext_no b1), if_pos (show a0 = ev_ext + 1 from c1)]
      rfl
    · obtain ⟨d1, c, d2, d3⟩ := ce_ok c2
      obtain ⟨e1, e2⟩ := if_t d3
      obtain ⟨e2, e3⟩ := if_t e2
      rw [blt_iff] at e1 e2
      refine ⟨_, _, _, _, _, ?_, hsf, e3, hk⟩
      have e9 : ∃ a2, (fd_h ρ h).1[a0]? = some (.inl (c.1, c.2.1, a2)) := by
        rw [fd_at ρ h d1, d2]
        by_cases g : c.1 = 0 ∨ c.1 = 2
        · exact ⟨_, by rw [fc_int g]⟩
        · by_cases g1 : c.1 = 1
          · exact ⟨_, by rw [fc_long g1, g1]⟩
          · exact ⟨_, by rw [fc_ref (by omega)]⟩
      obtain ⟨a2, e9⟩ := e9
      simp only [ev_s, fsc, fv0, fv2, e9, fd_i_lt ρ e2]
      rw [if_neg (ext_no b1), if_neg (show ¬ a0 = ev_ext + 1 from beq_no.mp c1), if_pos e1]
theorem dp_any (n : Nat) : True := trivial
theorem fi_nil (n e : Nat) : fd_fi ρ n e .nil = fun _ => 0 := by
  funext j
  unfold fd_fi
  rw [gt_nil]
  split <;> rfl
theorem fl_nil (n e : Nat) : fd_fl n e .nil = fun _ => 0 := by
  funext j
  unfold fd_fl
  rw [gt_nil]
  split <;> rfl
theorem fq_nil (n e : Nat) : fd_fq n e .nil = fun _ => none := by
  funext j
  unfold fd_fq
  rw [gt_nil]
  split <;> rfl
theorem nwa_ok (hk : fd_k ρ h.2.2.2) {t m : Nat} (he : fx_nwa t m F X pc tl w ls st h = true) : ∃ x s n e h', st = (0, x) :: s ∧ ¬ fd_i ρ x < 0 ∧ ¬ 1000000 < (fd_i ρ x).toNatClampNeg ∧ (fd_i ρ x).toNatClampNeg = n ∧ fd_h ρ h' = ev_push (fd_h ρ h) (fd_c ρ (t, n, e, .nil, [])) n ∧ fd_k ρ h'.2.2.2 ∧ F X (pc + m) tl ls ((2, (fd_h ρ h).2.1) :: s) h' = true := by
  obtain ⟨x, s, rfl, a⟩ := pi_ok he
  obtain ⟨v, r, v1, v2, v3, v4⟩ := kn_ok (ρ := ρ) a hk
  obtain ⟨b1, b2⟩ := if_t v4
  rw [ble_iff] at b1
  rw [fr_eq] at b2
  obtain ⟨h', c1, c2, c3⟩ := nw_ok (ρ := ρ) b2
  obtain ⟨i1, i2⟩ := fo_ix (show v < 1000001 by omega) (by omega)
  have i0 : ¬ Int32.ofNat v < 0 := by
    unfold ev_ix at i1
    simp only [Bool.and_eq_true, decide_eq_true_eq] at i1
    exact i1.1
  exact ⟨x, s, v, fx_dp v, h', rfl, by rw [v2]; exact i0, by rw [v2, i2]; omega, by rw [v2, i2], c1, by rw [c2]; exact v3, c3⟩
theorem st_newarray (hsf : fx_sf X.2.2.1 tl) (hk : fd_k ρ h.2.2.2) {ty : ClassFile.ArrayType} (he : fx_nwt ty F X pc tl w ls st h = true) : fd_St ρ V F X (.newarray ty, w) pc ls st h := by
  cases ty with
  | int =>
    obtain ⟨x, s, n, e, h', rfl, a1, a2, a3, a4, a5, a6⟩ := nwa_ok (ρ := ρ) hk (show fx_nwa 0 2 F X pc tl w ls st h = true from he)
    refine ⟨_, _, _, _, _, ?_, hsf, a6, a5⟩
    rw [fc_int (Or.inl rfl), fi_nil] at a4
    simp only [ev_s, fsc, fv0, fv2, a4]
    rw [if_neg a1, if_neg a2, a3]
  | long =>
    obtain ⟨x, s, n, e, h', rfl, a1, a2, a3, a4, a5, a6⟩ := nwa_ok (ρ := ρ) hk (show fx_nwa 1 2 F X pc tl w ls st h = true from he)
    refine ⟨_, _, _, _, _, ?_, hsf, a6, a5⟩
    rw [fc_long rfl, fl_nil] at a4
    simp only [ev_s, fsc, fv0, fv2, a4]
    rw [if_neg a1, if_neg a2, a3]
  | boolean =>
    obtain ⟨x, s, n, e, h', rfl, a1, a2, a3, a4, a5, a6⟩ := nwa_ok (ρ := ρ) hk (show fx_nwa 2 2 F X pc tl w ls st h = true from he)
    refine ⟨_, _, _, _, _, ?_, hsf, a6, a5⟩
    rw [fc_int (Or.inr rfl), fi_nil] at a4
    simp only [ev_s, fsc, fv0, fv2, a4]
    rw [if_neg a1, if_neg a2, a3]
  | _ => exact Bool.noConfusion (show false = true from he)
theorem st_anewarray (hsf : fx_sf X.2.2.1 tl) (hk : fd_k ρ h.2.2.2) {index : Nat} (he : fx_nwr F X pc tl w ls st h = true) : fd_St ρ V F X (.anewarray index, w) pc ls st h := by
  obtain ⟨len, x0, y, z⟩ := w
  obtain ⟨e1, e2⟩ := if_t he
  have e1 : x0 = 3 ∨ x0 = 4 := by
    rcases if_or e1 with ⟨q, -⟩ | ⟨-, q⟩
    · exact Or.inl (beq_iff.mp q)
    · exact Or.inr (beq_iff.mp q)
  obtain ⟨x, s, n, e, h', rfl, a1, a2, a3, a4, a5, a6⟩ := nwa_ok (ρ := ρ) hk e2
  refine ⟨_, _, _, _, _, ?_, hsf, a6, a5⟩
  rw [fc_ref (show x0 = 3 ∨ x0 = 4 from e1), fq_nil] at a4
  simp only [ev_s, fsc, fv0, fv2, a4]
  rw [if_neg a1, if_neg a2, a3]
theorem st_get (hsf : fx_sf X.2.2.1 tl) (hk : fd_k ρ h.2.2.2) {index : Nat} (he : fx_get F X pc tl w ls st h = true) : fd_St ρ V F X (.getfield index, w) pc ls st h := by
  obtain ⟨len, x, y, z⟩ := w
  obtain ⟨a0, s, rfl, a⟩ := pt_ok he
  obtain ⟨f, o1, o2⟩ := ob_ok (ρ := ρ) a
  have o2 : fx_if (Nat.blt (fx_li f y).1 4) (F X (pc + 3) tl ls (((fx_li f y).1, (fx_li f y).2) :: s) h) false = true := o2
  obtain ⟨b1, b2⟩ := if_t o2
  rw [blt_iff] at b1
  have e : (fd_s ρ f)[y]? = some (fd_v ρ (fx_li f y)) := by
    rw [li_eq] at b1 ⊢
    unfold fd_s
    rw [List.getElem?_map]
    rw [List.getD_eq_getElem?_getD] at b1 ⊢
    cases hf : f[y]? with
    | none => rw [hf] at b1; exact absurd b1 (by decide)
    | some v => rfl
  refine ⟨_, _, _, _, _, ?_, hsf, b2, hk⟩
  simp only [ev_s, fsc, fv2, o1, e]
  rfl
theorem st_put (hsf : fx_sf X.2.2.1 tl) (hk : fd_k ρ h.2.2.2) {index : Nat} (he : fx_put F X pc tl w ls st h = true) : fd_St ρ V F X (.putfield index, w) pc ls st h := by
  obtain ⟨len, x, y, z⟩ := w
  obtain ⟨t, v, s1, rfl, a⟩ := p_ok he
  obtain ⟨a0, s, rfl, b⟩ := pt_ok a
  obtain ⟨c1, c2⟩ := if_t b
  obtain ⟨c2, c3⟩ := if_t c2
  have c1 : z % 4 = t := beq_iff.mp c1
  rw [blt_iff] at c2
  rw [fr_eq] at c3
  obtain ⟨f, o1, o2⟩ := ob_ok (ρ := ρ) c3
  obtain ⟨d1, d2⟩ := ls_ok o2
  have d1 : y < f.length := d1
  obtain ⟨h', g1, g2, g3⟩ := cs_ok (ρ := ρ) d2
  refine ⟨_, _, _, _, _, ?_, hsf, g3, by rw [g2]; exact hk⟩
  have e9 : fd_c ρ (9, x, 0, .nil, f.set y (t, v)) = .inr (x, (fd_s ρ f).set y (fd_v ρ (t, v))) := by
    rw [fc_obj rfl]
    simp [fd_s]
  have e8 : ev_okf (z % 4) (fd_v ρ (t, v)) = true := by
    rw [c1]
    match t, c2 with
    | 0, _ => rfl
    | 1, _ => rfl
    | 2, _ => rfl
  have e7 : y < (fd_s ρ f).length := by simp only [fd_s, List.length_map]; exact d1
  rw [g1, e9]
  simp only [ev_s, fsc, fv2, o1]
  rw [if_pos trivial, if_pos ⟨e8, e7⟩]
theorem st_ldc (hsf : fx_sf X.2.2.1 tl) (hk : fd_k ρ h.2.2.2) {index : Nat} (he : fx_cst 0 2 F X pc tl w ls st h = true) : fd_St ρ V F X (.ldc index, w) pc ls st h := by
  obtain ⟨len, x, y, z⟩ := w
  obtain ⟨a, b⟩ := if_t he
  rw [blt_iff] at a
  refine ⟨_, _, _, _, _, ?_, hsf, b, hk⟩
  have e : fd_i ρ x = Int32.ofNat x := fd_i_lt ρ a
  simp only [ev_s, fsc, fv0, e]
theorem st_ldcw (hsf : fx_sf X.2.2.1 tl) (hk : fd_k ρ h.2.2.2) {index : Nat} (he : fx_cst 0 3 F X pc tl w ls st h = true) : fd_St ρ V F X (.ldc_w index, w) pc ls st h := by
  obtain ⟨len, x, y, z⟩ := w
  obtain ⟨a, b⟩ := if_t he
  rw [blt_iff] at a
  refine ⟨_, _, _, _, _, ?_, hsf, b, hk⟩
  have e : fd_i ρ x = Int32.ofNat x := fd_i_lt ρ a
  simp only [ev_s, fsc, fv0, e]
theorem st_ldc2 (hsf : fx_sf X.2.2.1 tl) (hk : fd_k ρ h.2.2.2) {index : Nat} (he : fx_cs2 F X pc tl w ls st h = true) : fd_St ρ V F X (.ldc2_w index, w) pc ls st h := ⟨_, _, _, _, _, rfl, hsf, he, hk⟩
theorem st_cas (hsf : fx_sf X.2.2.1 tl) (hk : fd_k ρ h.2.2.2) {index : Nat} (he : fx_cas F X pc tl w ls st h = true) : fd_St ρ V F X (.checkcast index, w) pc ls st h := by
  obtain ⟨len, x, y, z⟩ := w
  obtain ⟨a0, s, rfl, a⟩ := pt_ok he
  obtain ⟨f, o1, o2⟩ := ob_ok (ρ := ρ) a
  refine ⟨_, _, _, _, _, ?_, hsf, o2, hk⟩
  simp only [ev_s, fsc, fv2, o1, ev_isC, beq_self_eq_true]
  rfl
theorem st_gst (hsf : fx_sf X.2.2.1 tl) (hk : fd_k ρ h.2.2.2) {index : Nat} (he : fx_gst F X pc tl w ls st h = true) : fd_St ρ V F X (.getstatic index, w) pc ls st h := by
  obtain ⟨len, x, y, z⟩ := w
  obtain ⟨a, b⟩ := if_t he
  have a : x = 1 := beq_iff.mp a
  refine ⟨_, _, _, _, _, ?_, hsf, b, hk⟩
  simp only [ev_s, fsc, fv2, a]
  rfl
theorem D_all : ∀ l ∈ fx_dl, ∀ v ∈ l, v.2 = 0 := by decide +kernel
theorem D_zero (x : Nat) : ∀ v ∈ fx_D x, v.2 = 0 := by
  intro v hv
  unfold fx_D at hv
  rw [List.getD_eq_getElem?_getD] at hv
  cases hl : fx_dl[x]? with
  | none => rw [hl] at hv; cases hv
  | some l => rw [hl] at hv; exact D_all l (List.mem_of_getElem? hl) v hv
theorem D_dft (x : Nat) : fd_s ρ (fx_D x) = fx_dft x := by
  unfold fx_dft fd_s
  apply List.map_congr_left
  intro v hv
  have h0 := D_zero x v hv
  have e : fd_i ρ 0 = fd_i (fun _ => 0) 0 := by rw [fd_i_lt ρ (by decide), fd_i_lt _ (by decide)]
  unfold fd_v
  rw [h0, e]
theorem st_new (hsf : fx_sf X.2.2.1 tl) (hk : fd_k ρ h.2.2.2) {index : Nat} (he : fx_new F X pc tl w ls st h = true) : fd_St ρ V F X (.new index, w) pc ls st h := by
  obtain ⟨len, x, y, z⟩ := w
  obtain ⟨h', g1, g2, g3⟩ := nw_ok (ρ := ρ) (h := h) (c := (9, x, 0, .nil, fx_D x)) (m := (fx_D x).length) (k := fun a h => F X (Nat.add pc 3) tl ls ((2, a) :: st) h) he
  refine ⟨_, _, _, _, _, ?_, hsf, g3, by rw [g2]; exact hk⟩
  rw [g1, fc_obj rfl]
  have e : fd_s ρ (fx_D x) = fx_dft x := D_dft x
  have e2 : (fx_dft x).length = (fx_D x).length := by simp [fx_dft, fd_s]
  simp only [ev_s, fsc, fv2, e, e2]
end FxB
