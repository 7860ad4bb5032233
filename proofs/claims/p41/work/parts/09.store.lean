/-! Steps that write: the rows of the kit tell no size of the new heap; the frame's count of cells does. -/
section EvD
variable {p : Program} {l : Launch} {e : Env} {R : Room} {s : State} {m : MethodId} {args : Array Value} {below : List Frame} {meth : Method} {c : Code} {Q : State → Prop} {D : va_G} {cl : List vw_C} {aC : Nat → ClassId} {base : Nat} {ex : Nat → Nat} {nL n0 s0 : Nat}
variable {cc : ByteArray} {V : ev_V} {dft : Nat → List Value} {pc : Nat} {ls : ev_L} {st : List Value} {h : ev_H} {r : ev_R} {z : Nat × Nat × Nat × Nat}
theorem ev_sized {H : Heap} {locs : List Loc} {cells slots : Nat} {g : JFrame} (k : H.size ≤ s.heap.size + cells → W p l e R s m args below meth c H locs cells slots Q g) : W p l e R s m args below meth c H locs cells slots Q g := fun T hT X => k (by rw [← hT]; exact X.same.2.2.1) T hT X
theorem ev_S0 {A : Nat → Prop} {H0 H : Heap} {locs : List Loc} (h : va_S A H0 H locs) : va_S A H H locs := ⟨Nat.le_refl _, fun _ _ _ => rfl, h.2.2⟩
theorem ev_S1 {A : Nat → Prop} {H0 H H1 : Heap} {locs locs1 : List Loc} (h : va_S A H0 H locs) (k : va_S A H H1 locs1) : va_S A H0 H1 locs1 :=
  ⟨Nat.le_trans h.1 k.1, fun q q1 q2 => (k.2.1 q (Nat.lt_of_lt_of_le q1 h.1) q2).trans (h.2.1 q q1 q2), k.2.2⟩
theorem ev_done {H H1 : Heap} {locs1 : List Loc} {cells a : Nat} {x : ev_C} (hbn : base + n0 = s.heap.size) (hh : ev_rel D cl aC base ex h H) (h1 : cells + n0 = h.2.1) (hS1 : va_S (fun a : Nat => base ≤ a) H H1 locs1) (hsz : H1.size ≤ s.heap.size + cells) (hP : va_P D cl ((ev_ws (ev_ad base ex) aC h.1).set a (ev_ad base ex a, ev_cv (ev_ad base ex) aC x)) H1) : ev_rel D cl aC base ex (ev_set h a x) H1 := by
  refine ev_rel.set hh.2.2.1 hh.2.2.2 ?_ hP
  have q1 := hS1.1
  have q2 := hh.2.1
  have q3 := hh.2.2.1
  omega
theorem ev_born {H H1 : Heap} {locs1 : List Loc} {cells q n : Nat} {x : ev_C} (hbn : base + n0 = s.heap.size) (hh : ev_rel D cl aC base ex h H) (h1 : cells + n0 = h.2.1) (hle : h.2.1 < ev_ext) (hS1 : va_S (fun a : Nat => base ≤ a) H H1 locs1) (hsz : H1.size ≤ s.heap.size + (cells + 1)) (hP : va_P D cl (ev_ws (ev_ad base ex) aC h.1 ++ [(q, ev_cv (ev_ad base ex) aC x)]) H1) (hD : va_D (fun a : Nat => base ≤ a) (ev_ws (ev_ad base ex) aC h.1 ++ [(q, ev_cv (ev_ad base ex) aC x)])) : q = ev_ad base ex h.2.1 ∧ ev_rel D cl aC base ex (ev_push h x n) H1 := by
  have q1 := hS1.1
  have q2 := hh.2.1
  have q3 := hh.2.2.1
  have q4 := hh.2.2.2
  have hlen : (ev_ws (ev_ad base ex) aC h.1).length = h.1.length := by simp [ev_ws]
  have hlast : (ev_ws (ev_ad base ex) aC h.1 ++ [(q, ev_cv (ev_ad base ex) aC x)])[h.1.length]? = some (q, ev_cv (ev_ad base ex) aC x) := by
    rw [List.getElem?_append_right (by omega), hlen, Nat.sub_self]; rfl
  have hq1 : q < H1.size := (hP _ _ hlast).lt
  have hq2 : base ≤ q := hD.2 _ _ hlast
  have hq3 : q = base + h.1.length := by
    rcases Nat.lt_or_ge q (base + h.1.length) with w | w
    · have hj : q - base < h.1.length := by omega
      have e1 : (ev_ws (ev_ad base ex) aC h.1 ++ [(q, ev_cv (ev_ad base ex) aC x)])[q - base]? = some (ev_ad base ex (q - base), ev_cv (ev_ad base ex) aC h.1[q - base]) := by
        rw [List.getElem?_append_left (by omega)]
        exact ev_ws_at (List.getElem?_eq_getElem hj)
      have e2 : ev_ad base ex (q - base) = q := by rw [ev_ad_in (by omega)]; omega
      have := hD.1 _ _ _ _ e1 hlast e2
      omega
    · omega
  have hq4 : q = ev_ad base ex h.1.length := by rw [ev_ad_in (by omega)]; exact hq3
  refine ⟨by rw [q3]; exact hq4, ?_, ?_, ?_, ?_⟩
  · rw [hq4, ev_ws_push] at hP
    exact hP
  · show H1.size = base + (h.1 ++ [x]).length
    simp; omega
  · show h.2.1 + 1 = (h.1 ++ [x]).length
    simp; omega
  · show (h.1 ++ [x]).length ≤ ev_ext
    simp; omega
theorem ev_iastore (hx : p.tables.exec = Jvm.exec) (hb : c.code = cc) (hbn : base + n0 = s.heap.size) (hK : va_K D cl (ev_tys aC) s) (hdg : decode cc pc = .ok (.iastore, 1)) (he : ev_s V dft (.iastore, z) pc ls st h = some r) (kk : ev_Sim p l e R s m args below meth c Q D cl aC base ex nL n0 s0 r) : ev_Sim p l e R s m args below meth c Q D cl aC base ex nL n0 s0 (pc, ls, st, h) := by
  intro Ls H locs cells slots hl hn hh hS h1 h2
  simp only [ev_s] at he
  obtain ⟨rr, hr, e1⟩ := Option.map_eq_some_iff.mp he
  subst e1
  unfold ev_asti at hr
  split at hr
  · next x i a r2 =>
    split at hr
    · next t' n f hc =>
      split at hr
      · next ht =>
        split at hr
        · next hi =>
          split at hr
          · next hv =>
            cases hr
            subst ht
            refine va_iast hx hb hK hh.1 (ev_D hh.2.2.2) (ev_S0 hS) a 0 (ev_ws_at hc) rfl (ev_ix_in hi) hdg (fun H1 locs1 hP1 hD1 hS1 => ev_sized fun hsz => ?_)
            have hd := ev_done (x := .inl (0, n, .inl (upd f i.toNatClampNeg x))) hbn hh h1 hS1 hsz hP1
            exact kk Ls H1 locs1 cells slots hl hn hd (ev_S1 hS hS1) h1 h2
          · cases hr
        · cases hr
      · cases hr
    · cases hr
  · cases hr
theorem ev_bastore (hx : p.tables.exec = Jvm.exec) (hb : c.code = cc) (hbn : base + n0 = s.heap.size) (hK : va_K D cl (ev_tys aC) s) (hdg : decode cc pc = .ok (.bastore, 1)) (he : ev_s V dft (.bastore, z) pc ls st h = some r) (kk : ev_Sim p l e R s m args below meth c Q D cl aC base ex nL n0 s0 r) : ev_Sim p l e R s m args below meth c Q D cl aC base ex nL n0 s0 (pc, ls, st, h) := by
  intro Ls H locs cells slots hl hn hh hS h1 h2
  simp only [ev_s] at he
  obtain ⟨rr, hr, e1⟩ := Option.map_eq_some_iff.mp he
  subst e1
  unfold ev_asti at hr
  split at hr
  · next x i a r2 =>
    split at hr
    · next t' n f hc =>
      split at hr
      · next ht =>
        split at hr
        · next hi =>
          split at hr
          · next hv =>
            cases hr
            subst ht
            refine va_zast hx hb hK hh.1 (ev_D hh.2.2.2) (ev_S0 hS) a 2 (ev_ws_at hc) rfl (ev_ix_in hi) hdg (fun H1 locs1 hP1 hD1 hS1 => ev_sized fun hsz => ?_)
            have hnar : vp_nar .boolean x = x := by
              rcases hv with q | q | q
              · cases q
              · subst q; decide
              · subst q; decide
            rw [hnar] at hP1
            have hd := ev_done (x := .inl (2, n, .inl (upd f i.toNatClampNeg x))) hbn hh h1 hS1 hsz hP1
            exact kk Ls H1 locs1 cells slots hl hn hd (ev_S1 hS hS1) h1 h2
          · cases hr
        · cases hr
      · cases hr
    · cases hr
  · cases hr
theorem ev_lastore (hx : p.tables.exec = Jvm.exec) (hb : c.code = cc) (hbn : base + n0 = s.heap.size) (hK : va_K D cl (ev_tys aC) s) (hdg : decode cc pc = .ok (.lastore, 1)) (he : ev_s V dft (.lastore, z) pc ls st h = some r) (kk : ev_Sim p l e R s m args below meth c Q D cl aC base ex nL n0 s0 r) : ev_Sim p l e R s m args below meth c Q D cl aC base ex nL n0 s0 (pc, ls, st, h) := by
  intro Ls H locs cells slots hl hn hh hS h1 h2
  simp only [ev_s] at he
  obtain ⟨rr, hr, e1⟩ := Option.map_eq_some_iff.mp he
  subst e1
  unfold ev_astl at hr
  split at hr
  · next x i a r2 =>
    split at hr
    · next t' n f hc =>
      split at hr
      · next ht =>
        split at hr
        · next hi =>
          cases hr
          subst ht
          refine va_last hx hb hK hh.1 (ev_D hh.2.2.2) (ev_S0 hS) a 1 (ev_ws_at hc) rfl (ev_ix_in hi) hdg (fun H1 locs1 hP1 hD1 hS1 => ev_sized fun hsz => ?_)
          have hd := ev_done (x := .inl (1, n, .inr (.inl (vp_updL f i.toNatClampNeg x)))) hbn hh h1 hS1 hsz hP1
          exact kk Ls H1 locs1 cells slots hl hn hd (ev_S1 hS hS1) h1 h2
        · cases hr
      · cases hr
    · cases hr
  · cases hr
theorem ev_isC_at {ci : Nat} {o : Option ev_C} (h : ev_isC ci o = true) : ∃ fs, o = some (.inr (ci, fs)) := by
  unfold ev_isC at h
  split at h
  · next cj fs => exact ⟨fs, by rw [beq_iff_eq] at h; rw [h]⟩
  · cases h
theorem ev_aastore (hx : p.tables.exec = Jvm.exec) (hb : c.code = cc) (hbn : base + n0 = s.heap.size) (hK : va_K D cl (ev_tys aC) s) {len t ci w : Nat} {C : String} {rc : vw_C} (ht0 : ev_tyl[t]? = some (.object C)) (hrc : cl[ci]? = some rc) (hca : va_Nw (.castable rc.1 C) s) (hdg : decode cc pc = .ok (.aastore, 1)) (he : ev_s V dft (.aastore, len, t, ci, w) pc ls st h = some r) (kk : ev_Sim p l e R s m args below meth c Q D cl aC base ex nL n0 s0 r) : ev_Sim p l e R s m args below meth c Q D cl aC base ex nL n0 s0 (pc, ls, st, h) := by
  intro Ls H locs cells slots hl hn hh hS h1 h2
  simp only [ev_s] at he
  obtain ⟨rr, hr, e1⟩ := Option.map_eq_some_iff.mp he
  subst e1
  unfold ev_astq at hr
  split at hr
  · next q i a r2 =>
    split at hr
    · next t' n f hc =>
      split at hr
      · next ht =>
        split at hr
        · next hi =>
          split at hr
          · next hv =>
            cases hr
            subst ht
            obtain ⟨vs, hvs⟩ := ev_isC_at hv
            refine va_astqO hx hb hK hh.1 (ev_D hh.2.2.2) (ev_S0 hS) a t' q ci (E := C) (r := rc) (ev_ws_at hc) (by simp [ev_tys, ht0]) hca (ev_ws_at hvs) hrc (ev_ix_in hi) hdg (fun H1 locs1 hP1 hD1 hS1 => ev_sized fun hsz => ?_)
            have e9 : ev_cv (ev_ad base ex) aC (.inl (t', n, .inr (.inr (.inr (.inr (va_up f i.toNatClampNeg (some q))))))) = (.inl (aC t', n, .inr (.inr (.inr (.inr (va_up (fun j => (f j).map (ev_ad base ex)) i.toNatClampNeg (some (ev_ad base ex q))))))) : va_E) := by
              show (.inl (aC t', n, .inr (.inr (.inr (.inr (fun j => (va_up f i.toNatClampNeg (some q) j).map (ev_ad base ex)))))) : va_E) = _
              congr 7
              funext j
              by_cases hj : j = i.toNatClampNeg <;> simp [va_up, hj]
            rw [← e9] at hP1
            have hd := ev_done (x := .inl (t', n, .inr (.inr (.inr (.inr (va_up f i.toNatClampNeg (some q))))))) hbn hh h1 hS1 hsz hP1
            exact kk Ls H1 locs1 cells slots hl hn hd (ev_S1 hS hS1) h1 h2
          · cases hr
        · cases hr
      · cases hr
    · cases hr
  · cases hr
end EvD
