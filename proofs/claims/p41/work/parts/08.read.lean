/-! Steps that read and write the heap. -/
def ev_tyl : List FieldType := [.int, .long, .boolean, .object "Threewayleaf$State", .object "java/lang/Object"]
def ev_tys (aC : Nat → ClassId) : List (ClassId × FieldType) := ev_tyl.mapIdx (fun i t => (aC i, t))
theorem ev_ix_in {i : Int32} {n : Nat} (h : ev_ix i n = true) : vp_in i n := by
  unfold ev_ix at h
  simp only [Bool.and_eq_true, decide_eq_true_eq] at h
  rintro (q | q)
  · exact h.1 q
  · exact absurd h.2 (by omega)
section EvC
variable {p : Program} {l : Launch} {e : Env} {R : Room} {s : State} {m : MethodId} {args : Array Value} {below : List Frame} {meth : Method} {c : Code} {Q : State → Prop} {D : va_G} {cl : List vw_C} {aC : Nat → ClassId} {base : Nat} {ex : Nat → Nat} {nL n0 s0 : Nat}
variable {cc : ByteArray} {V : ev_V} {dft : Nat → List Value} {pc : Nat} {ls : ev_L} {st : List Value} {h : ev_H} {r : ev_R} {z : Nat × Nat × Nat × Nat}
/-- a cell that is in the heap has its place below -/
theorem ev_lt {cs : List ev_C} {a : Nat} {x : ev_C} (h : cs[a]? = some x) : a < cs.length := (List.getElem?_eq_some_iff.mp h).1
theorem ev_rel.set {h : ev_H} {H1 : Heap} {a : Nat} {x : ev_C} (hr : h.2.1 = h.1.length) (hle : h.1.length ≤ ev_ext) (hz : H1.size = base + h.1.length) (hP : va_P D cl ((ev_ws (ev_ad base ex) aC h.1).set a (ev_ad base ex a, ev_cv (ev_ad base ex) aC x)) H1) : ev_rel D cl aC base ex (ev_set h a x) H1 := by
  rw [ev_ws_set] at hP
  exact ⟨hP, by simpa [ev_set] using hz, by simpa [ev_set] using hr, by simpa [ev_set] using hle⟩
theorem ev_size {ws ws' : va_W} {H H1 : Heap} {cs : List ev_C} {locs : List Loc} {s : State} (hS : va_S (fun a : Nat => base ≤ a) s.heap H1 locs) : s.heap.size ≤ H1.size := hS.1
theorem ev_iaload (hx : p.tables.exec = Jvm.exec) (hb : c.code = cc) (hK : va_K D cl (ev_tys aC) s) (hX : va_X (ex 0) V.1 V.2 s s.heap) (hX0 : ex 0 < base) (hX1 : base ≤ s.heap.size) (hdg : decode cc pc = .ok (.iaload, 1)) (he : ev_s V dft (.iaload, z) pc ls st h = some r) (kk : ev_Sim p l e R s m args below meth c Q D cl aC base ex nL n0 s0 r) : ev_Sim p l e R s m args below meth c Q D cl aC base ex nL n0 s0 (pc, ls, st, h) := by
  intro Ls H locs cells slots hl hn hh hS h1 h2
  simp only [ev_s] at he
  obtain ⟨rr, hr, e1⟩ := Option.map_eq_some_iff.mp he
  subst e1
  unfold ev_aldi at hr
  split at hr
  · next i a r2 =>
    split at hr
    · next hq =>
      split at hr
      · next hi =>
        cases hr
        obtain ⟨rfl, -⟩ := hq
        have hA : ev_ad base ex ev_ext = ex 0 := by simp [ev_ad]
        show W p l e R s m args below meth c H locs cells slots Q (F0 m pc Ls (.int i :: .ref (ev_ad base ex ev_ext) :: r2.map (ev_tv (ev_ad base ex))))
        rw [hA]
        exact va_sld hx hb hX (Nat.lt_of_lt_of_le hX0 hX1) (Nat.not_le.mpr hX0) hS (ev_ix_in hi) hdg (kk Ls H locs cells slots hl hn hh hS h1 h2)
      · cases hr
    · split at hr
      · next t' n f hc =>
        split at hr
        · next ht =>
          split at hr
          · next hi =>
            cases hr
            subst ht
            exact va_iald hx hb hK hh.1 a 0 (ev_ws_at hc) rfl (ev_ix_in hi) hdg (kk Ls H locs cells slots hl hn hh hS h1 h2)
          · cases hr
        · cases hr
      · cases hr
  · cases hr
theorem ev_baload (hx : p.tables.exec = Jvm.exec) (hb : c.code = cc) (hK : va_K D cl (ev_tys aC) s) (hdg : decode cc pc = .ok (.baload, 1)) (he : ev_s V dft (.baload, z) pc ls st h = some r) (kk : ev_Sim p l e R s m args below meth c Q D cl aC base ex nL n0 s0 r) : ev_Sim p l e R s m args below meth c Q D cl aC base ex nL n0 s0 (pc, ls, st, h) := by
  intro Ls H locs cells slots hl hn hh hS h1 h2
  simp only [ev_s] at he
  obtain ⟨rr, hr, e1⟩ := Option.map_eq_some_iff.mp he
  subst e1
  unfold ev_aldi at hr
  split at hr
  · next i a r2 =>
    split at hr
    · next hq =>
      exact absurd hq.2 (by decide)
    · split at hr
      · next t' n f hc =>
        split at hr
        · next ht =>
          split at hr
          · next hi =>
            cases hr
            subst ht
            exact va_zald hx hb hK hh.1 a 2 (ev_ws_at hc) rfl (ev_ix_in hi) hdg (kk Ls H locs cells slots hl hn hh hS h1 h2)
          · cases hr
        · cases hr
      · cases hr
  · cases hr
theorem ev_laload (hx : p.tables.exec = Jvm.exec) (hb : c.code = cc) (hK : va_K D cl (ev_tys aC) s) (hdg : decode cc pc = .ok (.laload, 1)) (he : ev_s V dft (.laload, z) pc ls st h = some r) (kk : ev_Sim p l e R s m args below meth c Q D cl aC base ex nL n0 s0 r) : ev_Sim p l e R s m args below meth c Q D cl aC base ex nL n0 s0 (pc, ls, st, h) := by
  intro Ls H locs cells slots hl hn hh hS h1 h2
  simp only [ev_s] at he
  obtain ⟨rr, hr, e1⟩ := Option.map_eq_some_iff.mp he
  subst e1
  unfold ev_aldl at hr
  split at hr
  · next i a r2 =>
    split at hr
    · next t' n f hc =>
      split at hr
      · next ht =>
        split at hr
        · next hi =>
          cases hr
          subst ht
          exact va_lald hx hb hK hh.1 a 1 (ev_ws_at hc) rfl (ev_ix_in hi) hdg (kk Ls H locs cells slots hl hn hh hS h1 h2)
        · cases hr
      · cases hr
    · cases hr
  · cases hr
theorem ev_aaload (hx : p.tables.exec = Jvm.exec) (hb : c.code = cc) (hK : va_K D cl (ev_tys aC) s) {len t y w : Nat} {C : String} (ht0 : ev_tyl[t]? = some (.object C)) (hdg : decode cc pc = .ok (.aaload, 1)) (he : ev_s V dft (.aaload, len, t, y, w) pc ls st h = some r) (kk : ev_Sim p l e R s m args below meth c Q D cl aC base ex nL n0 s0 r) : ev_Sim p l e R s m args below meth c Q D cl aC base ex nL n0 s0 (pc, ls, st, h) := by
  intro Ls H locs cells slots hl hn hh hS h1 h2
  simp only [ev_s] at he
  obtain ⟨rr, hr, e1⟩ := Option.map_eq_some_iff.mp he
  subst e1
  unfold ev_aldq at hr
  split at hr
  · next i a r2 =>
    split at hr
    · next t' n f hc =>
      split at hr
      · next ht =>
        split at hr
        · next hi =>
          split at hr
          · next q hf =>
            cases hr
            subst ht
            have K := kk Ls H locs cells slots hl hn hh hS h1 h2
            refine va_aldq hx hb hK hh.1 a t' (C := C) (ev_ws_at hc) (by simp [ev_tys, ht0]) (ev_ix_in hi) hdg ?_
            dsimp only at K ⊢
            rw [hf]
            exact K
          · cases hr
        · cases hr
      · cases hr
    · cases hr
  · cases hr
end EvC
