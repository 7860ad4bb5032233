/-! Steps that touch locals, stack and branches alone. -/
/-- from this place of the evaluator on the machine comes to Q -/
def ev_Sim (p : Program) (l : Launch) (e : Env) (R : Room) (s : State) (m : MethodId) (args : Array Value) (below : List Frame) (meth : Method) (c : Code) (Q : State → Prop) (D : va_G) (cl : List vw_C) (aC : Nat → ClassId) (base : Nat) (ex : Nat → Nat) (nL n0 s0 : Nat) (q : ev_R) : Prop :=
  ∀ (Ls : Array Slot) (H : Heap) (locs : List Loc) (cells slots : Nat), ev_lr (ev_ad base ex) Ls q.2.1 → q.2.1.length = nL → ev_rel D cl aC base ex q.2.2.2 H → va_S (fun a : Nat => base ≤ a) s.heap H locs → cells + n0 = q.2.2.2.2.1 → slots + s0 = q.2.2.2.2.2 →
    W p l e R s m args below meth c H locs cells slots Q (F0 m q.1 Ls (q.2.2.1.map (ev_tv (ev_ad base ex))))
section EvA
variable {p : Program} {l : Launch} {e : Env} {R : Room} {s : State} {m : MethodId} {args : Array Value} {below : List Frame} {meth : Method} {c : Code} {Q : State → Prop} {D : va_G} {cl : List vw_C} {aC : Nat → ClassId} {base : Nat} {ex : Nat → Nat} {nL n0 s0 : Nat}
variable {cc : ByteArray} {V : ev_V} {dft : Nat → List Value} {pc : Nat} {ls : ev_L} {st : List Value} {h : ev_H} {r : ev_R} {z : Nat × Nat × Nat × Nat}
theorem ev_iload_n (hx : p.tables.exec = Jvm.exec) (hb : c.code = cc) {k : Fin 4} (hdg : decode cc pc = .ok (.iload_n k, 1)) (he : ev_s V dft (.iload_n k, z) pc ls st h = some r) (kk : ev_Sim p l e R s m args below meth c Q D cl aC base ex nL n0 s0 r) : ev_Sim p l e R s m args below meth c Q D cl aC base ex nL n0 s0 (pc, ls, st, h) := by
  intro Ls H locs cells slots hl hn hh hS h1 h2
  simp only [ev_s] at he
  split at he
  · next v hv => cases he; exact lv_iload_n hx hb hdg rfl (ev_lr_at hl hv) (kk Ls H locs cells slots hl hn hh hS h1 h2)
  · cases he
theorem ev_iload (hx : p.tables.exec = Jvm.exec) (hb : c.code = cc) {k : Nat} (hdg : decode cc pc = .ok (.iload k, 2)) (he : ev_s V dft (.iload k, z) pc ls st h = some r) (kk : ev_Sim p l e R s m args below meth c Q D cl aC base ex nL n0 s0 r) : ev_Sim p l e R s m args below meth c Q D cl aC base ex nL n0 s0 (pc, ls, st, h) := by
  intro Ls H locs cells slots hl hn hh hS h1 h2
  simp only [ev_s] at he
  split at he
  · next v hv => cases he; exact lv_iload hx hb hdg (ev_lr_at hl hv) (kk Ls H locs cells slots hl hn hh hS h1 h2)
  · cases he
theorem ev_lload_n (hx : p.tables.exec = Jvm.exec) (hb : c.code = cc) {k : Fin 4} (hdg : decode cc pc = .ok (.lload_n k, 1)) (he : ev_s V dft (.lload_n k, z) pc ls st h = some r) (kk : ev_Sim p l e R s m args below meth c Q D cl aC base ex nL n0 s0 r) : ev_Sim p l e R s m args below meth c Q D cl aC base ex nL n0 s0 (pc, ls, st, h) := by
  intro Ls H locs cells slots hl hn hh hS h1 h2
  simp only [ev_s] at he
  split at he
  · next v hv => cases he; exact lv_lload_n hx hb hdg rfl (ev_lr_at hl hv) (kk Ls H locs cells slots hl hn hh hS h1 h2)
  · cases he
theorem ev_lload (hx : p.tables.exec = Jvm.exec) (hb : c.code = cc) {k : Nat} (hdg : decode cc pc = .ok (.lload k, 2)) (he : ev_s V dft (.lload k, z) pc ls st h = some r) (kk : ev_Sim p l e R s m args below meth c Q D cl aC base ex nL n0 s0 r) : ev_Sim p l e R s m args below meth c Q D cl aC base ex nL n0 s0 (pc, ls, st, h) := by
  intro Ls H locs cells slots hl hn hh hS h1 h2
  simp only [ev_s] at he
  split at he
  · next v hv => cases he; exact lv_lload hx hb hdg (ev_lr_at hl hv) (kk Ls H locs cells slots hl hn hh hS h1 h2)
  · cases he
theorem ev_aload_n (hx : p.tables.exec = Jvm.exec) (hb : c.code = cc) {k : Fin 4} (hdg : decode cc pc = .ok (.aload_n k, 1)) (he : ev_s V dft (.aload_n k, z) pc ls st h = some r) (kk : ev_Sim p l e R s m args below meth c Q D cl aC base ex nL n0 s0 r) : ev_Sim p l e R s m args below meth c Q D cl aC base ex nL n0 s0 (pc, ls, st, h) := by
  intro Ls H locs cells slots hl hn hh hS h1 h2
  simp only [ev_s] at he
  split at he
  · next v hv => cases he; exact lv_aload_n hx hb hdg rfl (ev_lr_at hl hv) (kk Ls H locs cells slots hl hn hh hS h1 h2)
  · cases he
theorem ev_aload (hx : p.tables.exec = Jvm.exec) (hb : c.code = cc) {k : Nat} (hdg : decode cc pc = .ok (.aload k, 2)) (he : ev_s V dft (.aload k, z) pc ls st h = some r) (kk : ev_Sim p l e R s m args below meth c Q D cl aC base ex nL n0 s0 r) : ev_Sim p l e R s m args below meth c Q D cl aC base ex nL n0 s0 (pc, ls, st, h) := by
  intro Ls H locs cells slots hl hn hh hS h1 h2
  simp only [ev_s] at he
  split at he
  · next v hv => cases he; exact lv_aload hx hb hdg (ev_lr_at hl hv) (kk Ls H locs cells slots hl hn hh hS h1 h2)
  · cases he
theorem ev_istore_n (hx : p.tables.exec = Jvm.exec) (hb : c.code = cc) {k : Fin 4} (hdg : decode cc pc = .ok (.istore_n k, 1)) (he : ev_s V dft (.istore_n k, z) pc ls st h = some r) (kk : ev_Sim p l e R s m args below meth c Q D cl aC base ex nL n0 s0 r) : ev_Sim p l e R s m args below meth c Q D cl aC base ex nL n0 s0 (pc, ls, st, h) := by
  intro Ls H locs cells slots hl hn hh hS h1 h2
  simp only [ev_s] at he
  split at he
  · next v rr =>
    obtain ⟨l', hl', e1⟩ := Option.map_eq_some_iff.mp he
    cases e1
    obtain ⟨a1, a2, a3⟩ := ev_st1_lr (ad := ev_ad base ex) (Ls := Ls) hl'
    exact lv_istore_n hx hb hdg rfl hl a1 rfl (fun Ls' hl2 => kk Ls' H locs cells slots (a3 Ls' hl2) (a2.trans hn) hh hS h1 h2)
  · cases he
theorem ev_istore (hx : p.tables.exec = Jvm.exec) (hb : c.code = cc) {k : Nat} (hdg : decode cc pc = .ok (.istore k, 2)) (he : ev_s V dft (.istore k, z) pc ls st h = some r) (kk : ev_Sim p l e R s m args below meth c Q D cl aC base ex nL n0 s0 r) : ev_Sim p l e R s m args below meth c Q D cl aC base ex nL n0 s0 (pc, ls, st, h) := by
  intro Ls H locs cells slots hl hn hh hS h1 h2
  simp only [ev_s] at he
  split at he
  · next v rr =>
    obtain ⟨l', hl', e1⟩ := Option.map_eq_some_iff.mp he
    cases e1
    obtain ⟨a1, a2, a3⟩ := ev_st1_lr (ad := ev_ad base ex) (Ls := Ls) hl'
    exact lv_istore hx hb hdg hl a1 rfl (fun Ls' hl2 => kk Ls' H locs cells slots (a3 Ls' hl2) (a2.trans hn) hh hS h1 h2)
  · cases he
theorem ev_astore_n (hx : p.tables.exec = Jvm.exec) (hb : c.code = cc) {k : Fin 4} (hdg : decode cc pc = .ok (.astore_n k, 1)) (he : ev_s V dft (.astore_n k, z) pc ls st h = some r) (kk : ev_Sim p l e R s m args below meth c Q D cl aC base ex nL n0 s0 r) : ev_Sim p l e R s m args below meth c Q D cl aC base ex nL n0 s0 (pc, ls, st, h) := by
  intro Ls H locs cells slots hl hn hh hS h1 h2
  simp only [ev_s] at he
  split at he
  · next v rr =>
    obtain ⟨l', hl', e1⟩ := Option.map_eq_some_iff.mp he
    cases e1
    obtain ⟨a1, a2, a3⟩ := ev_st1_lr (ad := ev_ad base ex) (Ls := Ls) hl'
    exact lv_astore_n hx hb hdg rfl hl a1 rfl (fun Ls' hl2 => kk Ls' H locs cells slots (a3 Ls' hl2) (a2.trans hn) hh hS h1 h2)
  · cases he
theorem ev_astore (hx : p.tables.exec = Jvm.exec) (hb : c.code = cc) {k : Nat} (hdg : decode cc pc = .ok (.astore k, 2)) (he : ev_s V dft (.astore k, z) pc ls st h = some r) (kk : ev_Sim p l e R s m args below meth c Q D cl aC base ex nL n0 s0 r) : ev_Sim p l e R s m args below meth c Q D cl aC base ex nL n0 s0 (pc, ls, st, h) := by
  intro Ls H locs cells slots hl hn hh hS h1 h2
  simp only [ev_s] at he
  split at he
  · next v rr =>
    obtain ⟨l', hl', e1⟩ := Option.map_eq_some_iff.mp he
    cases e1
    obtain ⟨a1, a2, a3⟩ := ev_st1_lr (ad := ev_ad base ex) (Ls := Ls) hl'
    exact lv_astore hx hb hdg hl a1 rfl (fun Ls' hl2 => kk Ls' H locs cells slots (a3 Ls' hl2) (a2.trans hn) hh hS h1 h2)
  · cases he
theorem ev_lstore_n (hx : p.tables.exec = Jvm.exec) (hb : c.code = cc) {k : Fin 4} (hdg : decode cc pc = .ok (.lstore_n k, 1)) (he : ev_s V dft (.lstore_n k, z) pc ls st h = some r) (kk : ev_Sim p l e R s m args below meth c Q D cl aC base ex nL n0 s0 r) : ev_Sim p l e R s m args below meth c Q D cl aC base ex nL n0 s0 (pc, ls, st, h) := by
  intro Ls H locs cells slots hl hn hh hS h1 h2
  simp only [ev_s] at he
  split at he
  · next v rr =>
    obtain ⟨l', hl', e1⟩ := Option.map_eq_some_iff.mp he
    cases e1
    obtain ⟨a1, a2, a3⟩ := ev_st2_lr (ad := ev_ad base ex) hl'
    exact lv_lstore_n hx hb hdg rfl hl a1 rfl (fun Ls' hl2 => kk Ls' H locs cells slots (a3 Ls' hl2) (a2.trans hn) hh hS h1 h2)
  · cases he
theorem ev_lstore (hx : p.tables.exec = Jvm.exec) (hb : c.code = cc) {k : Nat} (hdg : decode cc pc = .ok (.lstore k, 2)) (he : ev_s V dft (.lstore k, z) pc ls st h = some r) (kk : ev_Sim p l e R s m args below meth c Q D cl aC base ex nL n0 s0 r) : ev_Sim p l e R s m args below meth c Q D cl aC base ex nL n0 s0 (pc, ls, st, h) := by
  intro Ls H locs cells slots hl hn hh hS h1 h2
  simp only [ev_s] at he
  split at he
  · next v rr =>
    obtain ⟨l', hl', e1⟩ := Option.map_eq_some_iff.mp he
    cases e1
    obtain ⟨a1, a2, a3⟩ := ev_st2_lr (ad := ev_ad base ex) hl'
    exact lv_lstore hx hb hdg hl a1 rfl (fun Ls' hl2 => kk Ls' H locs cells slots (a3 Ls' hl2) (a2.trans hn) hh hS h1 h2)
  · cases he
theorem ev_iinc (hx : p.tables.exec = Jvm.exec) (hb : c.code = cc) {k : Nat} {n : Int} (hdg : decode cc pc = .ok (.iinc k n, 3)) (he : ev_s V dft (.iinc k n, z) pc ls st h = some r) (kk : ev_Sim p l e R s m args below meth c Q D cl aC base ex nL n0 s0 r) : ev_Sim p l e R s m args below meth c Q D cl aC base ex nL n0 s0 (pc, ls, st, h) := by
  intro Ls H locs cells slots hl hn hh hS h1 h2
  simp only [ev_s] at he
  split at he
  · next v hv =>
    obtain ⟨l', hl', e1⟩ := Option.map_eq_some_iff.mp he
    cases e1
    obtain ⟨a1, a2, a3⟩ := ev_st1_lr (ad := ev_ad base ex) (Ls := Ls) hl'
    have hm : (k, Value.int v) ∈ ev_as (ev_ad base ex) ls := by
      refine ev_as_mem.mpr ⟨.int v, ?_, rfl⟩
      unfold ev_ldv at hv
      split at hv
      · next e9 => rw [e9]; cases hv; rfl
      · cases hv
    obtain ⟨i9, hi9⟩ := List.getElem?_of_mem hm
    exact lv_iinc hx hb hdg hl hi9 rfl a1 rfl (fun Ls' hl2 => kk Ls' H locs cells slots (a3 Ls' hl2) (a2.trans hn) hh hS h1 h2)
  · cases he
theorem ev_jmp_eq {pc t : Nat} {off : Int} (h : ev_jmp pc off = some t) : (pc : Int) + off = (t : Int) := by
  unfold ev_jmp at h
  split at h
  · cases h; omega
  · cases h
theorem ev_goto (hx : p.tables.exec = Jvm.exec) (hb : c.code = cc) {off : Int} (hdg : decode cc pc = .ok (.goto off, 3)) (he : ev_s V dft (.goto off, z) pc ls st h = some r) (kk : ev_Sim p l e R s m args below meth c Q D cl aC base ex nL n0 s0 r) : ev_Sim p l e R s m args below meth c Q D cl aC base ex nL n0 s0 (pc, ls, st, h) := by
  intro Ls H locs cells slots hl hn hh hS h1 h2
  simp only [ev_s] at he
  obtain ⟨t, ht, e1⟩ := Option.map_eq_some_iff.mp he
  cases e1
  exact lv_goto hx hb hdg (ev_jmp_eq ht) (kk Ls H locs cells slots hl hn hh hS h1 h2)
theorem ev_ifCond (hx : p.tables.exec = Jvm.exec) (hb : c.code = cc) {cd : ClassFile.Cond} {off : Int} (hdg : decode cc pc = .ok (.ifCond cd off, 3)) (he : ev_s V dft (.ifCond cd off, z) pc ls st h = some r) (kk : ev_Sim p l e R s m args below meth c Q D cl aC base ex nL n0 s0 r) : ev_Sim p l e R s m args below meth c Q D cl aC base ex nL n0 s0 (pc, ls, st, h) := by
  intro Ls H locs cells slots hl hn hh hS h1 h2
  simp only [ev_s] at he
  split at he
  · next x rr =>
    obtain ⟨t, ht, e1⟩ := Option.map_eq_some_iff.mp he
    subst e1
    have K := kk Ls H locs cells slots hl hn hh hS h1 h2
    cases cd with
    | eq => exact lv_if_eq hx hb hdg (ev_jmp_eq ht) (fun q => by simpa [ev_cb, q] using K) (fun q => by simpa [ev_cb, q] using K)
    | ne => exact lv_if_ne hx hb hdg (ev_jmp_eq ht) (fun q => by simpa [ev_cb, q] using K) (fun q => by simpa [ev_cb, q] using K)
    | lt => exact lv_if_lt hx hb hdg (ev_jmp_eq ht) (fun q => by simpa only [ev_cb, q, decide_true, if_true] using K) (fun q => by simpa only [ev_cb, q, decide_false, Bool.false_eq_true, if_false] using K)
    | ge => exact lv_if_ge hx hb hdg (ev_jmp_eq ht) (fun q => by simpa only [ev_cb, q, decide_true, if_true] using K) (fun q => by simpa only [ev_cb, q, decide_false, Bool.false_eq_true, if_false] using K)
    | gt => exact lv_if_gt hx hb hdg (ev_jmp_eq ht) (fun q => by simpa only [ev_cb, q, decide_true, if_true] using K) (fun q => by simpa only [ev_cb, q, decide_false, Bool.false_eq_true, if_false] using K)
    | le => exact lv_if_le hx hb hdg (ev_jmp_eq ht) (fun q => by simpa only [ev_cb, q, decide_true, if_true] using K) (fun q => by simpa only [ev_cb, q, decide_false, Bool.false_eq_true, if_false] using K)
  · cases he
theorem ev_if_icmp (hx : p.tables.exec = Jvm.exec) (hb : c.code = cc) {cd : ClassFile.Cond} {off : Int} (hdg : decode cc pc = .ok (.if_icmp cd off, 3)) (he : ev_s V dft (.if_icmp cd off, z) pc ls st h = some r) (kk : ev_Sim p l e R s m args below meth c Q D cl aC base ex nL n0 s0 r) : ev_Sim p l e R s m args below meth c Q D cl aC base ex nL n0 s0 (pc, ls, st, h) := by
  intro Ls H locs cells slots hl hn hh hS h1 h2
  simp only [ev_s] at he
  split at he
  · next y x rr =>
    obtain ⟨t, ht, e1⟩ := Option.map_eq_some_iff.mp he
    subst e1
    have K := kk Ls H locs cells slots hl hn hh hS h1 h2
    cases cd with
    | eq => exact lv_icmp_eq hx hb hdg (ev_jmp_eq ht) (fun q => by simpa [ev_cb, q] using K) (fun q => by simpa [ev_cb, q] using K)
    | ne => exact lv_icmp_ne hx hb hdg (ev_jmp_eq ht) (fun q => by simpa [ev_cb, q] using K) (fun q => by simpa [ev_cb, q] using K)
    | lt => exact lv_icmp_lt hx hb hdg (ev_jmp_eq ht) (fun q => by simpa only [ev_cb, q, decide_true, if_true] using K) (fun q => by simpa only [ev_cb, q, decide_false, Bool.false_eq_true, if_false] using K)
    | ge => exact lv_icmp_ge hx hb hdg (ev_jmp_eq ht) (fun q => by simpa only [ev_cb, q, decide_true, if_true] using K) (fun q => by simpa only [ev_cb, q, decide_false, Bool.false_eq_true, if_false] using K)
    | gt => exact lv_icmp_gt hx hb hdg (ev_jmp_eq ht) (fun q => by simpa only [ev_cb, q, decide_true, if_true] using K) (fun q => by simpa only [ev_cb, q, decide_false, Bool.false_eq_true, if_false] using K)
    | le => exact lv_icmp_le hx hb hdg (ev_jmp_eq ht) (fun q => by simpa only [ev_cb, q, decide_true, if_true] using K) (fun q => by simpa only [ev_cb, q, decide_false, Bool.false_eq_true, if_false] using K)
  · cases he
theorem ev_tsw (hx : p.tables.exec = Jvm.exec) (hb : c.code = cc) {dflt lo hi : Int} {offs : Array Int} {len : Nat} (hdg : decode cc pc = .ok (.tableswitch dflt lo hi offs, len)) (he : ev_s V dft (.tableswitch dflt lo hi offs, z) pc ls st h = some r) (kk : ev_Sim p l e R s m args below meth c Q D cl aC base ex nL n0 s0 r) : ev_Sim p l e R s m args below meth c Q D cl aC base ex nL n0 s0 (pc, ls, st, h) := by
  intro Ls H locs cells slots hl hn hh hS h1 h2
  simp only [ev_s] at he
  split at he
  · next x rr =>
    obtain ⟨o, ho, he⟩ := Option.bind_eq_some_iff.mp he
    obtain ⟨t, ht, e1⟩ := Option.map_eq_some_iff.mp he
    subst e1
    have K := kk Ls H locs cells slots hl hn hh hS h1 h2
    unfold ev_sw at ho
    split at ho
    · next hq => cases ho; exact lv_tableOut hx hb hdg hq (ev_jmp_eq ht) K
    · next hq => exact lv_tableIn hx hb hdg (fun q => hq (Or.inl q)) (fun q => hq (Or.inr q)) ho (ev_jmp_eq ht) K
  · cases he
end EvA
