/-! Steps of the evaluator that compute. -/
section EvB
variable {p : Program} {l : Launch} {e : Env} {R : Room} {s : State} {m : MethodId} {args : Array Value} {below : List Frame} {meth : Method} {c : Code} {Q : State → Prop} {D : va_G} {cl : List vw_C} {aC : Nat → ClassId} {base : Nat} {ex : Nat → Nat} {nL n0 s0 : Nat}
variable {cc : ByteArray} {V : ev_V} {dft : Nat → List Value} {pc : Nat} {ls : ev_L} {st : List Value} {h : ev_H} {r : ev_R} {z : Nat × Nat × Nat × Nat}
theorem ev_iadd (hx : p.tables.exec = Jvm.exec) (hb : c.code = cc) (hdg : decode cc pc = .ok (.iadd, 1)) (he : ev_s V dft (.iadd, z) pc ls st h = some r) (kk : ev_Sim p l e R s m args below meth c Q D cl aC base ex nL n0 s0 r) : ev_Sim p l e R s m args below meth c Q D cl aC base ex nL n0 s0 (pc, ls, st, h) := by
  intro Ls H locs cells slots hl hn hh hS h1 h2
  simp only [ev_s] at he
  obtain ⟨rr, hr, e1⟩ := Option.map_eq_some_iff.mp he
  subst e1
  unfold ev_ii at hr
  split at hr
  · next y x r2 => cases hr; exact lv_iadd hx hb hdg (kk Ls H locs cells slots hl hn hh hS h1 h2)
  · cases hr
theorem ev_isub (hx : p.tables.exec = Jvm.exec) (hb : c.code = cc) (hdg : decode cc pc = .ok (.isub, 1)) (he : ev_s V dft (.isub, z) pc ls st h = some r) (kk : ev_Sim p l e R s m args below meth c Q D cl aC base ex nL n0 s0 r) : ev_Sim p l e R s m args below meth c Q D cl aC base ex nL n0 s0 (pc, ls, st, h) := by
  intro Ls H locs cells slots hl hn hh hS h1 h2
  simp only [ev_s] at he
  obtain ⟨rr, hr, e1⟩ := Option.map_eq_some_iff.mp he
  subst e1
  unfold ev_ii at hr
  split at hr
  · next y x r2 => cases hr; exact lv_isub hx hb hdg (kk Ls H locs cells slots hl hn hh hS h1 h2)
  · cases hr
theorem ev_imul (hx : p.tables.exec = Jvm.exec) (hb : c.code = cc) (hdg : decode cc pc = .ok (.imul, 1)) (he : ev_s V dft (.imul, z) pc ls st h = some r) (kk : ev_Sim p l e R s m args below meth c Q D cl aC base ex nL n0 s0 r) : ev_Sim p l e R s m args below meth c Q D cl aC base ex nL n0 s0 (pc, ls, st, h) := by
  intro Ls H locs cells slots hl hn hh hS h1 h2
  simp only [ev_s] at he
  obtain ⟨rr, hr, e1⟩ := Option.map_eq_some_iff.mp he
  subst e1
  unfold ev_ii at hr
  split at hr
  · next y x r2 => cases hr; exact lv_imul hx hb hdg (kk Ls H locs cells slots hl hn hh hS h1 h2)
  · cases hr
theorem ev_iand (hx : p.tables.exec = Jvm.exec) (hb : c.code = cc) (hdg : decode cc pc = .ok (.iand, 1)) (he : ev_s V dft (.iand, z) pc ls st h = some r) (kk : ev_Sim p l e R s m args below meth c Q D cl aC base ex nL n0 s0 r) : ev_Sim p l e R s m args below meth c Q D cl aC base ex nL n0 s0 (pc, ls, st, h) := by
  intro Ls H locs cells slots hl hn hh hS h1 h2
  simp only [ev_s] at he
  obtain ⟨rr, hr, e1⟩ := Option.map_eq_some_iff.mp he
  subst e1
  unfold ev_ii at hr
  split at hr
  · next y x r2 => cases hr; exact lv_iand hx hb hdg (kk Ls H locs cells slots hl hn hh hS h1 h2)
  · cases hr
theorem ev_ior (hx : p.tables.exec = Jvm.exec) (hb : c.code = cc) (hdg : decode cc pc = .ok (.ior, 1)) (he : ev_s V dft (.ior, z) pc ls st h = some r) (kk : ev_Sim p l e R s m args below meth c Q D cl aC base ex nL n0 s0 r) : ev_Sim p l e R s m args below meth c Q D cl aC base ex nL n0 s0 (pc, ls, st, h) := by
  intro Ls H locs cells slots hl hn hh hS h1 h2
  simp only [ev_s] at he
  obtain ⟨rr, hr, e1⟩ := Option.map_eq_some_iff.mp he
  subst e1
  unfold ev_ii at hr
  split at hr
  · next y x r2 => cases hr; exact lv_ior hx hb hdg (kk Ls H locs cells slots hl hn hh hS h1 h2)
  · cases hr
theorem ev_ishl (hx : p.tables.exec = Jvm.exec) (hb : c.code = cc) (hdg : decode cc pc = .ok (.ishl, 1)) (he : ev_s V dft (.ishl, z) pc ls st h = some r) (kk : ev_Sim p l e R s m args below meth c Q D cl aC base ex nL n0 s0 r) : ev_Sim p l e R s m args below meth c Q D cl aC base ex nL n0 s0 (pc, ls, st, h) := by
  intro Ls H locs cells slots hl hn hh hS h1 h2
  simp only [ev_s] at he
  obtain ⟨rr, hr, e1⟩ := Option.map_eq_some_iff.mp he
  subst e1
  unfold ev_ii at hr
  split at hr
  · next y x r2 => cases hr; exact lv_ishl hx hb hdg (kk Ls H locs cells slots hl hn hh hS h1 h2)
  · cases hr
theorem ev_ishr (hx : p.tables.exec = Jvm.exec) (hb : c.code = cc) (hdg : decode cc pc = .ok (.ishr, 1)) (he : ev_s V dft (.ishr, z) pc ls st h = some r) (kk : ev_Sim p l e R s m args below meth c Q D cl aC base ex nL n0 s0 r) : ev_Sim p l e R s m args below meth c Q D cl aC base ex nL n0 s0 (pc, ls, st, h) := by
  intro Ls H locs cells slots hl hn hh hS h1 h2
  simp only [ev_s] at he
  obtain ⟨rr, hr, e1⟩ := Option.map_eq_some_iff.mp he
  subst e1
  unfold ev_ii at hr
  split at hr
  · next y x r2 => cases hr; exact lv_ishr hx hb hdg (kk Ls H locs cells slots hl hn hh hS h1 h2)
  · cases hr
theorem ev_ladd (hx : p.tables.exec = Jvm.exec) (hb : c.code = cc) (hdg : decode cc pc = .ok (.ladd, 1)) (he : ev_s V dft (.ladd, z) pc ls st h = some r) (kk : ev_Sim p l e R s m args below meth c Q D cl aC base ex nL n0 s0 r) : ev_Sim p l e R s m args below meth c Q D cl aC base ex nL n0 s0 (pc, ls, st, h) := by
  intro Ls H locs cells slots hl hn hh hS h1 h2
  simp only [ev_s] at he
  obtain ⟨rr, hr, e1⟩ := Option.map_eq_some_iff.mp he
  subst e1
  unfold ev_ll at hr
  split at hr
  · next y x r2 => cases hr; exact lv_ladd hx hb hdg (kk Ls H locs cells slots hl hn hh hS h1 h2)
  · cases hr
theorem ev_lsub (hx : p.tables.exec = Jvm.exec) (hb : c.code = cc) (hdg : decode cc pc = .ok (.lsub, 1)) (he : ev_s V dft (.lsub, z) pc ls st h = some r) (kk : ev_Sim p l e R s m args below meth c Q D cl aC base ex nL n0 s0 r) : ev_Sim p l e R s m args below meth c Q D cl aC base ex nL n0 s0 (pc, ls, st, h) := by
  intro Ls H locs cells slots hl hn hh hS h1 h2
  simp only [ev_s] at he
  obtain ⟨rr, hr, e1⟩ := Option.map_eq_some_iff.mp he
  subst e1
  unfold ev_ll at hr
  split at hr
  · next y x r2 => cases hr; exact lv_lsub hx hb hdg (kk Ls H locs cells slots hl hn hh hS h1 h2)
  · cases hr
theorem ev_lmul (hx : p.tables.exec = Jvm.exec) (hb : c.code = cc) (hdg : decode cc pc = .ok (.lmul, 1)) (he : ev_s V dft (.lmul, z) pc ls st h = some r) (kk : ev_Sim p l e R s m args below meth c Q D cl aC base ex nL n0 s0 r) : ev_Sim p l e R s m args below meth c Q D cl aC base ex nL n0 s0 (pc, ls, st, h) := by
  intro Ls H locs cells slots hl hn hh hS h1 h2
  simp only [ev_s] at he
  obtain ⟨rr, hr, e1⟩ := Option.map_eq_some_iff.mp he
  subst e1
  unfold ev_ll at hr
  split at hr
  · next y x r2 => cases hr; exact lv_lmul hx hb hdg (kk Ls H locs cells slots hl hn hh hS h1 h2)
  · cases hr
theorem ev_land (hx : p.tables.exec = Jvm.exec) (hb : c.code = cc) (hdg : decode cc pc = .ok (.land, 1)) (he : ev_s V dft (.land, z) pc ls st h = some r) (kk : ev_Sim p l e R s m args below meth c Q D cl aC base ex nL n0 s0 r) : ev_Sim p l e R s m args below meth c Q D cl aC base ex nL n0 s0 (pc, ls, st, h) := by
  intro Ls H locs cells slots hl hn hh hS h1 h2
  simp only [ev_s] at he
  obtain ⟨rr, hr, e1⟩ := Option.map_eq_some_iff.mp he
  subst e1
  unfold ev_ll at hr
  split at hr
  · next y x r2 => cases hr; exact lv_land hx hb hdg (kk Ls H locs cells slots hl hn hh hS h1 h2)
  · cases hr
theorem ev_lor (hx : p.tables.exec = Jvm.exec) (hb : c.code = cc) (hdg : decode cc pc = .ok (.lor, 1)) (he : ev_s V dft (.lor, z) pc ls st h = some r) (kk : ev_Sim p l e R s m args below meth c Q D cl aC base ex nL n0 s0 r) : ev_Sim p l e R s m args below meth c Q D cl aC base ex nL n0 s0 (pc, ls, st, h) := by
  intro Ls H locs cells slots hl hn hh hS h1 h2
  simp only [ev_s] at he
  obtain ⟨rr, hr, e1⟩ := Option.map_eq_some_iff.mp he
  subst e1
  unfold ev_ll at hr
  split at hr
  · next y x r2 => cases hr; exact lv_lor hx hb hdg (kk Ls H locs cells slots hl hn hh hS h1 h2)
  · cases hr
theorem ev_lxor (hx : p.tables.exec = Jvm.exec) (hb : c.code = cc) (hdg : decode cc pc = .ok (.lxor, 1)) (he : ev_s V dft (.lxor, z) pc ls st h = some r) (kk : ev_Sim p l e R s m args below meth c Q D cl aC base ex nL n0 s0 r) : ev_Sim p l e R s m args below meth c Q D cl aC base ex nL n0 s0 (pc, ls, st, h) := by
  intro Ls H locs cells slots hl hn hh hS h1 h2
  simp only [ev_s] at he
  obtain ⟨rr, hr, e1⟩ := Option.map_eq_some_iff.mp he
  subst e1
  unfold ev_ll at hr
  split at hr
  · next y x r2 => cases hr; exact lv_lxor hx hb hdg (kk Ls H locs cells slots hl hn hh hS h1 h2)
  · cases hr
theorem ev_lshl (hx : p.tables.exec = Jvm.exec) (hb : c.code = cc) (hdg : decode cc pc = .ok (.lshl, 1)) (he : ev_s V dft (.lshl, z) pc ls st h = some r) (kk : ev_Sim p l e R s m args below meth c Q D cl aC base ex nL n0 s0 r) : ev_Sim p l e R s m args below meth c Q D cl aC base ex nL n0 s0 (pc, ls, st, h) := by
  intro Ls H locs cells slots hl hn hh hS h1 h2
  simp only [ev_s] at he
  obtain ⟨rr, hr, e1⟩ := Option.map_eq_some_iff.mp he
  subst e1
  unfold ev_li at hr
  split at hr
  · next y x r2 => cases hr; exact lv_lshl hx hb hdg rfl (kk Ls H locs cells slots hl hn hh hS h1 h2)
  · cases hr
theorem ev_lshr (hx : p.tables.exec = Jvm.exec) (hb : c.code = cc) (hdg : decode cc pc = .ok (.lshr, 1)) (he : ev_s V dft (.lshr, z) pc ls st h = some r) (kk : ev_Sim p l e R s m args below meth c Q D cl aC base ex nL n0 s0 r) : ev_Sim p l e R s m args below meth c Q D cl aC base ex nL n0 s0 (pc, ls, st, h) := by
  intro Ls H locs cells slots hl hn hh hS h1 h2
  simp only [ev_s] at he
  obtain ⟨rr, hr, e1⟩ := Option.map_eq_some_iff.mp he
  subst e1
  unfold ev_li at hr
  split at hr
  · next y x r2 => cases hr; exact lv_lshr hx hb hdg rfl (kk Ls H locs cells slots hl hn hh hS h1 h2)
  · cases hr
theorem ev_idiv (hx : p.tables.exec = Jvm.exec) (hb : c.code = cc) (hdg : decode cc pc = .ok (.idiv, 1)) (he : ev_s V dft (.idiv, z) pc ls st h = some r) (kk : ev_Sim p l e R s m args below meth c Q D cl aC base ex nL n0 s0 r) : ev_Sim p l e R s m args below meth c Q D cl aC base ex nL n0 s0 (pc, ls, st, h) := by
  intro Ls H locs cells slots hl hn hh hS h1 h2
  simp only [ev_s] at he
  split at he
  · next y x r2 =>
    split at he
    · cases he
    · next hy => cases he; exact lv_idiv hx hb hdg hy (kk Ls H locs cells slots hl hn hh hS h1 h2)
  · cases he
theorem ev_irem (hx : p.tables.exec = Jvm.exec) (hb : c.code = cc) (hdg : decode cc pc = .ok (.irem, 1)) (he : ev_s V dft (.irem, z) pc ls st h = some r) (kk : ev_Sim p l e R s m args below meth c Q D cl aC base ex nL n0 s0 r) : ev_Sim p l e R s m args below meth c Q D cl aC base ex nL n0 s0 (pc, ls, st, h) := by
  intro Ls H locs cells slots hl hn hh hS h1 h2
  simp only [ev_s] at he
  split at he
  · next y x r2 =>
    split at he
    · cases he
    · next hy => cases he; exact lv_irem hx hb hdg hy (kk Ls H locs cells slots hl hn hh hS h1 h2)
  · cases he
theorem ev_ineg (hx : p.tables.exec = Jvm.exec) (hb : c.code = cc) (hdg : decode cc pc = .ok (.ineg, 1)) (he : ev_s V dft (.ineg, z) pc ls st h = some r) (kk : ev_Sim p l e R s m args below meth c Q D cl aC base ex nL n0 s0 r) : ev_Sim p l e R s m args below meth c Q D cl aC base ex nL n0 s0 (pc, ls, st, h) := by
  intro Ls H locs cells slots hl hn hh hS h1 h2
  simp only [ev_s] at he
  split at he
  · next x r2 => cases he; exact lv_ineg hx hb hdg (kk Ls H locs cells slots hl hn hh hS h1 h2)
  · cases he
theorem ev_lcmp (hx : p.tables.exec = Jvm.exec) (hb : c.code = cc) (hdg : decode cc pc = .ok (.lcmp, 1)) (he : ev_s V dft (.lcmp, z) pc ls st h = some r) (kk : ev_Sim p l e R s m args below meth c Q D cl aC base ex nL n0 s0 r) : ev_Sim p l e R s m args below meth c Q D cl aC base ex nL n0 s0 (pc, ls, st, h) := by
  intro Ls H locs cells slots hl hn hh hS h1 h2
  simp only [ev_s] at he
  split at he
  · next y x r2 => cases he; exact W.lcmp hx hb hdg (kk Ls H locs cells slots hl hn hh hS h1 h2)
  · cases he
theorem ev_i2l (hx : p.tables.exec = Jvm.exec) (hb : c.code = cc) (hdg : decode cc pc = .ok (.i2l, 1)) (he : ev_s V dft (.i2l, z) pc ls st h = some r) (kk : ev_Sim p l e R s m args below meth c Q D cl aC base ex nL n0 s0 r) : ev_Sim p l e R s m args below meth c Q D cl aC base ex nL n0 s0 (pc, ls, st, h) := by
  intro Ls H locs cells slots hl hn hh hS h1 h2
  simp only [ev_s] at he
  split at he
  · next x r2 => cases he; exact lv_i2l hx hb hdg rfl (kk Ls H locs cells slots hl hn hh hS h1 h2)
  · cases he
theorem ev_i2c (hx : p.tables.exec = Jvm.exec) (hb : c.code = cc) (hdg : decode cc pc = .ok (.i2c, 1)) (he : ev_s V dft (.i2c, z) pc ls st h = some r) (kk : ev_Sim p l e R s m args below meth c Q D cl aC base ex nL n0 s0 r) : ev_Sim p l e R s m args below meth c Q D cl aC base ex nL n0 s0 (pc, ls, st, h) := by
  intro Ls H locs cells slots hl hn hh hS h1 h2
  simp only [ev_s] at he
  split at he
  · next x r2 => cases he; exact lv_i2c hx hb hdg rfl (kk Ls H locs cells slots hl hn hh hS h1 h2)
  · cases he
theorem ev_iconst (hx : p.tables.exec = Jvm.exec) (hb : c.code = cc) {n : Int} (hdg : decode cc pc = .ok (.iconst n, 1)) (he : ev_s V dft (.iconst n, z) pc ls st h = some r) (kk : ev_Sim p l e R s m args below meth c Q D cl aC base ex nL n0 s0 r) : ev_Sim p l e R s m args below meth c Q D cl aC base ex nL n0 s0 (pc, ls, st, h) := by
  intro Ls H locs cells slots hl hn hh hS h1 h2
  simp only [ev_s] at he
  cases he; exact lv_iconst hx hb hdg rfl (kk Ls H locs cells slots hl hn hh hS h1 h2)
theorem ev_bipush (hx : p.tables.exec = Jvm.exec) (hb : c.code = cc) {n : Int} (hdg : decode cc pc = .ok (.bipush n, 2)) (he : ev_s V dft (.bipush n, z) pc ls st h = some r) (kk : ev_Sim p l e R s m args below meth c Q D cl aC base ex nL n0 s0 r) : ev_Sim p l e R s m args below meth c Q D cl aC base ex nL n0 s0 (pc, ls, st, h) := by
  intro Ls H locs cells slots hl hn hh hS h1 h2
  simp only [ev_s] at he
  cases he; exact lv_bipush hx hb hdg rfl (kk Ls H locs cells slots hl hn hh hS h1 h2)
theorem ev_sipush (hx : p.tables.exec = Jvm.exec) (hb : c.code = cc) {n : Int} (hdg : decode cc pc = .ok (.sipush n, 3)) (he : ev_s V dft (.sipush n, z) pc ls st h = some r) (kk : ev_Sim p l e R s m args below meth c Q D cl aC base ex nL n0 s0 r) : ev_Sim p l e R s m args below meth c Q D cl aC base ex nL n0 s0 (pc, ls, st, h) := by
  intro Ls H locs cells slots hl hn hh hS h1 h2
  simp only [ev_s] at he
  cases he; exact lv_sipush hx hb hdg rfl (kk Ls H locs cells slots hl hn hh hS h1 h2)
theorem ev_lconst (hx : p.tables.exec = Jvm.exec) (hb : c.code = cc) {n : Fin 2} (hdg : decode cc pc = .ok (.lconst n, 1)) (he : ev_s V dft (.lconst n, z) pc ls st h = some r) (kk : ev_Sim p l e R s m args below meth c Q D cl aC base ex nL n0 s0 r) : ev_Sim p l e R s m args below meth c Q D cl aC base ex nL n0 s0 (pc, ls, st, h) := by
  intro Ls H locs cells slots hl hn hh hS h1 h2
  simp only [ev_s] at he
  cases he; exact lv_lconst hx hb hdg rfl (kk Ls H locs cells slots hl hn hh hS h1 h2)
theorem ev_dup (hx : p.tables.exec = Jvm.exec) (hb : c.code = cc) (hdg : decode cc pc = .ok (.dup, 1)) (he : ev_s V dft (.dup, z) pc ls st h = some r) (kk : ev_Sim p l e R s m args below meth c Q D cl aC base ex nL n0 s0 r) : ev_Sim p l e R s m args below meth c Q D cl aC base ex nL n0 s0 (pc, ls, st, h) := by
  intro Ls H locs cells slots hl hn hh hS h1 h2
  simp only [ev_s] at he
  split at he
  · next v r2 =>
    split at he
    · next hc => cases he; exact lv_dup hx hb hdg (by rw [ev_cat]; exact hc) (kk Ls H locs cells slots hl hn hh hS h1 h2)
    · cases he
  · cases he
theorem ev_dup2 (hx : p.tables.exec = Jvm.exec) (hb : c.code = cc) (hdg : decode cc pc = .ok (.dup2, 1)) (he : ev_s V dft (.dup2, z) pc ls st h = some r) (kk : ev_Sim p l e R s m args below meth c Q D cl aC base ex nL n0 s0 r) : ev_Sim p l e R s m args below meth c Q D cl aC base ex nL n0 s0 (pc, ls, st, h) := by
  intro Ls H locs cells slots hl hn hh hS h1 h2
  simp only [ev_s] at he
  split at he
  · next v w r2 =>
    split at he
    · next hc => cases he; exact lv_dup2_11 hx hb hdg (by rw [ev_cat]; exact hc.1) (by rw [ev_cat]; exact hc.2) (kk Ls H locs cells slots hl hn hh hS h1 h2)
    · cases he
  · cases he
theorem ev_pop (hx : p.tables.exec = Jvm.exec) (hb : c.code = cc) (hdg : decode cc pc = .ok (.pop, 1)) (he : ev_s V dft (.pop, z) pc ls st h = some r) (kk : ev_Sim p l e R s m args below meth c Q D cl aC base ex nL n0 s0 r) : ev_Sim p l e R s m args below meth c Q D cl aC base ex nL n0 s0 (pc, ls, st, h) := by
  intro Ls H locs cells slots hl hn hh hS h1 h2
  simp only [ev_s] at he
  split at he
  · next v r2 =>
    split at he
    · next hc => cases he; exact lv_pop hx hb hdg (by rw [ev_cat]; exact hc) (kk Ls H locs cells slots hl hn hh hS h1 h2)
    · cases he
  · cases he
end EvB
