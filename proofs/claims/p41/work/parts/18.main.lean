/-! array copies, Object's constructor, and THE THEOREM -/
theorem ev_01_of {f : Nat → Int32} {a n : Nat} (h : ev_01 f a n = true) : ∀ i, i < n → fits .boolean (.int (f (a + i))) = true := by
  intro i hi
  unfold ev_01 at h
  have := List.all_eq_true.mp h i (List.mem_range.mpr hi)
  exact this
theorem ev_cpy_words : nativeFrameWords "java/lang/System" "arraycopy" 5 + 11 ≤ 100 := by decide +kernel
theorem ev_kd2 {i : Instr} (h : ev_kd i = 2) : ∃ k, i = .invokevirtual k := by
  cases i <;> first | exact ⟨_, rfl⟩ | (exact absurd h (by simp [ev_kd]))
theorem ev_kd3 {i : Instr} (h : ev_kd i = 3) : ∃ k, i = .invokestatic k := by
  cases i <;> first | exact ⟨_, rfl⟩ | (exact absurd h (by simp [ev_kd]))
theorem ev_kd4 {i : Instr} (h : ev_kd i = 4) : ∃ k, i = .invokespecial k := by
  cases i <;> first | exact ⟨_, rfl⟩ | (exact absurd h (by simp [ev_kd]))
section EvK
variable {l : Launch} {D : va_G} {cl : List vw_C} {aC : Nat → ClassId} {base : Nat} {ex : Nat → Nat} {V : ev_V} {Ts Bs : List Cond} {Ss : List (String × Nat × String)} {dft : Nat → List Value} {mt : List ev_Q} {f : ev_F}
variable {p : Program} {e : Env} {R : Room} {s : State} {m : MethodId} {args : Array Value} {below : List Frame} {meth : Method} {c : Code} {Q : State → Prop} {nL n0 s0 : Nat} {cc : ByteArray}
theorem ev_cpy_sim (hx : p.tables.exec = Jvm.exec) (hb : c.code = cc) (hml : c.maxLocals = nL) {own : String} {index : Nat} (hown : s.vm.findClass own = some m.cls) (hlink : (Cond.methodLink own index arraycopyName).before args s = true) (hnat : (Cond.native arraycopyName).before args s = true) (hstat : (Cond.static arraycopyName).before args s = true) (hini : (Cond.initialized "java/lang/System").before args s = true)
    (hbn : base + n0 = s.heap.size) (hK : va_K D cl (ev_tys aC) s) (hfr : 1 ≤ R.frames) (hlo : 200 ≤ R.locals) {pc : Nat} {ls : ev_L} {st : List Value} {h : ev_H} {r : List Value × ev_H} (hdg : decode cc pc = .ok (.invokestatic index, 3)) (he : ev_cpy st h = some r) (hc8 : ev_cats r.1 ≤ 8)
    (kk : ev_Sim p l e R s m args below meth c Q D cl aC base ex nL n0 s0 (pc + 3, ls, r.1, r.2)) : ev_Sim p l e R s m args below meth c Q D cl aC base ex nL n0 s0 (pc, ls, st, h) := by
  intro Ls H locs cells slots hl hn hh hS h1c h2c
  dsimp only at hl hn hh h1c h2c ⊢
  have hsz : c.maxLocals = Ls.size := by rw [hml, ← hn]; exact hl.1.symm
  unfold ev_cpy at he
  split at he
  · next n dp a sp b rr =>
    split at he
    · next t n0' f t' n1 g hb1 ha1 =>
      split at he
      · next hc =>
        obtain ⟨rfl, ht, q1, q2, q3, q4, q5⟩ := hc
        split at he
        · next hv =>
          cases he
          have hcat := ev_cats_tv (ev_ad base ex) rr
          have hw := ev_cpy_words
          dsimp only at hc8
          have go : ∀ (ty : FieldType), (ev_tys aC)[t']? = some (aC t', ty) → refKind ty = false → (∀ i, i < n.toNatClampNeg → fits ty (.int (f (sp.toNatClampNeg + i))) = true) → W p l e R s m args below meth c H locs cells slots Q (F0 m pc Ls (.int n :: .int dp :: .ref (ev_ad base ex a) :: .int sp :: .ref (ev_ad base ex b) :: rr.map (ev_tv (ev_ad base ex)))) := by
            intro ty hty hrk hfit
            refine va_copyi hx hb hsz hown hlink hnat hstat hini hK hh.1 (ev_D hh.2.2.2) (ev_S0 hS) b a t' t' (ev_ws_at hb1) (ev_ws_at ha1) hty hty hrk q1 q2 q3 q4 q5 hfit hfr (by rw [hcat]; omega) hdg (fun H1 locs1 hP1 hD1 hS1 => ev_sized fun hsz1 => ?_)
            have hd := ev_done (x := .inl (t', n1, .inl (va_cpy f g sp.toNatClampNeg dp.toNatClampNeg n.toNatClampNeg))) hbn hh h1c hS1 hsz1 hP1
            exact kk Ls H1 locs1 cells slots hl hn hd (ev_S1 hS hS1) h1c h2c
          rcases ht with rfl | rfl
          · exact go .int rfl rfl (fun _ _ => rfl)
          · exact go .boolean rfl rfl (ev_01_of (hv.resolve_left (by decide)))
        · cases he
      · cases he
    · cases he
  · cases he
theorem ev_obj_sim (hx : p.tables.exec = Jvm.exec) (hb : c.code = cc) (hml : c.maxLocals = nL) {own : String} {index : Nat} (hown : s.vm.findClass own = some m.cls) (hlink : (Cond.methodLink own index Lib.objectInit).before args s = true) (hinst : (Cond.instanceMethod Lib.objectInit).before args s = true) (hcode : (Cond.code Lib.objectInit ⟨#[0xb1]⟩ 1 none).before args s = true)
    (hfr : 1 ≤ R.frames) (hlo : 200 ≤ R.locals) {pc a : Nat} {ls : ev_L} {rr : List Value} {h : ev_H} (hdg : decode cc pc = .ok (.invokespecial index, 3)) (hc8 : ev_cats rr ≤ 8)
    (kk : ev_Sim p l e R s m args below meth c Q D cl aC base ex nL n0 s0 (pc + 3, ls, rr, h)) : ev_Sim p l e R s m args below meth c Q D cl aC base ex nL n0 s0 (pc, ls, .ref a :: rr, h) := by
  intro Ls H locs cells slots hl hn hh hS h1c h2c
  dsimp only at hl hn hh h1c h2c ⊢
  have hsz : Ls.size = c.maxLocals := by rw [hml, ← hn]; exact hl.1
  have hcat := ev_cats_tv (ev_ad base ex) rr
  refine W.objInit hx hb hown hlink hinst hcode rfl hsz rfl hdg hfr ?_ (kk Ls H locs cells slots hl hn hh hS h1c h2c)
  have : 2 * (F0 m pc Ls ((Value.ref a :: rr).map (ev_tv (ev_ad base ex)))).monitorRoom + ((rr.map (ev_tv (ev_ad base ex))).map fun v => v.category).sum ≤ 8 := lv_room (by rw [hcat]; exact hc8)
  omega
end EvK
