/-! THE SIMULATION: whatever the evaluator comes to, the machine comes to. -/
def ev_Fr (p : Program) (R : Room) (s : State) (m : MethodId) (args : Array Value) (meth : Method) (c : Code) (D : va_G) (cl : List vw_C) (aC : Nat → ClassId) (base : Nat) (ex : Nat → Nat) (V : ev_V) (Ts Bs : List Cond) (Ss : List (String × Nat × String)) (q : ev_Q) (d n0 s0 mc ms : Nat) (h' : ev_H) : Prop :=
  p.tables.exec = Jvm.exec ∧ c.code = q.2.1 ∧ c.maxLocals = q.2.2.1 ∧ s.vm.findClass q.1.cls = some m.cls ∧ (∀ w ∈ Ts, w.before args s = true) ∧ ev_G D cl aC base ex V Bs Ss s ∧ ev_X base ex V s s.heap ∧
  meth.sig.returnType = q.2.2.2.1 ∧ meth.locks = false ∧ meth.name = q.1.name ∧ (∀ x ∈ c.exceptionTable.toList, False) ∧ base + n0 = s.heap.size ∧ (d + 8 ≤ R.frames ∧ 100 * d + 200 ≤ R.locals) ∧ mc ≤ R.cells ∧ ms ≤ R.slots ∧ mc + n0 = h'.2.1 ∧ ms + s0 = h'.2.2 ∧ h'.2.1 ≤ ev_ext
def ev_Cl (l : Launch) (D : va_G) (cl : List vw_C) (aC : Nat → ClassId) (base : Nat) (ex : Nat → Nat) (V : ev_V) (Ts Bs : List Cond) (Ss : List (String × Nat × String)) (mt : List ev_Q) (f : ev_F) : Prop :=
  ∀ (d mi pc : Nat) (ls : ev_L) (st : List Value) (h : ev_H) (o : ev_O) (h' : ev_H) (q : ev_Q), mt[mi]? = some q → f d mi pc ls st h = some (o, h') → ∀ (p : Program) (e : Env) (R : Room) (s : State) (m : MethodId) (args : Array Value) (below : List Frame) (meth : Method) (c : Code) (n0 s0 mc ms : Nat), ev_Fr p R s m args meth c D cl aC base ex V Ts Bs Ss q d n0 s0 mc ms h' →
    ev_Sim p l e R s m args below meth c (vx_MQ below (ev_Qc D cl aC base ex o h') (ev_XC D cl aC base ex o h') args s mc ms (fun a : Nat => base ≤ a)) D cl aC base ex q.2.2.1 n0 s0 (pc, ls, st, h)
section EvH
variable {l : Launch} {D : va_G} {cl : List vw_C} {aC : Nat → ClassId} {base : Nat} {ex : Nat → Nat} {V : ev_V} {Ts Bs : List Cond} {Ss : List (String × Nat × String)} {dft : Nat → List Value} {mt : List ev_Q} {f : ev_F}
theorem ev_meet (hf : ev_Cl l D cl aC base ex V Ts Bs Ss mt f) {d x : Nat} {as : List Value} {h h1 : ev_H} {o : ev_O} {q : ev_Q} (hq : mt[x]? = some q) (hpl : plainName q.1.cls = true) (he : f d x 0 (ev_in q.2.2.1 as) [] h = some (o, h1)) (hlen : (ev_sl as).length ≤ q.2.2.1) (hle : ev_le h h1) (hext : h1.2.1 ≤ ev_ext) :
    vx_Met l q.1 (Cond.code q.1 q.2.1 q.2.2.1 q.2.2.2.1 :: Ts) (ev_rm d (h1.2.1 - h.2.1) (h1.2.2 - h.2.2)) (ev_Pc D cl aC base ex V Bs Ss as h) (ev_Qc D cl aC base ex o h1) (ev_XC D cl aC base ex o h1) (h1.2.1 - h.2.1) (h1.2.2 - h.2.2) (fun a : Nat => base ≤ a) := by
  refine vx_ofW (cc := q.2.1) (maxL := q.2.2.1) (ret := q.2.2.2.1) hpl rfl ?_
  intro p e s m args below meth c s₁ B hml htab hv
  obtain ⟨rfl, hrel, hG, hX⟩ := hv
  have hts0 := atoms_spec (ws := Cond.code q.1 q.2.1 q.2.2.1 q.2.2.2.1 :: Ts) B.pre
  obtain ⟨e1, e2⟩ := ev_in_lr (ad := ev_ad base ex) hlen
  rw [lg_entry_eq]
  have hz := hrel.2.1
  have hc := hrel.2.2.1
  obtain ⟨l1, l2⟩ := hle
  exact hf d x 0 (ev_in q.2.2.1 as) [] h o h1 q hq he p e _ s m _ below meth c h.2.1 h.2.2 (h1.2.1 - h.2.1) (h1.2.2 - h.2.2)
    ⟨B.exec, B.bytes, hml, findClass_of_methodNamed B.named, fun w hw => hts0 w (List.mem_cons_of_mem _ hw), hG, hX, B.returns, B.notSynchronized, (name_of_methodNamed B.named B.method).1, htab, by rw [hc]; exact hz.symm, ⟨Nat.le_refl _, Nat.le_refl _⟩, Nat.le_refl _, Nat.le_refl _, by omega, by omega, hext⟩
    _ s.heap [] 0 0 e2 e1 hrel va_S.rf (by simp) (by simp)
theorem ev_F1 {A : Nat → Prop} {H0 H : Heap} {locs locs1 : List Loc} {st t : State} (hS : va_S A H0 H locs) (h0 : st.heap = H) (hF : va_F A st t) (hl : ∀ z ∈ locs1, A z.base) : va_S A H0 t.heap locs1 := by
  subst h0
  exact ⟨Nat.le_trans hS.1 hF.1, fun q q1 q2 => (hF.2 q (Nat.lt_of_lt_of_le q1 hS.1) q2).trans (hS.2.1 q q1 q2), hl⟩
/-- behind any call: the method goes on, or the exception leaves it -/
theorem ev_goon (hf : ev_Cl l D cl aC base ex V Ts Bs Ss mt f) {d mi pc : Nat} {ls : ev_L} {rest : List Value} {h h1 h' : ev_H} {o1 o : ev_O} {q : ev_Q} {code : ev_M} {ks : List Nat} (hq : mt[mi]? = some q) (hb0 : ev_back f [] ks code d mi pc ls rest o1 h1 = some (o, h')) (hle1 : ev_le h1 h') (hle : ev_le h h1)
    {p : Program} {e : Env} {R : Room} {s : State} {m : MethodId} {args : Array Value} {below : List Frame} {meth : Method} {c : Code} {n0 s0 mc ms : Nat} (hFr : ev_Fr p R s m args meth c D cl aC base ex V Ts Bs Ss q d n0 s0 mc ms h')
    {Ls : Array Slot} {H : Heap} {locs : List Loc} {cells slots : Nat} (hl : ev_lr (ev_ad base ex) Ls ls) (hn : ls.length = q.2.2.1) (hS : va_S (fun a : Nat => base ≤ a) s.heap H locs) (h1c : cells + n0 = h.2.1) (h2c : slots + s0 = h.2.2) {st0 : List Value} {a9 : Array Value}
    (hr : vx_Run p l e R s m args below meth c H locs cells slots (h1.2.1 - h.2.1) (h1.2.2 - h.2.2) (F0 m pc Ls st0) (rest.map (ev_tv (ev_ad base ex))) (ev_Qc D cl aC base ex o1 h1 a9) (ev_XC D cl aC base ex o1 h1) (fun a : Nat => base ≤ a)) :
    W p l e R s m args below meth c H locs cells slots (vx_MQ below (ev_Qc D cl aC base ex o h') (ev_XC D cl aC base ex o h') args s mc ms (fun a : Nat => base ≤ a)) (F0 m pc Ls st0) := by
  obtain ⟨l1, l2⟩ := hle
  refine ev_after hr hS.2.2 (fun v' st₀ t locs1 h0 hqc hlo => ?_) (fun E st₀ t locs1 q9 ce h0 hxc hlo g1 g2 g3 => ?_)
  · obtain ⟨⟨v, ho, hoc⟩, hrel, hF⟩ := hqc
    subst ho
    cases hoc
    have hS1 := ev_F1 hS h0 hF hlo
    have K := hf d mi (pc + 3) ls (v.toList ++ rest) h1 o h' q hq hb0 p e R s m args below meth c n0 s0 mc ms hFr Ls t.heap locs1 (cells + (h1.2.1 - h.2.1)) (slots + (h1.2.2 - h.2.2)) hl hn hrel hS1 (by show cells + _ + n0 = h1.2.1; omega) (by show slots + _ + s0 = h1.2.2; omega)
    have e9 : (v.toList ++ rest).map (ev_tv (ev_ad base ex)) = (v.map (ev_tv (ev_ad base ex))).toList ++ rest.map (ev_tv (ev_ad base ex)) := by
      cases v <;> simp
    dsimp only at K
    rw [e9] at K
    exact K
  · obtain ⟨⟨k, T, N, ho, hcl⟩, hrel, hF⟩ := hxc
    subst ho
    have hb1 : (.inr k, h1) = (o, h') := Option.some.inj hb0
    cases hb1
    have hS1 := ev_F1 hS h0 hF hlo
    obtain ⟨-, -, -, -, -, -, -, -, hlocks, -, htab, -, -, -, -, q1, q2, -⟩ := hFr
    exact vx_out (fun x hx => absurd (htab x hx) id) hlocks g1 g2 g3 (fun t' ht' _ => ⟨⟨k, T, N, rfl, hcl⟩, by rw [ht']; exact hrel, hS1.F ht'⟩) hlo (by omega) (by omega)
theorem ev_good (hgood : ∀ w ∈ Ts, goodWord w = true) {w0 : Cond} (hw : w0 ∈ Ts) : GoodIn Ts (w0 :: Ts) := by
  intro w h
  have hm : w ∈ Ts := (List.mem_cons.mp h).elim (fun e => by rw [e]; exact hw) id
  exact ⟨hm, good_of_word (hgood w hm)⟩
theorem ev_pre (hbw : ∀ w ∈ Bs, ev_bw w = true) (hex : ∀ k, ex k < base) {s : State} (hX1 : base ≤ s.heap.size) (hG : ev_G D cl aC base ex V Bs Ss s) (hX : ev_X base ex V s s.heap) {h : ev_H} {H : Heap} {locs : List Loc} (hh : ev_rel D cl aC base ex h H) (hS : va_S (fun a : Nat => base ≤ a) s.heap H locs) (as : List Value) (U : State) (hU : U.heap = H) (hW : s.WarmedH U.vm) : ev_Pc D cl aC base ex V Bs Ss as h (as.map (ev_tv (ev_ad base ex))).toArray U := by
  subst hU
  exact ⟨rfl, hh, ev_G.warm hbw hW hG, ev_X.moved hW.alike (ev_X.kept hex hX1 hS hX)⟩
end EvH
