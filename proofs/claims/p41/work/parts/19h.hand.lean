/-! The simulation, for methods that catch too: turned from parts 14 to 18. -/
/-- a method's body, of a class that natives stand in, but not for this method -/
theorem eh_ofW {l : Launch} {y : MethodName} {ws ws' : List Cond} {rm : Room} {Pc : Array Value → State → Prop} {Qc : Array Value → State → Outcome → State → Prop} {XC : String → State → State → Prop} {mc ms : Nat} {free : Addr → Prop} {cc : ByteArray} {maxL : Nat} {ret : Option FieldType}
    (hy : plainFor y = true) (hw : ws = Cond.code y cc maxL ret :: ws')
    (body : ∀ p e s m args below meth c s₁, BodyLoose p l y (headSpec ws rm) cc maxL ret e s m args below meth c s₁ → c.maxLocals = maxL → (∀ x ∈ c.exceptionTable.toList, False) → Pc args s →
      W p l e (headSpec ws rm).room s m args below meth c s.heap [] 0 0 (vx_MQ below Qc XC args s mc ms free) (entryFrame m args maxL)) : vx_Met l y ws rm Pc Qc XC mc ms free := by
  have hcode : ∀ {args : Array Value} {s : State}, (headSpec ws rm).pre.before args s = true → (Cond.code y cc maxL ret).before args s = true := fun h => atoms_spec (ws := ws) h _ (by rw [hw]; exact List.mem_cons_self)
  refine MetFree.of_bodySF (code := cc) (maxLocals := maxL) (ret := ret) hy (fun args s m h hn => ?_) (fun p e s m args below meth c s₁ B hml hP _ => ?_)
  · obtain ⟨meth, c, h1, h2, h3, h4, h5, h6, -, -⟩ := Cond.code_spec hn (hcode h)
    exact ⟨meth, c, h1, h2, h3, h4, h5, h6⟩
  · obtain ⟨meth9, c9, h1, h2, -, -, -, -, h7, -⟩ := Cond.code_spec B.named (hcode B.pre)
    cases Option.some.inj (h1.symm.trans B.method)
    cases Option.some.inj (h2.symm.trans (Stand.of_body B).code)
    have ht : ∀ x ∈ c.exceptionTable.toList, False := fun x hx => by
      rw [Array.isEmpty_iff.mp h7] at hx
      cases hx
    obtain ⟨t, a1, o, b1, b2, b3⟩ := body p e s m args below meth c s₁ B hml ht hP s₁ (by rw [B.state]; rfl) (Stand.of_body B)
    exact ⟨t, o, a1, b1, b2, b3⟩
/-- the word of a method's code -/
def eh_cw (q : ev_Q) : Cond := if q.2.2.2.2.1 = [] then Cond.code q.1 q.2.1 q.2.2.1 q.2.2.2.1 else Cond.codeWith q.1 q.2.1 q.2.2.1 q.2.2.2.1 q.2.2.2.2.1
/-- a table of handlers: row by row with what is caught; rows ahead name others -/
def eh_hk (cl : List vw_C) (Ts Bs : List Cond) (Ns : List (String × String)) (own : String) (hh : List (Nat × Nat × Nat × Nat)) (ks : List Nat) : Prop :=
  ∀ (j : Nat) (x : Nat × Nat × Nat × Nat) (k : Nat), hh[j]? = some x → ks[j]? = some k → x.2.2.2 ≠ 0 ∧ ∃ E T N, cl[k]? = some (E, T, N) ∧ Cond.classLink own x.2.2.2 E ∈ Ts ∧ Cond.castable E E ∈ Bs ∧ ∀ (k' : Nat) (E' : String) (T' : u_T) (N' : Nat), k' ∈ ks → k' ≠ k → cl[k']? = some (E', T', N') → (E', E) ∈ Ns
def eh_lnk (cl : List vw_C) (Ts Bs : List Cond) (mt : List ev_Q) (own : String) (I : ev_I) : Prop := (∀ q, mt[I.2.2.1]? = some q → 1 ≤ I.2.2.1 ∧ (q.2.2.2.2.1 = [] ∨ ∃ index, I.1 = .invokestatic index ∧ Cond.methodLink own index q.1 ∈ Ts)) ∧ ev_lnk cl Ts Bs mt own I
def eh_G (D : va_G) (cl : List vw_C) (aC : Nat → ClassId) (base : Nat) (ex : Nat → Nat) (V : ev_V) (Bs : List Cond) (Ss : List (String × Nat × String)) (Ns : List (String × String)) (U : State) : Prop := ev_G D cl aC base ex V Bs Ss U ∧ ∀ n ∈ Ns, va_Nc n.1 n.2 U
theorem eh_G.warm {D : va_G} {cl : List vw_C} {aC : Nat → ClassId} {base : Nat} {ex : Nat → Nat} {V : ev_V} {Bs : List Cond} {Ss : List (String × Nat × String)} {Ns : List (String × String)} {s U : State} (hbw : ∀ w ∈ Bs, ev_bw w = true) (hW : s.WarmedH U.vm) (h : eh_G D cl aC base ex V Bs Ss Ns s) : eh_G D cl aC base ex V Bs Ss Ns U := ⟨ev_G.warm hbw hW h.1, fun n hn => va_Nc.moved hW.alike (h.2 n hn)⟩
def eh_Pc (D : va_G) (cl : List vw_C) (aC : Nat → ClassId) (base : Nat) (ex : Nat → Nat) (V : ev_V) (Bs : List Cond) (Ss : List (String × Nat × String)) (Ns : List (String × String)) (as : List Value) (h : ev_H) : Array Value → State → Prop := fun a U =>
  a = (as.map (ev_tv (ev_ad base ex))).toArray ∧ ev_rel D cl aC base ex h U.heap ∧ eh_G D cl aC base ex V Bs Ss Ns U ∧ ev_X base ex V U U.heap
theorem eh_Pc_blind {D : va_G} {cl : List vw_C} {aC : Nat → ClassId} {base : Nat} {ex : Nat → Nat} {V : ev_V} {Bs : List Cond} {Ss : List (String × Nat × String)} {Ns : List (String × String)} {as : List Value} {h : ev_H} (hbw : ∀ w ∈ Bs, ev_bw w = true) : FrameBlind (eh_Pc D cl aC base ex V Bs Ss Ns as h) := by
  intro a U g mk ⟨h1, h2, h3, h4⟩
  exact ⟨h1, h2, eh_G.warm (U := U.calling g mk a) hbw (State.WarmedH.refl U) h3, ev_X.moved (U := U.calling g mk a) (Vm.Alike.refl U.vm) h4⟩
def eh_thrX (cl : List vw_C) (Ts Bs : List Cond) (Ss : List (String × Nat × String)) (own : String) (bytes : ByteArray) (pc : Nat) (I : ev_I) : Prop := ∃ cls T0 text is ic ik jx, ∃ (rx : ByteArray) (names : List String), cl[I.2.2.1]? = some (cls, T0, 0) ∧ I.1 = .new ik ∧ decode bytes (pc + 3) = .ok (.dup, 1) ∧ (decode bytes (pc + 4) = .ok (.ldc_w is, 3) ∧ decode bytes (pc + 7) = .ok (.invokespecial ic, 3) ∧ decode bytes (pc + 10) = .ok (.athrow, 1)) ∧ (decode rx 0 = .ok (.aload_n 0, 1) ∧ decode rx 1 = .ok (.aload_n 1, 1) ∧ decode rx 2 = .ok (.invokespecial jx, 3) ∧ decode rx 5 = .ok (.return_, 1)) ∧ Cond.classLink own ik cls ∈ Ts ∧ Cond.initialized cls ∈ Ts ∧ (own, is, text) ∈ Ss ∧ Bundle.fit cls = true ∧ (∀ n ∈ names, Bundle.fit n = true) ∧ names.length ≤ 3 ∧ (∀ w ∈ eh_at own ic cls jx rx names, w ∈ Ts ∨ w ∈ Bs) ∧ (∀ w ∈ Cond.classLink own ik cls :: Cond.initialized cls :: eh_at own ic cls jx rx names, vx_ot w = true)
/-- a call of String.length (0) or charAt (1) -/
def es_lnk (Ts : List Cond) (own : String) (I : ev_I) : Prop := match I.1 with
  | .invokevirtual index => (I.2.2.1 = 0 ∧ Cond.methodLink own index ({ cls := "java/lang/String", name := "length", desc := "()I" } : MethodName) ∈ Ts) ∨ (I.2.2.1 = 1 ∧ Cond.methodLink own index ({ cls := "java/lang/String", name := "charAt", desc := "(I)C" } : MethodName) ∈ Ts)
  | _ => False
def eh_mok (cl : List vw_C) (Ts Bs : List Cond) (Ss : List (String × Nat × String)) (Ns : List (String × String)) (dft : Nat → List Value) (mt : List ev_Q) (q : ev_Q) : Prop :=
  (plainName q.1.cls = true ∨ (plainFor q.1 = true ∧ q.2.2.2.2.1 = [])) ∧ eh_hk cl Ts Bs Ns q.1.cls q.2.2.2.2.1 q.2.2.2.2.2.1 ∧ q.2.2.1 ≤ 80 ∧ (q.1.cls ≠ "java/lang/invoke/MethodHandle" ∧ q.1.cls ≠ "java/lang/invoke/VarHandle") ∧
  ∀ pc I, ev_find q.2.2.2.2.2.2 pc = some I → decode q.2.1 pc = .ok (I.1, I.2.1) ∧ (I.2.1 = ev_len I.1 ∨ ev_isw I.1 = true) ∧
    (match ev_kd I.1 with
      | 0 => ev_site cl Ts Bs dft q.1.cls q.1.name I
      | 1 => True
      | 2 => if I.2.2.2.1 = 7 then es_lnk Ts q.1.cls I else eh_lnk cl Ts Bs mt q.1.cls I
      | 3 => if I.2.2.2.1 = 8 then (∃ index, I.1 = .invokestatic index ∧ Cond.methodLink q.1.cls index arraycopyName ∈ Ts ∧ Cond.native arraycopyName ∈ Ts ∧ Cond.static arraycopyName ∈ Ts ∧ Cond.initialized "java/lang/System" ∈ Ts) else eh_lnk cl Ts Bs mt q.1.cls I
      | 4 => if I.2.2.2.1 = 9 then (∃ index, I.1 = .invokespecial index ∧ Cond.methodLink q.1.cls index Lib.objectInit ∈ Ts ∧ Cond.instanceMethod Lib.objectInit ∈ Ts ∧ Cond.code Lib.objectInit ⟨#[0xb1]⟩ 1 none ∈ Ts) else eh_lnk cl Ts Bs mt q.1.cls I
      | _ => if I.2.2.2.2 = 1 then (ev_thr cl Ts Bs Ss q.1.cls q.2.1 pc I ∨ eh_thrX cl Ts Bs Ss q.1.cls q.2.1 pc I) else ev_site cl Ts Bs dft q.1.cls q.1.name I)

def eh_Fr (p : Program) (R : Room) (s : State) (m : MethodId) (args : Array Value) (meth : Method) (c : Code) (D : va_G) (cl : List vw_C) (aC : Nat → ClassId) (base : Nat) (ex : Nat → Nat) (V : ev_V) (Ts Bs : List Cond) (Ss : List (String × Nat × String)) (Ns : List (String × String)) (q : ev_Q) (d n0 s0 mc ms : Nat) (h' : ev_H) : Prop :=
  p.tables.exec = Jvm.exec ∧ c.code = q.2.1 ∧ c.maxLocals = q.2.2.1 ∧ s.vm.findClass q.1.cls = some m.cls ∧ (∀ w ∈ Ts, w.before args s = true) ∧ eh_G D cl aC base ex V Bs Ss Ns s ∧ ev_X base ex V s s.heap ∧
  meth.sig.returnType = q.2.2.2.1 ∧ meth.locks = false ∧ meth.name = q.1.name ∧ c.exceptionTable.toList = tableOf q.2.2.2.2.1 ∧ base + n0 = s.heap.size ∧ (d + 8 ≤ R.frames ∧ 100 * d + 200 ≤ R.locals) ∧ mc ≤ R.cells ∧ ms ≤ R.slots ∧ mc + n0 = h'.2.1 ∧ ms + s0 = h'.2.2 ∧ h'.2.1 ≤ ev_ext
def eh_Cl (l : Launch) (D : va_G) (cl : List vw_C) (aC : Nat → ClassId) (base : Nat) (ex : Nat → Nat) (V : ev_V) (Ts Bs : List Cond) (Ss : List (String × Nat × String)) (Ns : List (String × String)) (mt : List ev_Q) (f : ev_F) : Prop :=
  ∀ (d mi pc : Nat) (ls : ev_L) (st : List Value) (h : ev_H) (o : ev_O) (h' : ev_H) (q : ev_Q), mt[mi]? = some q → f d mi pc ls st h = some (o, h') → ∀ (p : Program) (e : Env) (R : Room) (s : State) (m : MethodId) (args : Array Value) (below : List Frame) (meth : Method) (c : Code) (n0 s0 mc ms : Nat), eh_Fr p R s m args meth c D cl aC base ex V Ts Bs Ss Ns q d n0 s0 mc ms h' →
    ev_Sim p l e R s m args below meth c (vx_MQ below (ev_Qc D cl aC base ex o h') (ev_XC D cl aC base ex o h') args s mc ms (fun a : Nat => base ≤ a)) D cl aC base ex q.2.2.1 n0 s0 (pc, ls, st, h)
section EvH
variable {l : Launch} {D : va_G} {cl : List vw_C} {aC : Nat → ClassId} {base : Nat} {ex : Nat → Nat} {V : ev_V} {Ts Bs : List Cond} {Ss : List (String × Nat × String)} {Ns : List (String × String)} {dft : Nat → List Value} {mt : List ev_Q} {f : ev_F}
theorem eh_meet (hf : eh_Cl l D cl aC base ex V Ts Bs Ss Ns mt f) {d x : Nat} {as : List Value} {h h1 : ev_H} {o : ev_O} {q : ev_Q} (hq : mt[x]? = some q) (hpl : plainName q.1.cls = true ∨ (plainFor q.1 = true ∧ q.2.2.2.2.1 = [])) (he : f d x 0 (ev_in q.2.2.1 as) [] h = some (o, h1)) (hlen : (ev_sl as).length ≤ q.2.2.1) (hle : ev_le h h1) (hext : h1.2.1 ≤ ev_ext) :
    vx_Met l q.1 (eh_cw q :: Ts) (ev_rm d (h1.2.1 - h.2.1) (h1.2.2 - h.2.2)) (eh_Pc D cl aC base ex V Bs Ss Ns as h) (ev_Qc D cl aC base ex o h1) (ev_XC D cl aC base ex o h1) (h1.2.1 - h.2.1) (h1.2.2 - h.2.2) (fun a : Nat => base ≤ a) := by
  have key : ∀ (p : Program) (e : Env) (s : State) (m : MethodId) (args : Array Value) (below : List Frame) (meth : Method) (c : Code) (s₁ : State), BodyLoose p l q.1 (headSpec (eh_cw q :: Ts) (ev_rm d (h1.2.1 - h.2.1) (h1.2.2 - h.2.2))) q.2.1 q.2.2.1 q.2.2.2.1 e s m args below meth c s₁ → c.maxLocals = q.2.2.1 → c.exceptionTable.toList = tableOf q.2.2.2.2.1 → eh_Pc D cl aC base ex V Bs Ss Ns as h args s →
      W p l e (headSpec (eh_cw q :: Ts) (ev_rm d (h1.2.1 - h.2.1) (h1.2.2 - h.2.2))).room s m args below meth c s.heap [] 0 0 (vx_MQ below (ev_Qc D cl aC base ex o h1) (ev_XC D cl aC base ex o h1) args s (h1.2.1 - h.2.1) (h1.2.2 - h.2.2) (fun a : Nat => base ≤ a)) (entryFrame m args q.2.2.1) := by
    intro p e s m args below meth c s₁ B hml htab hv
    obtain ⟨rfl, hrel, hG, hX⟩ := hv
    have hts0 := atoms_spec (ws := eh_cw q :: Ts) B.pre
    obtain ⟨e1, e2⟩ := ev_in_lr (ad := ev_ad base ex) hlen
    rw [lg_entry_eq]
    have hz := hrel.2.1
    have hc := hrel.2.2.1
    obtain ⟨l1, l2⟩ := hle
    exact hf d x 0 (ev_in q.2.2.1 as) [] h o h1 q hq he p e _ s m _ below meth c h.2.1 h.2.2 (h1.2.1 - h.2.1) (h1.2.2 - h.2.2)
      ⟨B.exec, B.bytes, hml, findClass_of_methodNamed B.named, fun w hw => hts0 w (List.mem_cons_of_mem _ hw), hG, hX, B.returns, B.notSynchronized, (name_of_methodNamed B.named B.method).1, htab, by rw [hc]; exact hz.symm, ⟨Nat.le_refl _, Nat.le_refl _⟩, Nat.le_refl _, Nat.le_refl _, by omega, by omega, hext⟩
      _ s.heap [] 0 0 e2 e1 hrel va_S.rf (by simp) (by simp)
  by_cases hh : q.2.2.2.2.1 = []
  · have hcw : eh_cw q = Cond.code q.1 q.2.1 q.2.2.1 q.2.2.2.1 := if_pos hh
    refine eh_ofW (cc := q.2.1) (maxL := q.2.2.1) (ret := q.2.2.2.1) (hpl.elim plainFor_of_name (fun z => z.1)) (by rw [hcw]) ?_
    intro p e s m args below meth c s₁ B hml htab hv
    exact key p e s m args below meth c s₁ B hml (by rw [hh, List.eq_nil_iff_forall_not_mem.mpr (fun x hx => htab x hx)]; rfl) hv
  · have hcw : eh_cw q = Cond.codeWith q.1 q.2.1 q.2.2.1 q.2.2.2.1 q.2.2.2.2.1 := if_neg hh
    refine vx_ofWH (cc := q.2.1) (maxL := q.2.2.1) (ret := q.2.2.2.1) (hh := q.2.2.2.2.1) (hpl.elim id (fun z => absurd z.2 hh)) (by rw [hcw]) ?_
    intro p e s m args below meth c s₁ B hml hv
    exact key p e s m args below meth c s₁ B hml (vx_table (x := q.1) B (by rw [← hcw]; exact atoms_spec (ws := eh_cw q :: Ts) B.pre _ List.mem_cons_self)) hv
theorem eh_hd {hh : List (Nat × Nat × Nat × Nat)} : ∀ {ks : List Nat} {pc k t : Nat}, ev_hd hh ks pc k = some t → ∃ (j : Nat) (x : Nat × Nat × Nat × Nat), hh[j]? = some x ∧ ks[j]? = some k ∧ x.1 ≤ pc ∧ pc < x.2.1 ∧ x.2.2.1 = t ∧ ∀ (i : Nat) (y : Nat × Nat × Nat × Nat), i < j → hh[i]? = some y → ∃ k', ks[i]? = some k' ∧ ¬ (y.1 ≤ pc ∧ pc < y.2.1 ∧ k' = k) := by
  induction hh with
  | nil => intro ks pc k t h; unfold ev_hd at h; cases h
  | cons x r ih =>
    intro ks pc k t h
    obtain ⟨a, b, u, z⟩ := x
    cases ks with
    | nil => unfold ev_hd at h; cases h
    | cons c cs =>
      have h : (if a ≤ pc ∧ pc < b ∧ c = k then some u else ev_hd r cs pc k) = some t := h
      by_cases hc : a ≤ pc ∧ pc < b ∧ c = k
      · rw [if_pos hc] at h
        cases h
        exact ⟨0, _, rfl, by rw [hc.2.2]; rfl, hc.1, hc.2.1, rfl, fun i y hi => absurd hi (Nat.not_lt_zero i)⟩
      · rw [if_neg hc] at h
        obtain ⟨j, x, h1, h2, h3, h4, h5, h6⟩ := ih h
        refine ⟨j + 1, x, h1, h2, h3, h4, h5, fun i y hi hy => ?_⟩
        cases i with
        | zero => cases hy; exact ⟨c, rfl, hc⟩
        | succ i => exact h6 i y (Nat.lt_of_succ_lt_succ hi) hy
theorem eh_st0_lr {ad : Nat → Nat} {ls ls' : ev_L} {i : Nat} {v : Value} (he : ev_st0 ls i = some ls') : i < ls.length ∧ ls'.length = ls.length ∧ ∀ Ls', lv_has Ls' ls.length ((i, v) :: (ev_as ad ls).filter (fun q => !(q.1 == i) && !(q.1 + 1 == i && q.2.category == 2))) → ev_lr ad Ls' ls' := by
  unfold ev_st0 at he
  split at he
  · next hi =>
    cases he
    have hlen : ((ev_clr ls i).set i none).length = ls.length := by simp [ev_clr_len]
    refine ⟨hi, hlen, fun Ls' h => ?_⟩
    unfold ev_lr
    rw [hlen]
    refine ev_lv_sub h (fun q hq => ?_)
    obtain ⟨w, hw, e⟩ := ev_as_mem.mp hq
    by_cases hqi : i = q.1
    · rw [List.getElem?_set, if_pos hqi] at hw
      split at hw <;> cases hw
    · rw [List.getElem?_set, if_neg hqi] at hw
      obtain ⟨h1, h2⟩ := ev_clr_get hw
      refine List.mem_cons_of_mem _ (List.mem_filter.mpr ⟨ev_as_mem.mpr ⟨w, h1, e⟩, ?_⟩)
      rw [e, ev_cat]
      simp only [Bool.and_eq_true, Bool.not_eq_true', beq_eq_false_iff_ne, ne_eq, Bool.and_eq_false_iff]
      refine ⟨fun z => hqi z.symm, ?_⟩
      by_cases hz : q.1 + 1 = i
      · exact Or.inr (fun z => h2 ⟨hz, z⟩)
      · exact Or.inl hz
  · cases he

/-- behind any call: the method goes on, or the exception leaves it -/
theorem eh_goon (hbw : ∀ w ∈ Bs, ev_bw w = true) (hmt : ∀ (mi : Nat) (q : ev_Q), mt[mi]? = some q → eh_mok cl Ts Bs Ss Ns dft mt q) (hf : eh_Cl l D cl aC base ex V Ts Bs Ss Ns mt f) {d mi pc : Nat} {ls : ev_L} {rest : List Value} {h h1 h' : ev_H} {o1 o : ev_O} {q : ev_Q} (hq : mt[mi]? = some q) (hb0 : ev_back f q.2.2.2.2.1 q.2.2.2.2.2.1 q.2.2.2.2.2.2 d mi pc ls rest o1 h1 = some (o, h')) (hle1 : ev_le h1 h') (hle : ev_le h h1)
    {p : Program} {e : Env} {R : Room} {s : State} {m : MethodId} {args : Array Value} {below : List Frame} {meth : Method} {c : Code} {n0 s0 mc ms : Nat} (hFr : eh_Fr p R s m args meth c D cl aC base ex V Ts Bs Ss Ns q d n0 s0 mc ms h')
    {Ls : Array Slot} {H : Heap} {locs : List Loc} {cells slots : Nat} (hl : ev_lr (ev_ad base ex) Ls ls) (hn : ls.length = q.2.2.1) (hS : va_S (fun a : Nat => base ≤ a) s.heap H locs) (h1c : cells + n0 = h.2.1) (h2c : slots + s0 = h.2.2) {st0 : List Value} {a9 : Array Value}
    (hr : vx_Run p l e R s m args below meth c H locs cells slots (h1.2.1 - h.2.1) (h1.2.2 - h.2.2) (F0 m pc Ls st0) (rest.map (ev_tv (ev_ad base ex))) (ev_Qc D cl aC base ex o1 h1 a9) (ev_XC D cl aC base ex o1 h1) (fun a : Nat => base ≤ a)) :
    W p l e R s m args below meth c H locs cells slots (vx_MQ below (ev_Qc D cl aC base ex o h') (ev_XC D cl aC base ex o h') args s mc ms (fun a : Nat => base ≤ a)) (F0 m pc Ls st0) := by
  obtain ⟨l1, l2⟩ := hle
  refine ev_after hr hS.2.2 (fun v' st₀ t locs1 h0 hqc hlo => ?_) (fun E st₀ t locs1 q9 ce h0 hxc hlo g1 g2 g3 => ?_)
  · obtain ⟨⟨v, ho, hoc⟩, hrel, hF⟩ := hqc
    subst ho
    cases hoc
    have hS1 := ev_F1 hS h0 hF hlo
    have K := hf d mi (pc + 3) ls (v.toList ++ rest) h1 o h' q hq hb0 p e R s m args below meth c n0 s0 mc ms hFr Ls t.heap locs1 (cells + (h1.2.1 - h.2.1)) (slots + (h1.2.2 - h.2.2)) hl hn hrel hS1 (by show cells + _ + n0 = h1.2.1; omega) (by show slots + _ + s0 = h1.2.2; omega)
    have e9 : (v.toList ++ rest).map (ev_tv (ev_ad base ex)) = (v.map (ev_tv (ev_ad base ex))).toList ++ rest.map (ev_tv (ev_ad base ex)) := by
      cases v <;> simp
    dsimp only at K
    rw [e9] at K
    exact K
  · obtain ⟨⟨k, T, N, ho, hcl⟩, hrel, hF⟩ := hxc
    subst ho
    have hS1 := ev_F1 hS h0 hF hlo
    have hFr0 := hFr
    obtain ⟨hx, hb, hml, hown, hts, hG, hX, hret, hlocks, hname, htab, hbn, hroom, hgc, hgs, q1, q2, q3⟩ := hFr
    have hb1 : (match ev_hd q.2.2.2.2.1 q.2.2.2.2.2.1 pc k with
      | none => if q.2.2.2.2.1.isEmpty then some (.inr k, h1) else none
      | some t => match ev_caught (ev_find q.2.2.2.2.2.2 t) t ls with
        | none => none
        | some z => f d mi z.1 z.2 [] h1) = some (o, h') := hb0
    split at hb1
    · next hd =>
      split at hb1
      · next hemp =>
        cases hb1
        have htab0 : ∀ x ∈ c.exceptionTable.toList, False := by
          intro x hx9
          rw [htab, List.isEmpty_iff.mp hemp] at hx9
          cases hx9
        exact vx_out (fun x hx => absurd (htab0 x hx) id) hlocks g1 g2 g3 (fun t' ht' _ => ⟨⟨k, T, N, rfl, hcl⟩, by rw [ht']; exact hrel, hS1.F ht'⟩) hlo (by omega) (by omega)
      · cases hb1
    · next tg hd =>
      obtain ⟨j, x, x1, x2, x3, x4, x5, x6⟩ := eh_hd hd
      obtain ⟨n1, n2, n3, n4, n5⟩ := hmt mi q hq
      obtain ⟨y0, E9, T9, N9, y1, y2, y3, y4⟩ := n2 j x k x1 x2
      cases hcl.symm.trans y1
      have hsp : c.exceptionTable.toList = tableOf (q.2.2.2.2.1.take j) ++ ⟨x.1, x.2.1, x.2.2.1, x.2.2.2⟩ :: tableOf (q.2.2.2.2.1.drop (j + 1)) := by
        have hj := (List.getElem?_eq_some_iff.mp x1)
        obtain ⟨hj1, hj2⟩ := hj
        rw [htab]
        conv => lhs; rw [← List.take_append_drop j q.2.2.2.2.1, List.drop_eq_getElem_cons hj1, hj2]
        unfold tableOf
        rw [List.map_append, List.map_cons]
      have hcov : ∀ y : Nat × Nat × Nat × Nat, covers ⟨y.1, y.2.1, y.2.2.1, y.2.2.2⟩ pc = true ↔ (y.1 ≤ pc ∧ pc < y.2.1) := by
        intro y
        simp [covers]
      refine vx_catch (own := q.1.cls) (name := E) (E := E) (ce := ce) hown _ _ _ hsp (fun z hz => ?_) ((hcov x).mpr ⟨x3, x4⟩) y0 (hts _ y2) (va_Nw.use rfl (hG.1.1 _ y3)) g1 g2 g3 ?_
      · unfold tableOf at hz
        obtain ⟨y, hy, rfl⟩ := List.mem_map.mp hz
        obtain ⟨i, hi⟩ := List.getElem?_of_mem hy
        have hij : i < j := by
          have := (List.getElem?_eq_some_iff.mp hi).1
          rw [List.length_take] at this
          omega
        rw [List.getElem?_take_of_lt hij] at hi
        obtain ⟨k2, hk2, hno⟩ := x6 i y hij hi
        by_cases hc9 : y.1 ≤ pc ∧ pc < y.2.1
        · have hkk : k2 ≠ k := fun e => hno ⟨hc9.1, hc9.2, e⟩
          obtain ⟨w0, E2, T2, N2, w1, w2, w3, w4⟩ := n2 i y k2 hi hk2
          refine Or.inr ⟨w0, E2, hts _ w2, ?_⟩
          exact hG.2 (E, E2) (w4 k E T N (List.mem_of_getElem? x2) (Ne.symm hkk) hcl)
        · refine Or.inl ?_
          cases hcv9 : covers ⟨y.1, y.2.1, y.2.2.1, y.2.2.2⟩ pc with
          | false => rfl
          | true => exact absurd ((hcov y).mp hcv9) hc9
      · show W p l e R s m args below meth c t.heap locs1 (cells + (h1.2.1 - h.2.1)) (slots + (h1.2.2 - h.2.2)) _ (F0 m x.2.2.1 Ls [.ref q9])
        rw [x5]
        split at hb1
        · cases hb1
        · next z hz =>
          have stp : ∀ (pc9 : Nat) (ls9 : ev_L) (Ls9 : Array Slot), f d mi pc9 ls9 [] h1 = some (o, h') → ls9.length = q.2.2.1 → ev_lr (ev_ad base ex) Ls9 ls9 → W p l e R s m args below meth c t.heap locs1 (cells + (h1.2.1 - h.2.1)) (slots + (h1.2.2 - h.2.2)) (vx_MQ below (ev_Qc D cl aC base ex o h') (ev_XC D cl aC base ex o h') args s mc ms (fun a : Nat => base ≤ a)) (F0 m pc9 Ls9 []) := by
            intro pc9 ls9 Ls9 hf9 hn9 hl9
            exact hf d mi pc9 ls9 [] h1 o h' q hq hf9 p e R s m args below meth c n0 s0 mc ms hFr0 Ls9 t.heap locs1 _ _ hl9 hn9 hrel hS1 (by show cells + _ + n0 = h1.2.1; omega) (by show slots + _ + s0 = h1.2.2; omega)
          unfold ev_caught at hz
          split at hz
          · next kk w9 hI =>
            obtain ⟨l9, hl9, e9⟩ := Option.map_eq_some_iff.mp hz
            cases e9
            obtain ⟨r1, r2, r3⟩ := eh_st0_lr (ad := ev_ad base ex) (v := .ref q9) hl9
            have hdg := (n5 tg _ hI)
            exact lv_astore_n hx hb (by rw [hdg.1, hdg.2.1.resolve_right (by simp [ev_isw])]; rfl) rfl hl r1 rfl (fun Ls' hl2 => stp _ _ Ls' hb1 (r2.trans hn) (r3 Ls' hl2))
          · next kk w9 hI =>
            obtain ⟨l9, hl9, e9⟩ := Option.map_eq_some_iff.mp hz
            cases e9
            obtain ⟨r1, r2, r3⟩ := eh_st0_lr (ad := ev_ad base ex) (v := .ref q9) hl9
            have hdg := (n5 tg _ hI)
            exact lv_astore hx hb (by rw [hdg.1, hdg.2.1.resolve_right (by simp [ev_isw])]; rfl) hl r1 rfl (fun Ls' hl2 => stp _ _ Ls' hb1 (r2.trans hn) (r3 Ls' hl2))
          · cases hz

theorem eh_pre (hbw : ∀ w ∈ Bs, ev_bw w = true) (hex : ∀ k, ex k < base) {s : State} (hX1 : base ≤ s.heap.size) (hG : eh_G D cl aC base ex V Bs Ss Ns s) (hX : ev_X base ex V s s.heap) {h : ev_H} {H : Heap} {locs : List Loc} (hh : ev_rel D cl aC base ex h H) (hS : va_S (fun a : Nat => base ≤ a) s.heap H locs) (as : List Value) (U : State) (hU : U.heap = H) (hW : s.WarmedH U.vm) : eh_Pc D cl aC base ex V Bs Ss Ns as h (as.map (ev_tv (ev_ad base ex))).toArray U := by
  subst hU
  exact ⟨rfl, hh, eh_G.warm hbw hW hG, ev_X.moved hW.alike (ev_X.kept hex hX1 hS hX)⟩
end EvH

section EvI
variable {l : Launch} {D : va_G} {cl : List vw_C} {aC : Nat → ClassId} {base : Nat} {ex : Nat → Nat} {V : ev_V} {Ts Bs : List Cond} {Ss : List (String × Nat × String)} {Ns : List (String × String)} {dft : Nat → List Value} {mt : List ev_Q} {f : ev_F}
theorem eh_cwSW {R : Room} {s : State} {args : Array Value} {own : String} {index maxL mc ms : Nat} {y : MethodName} {bytes : ByteArray} {ret : Option FieldType} {hh : List (Nat × Nat × Nat × Nat)} {Ts ws ws' : List Cond} {rm : Room} (n : Nat) (ht : ∀ w ∈ Ts, w.before args s = true) (hT : GoodIn Ts ws) (hw : ws = Cond.codeWith y bytes maxL ret hh :: ws') (hrc : rm.cells = mc) (hrs : rm.slots = ms)
    (hi : (Cond.initialized y.cls).before args s = true) (hl : (Cond.methodLink own index y).before args s = true) (hst : (Cond.static y).before args s = true) (hd : y.cls ≠ "java/lang/invoke/MethodHandle" ∧ y.cls ≠ "java/lang/invoke/VarHandle" ∧ (parseMethodDescriptor y.desc).map (fun d => d.parameters.length) = some n) (hR : rm.frames + 1 ≤ R.frames ∧ 8 + (maxL + 11) + rm.locals ≤ R.locals) :
    vx_CSW R s args own index y bytes maxL ret hh ws rm mc ms n := by
  have hc : Cond.codeWith y bytes maxL ret hh ∈ ws := by rw [hw]; exact List.mem_cons_self
  refine ⟨⟨hrc, hrs, hR.1, hR.2, pay_in ht hT, hc⟩, ht _ (hT _ hc).1, hi, ⟨hd.1, hd.2.1⟩, fun sig h => ?_, hl, hst⟩
  have h2 := hd.2.2
  rw [h] at h2
  exact (Option.some.inj h2).symm
theorem eh_call_sim (hfm : ev_fle f) (hf : eh_Cl l D cl aC base ex V Ts Bs Ss Ns mt f) (hgood : ∀ w ∈ Ts, goodWord w = true) (hbw : ∀ w ∈ Bs, ev_bw w = true) (hex : ∀ k, ex k < base) (hmt : ∀ (mi : Nat) (q : ev_Q), mt[mi]? = some q → eh_mok cl Ts Bs Ss Ns dft mt q) (hcw : ∀ (mi : Nat) (q : ev_Q), mt[mi]? = some q → 1 ≤ mi → eh_cw q ∈ Ts)
    {sp d mi pc len x y z : Nat} {i : Instr} {ls : ev_L} {st : List Value} {h h' : ev_H} {o : ev_O} {q : ev_Q} (hq : mt[mi]? = some q) (he : ev_call f mt q.2.2.2.2.1 q.2.2.2.2.2.1 q.2.2.2.2.2.2 sp d mi pc x y z ls st h = some (o, h')) (hdg : decode q.2.1 pc = .ok (i, len)) (hlen : len = ev_len i) (hk : (sp = 1 ∧ ∃ k, i = .invokevirtual k) ∨ (sp = 0 ∧ ∃ k, i = .invokestatic k) ∨ (sp = 2 ∧ ∃ k, i = .invokespecial k)) (hlk0 : eh_lnk cl Ts Bs mt q.1.cls (i, len, x, y, z))
    {p : Program} {e : Env} {R : Room} {s : State} {m : MethodId} {args : Array Value} {below : List Frame} {meth : Method} {c : Code} {n0 s0 mc ms : Nat} (hFr : eh_Fr p R s m args meth c D cl aC base ex V Ts Bs Ss Ns q d n0 s0 mc ms h') :
    ev_Sim p l e R s m args below meth c (vx_MQ below (ev_Qc D cl aC base ex o h') (ev_XC D cl aC base ex o h') args s mc ms (fun a : Nat => base ≤ a)) D cl aC base ex q.2.2.1 n0 s0 (pc, ls, st, h) := by
  intro Ls H locs cells slots hl hn hh hS h1c h2c
  dsimp only at hl hn hh h1c h2c ⊢
  unfold ev_call at he
  split at he
  · cases he
  · next q' hq' =>
    split at he
    · next hcond =>
      obtain ⟨c1, c2, c3, c4⟩ := hcond
      cases d with
      | zero => cases he
      | succ d =>
        dsimp only at he
        split at he
        · next r hr =>
          obtain ⟨o1, h1⟩ := r
          have hle := hfm _ _ _ _ _ _ _ _ hr
          have hle1 := ev_back_le hfm he
          obtain ⟨m1, m2, m4, m5, m6⟩ := hmt x q' hq'
          have hlk' := hlk0.2 q' hq'
          obtain ⟨hx1, hhe⟩ := hlk0.1 q' hq'
          have m3 := hcw x q' hq' hx1
          have hFr0 := hFr
          obtain ⟨hx, hb, hml, hown, hts, hG, hX, hret, hlocks, hname, htab, hbn, hroom, g1, g2, g3, g4, g5⟩ := hFr
          have hX1 : base ≤ s.heap.size := by omega
          have hM := eh_meet (D := D) (aC := aC) (base := base) (ex := ex) hf hq' m1 hr c3 hle (Nat.le_trans hle1.1 g5)
          have hGd := ev_good hgood m3
          have hR : (ev_rm d (h1.2.1 - h.2.1) (h1.2.2 - h.2.2)).frames + 1 ≤ R.frames ∧ 8 + (q'.2.2.1 + 11) + (ev_rm d (h1.2.1 - h.2.1) (h1.2.2 - h.2.2)).locals ≤ R.locals := by
            constructor
            · show d + 8 + 1 ≤ R.frames; omega
            · show 8 + (q'.2.2.1 + 11) + (100 * d + 200) ≤ R.locals; omega
          obtain ⟨l1, l2⟩ := hle
          obtain ⟨k1, k2⟩ := hle1
          dsimp only at k1 k2 l1 l2
          have hfit : cells + (h1.2.1 - h.2.1) ≤ R.cells ∧ slots + (h1.2.2 - h.2.2) ≤ R.slots := by omega
          have hsz : (F0 m pc Ls (st.map (ev_tv (ev_ad base ex)))).locals.size = q.2.2.1 := by
            show Ls.size = _
            rw [← hn]; exact hl.1
          have hW8 : 2 * (F0 m pc Ls (st.map (ev_tv (ev_ad base ex)))).monitorRoom + (((st.drop z).map (ev_tv (ev_ad base ex))).map fun v => v.category).sum ≤ 8 := by
            refine lv_room ?_
            rw [List.map_map]
            have e1 : ((fun v : Value => v.category) ∘ ev_tv (ev_ad base ex)) = fun v => v.category := by funext v; exact ev_cat _ v
            rw [e1]
            exact c2
          have hst := ev_split c1
          have hdg3 : decode q.2.1 pc = .ok (i, 3) := by
            rcases hk with ⟨-, k, rfl⟩ | ⟨-, k, rfl⟩ | ⟨-, k, rfl⟩ <;> (rw [hdg, hlen]; rfl)
          generalize has : (st.take z).reverse = as at hr c3 c4 hM hst
          generalize hre : st.drop z = rest at he c2 hW8 hst
          have hasl : as.length = z := by rw [← has]; simp; omega
          have hmap : st.map (ev_tv (ev_ad base ex)) = (as.map (ev_tv (ev_ad base ex))).reverse ++ rest.map (ev_tv (ev_ad base ex)) := by
            rw [hst, List.map_append, List.map_reverse]
          have hS0 : CallFix p m c q.2.1 q.2.2.1 s args Ts q.1.cls := ⟨hx, hb, hml, hown, hts⟩
          rcases hk with ⟨rfl, k, rfl⟩ | ⟨rfl, k, rfl⟩ | ⟨rfl, k, rfl⟩
          · -- virtual
            obtain ⟨⟨T, N, hcl⟩, w1, w2, w3, w4, w5, w6⟩ := hlk'
            obtain ⟨a, as', fs, rfl, hfs⟩ := ev_rc1 c4
            have hcc : eh_cw q' = Cond.code q'.1 q'.2.1 q'.2.2.1 q'.2.2.2.1 := if_pos (hhe.resolve_right (fun ⟨_, e9, _⟩ => by cases e9))
            rw [hcc] at hM hGd
            refine eh_goon hbw hmt hf hq he ⟨k1, k2⟩ ⟨l1, l2⟩ hFr0 hl hn hS h1c h2c (a9 := (Value.ref (ev_ad base ex a) :: as'.map (ev_tv (ev_ad base ex))).toArray) ?_
            refine vx_runV (C := q'.1.cls) (As := as'.map (ev_tv (ev_ad base ex))) (b := ev_ad base ex a) hS0 hM ⟨callB_of (z - 1) hts hGd rfl rfl rfl (hts _ w3) (hts _ w4) ⟨m5.1, m5.2, w6⟩ hR, hts _ w1, hts _ w2⟩ ⟨eh_Pc_blind hbw, ev_recv hG.1.2.2.1 hh hcl hfs, fun U hU hW => ?_⟩ rfl (by simp only [List.length_map]; simp at hasl; omega) hsz ?_ hW8 hdg3 hfit
            · exact eh_pre hbw hex hX1 hG hX hh hS (.ref a :: as') U hU hW
            · show st.map (ev_tv (ev_ad base ex)) = _
              rw [hmap]
              simp [ev_tv]
          · -- static
            obtain ⟨w1, w2, w3, w4⟩ := hlk'
            refine eh_goon hbw hmt hf hq he ⟨k1, k2⟩ ⟨l1, l2⟩ hFr0 hl hn hS h1c h2c (a9 := (as.map (ev_tv (ev_ad base ex))).toArray) ?_
            by_cases hh9 : q'.2.2.2.2.1 = []
            · have hcc : eh_cw q' = Cond.code q'.1 q'.2.1 q'.2.2.1 q'.2.2.2.1 := if_pos hh9
              rw [hcc] at hM hGd
              rcases w3 with w3 | ⟨host, w3⟩
              · exact vx_runS (As := as.map (ev_tv (ev_ad base ex))) hS0 hM ⟨callB_of z hts hGd rfl rfl rfl (hts _ w2) (hts _ w3) ⟨m5.1, m5.2, w4⟩ hR, hts _ w1⟩ ⟨eh_Pc_blind hbw, fun U hU hW => eh_pre hbw hex hX1 hG hX hh hS as U hU hW⟩ rfl (by rw [List.length_map]; exact hasl) hsz hmap hW8 hdg3 hfit
              · exact vx_runSN (As := as.map (ev_tv (ev_ad base ex))) hS0 hM ⟨va_cnB z hts hGd rfl rfl rfl (hG.1.1 _ w3) (hts _ w2) ⟨m5.1, m5.2, w4⟩ hR, hts _ w1, trivial⟩ ⟨eh_Pc_blind hbw, fun U hU hW => eh_pre hbw hex hX1 hG hX hh hS as U hU hW⟩ rfl (by rw [List.length_map]; exact hasl) hsz hmap hW8 hdg3 hfit
            · have hcc : eh_cw q' = Cond.codeWith q'.1 q'.2.1 q'.2.2.1 q'.2.2.2.1 q'.2.2.2.2.1 := if_neg hh9
              rw [hcc] at hM hGd
              obtain ⟨k9, e9, w3⟩ := hhe.resolve_left hh9
              cases e9
              exact vx_runSX (As := as.map (ev_tv (ev_ad base ex))) hS0 hM (eh_cwSW z hts hGd rfl rfl rfl (hts _ w2) (hts _ w3) (hts _ w1) ⟨m5.1, m5.2, w4⟩ hR) ⟨eh_Pc_blind hbw, fun U hU hW => eh_pre hbw hex hX1 hG hX hh hS as U hU hW⟩ rfl (by rw [List.length_map]; exact hasl) hsz hmap hW8 hdg3 hfit
          · -- special
            obtain ⟨w0, wr, w1, w2, w3, w5, w6⟩ := hlk'
            obtain ⟨a, as', rfl⟩ := ev_rc2 c4
            have hcc : eh_cw q' = Cond.code q'.1 q'.2.1 q'.2.2.1 q'.2.2.2.1 := if_pos (hhe.resolve_right (fun ⟨_, e9, _⟩ => by cases e9))
            rw [hcc] at hM hGd
            refine eh_goon hbw hmt hf hq he ⟨k1, k2⟩ ⟨l1, l2⟩ hFr0 hl hn hS h1c h2c (a9 := (Value.ref (ev_ad base ex a) :: as'.map (ev_tv (ev_ad base ex))).toArray) ?_
            rw [wr] at hM hGd
            have hstk : (F0 m pc Ls (st.map (ev_tv (ev_ad base ex)))).stack = (as'.map (ev_tv (ev_ad base ex))).reverse ++ .ref (ev_ad base ex a) :: rest.map (ev_tv (ev_ad base ex)) := by
              show st.map (ev_tv (ev_ad base ex)) = _
              rw [hmap]
              simp [ev_tv]
            have hlen9 : (as'.map (ev_tv (ev_ad base ex))).length = z - 1 := by simp only [List.length_map]; simp at hasl; omega
            rcases w3 with w3 | ⟨host, w3⟩
            · exact vx_runI (As := as'.map (ev_tv (ev_ad base ex))) (b := ev_ad base ex a) hS0 hM ⟨callB_of (z - 1) hts hGd rfl rfl rfl (hts _ w2) (hts _ w3) ⟨m5.1, m5.2, w6⟩ hR, w0, hts _ w1⟩ ⟨eh_Pc_blind hbw, fun U hU hW => eh_pre hbw hex hX1 hG hX hh hS (.ref a :: as') U hU hW⟩ rfl hlen9 hsz hstk hW8 hdg3 hfit
            · exact vx_runIN (As := as'.map (ev_tv (ev_ad base ex))) (b := ev_ad base ex a) hS0 hM ⟨va_cnB (z - 1) hts hGd rfl rfl rfl (hG.1.1 _ w3) (hts _ w2) ⟨m5.1, m5.2, w6⟩ hR, w0, hts _ w1⟩ ⟨eh_Pc_blind hbw, fun U hU hW => eh_pre hbw hex hX1 hG hX hh hS (.ref a :: as') U hU hW⟩ rfl hlen9 hsz hstk hW8 hdg3 hfit
        · cases he
    · cases he
end EvI

section EvJ
variable {l : Launch} {D : va_G} {cl : List vw_C} {aC : Nat → ClassId} {base : Nat} {ex : Nat → Nat} {V : ev_V} {Ts Bs : List Cond} {Ss : List (String × Nat × String)} {Ns : List (String × String)} {dft : Nat → List Value} {mt : List ev_Q} {f : ev_F}
theorem eh_ret_sim {d mi pc len : Nat} {i : Instr} {ls : ev_L} {st : List Value} {h : ev_H} {v : Option Value} {q : ev_Q} (he : ev_ret i q.2.2.2.1 st = some v) (hdg : decode q.2.1 pc = .ok (i, len)) (hlen : len = ev_len i)
    {p : Program} {e : Env} {R : Room} {s : State} {m : MethodId} {args : Array Value} {below : List Frame} {meth : Method} {c : Code} {n0 s0 mc ms : Nat} (hFr : eh_Fr p R s m args meth c D cl aC base ex V Ts Bs Ss Ns q d n0 s0 mc ms h) :
    ev_Sim p l e R s m args below meth c (vx_MQ below (ev_Qc D cl aC base ex (.inl v) h) (ev_XC D cl aC base ex (.inl v) h) args s mc ms (fun a : Nat => base ≤ a)) D cl aC base ex q.2.2.1 n0 s0 (pc, ls, st, h) := by
  intro Ls H locs cells slots hl hn hh hS h1c h2c
  dsimp only at hl hn hh h1c h2c ⊢
  obtain ⟨hx, hb, hml, hown, hts, hG, hX, hret, hlocks, hname, htab, hbn, hroom, g1, g2, g3, g4, g5⟩ := hFr
  have hcm : cells = mc := by omega
  have hsm : slots = ms := by omega
  subst hcm; subst hsm
  have fin : ∀ (v : Option Value) (t : State), t.heap = H → ev_Qc D cl aC base ex (.inl v) h args s (.returned (v.map (ev_tv (ev_ad base ex)))) t := fun v t ht => ⟨⟨v, rfl, rfl⟩, by rw [ht]; exact hh, hS.F ht⟩
  unfold ev_ret at he
  split at he
  · split at he
    · next w =>
      split at he
      · next hw =>
        cases he
        obtain ⟨ty, e1, e2⟩ := ev_nar_of hw
        exact vx_ret (W.zret hx hb (hret.trans e1) e2 (fun t ht _ => fin _ t ht) hS.2.2 (by rw [hdg, hlen]; rfl) hlocks)
      · cases he
    · cases he
  · split at he
    · next w =>
      split at he
      · next hw =>
        cases he
        exact vx_ret (W.lret hx hb (hret.trans hw) (fun t ht _ => fin _ t ht) hS.2.2 (by rw [hdg, hlen]; rfl) hlocks)
      · cases he
    · cases he
  · split at he
    · next w =>
      split at he
      · next hw =>
        cases he
        obtain ⟨rt, e1, e2⟩ := ev_isr_of hw
        exact vx_ret (W.aret hx hb (hret.trans e1) e2 (Or.inr ⟨_, rfl⟩) (fun t ht _ => fin (some (.ref w)) t ht) hS.2.2 (by rw [hdg, hlen]; rfl) hlocks)
      · cases he
    · cases he
  · split at he
    · split at he
      · next hw =>
        cases he
        exact vx_ret (W.vret hx hb (hret.trans hw) (fun t ht _ => fin none t ht) hS.2.2 (by rw [hdg, hlen]; rfl) hlocks)
      · cases he
    · cases he
  · cases he
theorem eh_throw_sim (hl0 : l.stackTraces = false) (hbw : ∀ w ∈ Bs, ev_bw w = true) {d mi pc : Nat} {I : ev_I} {ls : ev_L} {st : List Value} {h : ev_H} {q : ev_Q} (hdg : decode q.2.1 pc = .ok (I.1, I.2.1)) (hlen : I.2.1 = ev_len I.1) (hemp : q.2.2.2.2.1.isEmpty = true) (hc8 : ev_cats st ≤ 8) (hthr : ev_thr cl Ts Bs Ss q.1.cls q.2.1 pc I)
    {p : Program} {e : Env} {R : Room} {s : State} {m : MethodId} {args : Array Value} {below : List Frame} {meth : Method} {c : Code} {n0 s0 mc ms : Nat} (hFr : eh_Fr p R s m args meth c D cl aC base ex V Ts Bs Ss Ns q d n0 s0 mc ms (ev_push h (.inr (I.2.2.1, [])) 6)) :
    ev_Sim p l e R s m args below meth c (vx_MQ below (ev_Qc D cl aC base ex (.inr I.2.2.1) (ev_push h (.inr (I.2.2.1, [])) 6)) (ev_XC D cl aC base ex (.inr I.2.2.1) (ev_push h (.inr (I.2.2.1, [])) 6)) args s mc ms (fun a : Nat => base ≤ a)) D cl aC base ex q.2.2.1 n0 s0 (pc, ls, st, h) := by
  intro Ls H locs cells slots hl hn hh hS h1c h2c
  dsimp only at hl hn hh h1c h2c ⊢
  obtain ⟨hx, hb, hml, hown, hts, ⟨hG, hN9⟩, hX, hret, hlocks, hname, htab9, hbn, hroom, g1, g2, g3, g4, g5⟩ := hFr
  have htab : ∀ x ∈ c.exceptionTable.toList, False := by
    intro x hx9
    rw [htab9, List.isEmpty_iff.mp hemp] at hx9
    cases hx9
  dsimp only [ev_push] at g3 g4 g5
  obtain ⟨cls, T0, text, is, ic, ik, names, t1, t2, t3, t4, t5, t6, t7, t8, t9, t10, t11, t12⟩ := hthr
  have hX1 : base ≤ s.heap.size := by omega
  obtain ⟨sa, hsa⟩ := hG.2.1 _ t7
  have hat : ∀ w ∈ vx_atS q.1.cls ic cls names, w.before args s = true := fun w hw => (t11 w hw).elim (hts w) (fun hB => va_Nw.use (ev_bw_tab (hbw w hB)) (hG.1 w hB))
  have d0 : decode q.2.1 pc = .ok (.new ik, 3) := by rw [hdg, hlen, t2]; rfl
  have hsz : Ls.size = c.maxLocals := by rw [hml, ← hn]; exact hl.1
  have hA : ∀ a : Nat, s.heap.size ≤ a → (fun a : Nat => base ≤ a) a := fun a ha => Nat.le_trans hX1 ha
  have hcat := ev_cats_tv (ev_ad base ex) st
  have fin : ∀ (pc9 : Nat) (a : Nat) (H1 : Heap), decode q.2.1 pc9 = .ok (.athrow, 1) → va_P D cl (ev_ws (ev_ad base ex) aC h.1 ++ [(a, .inr (I.2.2.1, []))]) H1 → va_D (fun a : Nat => base ≤ a) (ev_ws (ev_ad base ex) aC h.1 ++ [(a, .inr (I.2.2.1, []))]) → va_S (fun a : Nat => base ≤ a) s.heap H1 locs → W p l e R s m args below meth c H1 locs (cells + 1) (slots + 6) (vx_MQ below (ev_Qc D cl aC base ex (.inr I.2.2.1) (ev_push h (.inr (I.2.2.1, [])) 6)) (ev_XC D cl aC base ex (.inr I.2.2.1) (ev_push h (.inr (I.2.2.1, [])) 6)) args s mc ms (fun a : Nat => base ≤ a)) (F0 m pc9 Ls (.ref a :: st.map (ev_tv (ev_ad base ex)))) := by
    intro pc9 a H1 d9 hP1 hD1 hS1
    refine ev_sized fun hsz1 => ?_
    have hlast : (ev_ws (ev_ad base ex) aC h.1 ++ [(a, (.inr (I.2.2.1, []) : va_E))])[(ev_ws (ev_ad base ex) aC h.1).length]? = some (a, .inr (I.2.2.1, [])) := by
      rw [List.getElem?_append_right (Nat.le_refl _), Nat.sub_self]; rfl
    obtain ⟨r9, hr9, cell, f1, f2, f3, -⟩ := hP1 _ _ hlast
    cases hr9.symm.trans t1
    have hle2 : H.size ≤ H1.size := by
      have q2 := hh.2.1
      have q3 := hh.2.2.1
      have hlen9 : (ev_ws (ev_ad base ex) aC h.1).length = h.1.length := by simp [ev_ws]
      rcases Nat.eq_zero_or_pos h.1.length with w | w
      · have := hS1.1
        omega
      · have hj : h.1.length - 1 < h.1.length := by omega
        have e1 : (ev_ws (ev_ad base ex) aC h.1 ++ [(a, (.inr (I.2.2.1, []) : va_E))])[h.1.length - 1]? = some (ev_ad base ex (h.1.length - 1), ev_cv (ev_ad base ex) aC h.1[h.1.length - 1]) := by
          rw [List.getElem?_append_left (by omega)]
          exact ev_ws_at (List.getElem?_eq_getElem hj)
        have e2 := (hP1 _ _ e1).lt
        have e3 : ev_ad base ex (h.1.length - 1) = base + (h.1.length - 1) := ev_ad_in (by have := hh.2.2.2; omega)
        dsimp only at e2
        rw [e3] at e2
        omega
    have hS9 : va_S (fun a : Nat => base ≤ a) H H1 [] := by
      refine ⟨hle2, fun q hq hna => ?_, fun z hz => nomatch hz⟩
      have hqb : q < base := Nat.not_le.mp hna
      rw [hS1.2.1 q (by omega) hna, hS.2.1 q (by omega) hna]
    have hext : h.2.1 < ev_ext := by omega
    obtain ⟨hq, hd⟩ := ev_born (x := .inr (I.2.2.1, [])) (n := 6) (locs1 := []) hbn hh h1c hext hS9 (by omega) hP1 hD1
    refine vx_athrow hx hb d9 ?_
    exact vx_out (fun x hx => absurd (htab x hx) id) hlocks f1 f3 (by rw [f2]; exact (hG.2.2.1.1 _ _ t1).2.1) (fun t ht _ => ⟨⟨_, T0, 0, rfl, t1⟩, by rw [ht]; exact hd, hS1.F ht⟩) hS1.2.2 (by omega) (by omega)
  rcases t4 with ⟨d4, d6, d9⟩ | ⟨d4, d6, d9⟩
  · exact vx_makeS hx hb hl0 hown t8 t9 (hts _ t5) (hts _ t6) hsa hat t12 hX.2.1 hX.2.2.1 hS hsz d0 t3 d4 d6 hG.2.2.1 hh.1 (ev_D hh.2.2.2) hA t1 (by omega) (by rw [hcat]; omega) (by omega) (by omega) (fun a H1 hP1 hD1 hS1 => fin _ a H1 d9 hP1 hD1 hS1)
  · exact vx_makeSW hx hb hl0 hown t8 t9 (hts _ t5) (hts _ t6) hsa hat t12 hX.2.1 hX.2.2.1 hS hsz d0 t3 d4 d6 hG.2.2.1 hh.1 (ev_D hh.2.2.2) hA t1 (by omega) (by rw [hcat]; omega) (by omega) (by omega) (fun a H1 hP1 hD1 hS1 => fin _ a H1 d9 hP1 hD1 hS1)
end EvJ

section EvJ2
variable {l : Launch} {D : va_G} {cl : List vw_C} {aC : Nat → ClassId} {base : Nat} {ex : Nat → Nat} {V : ev_V} {Ts Bs : List Cond} {Ss : List (String × Nat × String)} {Ns : List (String × String)} {dft : Nat → List Value} {mt : List ev_Q} {f : ev_F}
theorem eh_throw_simX (hl0 : l.stackTraces = false) (hbw : ∀ w ∈ Bs, ev_bw w = true) {d mi pc : Nat} {I : ev_I} {ls : ev_L} {st : List Value} {h : ev_H} {q : ev_Q} (hdg : decode q.2.1 pc = .ok (I.1, I.2.1)) (hlen : I.2.1 = ev_len I.1) (hemp : q.2.2.2.2.1.isEmpty = true) (hc8 : ev_cats st ≤ 8) (hthr : eh_thrX cl Ts Bs Ss q.1.cls q.2.1 pc I)
    {p : Program} {e : Env} {R : Room} {s : State} {m : MethodId} {args : Array Value} {below : List Frame} {meth : Method} {c : Code} {n0 s0 mc ms : Nat} (hFr : eh_Fr p R s m args meth c D cl aC base ex V Ts Bs Ss Ns q d n0 s0 mc ms (ev_push h (.inr (I.2.2.1, [])) 6)) :
    ev_Sim p l e R s m args below meth c (vx_MQ below (ev_Qc D cl aC base ex (.inr I.2.2.1) (ev_push h (.inr (I.2.2.1, [])) 6)) (ev_XC D cl aC base ex (.inr I.2.2.1) (ev_push h (.inr (I.2.2.1, [])) 6)) args s mc ms (fun a : Nat => base ≤ a)) D cl aC base ex q.2.2.1 n0 s0 (pc, ls, st, h) := by
  intro Ls H locs cells slots hl hn hh hS h1c h2c
  dsimp only at hl hn hh h1c h2c ⊢
  obtain ⟨hx, hb, hml, hown, hts, ⟨hG, hN9⟩, hX, hret, hlocks, hname, htab9, hbn, hroom, g1, g2, g3, g4, g5⟩ := hFr
  have htab : ∀ x ∈ c.exceptionTable.toList, False := by
    intro x hx9
    rw [htab9, List.isEmpty_iff.mp hemp] at hx9
    cases hx9
  dsimp only [ev_push] at g3 g4 g5
  obtain ⟨cls, T0, text, is, ic, ik, jx, rx, names, t1, t2, t3, ⟨d4, d6, d9⟩, ⟨x0, x1, x2, x5⟩, t5, t6, t7, t8, t9, t10, t11, t12⟩ := hthr
  have hX1 : base ≤ s.heap.size := by omega
  obtain ⟨sa, hsa⟩ := hG.2.1 _ t7
  have hat : ∀ w ∈ eh_at q.1.cls ic cls jx rx names, w.before args s = true := fun w hw => (t11 w hw).elim (hts w) (fun hB => va_Nw.use (ev_bw_tab (hbw w hB)) (hG.1 w hB))
  have d0 : decode q.2.1 pc = .ok (.new ik, 3) := by rw [hdg, hlen, t2]; rfl
  have hsz : Ls.size = c.maxLocals := by rw [hml, ← hn]; exact hl.1
  have hA : ∀ a : Nat, s.heap.size ≤ a → (fun a : Nat => base ≤ a) a := fun a ha => Nat.le_trans hX1 ha
  have hcat := ev_cats_tv (ev_ad base ex) st
  have fin : ∀ (pc9 : Nat) (a : Nat) (H1 : Heap), decode q.2.1 pc9 = .ok (.athrow, 1) → va_P D cl (ev_ws (ev_ad base ex) aC h.1 ++ [(a, .inr (I.2.2.1, []))]) H1 → va_D (fun a : Nat => base ≤ a) (ev_ws (ev_ad base ex) aC h.1 ++ [(a, .inr (I.2.2.1, []))]) → va_S (fun a : Nat => base ≤ a) s.heap H1 locs → W p l e R s m args below meth c H1 locs (cells + 1) (slots + 6) (vx_MQ below (ev_Qc D cl aC base ex (.inr I.2.2.1) (ev_push h (.inr (I.2.2.1, [])) 6)) (ev_XC D cl aC base ex (.inr I.2.2.1) (ev_push h (.inr (I.2.2.1, [])) 6)) args s mc ms (fun a : Nat => base ≤ a)) (F0 m pc9 Ls (.ref a :: st.map (ev_tv (ev_ad base ex)))) := by
    intro pc9 a H1 d9 hP1 hD1 hS1
    refine ev_sized fun hsz1 => ?_
    have hlast : (ev_ws (ev_ad base ex) aC h.1 ++ [(a, (.inr (I.2.2.1, []) : va_E))])[(ev_ws (ev_ad base ex) aC h.1).length]? = some (a, .inr (I.2.2.1, [])) := by
      rw [List.getElem?_append_right (Nat.le_refl _), Nat.sub_self]; rfl
    obtain ⟨r9, hr9, cell, f1, f2, f3, -⟩ := hP1 _ _ hlast
    cases hr9.symm.trans t1
    have hle2 : H.size ≤ H1.size := by
      have q2 := hh.2.1
      have q3 := hh.2.2.1
      have hlen9 : (ev_ws (ev_ad base ex) aC h.1).length = h.1.length := by simp [ev_ws]
      rcases Nat.eq_zero_or_pos h.1.length with w | w
      · have := hS1.1
        omega
      · have hj : h.1.length - 1 < h.1.length := by omega
        have e1 : (ev_ws (ev_ad base ex) aC h.1 ++ [(a, (.inr (I.2.2.1, []) : va_E))])[h.1.length - 1]? = some (ev_ad base ex (h.1.length - 1), ev_cv (ev_ad base ex) aC h.1[h.1.length - 1]) := by
          rw [List.getElem?_append_left (by omega)]
          exact ev_ws_at (List.getElem?_eq_getElem hj)
        have e2 := (hP1 _ _ e1).lt
        have e3 : ev_ad base ex (h.1.length - 1) = base + (h.1.length - 1) := ev_ad_in (by have := hh.2.2.2; omega)
        dsimp only at e2
        rw [e3] at e2
        omega
    have hS9 : va_S (fun a : Nat => base ≤ a) H H1 [] := by
      refine ⟨hle2, fun q hq hna => ?_, fun z hz => nomatch hz⟩
      have hqb : q < base := Nat.not_le.mp hna
      rw [hS1.2.1 q (by omega) hna, hS.2.1 q (by omega) hna]
    have hext : h.2.1 < ev_ext := by omega
    obtain ⟨hq, hd⟩ := ev_born (x := .inr (I.2.2.1, [])) (n := 6) (locs1 := []) hbn hh h1c hext hS9 (by omega) hP1 hD1
    refine vx_athrow hx hb d9 ?_
    exact vx_out (fun x hx => absurd (htab x hx) id) hlocks f1 f3 (by rw [f2]; exact (hG.2.2.1.1 _ _ t1).2.1) (fun t ht _ => ⟨⟨_, T0, 0, rfl, t1⟩, by rw [ht]; exact hd, hS1.F ht⟩) hS1.2.2 (by omega) (by omega)
  exact eh_makeSW hx hb hl0 x0 x1 x2 x5 hown t8 t9 (hts _ t5) (hts _ t6) hsa hat t12 hX.2.1 hX.2.2.1 hS hsz d0 t3 d4 d6 hG.2.2.1 hh.1 (ev_D hh.2.2.2) hA t1 (by omega) (by rw [hcat]; omega) (by omega) (by omega) (fun a H1 hP1 hD1 hS1 => fin _ a H1 d9 hP1 hD1 hS1)
end EvJ2

