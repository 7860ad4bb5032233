/-! A method that the evaluator runs to its end does so on the machine. -/
theorem ev_X.moved {base : Nat} {ex : Nat → Nat} {V : ev_V} {u U : State} {H : Heap} (hvm : u.vm.Alike U.vm) (h : ev_X base ex V u H) : ev_X base ex V U H :=
  ⟨va_X.moved hvm h.1, vx_Zq.moved hvm h.2.1, vx_Zq.moved hvm h.2.2.1, va_Z.moved hvm h.2.2.2.1, va_T.moved hvm h.2.2.2.2.1, vk_S.moved hvm h.2.2.2.2.2.1, va_Z.moved hvm h.2.2.2.2.2.2.1, va_Zq.moved hvm h.2.2.2.2.2.2.2⟩
theorem ev_X.kept {base : Nat} {ex : Nat → Nat} {V : ev_V} {U : State} {H0 H : Heap} {locs : List Loc} (hex : ∀ k, ex k < base) (hX1 : base ≤ H0.size) (hS : va_S (fun a : Nat => base ≤ a) H0 H locs) (h : ev_X base ex V U H0) : ev_X base ex V U H :=
  ⟨h.1.kept (hS.2.1 _ (Nat.lt_of_lt_of_le (hex 0) hX1) (Nat.not_le.mpr (hex 0))), h.2.1.kept hS.2.1, h.2.2.1.kept hS.2.1, h.2.2.2.1.kept hS.2.1, h.2.2.2.2.1.kept hS.2.1, h.2.2.2.2.2.1.kept hS.2.1, h.2.2.2.2.2.2.1.kept hS.2.1, h.2.2.2.2.2.2.2.kept hS.2.1⟩
theorem ev_G.warm {D : va_G} {cl : List vw_C} {aC : Nat → ClassId} {base : Nat} {ex : Nat → Nat} {V : ev_V} {Bs : List Cond} {Ss : List (String × Nat × String)} {s U : State} (hbw : ∀ w ∈ Bs, ev_bw w = true) (hW : s.WarmedH U.vm) (h : ev_G D cl aC base ex V Bs Ss s) : ev_G D cl aC base ex V Bs Ss U := by
  refine ⟨fun w hw => ?_, fun q hq => ?_, va_K.moved hW.alike h.2.2.1, va_AO.moved hW.alike h.2.2.2.1, va_AO.moved hW.alike h.2.2.2.2.1, vk_R.warm hW h.2.2.2.2.2⟩
  · have h1 := hbw w hw
    have h2 := h.1 w hw
    cases w <;> first | (simp [ev_bw] at h1; done) | exact va_Nw.warmC hW h2 | exact va_Nw.warmD hW h2 | exact va_Nw.warmM hW h2 | exact va_Nw.warmF hW h2
  · obtain ⟨sa, hsa⟩ := h.2.1 q hq
    exact ⟨sa, vk_R.warm hW hsa⟩
def ev_Pc (D : va_G) (cl : List vw_C) (aC : Nat → ClassId) (base : Nat) (ex : Nat → Nat) (V : ev_V) (Bs : List Cond) (Ss : List (String × Nat × String)) (as : List Value) (h : ev_H) : Array Value → State → Prop := fun a U =>
  a = (as.map (ev_tv (ev_ad base ex))).toArray ∧ ev_rel D cl aC base ex h U.heap ∧ ev_G D cl aC base ex V Bs Ss U ∧ ev_X base ex V U U.heap
def ev_Qc (D : va_G) (cl : List vw_C) (aC : Nat → ClassId) (base : Nat) (ex : Nat → Nat) (o : ev_O) (h : ev_H) : Array Value → State → Outcome → State → Prop := fun _ st oc t =>
  (∃ v, o = .inl v ∧ oc = .returned (v.map (ev_tv (ev_ad base ex)))) ∧ ev_rel D cl aC base ex h t.heap ∧ va_F (fun a : Nat => base ≤ a) st t
def ev_XC (D : va_G) (cl : List vw_C) (aC : Nat → ClassId) (base : Nat) (ex : Nat → Nat) (o : ev_O) (h : ev_H) : String → State → State → Prop := fun E st t =>
  (∃ k T N, o = .inr k ∧ cl[k]? = some (E, T, N)) ∧ ev_rel D cl aC base ex h t.heap ∧ va_F (fun a : Nat => base ≤ a) st t
theorem ev_Pc_blind {D : va_G} {cl : List vw_C} {aC : Nat → ClassId} {base : Nat} {ex : Nat → Nat} {V : ev_V} {Bs : List Cond} {Ss : List (String × Nat × String)} {as : List Value} {h : ev_H} (hbw : ∀ w ∈ Bs, ev_bw w = true) : FrameBlind (ev_Pc D cl aC base ex V Bs Ss as h) := by
  intro a U g mk ⟨h1, h2, h3, h4⟩
  exact ⟨h1, h2, ev_G.warm (U := U.calling g mk a) hbw (State.WarmedH.refl U) h3, ev_X.moved (U := U.calling g mk a) (Vm.Alike.refl U.vm) h4⟩
/-! what a place that calls or throws must have -/
def ev_rm (d mc ms : Nat) : Room := { frames := d + 8, cells := mc, slots := ms, locals := 100 * d + 200 }
def ev_lnk (cl : List vw_C) (Ts Bs : List Cond) (mt : List ev_Q) (own : String) (I : ev_I) : Prop := ∀ q, mt[I.2.2.1]? = some q → match I.1 with
  | .invokevirtual index => (∃ T N, cl[I.2.2.2.1 / 16]? = some (q.1.cls, T, N)) ∧ Cond.instanceMethod q.1 ∈ Ts ∧ Cond.selects q.1.cls q.1 q.1 ∈ Ts ∧ Cond.initialized q.1.cls ∈ Ts ∧ Cond.methodLink own index q.1 ∈ Ts ∧ 1 ≤ I.2.2.2.2 ∧ (parseMethodDescriptor q.1.desc).map (fun d => d.parameters.length) = some (I.2.2.2.2 - 1)
  | .invokespecial index => q.1.name = "<init>" ∧ q.2.2.2.1 = none ∧ Cond.instanceMethod q.1 ∈ Ts ∧ Cond.initialized q.1.cls ∈ Ts ∧ (Cond.methodLink own index q.1 ∈ Ts ∨ ∃ host, Cond.methodLinkNest own index q.1 host ∈ Bs) ∧ 1 ≤ I.2.2.2.2 ∧ (parseMethodDescriptor q.1.desc).map (fun d => d.parameters.length) = some (I.2.2.2.2 - 1)
  | .invokestatic index => Cond.static q.1 ∈ Ts ∧ Cond.initialized q.1.cls ∈ Ts ∧ (Cond.methodLink own index q.1 ∈ Ts ∨ ∃ host, Cond.methodLinkNest own index q.1 host ∈ Bs) ∧ (parseMethodDescriptor q.1.desc).map (fun d => d.parameters.length) = some I.2.2.2.2
  | _ => True
def ev_thr (cl : List vw_C) (Ts Bs : List Cond) (Ss : List (String × Nat × String)) (own : String) (bytes : ByteArray) (pc : Nat) (I : ev_I) : Prop := ∃ cls T0 text is ic ik, ∃ names : List String, cl[I.2.2.1]? = some (cls, T0, 0) ∧ I.1 = .new ik ∧ decode bytes (pc + 3) = .ok (.dup, 1) ∧ ((decode bytes (pc + 4) = .ok (.ldc is, 2) ∧ decode bytes (pc + 6) = .ok (.invokespecial ic, 3) ∧ decode bytes (pc + 9) = .ok (.athrow, 1)) ∨ (decode bytes (pc + 4) = .ok (.ldc_w is, 3) ∧ decode bytes (pc + 7) = .ok (.invokespecial ic, 3) ∧ decode bytes (pc + 10) = .ok (.athrow, 1))) ∧ Cond.classLink own ik cls ∈ Ts ∧ Cond.initialized cls ∈ Ts ∧ (own, is, text) ∈ Ss ∧ Bundle.fit cls = true ∧ (∀ n ∈ names, Bundle.fit n = true) ∧ names.length ≤ 3 ∧ (∀ w ∈ vx_atS own ic cls names, w ∈ Ts ∨ w ∈ Bs) ∧ (∀ w ∈ Cond.classLink own ik cls :: Cond.initialized cls :: vx_atS own ic cls names, vx_ot w = true)
/-- a method whose places have all that they must have -/
def ev_mok (cl : List vw_C) (Ts Bs : List Cond) (Ss : List (String × Nat × String)) (dft : Nat → List Value) (mt : List ev_Q) (q : ev_Q) : Prop :=
  plainName q.1.cls = true ∧ q.2.2.2.2.1 = [] ∧ Cond.code q.1 q.2.1 q.2.2.1 q.2.2.2.1 ∈ Ts ∧ q.2.2.1 ≤ 80 ∧ (q.1.cls ≠ "java/lang/invoke/MethodHandle" ∧ q.1.cls ≠ "java/lang/invoke/VarHandle") ∧
  ∀ pc I, ev_find q.2.2.2.2.2.2 pc = some I → decode q.2.1 pc = .ok (I.1, I.2.1) ∧ (I.2.1 = ev_len I.1 ∨ ev_isw I.1 = true) ∧
    (match ev_kd I.1 with
      | 0 => ev_site cl Ts Bs dft q.1.cls q.1.name I
      | 1 => True
      | 2 => ev_lnk cl Ts Bs mt q.1.cls I
      | 3 => if I.2.2.2.1 = 8 then (∃ index, I.1 = .invokestatic index ∧ Cond.methodLink q.1.cls index arraycopyName ∈ Ts ∧ Cond.native arraycopyName ∈ Ts ∧ Cond.static arraycopyName ∈ Ts ∧ Cond.initialized "java/lang/System" ∈ Ts) else ev_lnk cl Ts Bs mt q.1.cls I
      | 4 => if I.2.2.2.1 = 9 then (∃ index, I.1 = .invokespecial index ∧ Cond.methodLink q.1.cls index Lib.objectInit ∈ Ts ∧ Cond.instanceMethod Lib.objectInit ∈ Ts ∧ Cond.code Lib.objectInit ⟨#[0xb1]⟩ 1 none ∈ Ts) else ev_lnk cl Ts Bs mt q.1.cls I
      | _ => if I.2.2.2.2 = 1 then ev_thr cl Ts Bs Ss q.1.cls q.2.1 pc I else ev_site cl Ts Bs dft q.1.cls q.1.name I)
section EvG
variable {p : Program} {l : Launch} {e : Env} {R : Room} {s : State} {m : MethodId} {args : Array Value} {below : List Frame} {meth : Method} {c : Code} {H : Heap} {locs : List Loc} {cells slots : Nat} {Q : State → Prop}
theorem ev_after {mc ms pc : Nat} {Ls : Array Slot} {st0 rest : List Value} {Qa : State → Outcome → State → Prop} {XC : String → State → State → Prop} {free : Addr → Prop} (hr : vx_Run p l e R s m args below meth c H locs cells slots mc ms (F0 m pc Ls st0) rest Qa XC free) (hl : ∀ z ∈ locs, free z.base)
    (kv : ∀ (v : Option Value) (st₀ t : State) (locs1 : List Loc), st₀.heap = H → Qa st₀ (.returned v) t → (∀ z ∈ locs1, free z.base) → W p l e R s m args below meth c t.heap locs1 (cells + mc) (slots + ms) Q (F0 m (pc + 3) Ls (v.toList ++ rest)))
    (kx : ∀ (E : String) (st₀ t : State) (locs1 : List Loc) (q : Addr) (ce : Cell), st₀.heap = H → XC E st₀ t → (∀ z ∈ locs1, free z.base) → t.heap[q]? = some ce → ce.vm = .none → s.vm.findClass E = some ce.cls → vx_W p l e R s m args below meth c t.heap locs1 (cells + mc) (slots + ms) Q (F0 m pc Ls rest) q) : W p l e R s m args below meth c H locs cells slots Q (F0 m pc Ls st0) := by
  intro T hT X
  rcases hr T hT X with ⟨v, st₀, t, T', L, h0, X', hL, e1, e2, hq, st⟩ | ⟨q, st₀, t, T', L, E, ce, h0, X', hL, e1, e2, hq, hce, hcv, hcl, st⟩
  · obtain ⟨t2, a1, b1⟩ := kv v st₀ t (locs ++ L) h0 hq (fun z hz => (List.mem_append.mp hz).elim (hl z) (hL z)) T' e1 X'
    exact ⟨t2, st t2 a1, b1⟩
  · obtain ⟨t2, a1, b1⟩ := kx E st₀ t (locs ++ L) q ce h0 hq (fun z hz => (List.mem_append.mp hz).elim (hl z) (hL z)) hce hcv hcl T' e1 X'
    exact ⟨t2, st.trans a1, b1⟩
end EvG
/-! the locals at a method's entry -/
theorem ev_sl_len (ad : Nat → Nat) (vs : List Value) : (lg_sl (vs.map (ev_tv ad))).length = (ev_sl vs).length := by
  induction vs with
  | nil => rfl
  | cons v vs ih =>
    have e1 : lg_sl (List.map (ev_tv ad) (v :: vs)) = (if (ev_tv ad v).category = 2 then [Slot.val (ev_tv ad v), Slot.second] else [Slot.val (ev_tv ad v)]) ++ lg_sl (vs.map (ev_tv ad)) := by simp [lg_sl]
    have e2 : ev_sl (v :: vs) = (if v.category = 2 then [some v, none] else [some v]) ++ ev_sl vs := by simp [ev_sl]
    rw [e1, e2, List.length_append, List.length_append, ih, ev_cat]
    by_cases hc : v.category = 2 <;> simp [hc]
theorem ev_sl_mem (ad : Nat → Nat) : ∀ (vs : List Value) (k i : Nat) (v : Value), (ev_sl vs)[i]? = some (some v) → (k + i, ev_tv ad v) ∈ lv_args k (vs.map (ev_tv ad)) := by
  intro vs
  induction vs with
  | nil => intro k i v h; simp [ev_sl] at h
  | cons w ws ih =>
    intro k i v h
    have e2 : ev_sl (w :: ws) = (if w.category = 2 then [some w, none] else [some w]) ++ ev_sl ws := by simp [ev_sl]
    rw [e2] at h
    show _ ∈ (k, ev_tv ad w) :: lv_args (if (ev_tv ad w).category = 2 then k + 2 else k + 1) (ws.map (ev_tv ad))
    rw [ev_cat]
    by_cases hc : w.category = 2
    · rw [if_pos hc] at h ⊢
      match i, h with
      | 0, h => cases h; exact List.mem_cons_self
      | 1, h => cases h
      | j + 2, h =>
        have := ih (k + 2) j v h
        rw [show k + (j + 2) = k + 2 + j by omega]
        exact List.mem_cons_of_mem _ this
    · rw [if_neg hc] at h ⊢
      match i, h with
      | 0, h => cases h; exact List.mem_cons_self
      | j + 1, h =>
        have := ih (k + 1) j v h
        rw [show k + (j + 1) = k + 1 + j by omega]
        exact List.mem_cons_of_mem _ this
theorem ev_in_lr {ad : Nat → Nat} {n : Nat} {vs : List Value} (h : (ev_sl vs).length ≤ n) : (ev_in n vs).length = n ∧ ev_lr ad ((lg_sl (vs.map (ev_tv ad)) ++ List.replicate (n - (lg_sl (vs.map (ev_tv ad))).length) Slot.unset).toArray) (ev_in n vs) := by
  have hlen : (ev_in n vs).length = n := by simp [ev_in]; omega
  refine ⟨hlen, ?_⟩
  have h1 := lv_entry (vs.map (ev_tv ad)) (n := n) (by rw [ev_sl_len]; exact h)
  unfold ev_lr
  rw [hlen]
  refine ev_lv_sub h1 (fun q hq => ?_)
  obtain ⟨w, hw, e⟩ := ev_as_mem.mp hq
  unfold ev_in at hw
  by_cases hi : q.1 < (ev_sl vs).length
  · rw [List.getElem?_append_left hi] at hw
    have := ev_sl_mem ad vs 0 q.1 w hw
    rw [Nat.zero_add, ← e] at this
    exact this
  · rw [List.getElem?_append_right (by omega)] at hw
    have := List.eq_of_mem_replicate (List.mem_of_getElem? hw)
    cases this
