/-! The calls of the text (String.length, charAt): the JDK's own code, walked by the kit's rows. -/
theorem es_X.moved {base : Nat} {ex : Nat → Nat} {u U : State} {H : Heap} (hvm : u.vm.Alike U.vm) (h : es_X base ex u H) : es_X base ex U H := ⟨vk_S.moved hvm h.1, va_Z.moved hvm h.2.1, va_Zq.moved hvm h.2.2⟩
theorem es_X.kept {base : Nat} {ex : Nat → Nat} {U : State} {H0 H : Heap} {locs : List Loc} (hS : va_S (fun a : Nat => base ≤ a) H0 H locs) (h : es_X base ex U H0) : es_X base ex U H := ⟨h.1.kept hS.2.1, h.2.1.kept hS.2.1, h.2.2.kept hS.2.1⟩
def es_rm (k : Nat) : Room := { frames := k, cells := 0, slots := 0, locals := 25 * k }
def es_P (base : Nat) (ex : Nat → Nat) (as : List Value) : Array Value → State → Prop := fun a U => a = as.toArray ∧ es_X base ex U U.heap
def es_Q (v : Option Value) : Array Value → State → Outcome → State → Prop := fun _ st oc t => oc = .returned v ∧ t.heap = st.heap
def es_N : String → State → State → Prop := fun _ _ _ => False
theorem es_P_blind {base : Nat} {ex : Nat → Nat} {as : List Value} : FrameBlind (es_P base ex as) := by
  intro a U g mk ⟨h1, h2⟩
  exact ⟨h1, es_X.moved (U := U.calling g mk a) (Vm.Alike.refl U.vm) h2⟩
def es_yLen : MethodName := { cls := "java/lang/String", name := "length", desc := "()I" }
def es_yCod : MethodName := { cls := "java/lang/String", name := "coder", desc := "()B" }
def es_yChr : MethodName := { cls := "java/lang/String", name := "charAt", desc := "(I)C" }
def es_yLat : MethodName := { cls := "java/lang/String", name := "isLatin1", desc := "()Z" }
def es_yL1c : MethodName := { cls := "java/lang/StringLatin1", name := "charAt", desc := "([BI)C" }
def es_yChk : MethodName := { cls := "java/lang/String", name := "checkIndex", desc := "(II)V" }
def es_yPre : MethodName := { cls := "jdk/internal/util/Preconditions", name := "checkIndex", desc := "(IILjava/util/function/BiFunction;)I" }
theorem es_ad2 {base : Nat} {ex : Nat → Nat} : ev_ad base ex (ev_ext + 2) = ex 2 := by
  unfold ev_ad
  rw [if_neg (by omega), Nat.add_sub_cancel_left]
theorem es_ix {i : Int32} (h : ev_ix i 8 = true) : vp_in i 8 ∧ ¬ i < 0 ∧ i < 8 ∧ i.toNatClampNeg < 8 := by
  unfold ev_ix at h
  simp only [Bool.and_eq_true, decide_eq_true_eq] at h
  have h1 : vp_in i 8 := fun z => z.elim h.1 (fun y => absurd h.2 (Nat.not_lt.mpr y))
  have h2 := (vp_in_iff.mp h1).2
  refine ⟨h1, h.1, ?_, h.2⟩
  rw [Int32.lt_iff_toInt_lt]
  exact h2
theorem es_byte : ∀ j : Nat, j < 8 → (((es_by.getD j 0) &&& 255).toUInt32 % 65536).toInt32 = es_ch j := by decide +kernel
theorem es_char {j : Nat} (h : j < 8) : narrow .char (.int (es_ch j)) = .int (es_ch j) := by
  match j, h with
  | 0, _ => rfl
  | 1, _ => rfl
  | 2, _ => rfl
  | 3, _ => rfl
  | 4, _ => rfl
  | 5, _ => rfl
  | 6, _ => rfl
  | 7, _ => rfl
section EsA
variable {l : Launch} {base : Nat} {ex : Nat → Nat} {Ts : List Cond}
/-- one of these methods: what its body must show -/
theorem es_met {y : MethodName} {cc : ByteArray} {maxL : Nat} {ret : Option FieldType} {as : List Value} {v : Option Value} {k : Nat} (hy : plainFor y = true) (hl : (lg_sl as).length ≤ maxL)
    (body : ∀ (p : Program) (e : Env) (R : Room) (s : State) (m : MethodId) (args : Array Value) (below : List Frame) (meth : Method) (c : Code) (Ls : Array Slot),
      p.tables.exec = Jvm.exec → c.code = cc → c.maxLocals = maxL → s.vm.findClass y.cls = some m.cls → (∀ w ∈ Ts, w.before args s = true) → meth.sig.returnType = ret → meth.locks = false → es_X base ex s s.heap → k ≤ R.frames → 25 * k ≤ R.locals → lv_has Ls maxL (lv_args 0 as) →
      W p l e R s m args below meth c s.heap [] 0 0 (vx_MQ below (es_Q v) es_N args s 0 0 (fun a : Nat => base ≤ a)) (F0 m 0 Ls [])) :
    vx_Met l y (Cond.code y cc maxL ret :: Ts) (es_rm k) (es_P base ex as) (es_Q v) es_N 0 0 (fun a : Nat => base ≤ a) := by
  refine eh_ofW (cc := cc) (maxL := maxL) (ret := ret) hy rfl ?_
  intro p e s m args below meth c s₁ B hml htab hv
  obtain ⟨hv1, hX⟩ := hv
  subst hv1
  have hts0 := atoms_spec (ws := Cond.code y cc maxL ret :: Ts) B.pre
  rw [lg_entry_eq]
  exact body p e _ s m _ below meth c _ B.exec B.bytes hml (findClass_of_methodNamed B.named) (fun w hw => hts0 w (List.mem_cons_of_mem _ hw)) B.returns B.notSynchronized hX (Nat.le_refl _) (Nat.le_refl _) (lv_entry as hl)
end EsA
section EsB
variable {l : Launch} {base : Nat} {ex : Nat → Nat} {Ts : List Cond} {p : Program} {e : Env} {R : Room} {s : State} {m : MethodId} {args : Array Value} {below : List Frame} {meth : Method} {c : Code} {H : Heap} {locs : List Loc} {cells slots : Nat} {Q : State → Prop}
variable {y : MethodName} {cc c1 : ByteArray} {nL maxL pc index n k b : Nat} {ret : Option FieldType} {own : String} {Ls : Array Slot} {As rest : List Value} {v : Option Value}
theorem es_goon {st0 : List Value} {a9 : Array Value} (hr : vx_Run p l e R s m args below meth c H locs cells slots 0 0 (F0 m pc Ls st0) rest (es_Q v a9) es_N (fun a : Nat => base ≤ a)) (hS : va_S (fun a : Nat => base ≤ a) s.heap H locs)
    (kk : ∀ locs1 : List Loc, va_S (fun a : Nat => base ≤ a) s.heap H locs1 → W p l e R s m args below meth c H locs1 cells slots Q (F0 m (pc + 3) Ls (v.toList ++ rest))) : W p l e R s m args below meth c H locs cells slots Q (F0 m pc Ls st0) := by
  refine ev_after hr hS.2.2 (fun v1 st₀ t locs1 h0 hq hlo => ?_) (fun E st₀ t locs1 q9 ce h0 hx => absurd hx id)
  obtain ⟨h1, h2⟩ := hq
  cases h1
  rw [h2, h0]
  exact kk locs1 ⟨hS.1, hS.2.1, hlo⟩
theorem es_callV (st0 st1 : List Value) (hgood : ∀ w ∈ Ts, goodWord w = true) (hM : vx_Met l y (Cond.code y c1 maxL ret :: Ts) (es_rm k) (es_P base ex (.ref (ex 2) :: As)) (es_Q v) es_N 0 0 (fun a : Nat => base ≤ a))
    (hS0 : CallFix p m c cc nL s args Ts own) (hX : es_X base ex s s.heap) (hS : va_S (fun a : Nat => base ≤ a) s.heap H locs)
    (h1 : Cond.code y c1 maxL ret ∈ Ts) (h2 : Cond.instanceMethod y ∈ Ts) (h3 : Cond.selects "java/lang/String" y y ∈ Ts) (h4 : Cond.initialized y.cls ∈ Ts) (h5 : Cond.methodLink own index y ∈ Ts) (hd : y.cls ≠ "java/lang/invoke/MethodHandle" ∧ y.cls ≠ "java/lang/invoke/VarHandle" ∧ (parseMethodDescriptor y.desc).map (fun d => d.parameters.length) = some n) (hn : As.length = n)
    (hR : k + 1 ≤ R.frames ∧ 8 + (maxL + 11) + 25 * k ≤ R.locals) (hf : cells ≤ R.cells ∧ slots ≤ R.slots) (hsz : Ls.size = nL) (hst0 : st0 = As.reverse ++ .ref (ex 2) :: rest) (hst1 : v.toList ++ rest = st1) (hW : (rest.map fun v => v.category).sum ≤ 8) (hdg : decode cc pc = .ok (.invokevirtual index, 3))
    (kk : ∀ locs1 : List Loc, va_S (fun a : Nat => base ≤ a) s.heap H locs1 → W p l e R s m args below meth c H locs1 cells slots Q (F0 m (pc + 3) Ls st1)) : W p l e R s m args below meth c H locs cells slots Q (F0 m pc Ls st0) := by
  subst hst0 hst1
  have hts : ∀ w ∈ Ts, w.before args s = true := hS0.2.2.2.2
  refine es_goon (a9 := (Value.ref (ex 2) :: As).toArray) ?_ hS kk
  exact vx_runV (C := "java/lang/String") (As := As) (b := ex 2) hS0 hM ⟨callB_of n hts (ev_good hgood h1) rfl rfl rfl (hts _ h4) (hts _ h5) hd hR, hts _ h2, hts _ h3⟩ ⟨es_P_blind, vk_recv (i := 0) hX.1 (by decide) hS, fun U hU hW => ⟨rfl, by rw [hU]; exact es_X.moved hW.alike (es_X.kept hS hX)⟩⟩ rfl hn hsz rfl (lv_room hW) hdg hf
theorem es_callS (st0 st1 : List Value) (hgood : ∀ w ∈ Ts, goodWord w = true) (hM : vx_Met l y (Cond.code y c1 maxL ret :: Ts) (es_rm k) (es_P base ex As) (es_Q v) es_N 0 0 (fun a : Nat => base ≤ a))
    (hS0 : CallFix p m c cc nL s args Ts own) (hX : es_X base ex s s.heap) (hS : va_S (fun a : Nat => base ≤ a) s.heap H locs)
    (h1 : Cond.code y c1 maxL ret ∈ Ts) (h2 : Cond.static y ∈ Ts) (h4 : Cond.initialized y.cls ∈ Ts) (h5 : Cond.methodLink own index y ∈ Ts) (hd : y.cls ≠ "java/lang/invoke/MethodHandle" ∧ y.cls ≠ "java/lang/invoke/VarHandle" ∧ (parseMethodDescriptor y.desc).map (fun d => d.parameters.length) = some n) (hn : As.length = n)
    (hR : k + 1 ≤ R.frames ∧ 8 + (maxL + 11) + 25 * k ≤ R.locals) (hf : cells ≤ R.cells ∧ slots ≤ R.slots) (hsz : Ls.size = nL) (hst0 : st0 = As.reverse ++ rest) (hst1 : v.toList ++ rest = st1) (hW : (rest.map fun v => v.category).sum ≤ 8) (hdg : decode cc pc = .ok (.invokestatic index, 3))
    (kk : ∀ locs1 : List Loc, va_S (fun a : Nat => base ≤ a) s.heap H locs1 → W p l e R s m args below meth c H locs1 cells slots Q (F0 m (pc + 3) Ls st1)) : W p l e R s m args below meth c H locs cells slots Q (F0 m pc Ls st0) := by
  subst hst0 hst1
  have hts : ∀ w ∈ Ts, w.before args s = true := hS0.2.2.2.2
  refine es_goon (a9 := As.toArray) ?_ hS kk
  exact vx_runS (As := As) hS0 hM ⟨callB_of n hts (ev_good hgood h1) rfl rfl rfl (hts _ h4) (hts _ h5) hd hR, hts _ h2⟩ ⟨es_P_blind, fun U hU hW => ⟨rfl, by rw [hU]; exact es_X.moved hW.alike (es_X.kept hS hX)⟩⟩ rfl hn hsz rfl (lv_room hW) hdg hf
end EsB
section EsC
variable {l : Launch} {base : Nat} {ex : Nat → Nat} {Ts : List Cond}
theorem es_in (hes : ∀ w ∈ es_ws, w ∈ Ts) (k : Nat) {w : Cond} (h : es_ws[k]? = some w) : w ∈ Ts := hes w (List.mem_of_getElem? h)
theorem es_coder (hes : ∀ w ∈ es_ws, w ∈ Ts) : vx_Met l es_yCod (Cond.code es_yCod prog_25_method_152_code 1 (some .byte) :: Ts) (es_rm 0) (es_P base ex [.ref (ex 2)]) (es_Q (some (.int 0))) es_N 0 0 (fun a : Nat => base ≤ a) := by
  refine es_met (by decide +kernel) (Nat.le_refl 1) ?_
  intro p e R s m args below meth c Ls hx hb hml hown hts hret hlocks hX hfr hlo hl
  have hS : va_S (fun a : Nat => base ≤ a) s.heap s.heap [] := va_S.rf
  have hs := hX.1.1 0 (by decide)
  refine va_gets hx hb hX.2.1 hS hown (hts _ (es_in hes 13 rfl)) (fun _ h => h) (by decide +kernel : decode prog_25_method_152_code 0 = .ok (.getstatic 38, 3)) ?_
  refine lv_if_eq hx hb (by decide +kernel : decode prog_25_method_152_code 3 = .ok (.ifCond .eq 10, 3)) (tgt := 13) (by decide) (fun h => absurd h (by decide)) (fun _ => ?_)
  refine lv_aload_n hx hb (by decide +kernel : decode prog_25_method_152_code 6 = .ok (.aload_n 0, 1)) rfl (lv_at hl 0 rfl) ?_
  refine vk_getf hx hb hs.2.1 hS hown (hts _ (es_in hes 30 rfl)) (fun _ h => h) (by decide +kernel : decode prog_25_method_152_code 7 = .ok (.getfield 15, 3)) ?_
  refine lv_goto hx hb (by decide +kernel : decode prog_25_method_152_code 10 = .ok (.goto 4, 3)) (tgt := 14) (by decide) ?_
  exact vx_ret (W.zret hx hb hret rfl (fun t ht _ => ⟨rfl, ht⟩) hS.2.2 (by decide +kernel) hlocks)
theorem es_latin (hes : ∀ w ∈ es_ws, w ∈ Ts) : vx_Met l es_yLat (Cond.code es_yLat prog_25_method_154_code 1 (some .boolean) :: Ts) (es_rm 0) (es_P base ex [.ref (ex 2)]) (es_Q (some (.int 1))) es_N 0 0 (fun a : Nat => base ≤ a) := by
  refine es_met (by decide +kernel) (Nat.le_refl 1) ?_
  intro p e R s m args below meth c Ls hx hb hml hown hts hret hlocks hX hfr hlo hl
  have hS : va_S (fun a : Nat => base ≤ a) s.heap s.heap [] := va_S.rf
  have hs := hX.1.1 0 (by decide)
  refine va_gets hx hb hX.2.1 hS hown (hts _ (es_in hes 13 rfl)) (fun _ h => h) (by decide +kernel : decode prog_25_method_154_code 0 = .ok (.getstatic 38, 3)) ?_
  refine lv_if_eq hx hb (by decide +kernel : decode prog_25_method_154_code 3 = .ok (.ifCond .eq 14, 3)) (tgt := 17) (by decide) (fun h => absurd h (by decide)) (fun _ => ?_)
  refine lv_aload_n hx hb (by decide +kernel : decode prog_25_method_154_code 6 = .ok (.aload_n 0, 1)) rfl (lv_at hl 0 rfl) ?_
  refine vk_getf hx hb hs.2.1 hS hown (hts _ (es_in hes 30 rfl)) (fun _ h => h) (by decide +kernel : decode prog_25_method_154_code 7 = .ok (.getfield 15, 3)) ?_
  refine lv_if_ne hx hb (by decide +kernel : decode prog_25_method_154_code 10 = .ok (.ifCond .ne 7, 3)) (tgt := 17) (by decide) (fun h => absurd rfl h) (fun _ => ?_)
  refine lv_iconst hx hb (by decide +kernel : decode prog_25_method_154_code 13 = .ok (.iconst 1, 1)) (v := 1) rfl ?_
  refine lv_goto hx hb (by decide +kernel : decode prog_25_method_154_code 14 = .ok (.goto 4, 3)) (tgt := 18) (by decide) ?_
  exact vx_ret (W.zret hx hb hret rfl (fun t ht _ => ⟨rfl, ht⟩) hS.2.2 (by decide +kernel) hlocks)
theorem es_length (hes : ∀ w ∈ es_ws, w ∈ Ts) (hgood : ∀ w ∈ Ts, goodWord w = true) : vx_Met l es_yLen (Cond.code es_yLen prog_25_method_54_code 1 (some .int) :: Ts) (es_rm 1) (es_P base ex [.ref (ex 2)]) (es_Q (some (.int 8))) es_N 0 0 (fun a : Nat => base ≤ a) := by
  refine es_met (by decide +kernel) (Nat.le_refl 1) ?_
  intro p e R s m args below meth c Ls hx hb hml hown hts hret hlocks hX hfr hlo hl
  have hS : va_S (fun a : Nat => base ≤ a) s.heap s.heap [] := va_S.rf
  have hs := hX.1.1 0 (by decide)
  refine lv_aload_n hx hb (by decide +kernel : decode prog_25_method_54_code 0 = .ok (.aload_n 0, 1)) rfl (lv_at hl 0 rfl) ?_
  refine vk_getf hx hb hs.2.2.1 hS hown (hts _ (es_in hes 29 rfl)) (fun _ h => h) (by decide +kernel : decode prog_25_method_54_code 1 = .ok (.getfield 9, 3)) ?_
  refine va_tlen hx hb hs.2.2.2 hS (v := 8) rfl (by decide +kernel : decode prog_25_method_54_code 4 = .ok (.arraylength, 1)) ?_
  refine lv_aload_n hx hb (by decide +kernel : decode prog_25_method_54_code 5 = .ok (.aload_n 0, 1)) rfl (lv_at hl 0 rfl) ?_
  refine es_callV (n := 0) (As := []) (rest := [.int 8]) _ [.int 0, .int 8] hgood (es_coder hes) ⟨hx, hb, hml, hown, hts⟩ hX hS (es_in hes 12 rfl) (es_in hes 10 rfl) (es_in hes 11 rfl) (es_in hes 1 rfl) (es_in hes 9 rfl) (by decide +kernel) rfl ⟨by omega, by omega⟩ ⟨Nat.zero_le _, Nat.zero_le _⟩ hl.1 rfl rfl (by decide) (by decide +kernel : decode prog_25_method_54_code 6 = .ok (.invokevirtual 335, 3)) (fun locs1 hS1 => ?_)
  refine lv_ishr hx hb (by decide +kernel : decode prog_25_method_54_code 9 = .ok (.ishr, 1)) ?_
  exact vx_ret (W.zret hx hb hret rfl (fun t ht _ => ⟨rfl, ht⟩) hS1.2.2 (by decide +kernel) hlocks)
theorem es_pre {i : Int32} {w : Value} (hi : ev_ix i 8 = true) (hw : w = .null ∨ ∃ t : Nat, w = .ref t) : vx_Met l es_yPre (Cond.code es_yPre prog_43_method_11_code 3 (some .int) :: Ts) (es_rm 0) (es_P base ex [.int i, .int 8, w]) (es_Q (some (.int i))) es_N 0 0 (fun a : Nat => base ≤ a) := by
  refine es_met (by decide +kernel) (by rcases hw with hw | ⟨t, hw⟩ <;> (subst hw; exact Nat.le_refl 3)) ?_
  intro p e R s m args below meth c Ls hx hb hml hown hts hret hlocks hX hfr hlo hl
  obtain ⟨-, i1, i2, -⟩ := es_ix hi
  refine lv_iload_n hx hb (by decide +kernel : decode prog_43_method_11_code 0 = .ok (.iload_n 0, 1)) rfl (lv_at hl 0 rfl) ?_
  refine lv_if_lt hx hb (by decide +kernel : decode prog_43_method_11_code 1 = .ok (.ifCond .lt 8, 3)) (tgt := 9) (by decide) (fun h => absurd h i1) (fun _ => ?_)
  refine lv_iload_n hx hb (by decide +kernel : decode prog_43_method_11_code 4 = .ok (.iload_n 0, 1)) rfl (lv_at hl 0 rfl) ?_
  refine lv_iload_n hx hb (by decide +kernel : decode prog_43_method_11_code 5 = .ok (.iload_n 1, 1)) rfl (lv_at hl 1 rfl) ?_
  refine lv_icmp_lt hx hb (by decide +kernel : decode prog_43_method_11_code 6 = .ok (.if_icmp .lt 10, 3)) (tgt := 16) (by decide) (fun _ => ?_) (fun h => absurd i2 h)
  refine lv_iload_n hx hb (by decide +kernel : decode prog_43_method_11_code 16 = .ok (.iload_n 0, 1)) rfl (lv_at hl 0 rfl) ?_
  exact vx_ret (W.zret hx hb hret rfl (fun t ht _ => ⟨rfl, ht⟩) (fun _ h => absurd h List.not_mem_nil) (by decide +kernel) hlocks)
theorem es_check (hes : ∀ w ∈ es_ws, w ∈ Ts) (hgood : ∀ w ∈ Ts, goodWord w = true) {i : Int32} (hi : ev_ix i 8 = true) : vx_Met l es_yChk (Cond.code es_yChk prog_25_method_155_code 2 none :: Ts) (es_rm 1) (es_P base ex [.int i, .int 8]) (es_Q none) es_N 0 0 (fun a : Nat => base ≤ a) := by
  refine es_met (by decide +kernel) (Nat.le_refl 2) ?_
  intro p e R s m args below meth c Ls hx hb hml hown hts hret hlocks hX hfr hlo hl
  have hS : va_S (fun a : Nat => base ≤ a) s.heap s.heap [] := va_S.rf
  have hz : ∃ w : Value, (w = .null ∨ ∃ t : Nat, w = .ref t) ∧ va_Z "jdk/internal/util/Preconditions" "SIOOBE_FORMATTER" "Ljava/util/function/BiFunction;" w (fun a : Nat => base ≤ a) s s.heap := by
    rcases hX.2.2 with h | ⟨t, h⟩
    · exact ⟨_, Or.inl rfl, h⟩
    · exact ⟨_, Or.inr ⟨t, rfl⟩, h⟩
  obtain ⟨w, hw, hz⟩ := hz
  refine lv_iload_n hx hb (by decide +kernel : decode prog_25_method_155_code 0 = .ok (.iload_n 0, 1)) rfl (lv_at hl 0 rfl) ?_
  refine lv_iload_n hx hb (by decide +kernel : decode prog_25_method_155_code 1 = .ok (.iload_n 1, 1)) rfl (lv_at hl 1 rfl) ?_
  refine va_gets hx hb hz hS hown (hts _ (es_in hes 27 rfl)) (fun _ h => h) (by decide +kernel : decode prog_25_method_155_code 2 = .ok (.getstatic 1053, 3)) ?_
  refine es_callS (n := 3) (As := [.int i, .int 8, w]) (rest := []) _ [.int i] hgood (es_pre hi hw) ⟨hx, hb, hml, hown, hts⟩ hX hS (es_in hes 5 rfl) (es_in hes 4 rfl) (es_in hes 0 rfl) (es_in hes 28 rfl) (by decide +kernel) rfl ⟨by omega, by omega⟩ ⟨Nat.zero_le _, Nat.zero_le _⟩ hl.1 rfl rfl (by decide) (by decide +kernel : decode prog_25_method_155_code 5 = .ok (.invokestatic 1059, 3)) (fun locs1 hS1 => ?_)
  refine lv_pop hx hb (by decide +kernel : decode prog_25_method_155_code 8 = .ok (.pop, 1)) rfl ?_
  exact vx_ret (W.vret hx hb hret (fun t ht _ => ⟨rfl, ht⟩) hS1.2.2 (by decide +kernel) hlocks)
theorem es_l1char (hes : ∀ w ∈ es_ws, w ∈ Ts) (hgood : ∀ w ∈ Ts, goodWord w = true) {i : Int32} (hi : ev_ix i 8 = true) : vx_Met l es_yL1c (Cond.code es_yL1c prog_26_method_2_code 2 (some .char) :: Ts) (es_rm 2) (es_P base ex [.ref (ex 3), .int i]) (es_Q (some (.int (es_ch i.toNatClampNeg)))) es_N 0 0 (fun a : Nat => base ≤ a) := by
  refine es_met (by decide +kernel) (Nat.le_refl 2) ?_
  intro p e R s m args below meth c Ls hx hb hml hown hts hret hlocks hX hfr hlo hl
  obtain ⟨i0, -, -, i3⟩ := es_ix hi
  have hS : va_S (fun a : Nat => base ≤ a) s.heap s.heap [] := va_S.rf
  have hs := hX.1.1 0 (by decide)
  refine lv_iload_n hx hb (by decide +kernel : decode prog_26_method_2_code 0 = .ok (.iload_n 1, 1)) rfl (lv_at hl 1 rfl) ?_
  refine lv_aload_n hx hb (by decide +kernel : decode prog_26_method_2_code 1 = .ok (.aload_n 0, 1)) rfl (lv_at hl 0 rfl) ?_
  refine va_tlen hx hb hs.2.2.2 hS (v := 8) rfl (by decide +kernel : decode prog_26_method_2_code 2 = .ok (.arraylength, 1)) ?_
  refine es_callS (n := 2) (As := [.int i, .int 8]) (rest := []) _ [] hgood (es_check hes hgood hi) ⟨hx, hb, hml, hown, hts⟩ hX hS (es_in hes 26 rfl) (es_in hes 25 rfl) (es_in hes 1 rfl) (es_in hes 24 rfl) (by decide +kernel) rfl ⟨by omega, by omega⟩ ⟨Nat.zero_le _, Nat.zero_le _⟩ hl.1 rfl rfl (by decide) (by decide +kernel : decode prog_26_method_2_code 3 = .ok (.invokestatic 9, 3)) (fun locs1 hS1 => ?_)
  refine lv_aload_n hx hb (by decide +kernel : decode prog_26_method_2_code 6 = .ok (.aload_n 0, 1)) rfl (lv_at hl 0 rfl) ?_
  refine lv_iload_n hx hb (by decide +kernel : decode prog_26_method_2_code 7 = .ok (.iload_n 1, 1)) rfl (lv_at hl 1 rfl) ?_
  refine va_tb hx hb hs.2.2.2 hS1 i0 (v := .int (es_by.getD i.toNatClampNeg 0)) rfl (by decide +kernel : decode prog_26_method_2_code 8 = .ok (.baload, 1)) ?_
  refine lv_sipush hx hb (by decide +kernel : decode prog_26_method_2_code 9 = .ok (.sipush 255, 3)) (v := 255) rfl ?_
  refine lv_iand hx hb (by decide +kernel : decode prog_26_method_2_code 12 = .ok (.iand, 1)) ?_
  refine lv_i2c hx hb (by decide +kernel : decode prog_26_method_2_code 13 = .ok (.i2c, 1)) (es_byte _ i3) ?_
  exact vx_ret (W.zret hx hb hret (es_char i3) (fun t ht _ => ⟨rfl, ht⟩) hS1.2.2 (by decide +kernel) hlocks)
theorem es_charAt (hes : ∀ w ∈ es_ws, w ∈ Ts) (hgood : ∀ w ∈ Ts, goodWord w = true) {i : Int32} (hi : ev_ix i 8 = true) : vx_Met l es_yChr (Cond.code es_yChr prog_25_method_56_code 2 (some .char) :: Ts) (es_rm 3) (es_P base ex [.ref (ex 2), .int i]) (es_Q (some (.int (es_ch i.toNatClampNeg)))) es_N 0 0 (fun a : Nat => base ≤ a) := by
  refine es_met (by decide +kernel) (Nat.le_refl 2) ?_
  intro p e R s m args below meth c Ls hx hb hml hown hts hret hlocks hX hfr hlo hl
  obtain ⟨-, -, -, i3⟩ := es_ix hi
  have hS : va_S (fun a : Nat => base ≤ a) s.heap s.heap [] := va_S.rf
  have hs := hX.1.1 0 (by decide)
  refine lv_aload_n hx hb (by decide +kernel : decode prog_25_method_56_code 0 = .ok (.aload_n 0, 1)) rfl (lv_at hl 0 rfl) ?_
  refine es_callV (n := 0) (As := []) (rest := []) _ [.int 1] hgood (es_latin hes) ⟨hx, hb, hml, hown, hts⟩ hX hS (es_in hes 20 rfl) (es_in hes 18 rfl) (es_in hes 19 rfl) (es_in hes 1 rfl) (es_in hes 17 rfl) (by decide +kernel) rfl ⟨by omega, by omega⟩ ⟨Nat.zero_le _, Nat.zero_le _⟩ hl.1 rfl rfl (by decide) (by decide +kernel : decode prog_25_method_56_code 1 = .ok (.invokevirtual 492, 3)) (fun locs1 hS1 => ?_)
  refine lv_if_eq hx hb (by decide +kernel : decode prog_25_method_56_code 4 = .ok (.ifCond .eq 12, 3)) (tgt := 16) (by decide) (fun h => absurd h (by decide)) (fun _ => ?_)
  refine lv_aload_n hx hb (by decide +kernel : decode prog_25_method_56_code 7 = .ok (.aload_n 0, 1)) rfl (lv_at hl 0 rfl) ?_
  refine vk_getf hx hb hs.2.2.1 hS1 hown (hts _ (es_in hes 29 rfl)) (fun _ h => h) (by decide +kernel : decode prog_25_method_56_code 8 = .ok (.getfield 9, 3)) ?_
  refine lv_iload_n hx hb (by decide +kernel : decode prog_25_method_56_code 11 = .ok (.iload_n 1, 1)) rfl (lv_at hl 1 rfl) ?_
  refine es_callS (n := 2) (As := [.ref (ex 3), .int i]) (rest := []) _ [.int (es_ch i.toNatClampNeg)] hgood (es_l1char hes hgood hi) ⟨hx, hb, hml, hown, hts⟩ hX hS1 (es_in hes 23 rfl) (es_in hes 22 rfl) (es_in hes 2 rfl) (es_in hes 21 rfl) (by decide +kernel) rfl ⟨by omega, by omega⟩ ⟨Nat.zero_le _, Nat.zero_le _⟩ hl.1 rfl rfl (by decide) (by decide +kernel : decode prog_25_method_56_code 12 = .ok (.invokestatic 495, 3)) (fun locs2 hS2 => ?_)
  exact vx_ret (W.zret hx hb hret (es_char i3) (fun t ht _ => ⟨rfl, ht⟩) hS2.2.2 (by decide +kernel) hlocks)
end EsC
section EvS
variable {l : Launch} {D : va_G} {cl : List vw_C} {aC : Nat → ClassId} {base : Nat} {ex : Nat → Nat} {V : ev_V} {Ts Bs : List Cond} {Ss : List (String × Nat × String)} {Ns : List (String × String)} {dft : Nat → List Value} {mt : List ev_Q} {f : ev_F}
theorem es_sim (hfm : ev_fle f) (hf : eh_Cl l D cl aC base ex V Ts Bs Ss Ns mt f) (hes : ∀ w ∈ es_ws, w ∈ Ts) (hgood : ∀ w ∈ Ts, goodWord w = true) (hbw : ∀ w ∈ Bs, ev_bw w = true) (hex : ∀ k, ex k < base) (hmt : ∀ (mi : Nat) (q : ev_Q), mt[mi]? = some q → eh_mok cl Ts Bs Ss Ns dft mt q) (hcw : ∀ (mi : Nat) (q : ev_Q), mt[mi]? = some q → 1 ≤ mi → eh_cw q ∈ Ts)
    {d mi pc len x y z : Nat} {i : Instr} {ls : ev_L} {st r : List Value} {h h' : ev_H} {o : ev_O} {q : ev_Q} (hq : mt[mi]? = some q) (hr : ev_sb x st = some r) (he : f d mi (pc + 3) ls r h = some (o, h')) (hdg : decode q.2.1 pc = .ok (i, len)) (hlen : len = ev_len i) (hlk : es_lnk Ts q.1.cls (i, len, x, y, z)) (h8 : ev_cats r ≤ 8)
    {p : Program} {e : Env} {R : Room} {s : State} {m : MethodId} {args : Array Value} {below : List Frame} {meth : Method} {c : Code} {n0 s0 mc ms : Nat} (hFr : eh_Fr p R s m args meth c D cl aC base ex V Ts Bs Ss Ns q d n0 s0 mc ms h') :
    ev_Sim p l e R s m args below meth c (vx_MQ below (ev_Qc D cl aC base ex o h') (ev_XC D cl aC base ex o h') args s mc ms (fun a : Nat => base ≤ a)) D cl aC base ex q.2.2.1 n0 s0 (pc, ls, st, h) := by
  intro Ls H locs cells slots hl hn hh hS h1c h2c
  dsimp only at hl hn hh h1c h2c ⊢
  have hle := hfm _ _ _ _ _ _ _ _ he
  have hFr0 := hFr
  obtain ⟨hx, hb, hml, hown, hts, hG, hX, hret, hlocks, hname, htab, hbn, hroom, g1, g2, g3, g4, g5⟩ := hFr
  have hXs : es_X base ex s s.heap := hX.2.2.2.2.2
  have hS0 : CallFix p m c q.2.1 q.2.2.1 s args Ts q.1.cls := ⟨hx, hb, hml, hown, hts⟩
  have hsz : Ls.size = q.2.2.1 := by rw [← hn]; exact hl.1
  obtain ⟨l1, l2⟩ := hle
  have hfit : cells ≤ R.cells ∧ slots ≤ R.slots := by omega
  have hcat : ∀ rest : List Value, ((rest.map (ev_tv (ev_ad base ex))).map fun v => v.category).sum = ev_cats rest := by
    intro rest
    rw [List.map_map]
    have e1 : ((fun v : Value => v.category) ∘ ev_tv (ev_ad base ex)) = fun v => v.category := by funext v; exact ev_cat _ v
    rw [e1]
    rfl
  have K : ∀ locs1 : List Loc, va_S (fun a : Nat => base ≤ a) s.heap H locs1 → W p l e R s m args below meth c H locs1 cells slots (vx_MQ below (ev_Qc D cl aC base ex o h') (ev_XC D cl aC base ex o h') args s mc ms (fun a : Nat => base ≤ a)) (F0 m (pc + 3) Ls (r.map (ev_tv (ev_ad base ex)))) := fun locs1 hS1 => hf d mi (pc + 3) ls r h o h' q hq he p e R s m args below meth c n0 s0 mc ms hFr0 Ls H locs1 cells slots hl hn hh hS1 h1c h2c
  unfold es_lnk at hlk
  split at hlk
  · next index hI =>
    dsimp only at hI hlk
    subst hI
    have hdg3 : decode q.2.1 pc = .ok (.invokevirtual index, 3) := by rw [hdg, hlen]; rfl
    rcases hlk with ⟨rfl, hlk⟩ | ⟨rfl, hlk⟩
    · simp only [ev_sb] at hr
      split at hr
      · next a r1 =>
        split at hr
        · next ha =>
          cases hr
          subst ha
          have h9 : ev_cats r1 ≤ 8 := by
            have e2 : ev_cats (.int 8 :: r1) = 1 + ev_cats r1 := rfl
            omega
          refine es_callV (n := 0) (As := []) (rest := r1.map (ev_tv (ev_ad base ex))) _ _ hgood (es_length hes hgood) hS0 hXs hS (es_in hes 8 rfl) (es_in hes 6 rfl) (es_in hes 7 rfl) (es_in hes 1 rfl) hlk (by decide +kernel) rfl ⟨by omega, by omega⟩ hfit hsz ?_ ?_ (by rw [hcat]; exact h9) hdg3 K
          · show Value.ref (ev_ad base ex (ev_ext + 2)) :: r1.map (ev_tv (ev_ad base ex)) = _
            rw [es_ad2]; rfl
          · rfl
        · cases hr
      · cases hr
    · simp only [ev_sb] at hr
      split at hr
      · next i9 a r1 =>
        split at hr
        · next ha =>
          cases hr
          obtain ⟨ha, hi9⟩ := ha
          subst ha
          have h9 : ev_cats r1 ≤ 8 := by
            have e2 : ev_cats (.int (es_ch i9.toNatClampNeg) :: r1) = 1 + ev_cats r1 := rfl
            omega
          refine es_callV (n := 1) (As := [.int i9]) (rest := r1.map (ev_tv (ev_ad base ex))) _ _ hgood (es_charAt hes hgood hi9) hS0 hXs hS (es_in hes 16 rfl) (es_in hes 14 rfl) (es_in hes 15 rfl) (es_in hes 1 rfl) hlk (by decide +kernel) rfl ⟨by omega, by omega⟩ hfit hsz ?_ ?_ (by rw [hcat]; exact h9) hdg3 K
          · show Value.int i9 :: Value.ref (ev_ad base ex (ev_ext + 2)) :: r1.map (ev_tv (ev_ad base ex)) = _
            rw [es_ad2]; rfl
          · rfl
        · cases hr
      · cases hr
  · exact absurd hlk id
end EvS
