/-! What a place in the code must have for a step: words of the tables. -/
def ev_len (i : Instr) : Nat := match i with
  | .iload _ | .lload _ | .aload _ | .istore _ | .lstore _ | .astore _ | .bipush _ | .ldc _ | .newarray _ => 2
  | .sipush _ | .iinc _ _ | .goto _ | .ifCond _ _ | .if_icmp _ _ | .if_acmp _ _ | .getfield _ | .putfield _ | .new _ | .ldc_w _ | .ldc2_w _ | .checkcast _ | .anewarray _ | .invokevirtual _ | .invokespecial _ | .invokestatic _ | .getstatic _ => 3
  | _ => 1
def ev_isw (i : Instr) : Bool := match i with
  | .tableswitch _ _ _ _ => true
  | .lookupswitch _ _ => true
  | _ => false
def ev_fld (Ts Bs : List Cond) (own ref : String) (index : Nat) (T : u_T) (y : Nat) : Prop :=
  (Cond.fieldLink own index ref (T y).2.1 (T y).2.2.1 ∈ Ts ∨ ∃ host, Cond.fieldLinkNest own index ref (T y).2.1 (T y).2.2.1 host ∈ Bs) ∧ (ref = (T y).1 ∨ Cond.sameField ref (T y).1 (T y).2.1 (T y).2.2.1 ∈ Ts)
def ev_site (cl : List vw_C) (Ts Bs : List Cond) (dft : Nat → List Value) (own mname : String) (I : ev_I) : Prop := match I with
  | (.getfield index, _, x, y, _) => ∃ C T N ref, cl[x]? = some (C, T, N) ∧ (∀ w ∈ u_ws C T N, w ∈ Ts) ∧ y < N ∧ ev_fld Ts Bs own ref index T y
  | (.putfield index, _, x, y, z) => ∃ C T N ref, ∃ ty0 : Nat → FieldType, cl[x]? = some (C, T, N) ∧ (∀ w ∈ u_ws C T N, w ∈ Ts) ∧ y < N ∧ Cond.fieldLink own index ref (T y).2.1 (T y).2.2.1 ∈ Ts ∧ (ref = (T y).1 ∨ Cond.sameField ref (T y).1 (T y).2.1 (T y).2.2.1 ∈ Ts) ∧ (∀ k, k < N → parseFieldDescriptor (T k).2.2.1 = some (ty0 k)) ∧ (∀ a, a < N → ∀ b, b < N → a ≠ b → (T a).2.1 ≠ (T b).2.1) ∧ ((T y).2.2.2 = false ∨ (mname = "<init>" ∧ (T y).1 = own)) ∧ z % 4 = ev_tyc (ty0 y)
  | (.new index, _, x, _) => ∃ C T N, ∃ ty0 : Nat → FieldType, cl[x]? = some (C, T, N) ∧ (∀ w ∈ u_ws C T N, w ∈ Ts) ∧ (∀ k, k < N → parseFieldDescriptor (T k).2.2.1 = some (ty0 k)) ∧ Cond.classLink own index C ∈ Ts ∧ Cond.instantiable C N ∈ Ts ∧ Cond.initialized C ∈ Ts ∧ ((dft x).length = N ∧ ∀ j, j < N → defaultValue (ty0 j) = vp_V (dft x) j) ∧ ∀ v ∈ dft x, ∀ a, v ≠ .ref a
  | (.newarray ty, _) => Cond.arrayClass (newarray.typeOf ty) ∈ Ts
  | (.anewarray index, _, x, _) => ∃ C, ev_tyl[x]? = some (.object C) ∧ Cond.classLink own index C ∈ Ts ∧ (C = "Threewayleaf$State" ∨ C = "java/lang/Object")
  | (.aaload, _, x, _) => ∃ C, ev_tyl[x]? = some (.object C)
  | (.aastore, _, x, y, _) => ∃ C rc, ev_tyl[x]? = some (.object C) ∧ cl[y]? = some rc ∧ Cond.castable rc.1 C ∈ Bs
  | (.checkcast index, _, x, _) => ∃ C T N nm, cl[x]? = some (C, T, N) ∧ Cond.classLink own index nm ∈ Ts ∧ Cond.castable C nm ∈ Bs
  | (.getstatic index, _) => Cond.fieldLink own index "java/util/ArrayList" "DEFAULTCAPACITY_EMPTY_ELEMENTDATA" "[Ljava/lang/Object;" ∈ Ts
  | (.ldc index, _, x, y, _) => if y = 1 then (own = es_T.1 ∧ index = es_T.2.1) else Cond.constant own index (Int32.ofNat x) ∈ Ts
  | (.ldc_w index, _, x, _) => Cond.constant own index (Int32.ofNat x) ∈ Ts
  | (.ldc2_w index, _, x, _) => Cond.constantLong own index (Int64.ofNat x) ∈ Ts
  | _ => True
def ev_bw (w : Cond) : Bool := match w with
  | .castable _ _ | .declares _ | .methodLinkNest _ _ _ _ | .fieldLinkNest _ _ _ _ _ _ => true
  | _ => false
/-- the text of Script, and what its calls look at -/
def es_X (base : Nat) (ex : Nat → Nat) (U : State) (H : Heap) : Prop :=
  vk_S 1 [8] [es_by] (fun _ => ex 2) (fun _ => ex 3) (fun a : Nat => base ≤ a) U H ∧ va_Z "java/lang/String" "COMPACT_STRINGS" "Z" (.int 1) (fun a : Nat => base ≤ a) U H ∧ va_Zq "jdk/internal/util/Preconditions" "SIOOBE_FORMATTER" "Ljava/util/function/BiFunction;" (fun a : Nat => base ≤ a) U H
/-- what was there before the objects that the evaluator knows -/
def ev_X (base : Nat) (ex : Nat → Nat) (V : ev_V) (U : State) (H : Heap) : Prop :=
  va_X (ex 0) V.1 V.2 U H ∧ vx_Zq Bundle.tN "UNASSIGNED_STACK" Bundle.steD (fun a : Nat => base ≤ a) U H ∧ vx_Zq Bundle.tN "SUPPRESSED_SENTINEL" Bundle.listD (fun a : Nat => base ≤ a) U H ∧ va_Z "java/util/ArrayList" "DEFAULTCAPACITY_EMPTY_ELEMENTDATA" "[Ljava/lang/Object;" (.ref (ex 1)) (fun a : Nat => base ≤ a) U H ∧ va_T (.object "java/lang/Object") (ex 1) 0 (fun _ => .null) (fun a : Nat => base ≤ a) U H ∧ es_X base ex U H
/-- what a frame's state has beside the words of the tables -/
def ev_G (D : va_G) (cl : List vw_C) (aC : Nat → ClassId) (base : Nat) (ex : Nat → Nat) (V : ev_V) (Bs : List Cond) (Ss : List (String × Nat × String)) (U : State) : Prop :=
  (∀ w ∈ Bs, va_Nw w U) ∧ (∀ q ∈ Ss, ∃ sa, vk_R q.1 q.2.1 q.2.2 sa U) ∧ va_K D cl (ev_tys aC) U ∧ va_AO "Threewayleaf$State" U ∧ va_AO "java/lang/Object" U ∧ vk_R es_T.1 es_T.2.1 es_T.2.2 (ex 2) U
section EvF
variable {p : Program} {l : Launch} {e : Env} {R : Room} {s : State} {m : MethodId} {args : Array Value} {below : List Frame} {meth : Method} {c : Code} {Q : State → Prop} {D : va_G} {cl : List vw_C} {aC : Nat → ClassId} {base : Nat} {ex : Nat → Nat} {nL n0 s0 : Nat}
variable {cc : ByteArray} {V : ev_V} {dft : Nat → List Value} {pc : Nat} {ls : ev_L} {st : List Value} {h : ev_H} {r : ev_R} {Ts Bs : List Cond} {Ss : List (String × Nat × String)}
theorem ev_step_sim (hx : p.tables.exec = Jvm.exec) (hb : c.code = cc) (hbn : base + n0 = s.heap.size) (hex : ∀ k, ex k < base) (hts : ∀ w ∈ Ts, w.before args s = true) (hbw : ∀ w ∈ Bs, ev_bw w = true) (hG : ev_G D cl aC base ex V Bs Ss s) (hX : ev_X base ex V s s.heap) {own : String} (hown : s.vm.findClass own = some m.cls) {i : Instr} {len x y z : Nat} (hdg : decode cc pc = .ok (i, len)) (hlen : len = ev_len i ∨ ev_isw i = true) (hs : ev_site cl Ts Bs dft own meth.name (i, len, x, y, z)) (he : ev_s V dft (i, len, x, y, z) pc ls st h = some r) (hrc : r.2.2.2.2.1 ≤ R.cells + n0 ∧ r.2.2.2.2.1 ≤ ev_ext ∧ r.2.2.2.2.2 ≤ R.slots + s0) (kk : ev_Sim p l e R s m args below meth c Q D cl aC base ex nL n0 s0 r) : ev_Sim p l e R s m args below meth c Q D cl aC base ex nL n0 s0 (pc, ls, st, h) := by
  obtain ⟨hB, hSs, hK, hA3, hA4, hA5⟩ := hG
  have hX0 := hex 0
  have hX1 : base ≤ s.heap.size := by omega
  have hsm : ∀ {T : u_T} {y : Nat} {ref : String}, (ref = (T y).1 ∨ Cond.sameField ref (T y).1 (T y).2.1 (T y).2.2.1 ∈ Ts) → ∀ q, s.fieldFound? (T y).1 (T y).2.1 (T y).2.2.1 = some q → s.fieldFound? ref (T y).2.1 (T y).2.2.1 = some q := by
    intro T y ref h9 q hq
    rcases h9 with h9 | h9
    · rw [h9]; exact hq
    · exact u_same (hts _ h9) q hq
  cases i with
  | tableswitch dflt lo hi offs => exact ev_tsw hx hb hdg he kk
  | lookupswitch dflt ps => exact ev_lsw hx hb hdg he kk
  | _ =>
    have hlen := hlen.resolve_right (by simp [ev_isw])
    subst hlen
    first
      | (simp only [ev_s] at he; cases he; done)
      | exact ev_iload_n hx hb hdg he kk
      | exact ev_iload hx hb hdg he kk
      | exact ev_lload_n hx hb hdg he kk
      | exact ev_lload hx hb hdg he kk
      | exact ev_aload_n hx hb hdg he kk
      | exact ev_aload hx hb hdg he kk
      | exact ev_istore_n hx hb hdg he kk
      | exact ev_istore hx hb hdg he kk
      | exact ev_lstore_n hx hb hdg he kk
      | exact ev_lstore hx hb hdg he kk
      | exact ev_astore_n hx hb hdg he kk
      | exact ev_astore hx hb hdg he kk
      | exact ev_iinc hx hb hdg he kk
      | exact ev_goto hx hb hdg he kk
      | exact ev_ifCond hx hb hdg he kk
      | exact ev_if_icmp hx hb hdg he kk
      | exact ev_iadd hx hb hdg he kk
      | exact ev_isub hx hb hdg he kk
      | exact ev_imul hx hb hdg he kk
      | exact ev_iand hx hb hdg he kk
      | exact ev_ior hx hb hdg he kk
      | exact ev_ishl hx hb hdg he kk
      | exact ev_ishr hx hb hdg he kk
      | exact ev_ladd hx hb hdg he kk
      | exact ev_lsub hx hb hdg he kk
      | exact ev_lmul hx hb hdg he kk
      | exact ev_land hx hb hdg he kk
      | exact ev_lor hx hb hdg he kk
      | exact ev_lxor hx hb hdg he kk
      | exact ev_lshl hx hb hdg he kk
      | exact ev_lshr hx hb hdg he kk
      | exact ev_idiv hx hb hdg he kk
      | exact ev_irem hx hb hdg he kk
      | exact ev_ineg hx hb hdg he kk
      | exact ev_lcmp hx hb hdg he kk
      | exact ev_i2l hx hb hdg he kk
      | exact ev_i2c hx hb hdg he kk
      | exact ev_iconst hx hb hdg he kk
      | exact ev_bipush hx hb hdg he kk
      | exact ev_sipush hx hb hdg he kk
      | exact ev_lconst hx hb hdg he kk
      | exact ev_dup hx hb hdg he kk
      | exact ev_dup2 hx hb hdg he kk
      | exact ev_pop hx hb hdg he kk
      | exact ev_iaload hx hb hK hX.1 hX0 hX1 hdg he kk
      | exact ev_baload hx hb hK hdg he kk
      | exact ev_laload hx hb hK hdg he kk
      | exact ev_iastore hx hb hbn hK hdg he kk
      | exact ev_bastore hx hb hbn hK hdg he kk
      | exact ev_lastore hx hb hbn hK hdg he kk
      | exact ev_alen hx hb hK hX.1 hX.2.2.2.2.1 hX0 hX1 hdg he kk
      | (obtain ⟨C, hC⟩ := hs; exact ev_aaload hx hb hK hC hdg he kk)
      | (obtain ⟨C, rc, h1, h2, h3⟩ := hs; exact ev_aastore hx hb hbn hK h1 h2 (hB _ h3) hdg he kk)
      | exact ev_newarray hx hb hbn hts hK hs hdg he hrc kk
      | (obtain ⟨C, h1, h2, h3⟩ := hs
         exact ev_anewarray hx hb hbn hts hK hown h2 (by rcases h3 with h3 | h3 <;> (rw [h3]; assumption)) h1 hdg he hrc kk)
      | (obtain ⟨C, T, N, ref, h1, h2, h3, h4, h5⟩ := hs
         rcases h4 with h4 | ⟨host, h4⟩
         · exact ev_getfield hx hb hts hK hown h1 h2 h3 h4 (hsm h5) hdg he kk
         · exact ev_getfieldN hx hb hts hK hown h1 h2 h3 (va_Nw.use rfl (hB _ h4)) (hsm h5) hdg he kk)
      | (obtain ⟨C, T, N, ref, ty0, h1, h2, h3, h4, h5, h6, h7, h8, h9⟩ := hs
         exact ev_putfield hx hb hbn hts hK ty0 h6 h7 hown h1 h2 h3 h4 (hsm h5) h8 h9 hdg he kk)
      | (obtain ⟨C, T, N, ty0, h1, h2, h3, h4, h5, h6, h7, h8⟩ := hs
         exact ev_new hx hb hbn hts hK ty0 h3 hown h1 h2 h4 h5 h6 h7 h8 hdg he hrc kk)
      | exact ev_null hx hb hdg he kk
      | exact ev_getst hx hb hts hown hX.2.2.2.1 hs hdg he kk
      | exact ev_acmp hx hb hex hdg he kk
      | exact ev_dupx1 hx hb hdg he kk
      | exact ev_lushr hx hb hdg he kk
      | exact ev_l2i hx hb hdg he kk
      | (have hs9 : (if y = 1 then (own = es_T.1 ∧ _ = es_T.2.1) else Cond.constant own _ (Int32.ofNat x) ∈ Ts) := hs
         by_cases hy : y = 1
         · rw [if_pos hy] at hs9
           obtain ⟨h1, h2⟩ := hs9
           subst h1 h2
           exact ev_ldcT hx hb hown hy hA5 hdg he kk
         · rw [if_neg hy] at hs9
           exact ev_ldc hx hb hts hown hy hs9 hdg he kk)
      | exact ev_ldcw hx hb hts hown hs hdg he kk
      | exact ev_ldc2 hx hb hts hown hs hdg he kk
      | (obtain ⟨C, T, N, nm, h1, h2, h3⟩ := hs
         exact ev_checkcast hx hb hts hK hown h2 h1 (hB _ h3) hdg he kk)
end EvF
