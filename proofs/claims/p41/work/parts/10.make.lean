/-! Steps that make cells, read and write fields, and load constants. -/
section EvE
variable {p : Program} {l : Launch} {e : Env} {R : Room} {s : State} {m : MethodId} {args : Array Value} {below : List Frame} {meth : Method} {c : Code} {Q : State → Prop} {D : va_G} {cl : List vw_C} {aC : Nat → ClassId} {base : Nat} {ex : Nat → Nat} {nL n0 s0 : Nat}
variable {cc : ByteArray} {V : ev_V} {dft : Nat → List Value} {pc : Nat} {ls : ev_L} {st : List Value} {h : ev_H} {r : ev_R} {z : Nat × Nat × Nat × Nat} {Ts : List Cond}
theorem ev_ad_1 {base : Nat} {ex : Nat → Nat} : ev_ad base ex (ev_ext + 1) = ex 1 := by
  unfold ev_ad
  rw [if_neg (by omega), Nat.add_sub_cancel_left]
theorem ev_alen (hx : p.tables.exec = Jvm.exec) (hb : c.code = cc) (hK : va_K D cl (ev_tys aC) s) (hX : va_X (ex 0) V.1 V.2 s s.heap) (hT : va_T (.object "java/lang/Object") (ex 1) 0 (fun _ => .null) (fun a : Nat => base ≤ a) s s.heap) (hX0 : ex 0 < base) (hX1 : base ≤ s.heap.size) (hdg : decode cc pc = .ok (.arraylength, 1)) (he : ev_s V dft (.arraylength, z) pc ls st h = some r) (kk : ev_Sim p l e R s m args below meth c Q D cl aC base ex nL n0 s0 r) : ev_Sim p l e R s m args below meth c Q D cl aC base ex nL n0 s0 (pc, ls, st, h) := by
  intro Ls H locs cells slots hl hn hh hS h1 h2
  simp only [ev_s] at he
  split at he
  · next a r2 =>
    split at he
    · next hq =>
      cases he
      subst hq
      have hA : ev_ad base ex ev_ext = ex 0 := by simp [ev_ad]
      show W p l e R s m args below meth c H locs cells slots Q (F0 m pc Ls (.ref (ev_ad base ex ev_ext) :: r2.map (ev_tv (ev_ad base ex))))
      rw [hA]
      exact va_slen hx hb hX (Nat.lt_of_lt_of_le hX0 hX1) (Nat.not_le.mpr hX0) hS hdg (kk Ls H locs cells slots hl hn hh hS h1 h2)
    · split at he
      · next hq =>
        cases he
        subst hq
        show W p l e R s m args below meth c H locs cells slots Q (F0 m pc Ls (.ref (ev_ad base ex (ev_ext + 1)) :: r2.map (ev_tv (ev_ad base ex))))
        rw [ev_ad_1]
        exact va_tlen hx hb hT hS rfl hdg (kk Ls H locs cells slots hl hn hh hS h1 h2)
      · split at he
        · next t n a2 hc =>
          split at he
          · next ht =>
            cases he
            have hw := ev_ws_at (ad := ev_ad base ex) (aC := aC) hc
            have hty : ∃ ty, (ev_tys aC)[t]? = some (aC t, ty) := by
              match t, ht with
              | 0, _ => exact ⟨_, rfl⟩
              | 1, _ => exact ⟨_, rfl⟩
              | 2, _ => exact ⟨_, rfl⟩
              | 3, _ => exact ⟨_, rfl⟩
              | 4, _ => exact ⟨_, rfl⟩
            obtain ⟨ty, hty⟩ := hty
            rcases a2 with f | f | f | f | f
            · exact va_alen hx hb hK hh.1 a t (x := (n, .inl f)) hw hty rfl hdg (kk Ls H locs cells slots hl hn hh hS h1 h2)
            · exact va_alen hx hb hK hh.1 a t (x := (n, .inr (.inl f))) hw hty rfl hdg (kk Ls H locs cells slots hl hn hh hS h1 h2)
            · exact va_alen hx hb hK hh.1 a t (x := (n, .inr (.inr (.inl f)))) hw hty rfl hdg (kk Ls H locs cells slots hl hn hh hS h1 h2)
            · exact va_alen hx hb hK hh.1 a t (x := (n, .inr (.inr (.inr (.inl f))))) hw hty rfl hdg (kk Ls H locs cells slots hl hn hh hS h1 h2)
            · exact va_alen hx hb hK hh.1 a t (x := (n, .inr (.inr (.inr (.inr (fun j => (f j).map (ev_ad base ex))))))) hw hty rfl hdg (kk Ls H locs cells slots hl hn hh hS h1 h2)
          · cases he
        · cases he
  · cases he
theorem ev_getfield (hx : p.tables.exec = Jvm.exec) (hb : c.code = cc) (hts : ∀ w ∈ Ts, w.before args s = true) (hK : va_K D cl (ev_tys aC) s) {own ref C : String} {T : u_T} {N index len x y w : Nat} (hown : s.vm.findClass own = some m.cls) (hc : cl[x]? = some (C, T, N)) (hin : ∀ w ∈ u_ws C T N, w ∈ Ts) (hk : y < N) (hlink : Cond.fieldLink own index ref (T y).2.1 (T y).2.2.1 ∈ Ts) (hsame : ∀ q, s.fieldFound? (T y).1 (T y).2.1 (T y).2.2.1 = some q → s.fieldFound? ref (T y).2.1 (T y).2.2.1 = some q) (hdg : decode cc pc = .ok (.getfield index, 3)) (he : ev_s V dft (.getfield index, len, x, y, w) pc ls st h = some r) (kk : ev_Sim p l e R s m args below meth c Q D cl aC base ex nL n0 s0 r) : ev_Sim p l e R s m args below meth c Q D cl aC base ex nL n0 s0 (pc, ls, st, h) := by
  intro Ls H locs cells slots hl hn hh hS h1 h2
  simp only [ev_s] at he
  split at he
  · next a r2 =>
    split at he
    · next ci fs hcell =>
      split at he
      · next hci =>
        split at he
        · next v hv =>
          cases he
          subst hci
          exact va_get hx hb hts hin hown hK hh.1 a (ev_ws_at hcell) hc y hk (hts _ hlink) hsame (by rw [List.getElem?_map, hv]; rfl) hdg (kk Ls H locs cells slots hl hn hh hS h1 h2)
        · cases he
      · cases he
    · cases he
  · cases he
theorem ev_getfieldN (hx : p.tables.exec = Jvm.exec) (hb : c.code = cc) (hts : ∀ w ∈ Ts, w.before args s = true) (hK : va_K D cl (ev_tys aC) s) {own ref host C : String} {T : u_T} {N index len x y w : Nat} (hown : s.vm.findClass own = some m.cls) (hc : cl[x]? = some (C, T, N)) (hin : ∀ w ∈ u_ws C T N, w ∈ Ts) (hk : y < N) (hlink : (Cond.fieldLinkNest own index ref (T y).2.1 (T y).2.2.1 host).before args s = true) (hsame : ∀ q, s.fieldFound? (T y).1 (T y).2.1 (T y).2.2.1 = some q → s.fieldFound? ref (T y).2.1 (T y).2.2.1 = some q) (hdg : decode cc pc = .ok (.getfield index, 3)) (he : ev_s V dft (.getfield index, len, x, y, w) pc ls st h = some r) (kk : ev_Sim p l e R s m args below meth c Q D cl aC base ex nL n0 s0 r) : ev_Sim p l e R s m args below meth c Q D cl aC base ex nL n0 s0 (pc, ls, st, h) := by
  intro Ls H locs cells slots hl hn hh hS h1 h2
  simp only [ev_s] at he
  split at he
  · next a r2 =>
    split at he
    · next ci fs hcell =>
      split at he
      · next hci =>
        split at he
        · next v hv =>
          cases he
          subst hci
          exact va_getN hx hb hts hin hown hK hh.1 a (ev_ws_at hcell) hc y hk hlink hsame (by rw [List.getElem?_map, hv]; rfl) hdg (kk Ls H locs cells slots hl hn hh hS h1 h2)
        · cases he
      · cases he
    · cases he
  · cases he
def ev_tyc (ty : FieldType) : Nat := match ty with
  | .int => 0
  | .long => 1
  | .object _ => 2
  | .array _ => 2
  | _ => 3
theorem ev_okf_fits {ad : Nat → Nat} {ty : FieldType} {v : Value} (h : ev_okf (ev_tyc ty) v = true) : fits ty (ev_tv ad v) = true ∧ narrow ty (ev_tv ad v) = ev_tv ad v := by
  cases ty <;> cases v <;> first | exact ⟨rfl, rfl⟩ | (exact absurd h (by simp [ev_okf, ev_tyc]))
theorem ev_putfield (hx : p.tables.exec = Jvm.exec) (hb : c.code = cc) (hbn : base + n0 = s.heap.size) (hts : ∀ w ∈ Ts, w.before args s = true) (hK : va_K D cl (ev_tys aC) s) {own ref C : String} {T : u_T} {N index len x y w : Nat} (ty0 : Nat → FieldType) (hty : ∀ k, k < N → parseFieldDescriptor (T k).2.2.1 = some (ty0 k)) (hnm : ∀ a, a < N → ∀ b, b < N → a ≠ b → (T a).2.1 ≠ (T b).2.1) (hown : s.vm.findClass own = some m.cls) (hc : cl[x]? = some (C, T, N)) (hin : ∀ w ∈ u_ws C T N, w ∈ Ts) (hk : y < N) (hlink : Cond.fieldLink own index ref (T y).2.1 (T y).2.2.1 ∈ Ts) (hsame : ∀ q, s.fieldFound? (T y).1 (T y).2.1 (T y).2.2.1 = some q → s.fieldFound? ref (T y).2.1 (T y).2.2.1 = some q) (hfin : (T y).2.2.2 = false ∨ (meth.name = "<init>" ∧ (T y).1 = own)) (hw : w % 4 = ev_tyc (ty0 y)) (hdg : decode cc pc = .ok (.putfield index, 3)) (he : ev_s V dft (.putfield index, len, x, y, w) pc ls st h = some r) (kk : ev_Sim p l e R s m args below meth c Q D cl aC base ex nL n0 s0 r) : ev_Sim p l e R s m args below meth c Q D cl aC base ex nL n0 s0 (pc, ls, st, h) := by
  intro Ls H locs cells slots hl hn hh hS h1 h2
  simp only [ev_s] at he
  split at he
  · next v a r2 =>
    split at he
    · next ci fs hcell =>
      split at he
      · next hci =>
        split at he
        · next hv =>
          cases he
          subst hci
          obtain ⟨hv1, hv2⟩ := hv
          rw [hw] at hv1
          obtain ⟨f1, f2⟩ := ev_okf_fits (ad := ev_ad base ex) hv1
          have e9 : ev_cv (ev_ad base ex) aC (.inr (ci, fs.set y v)) = (.inr (ci, (fs.map (ev_tv (ev_ad base ex))).set y (ev_tv (ev_ad base ex) v)) : va_E) := by
            show (.inr (ci, (fs.set y v).map (ev_tv (ev_ad base ex))) : va_E) = _
            rw [List.map_set]
          have fin : ∀ (H1 : Heap) (locs1 : List Loc), va_P D cl ((ev_ws (ev_ad base ex) aC h.1).set a (ev_ad base ex a, .inr (ci, (fs.map (ev_tv (ev_ad base ex))).set y (ev_tv (ev_ad base ex) v)))) H1 → va_S (fun a : Nat => base ≤ a) H H1 locs1 → W p l e R s m args below meth c H1 locs1 cells slots Q (F0 m (pc + 3) Ls (r2.map (ev_tv (ev_ad base ex)))) := by
            intro H1 locs1 hP1 hS1
            refine ev_sized fun hsz => ?_
            rw [← e9] at hP1
            have hd := ev_done (x := .inr (ci, fs.set y v)) hbn hh h1 hS1 hsz hP1
            exact kk Ls H1 locs1 cells slots hl hn hd (ev_S1 hS hS1) h1 h2
          rcases hf : (T y).2.2.2 with _ | _
          · exact va_put hx hb hts hin ty0 hty hnm hown hK hh.1 (ev_D hh.2.2.2) (ev_S0 hS) a (ev_ws_at hcell) hc y hk (hts _ hlink) hsame hf (hty y hk) f2 f1 (by rw [List.length_map]; exact hv2) hdg (fun H1 locs1 hP1 _ hS1 => fin H1 locs1 hP1 hS1)
          · obtain ⟨g1, g2⟩ := hfin.resolve_left (by rw [hf]; decide)
            exact va_putF hx hb hts hin ty0 hty hnm hown hK hh.1 (ev_D hh.2.2.2) (ev_S0 hS) a (ev_ws_at hcell) hc y hk (hts _ hlink) hsame hf g1 g2 (hty y hk) f2 f1 (by rw [List.length_map]; exact hv2) hdg (fun H1 locs1 hP1 _ hS1 => fin H1 locs1 hP1 hS1)
        · cases he
      · cases he
    · cases he
  · cases he
theorem ev_new (hx : p.tables.exec = Jvm.exec) (hb : c.code = cc) (hbn : base + n0 = s.heap.size) (hts : ∀ w ∈ Ts, w.before args s = true) (hK : va_K D cl (ev_tys aC) s) {own C : String} {T : u_T} {N index len x y w : Nat} (ty0 : Nat → FieldType) (hty : ∀ k, k < N → parseFieldDescriptor (T k).2.2.1 = some (ty0 k)) (hown : s.vm.findClass own = some m.cls) (hc : cl[x]? = some (C, T, N)) (hin : ∀ w ∈ u_ws C T N, w ∈ Ts) (hlink : Cond.classLink own index C ∈ Ts) (hinst : Cond.instantiable C N ∈ Ts) (hini : Cond.initialized C ∈ Ts) (hdf : (dft x).length = N ∧ ∀ j, j < N → defaultValue (ty0 j) = vp_V (dft x) j) (hdn : ∀ v ∈ dft x, ∀ a, v ≠ .ref a) (hdg : decode cc pc = .ok (.new index, 3)) (he : ev_s V dft (.new index, len, x, y, w) pc ls st h = some r) (hrc : r.2.2.2.2.1 ≤ R.cells + n0 ∧ r.2.2.2.2.1 ≤ ev_ext ∧ r.2.2.2.2.2 ≤ R.slots + s0) (kk : ev_Sim p l e R s m args below meth c Q D cl aC base ex nL n0 s0 r) : ev_Sim p l e R s m args below meth c Q D cl aC base ex nL n0 s0 (pc, ls, st, h) := by
  intro Ls H locs cells slots hl hn hh hS h1 h2
  simp only [ev_s] at he
  cases he
  obtain ⟨q1, q2, q3⟩ := hrc
  dsimp only [ev_push] at q1 q2 q3
  dsimp only at h1 h2 hh
  have e9 : ev_cv (ev_ad base ex) aC (.inr (x, dft x)) = (.inr (x, dft x) : va_E) := by
    show (.inr (x, (dft x).map (ev_tv (ev_ad base ex))) : va_E) = _
    rw [List.map_congr_left (g := id) (fun v hv => ?_), List.map_id]
    cases v with
    | ref a => exact absurd rfl (hdn _ hv a)
    | _ => rfl
  have hX1 : base ≤ s.heap.size := by omega
  refine va_new hx hb hts hin ty0 hty hown (hts _ hlink) (hts _ hinst) (hts _ hini) hK hh.1 (ev_D hh.2.2.2) (ev_S0 hS) (fun q hq => Nat.le_trans hX1 (Nat.le_trans hS.1 hq)) hc hdf.2 (by omega) (by rw [hdf.1] at q3; omega) hdg (fun q H1 hP1 hD1 hS1 => ev_sized fun hsz => ?_)
  rw [← e9] at hP1 hD1
  obtain ⟨hq, hd⟩ := ev_born (n := (dft x).length) hbn hh h1 (by omega) hS1 hsz hP1 hD1
  rw [hq]
  exact kk Ls H1 locs (cells + 1) (slots + N) hl hn hd (ev_S1 hS hS1) (by show cells + 1 + n0 = h.2.1 + 1; omega) (by show slots + N + s0 = h.2.2 + (dft x).length; rw [hdf.1]; omega)
theorem ev_newarray (hx : p.tables.exec = Jvm.exec) (hb : c.code = cc) (hbn : base + n0 = s.heap.size) (hts : ∀ w ∈ Ts, w.before args s = true) (hK : va_K D cl (ev_tys aC) s) {ty : ArrayType} (harr : Cond.arrayClass (newarray.typeOf ty) ∈ Ts) (hdg : decode cc pc = .ok (.newarray ty, 2)) (he : ev_s V dft (.newarray ty, z) pc ls st h = some r) (hrc : r.2.2.2.2.1 ≤ R.cells + n0 ∧ r.2.2.2.2.1 ≤ ev_ext ∧ r.2.2.2.2.2 ≤ R.slots + s0) (kk : ev_Sim p l e R s m args below meth c Q D cl aC base ex nL n0 s0 r) : ev_Sim p l e R s m args below meth c Q D cl aC base ex nL n0 s0 (pc, ls, st, h) := by
  intro Ls H locs cells slots hl hn hh hS h1 h2
  simp only [ev_s] at he
  have hX1 : base ≤ s.heap.size := by omega
  have key : ∀ (t n9 : Nat) (x9 : (Nat → Int32) ⊕ (Nat → Int64) ⊕ (Nat → UInt32) ⊕ (Nat → UInt64) ⊕ (Nat → Option Nat)) (n : Int32) (r2 : List Value), st = .int n :: r2 → ¬ n < 0 → ¬ 1000000 < n.toNatClampNeg → (ev_tys aC)[t]? = some (aC t, newarray.typeOf ty) → (∀ cA : ClassId, s.vm.findClass ("[" ++ (newarray.typeOf ty).toString) = some cA → aC t = cA) → (∀ cA : ClassId, vp_cell cA (n.toNatClampNeg, x9) = arrV cA n.toNatClampNeg (fun _ => defaultValue (newarray.typeOf ty))) → ev_cv (ev_ad base ex) aC (.inl (t, n.toNatClampNeg, x9)) = .inl (aC t, n.toNatClampNeg, x9) → componentBytes (newarray.typeOf ty) ≤ 8 → r = (pc + 2, ls, .ref h.2.1 :: r2, ev_push h (.inl (t, n.toNatClampNeg, x9)) n.toNatClampNeg) → W p l e R s m args below meth c H locs cells slots Q (F0 m pc Ls (st.map (ev_tv (ev_ad base ex)))) := by
    intro t n9 x9 n r2 hst g1 g2 g3 g4 g5 g6 g7 hr
    subst hst; subst hr
    obtain ⟨q1, q2, q3⟩ := hrc
    dsimp only [ev_push] at q1 q2 q3
    dsimp only at h1 h2 hh
    refine va_newa hx hb (hts _ harr) (ty := newarray.typeOf ty) (a0 := (n.toNatClampNeg, x9)) rfl hK hh.1 (ev_D hh.2.2.2) (ev_S0 hS) (fun q hq => Nat.le_trans hX1 (Nat.le_trans hS.1 hq)) g5 g1 rfl (Nat.le_trans (Nat.mul_le_mul (Nat.not_lt.mp g2) g7) (by decide)) (by omega) (by omega) hdg (fun q cA H1 hK1 hP1 hD1 hS1 => ev_sized fun hsz => ?_)
    have hcA : aC t = cA := by
      apply g4
      have := (hK1.2 (ev_tys aC).length (cA, newarray.typeOf ty) (by rw [List.getElem?_append_right (Nat.le_refl _), Nat.sub_self]; rfl)).2
      cases ty <;> exact this
    rw [← hcA, ← g6] at hP1 hD1
    obtain ⟨hq, hd⟩ := ev_born (n := n.toNatClampNeg) hbn hh h1 (by omega) hS1 hsz hP1 hD1
    rw [hq]
    exact kk Ls H1 locs (cells + 1) (slots + n.toNatClampNeg) hl hn hd (ev_S1 hS hS1) (by show cells + 1 + n0 = h.2.1 + 1; omega) (by show slots + n.toNatClampNeg + s0 = h.2.2 + n.toNatClampNeg; omega)
  split at he
  · next n r2 =>
    split at he
    · cases he
    · next g1 =>
      split at he
      · cases he
      · next g2 =>
        have hf : ∀ t : Nat, (ev_tys aC)[t]? = some (aC t, newarray.typeOf ty) → ∀ cA : ClassId, s.vm.findClass ("[" ++ (newarray.typeOf ty).toString) = some cA → aC t = cA := by
          intro t ht cA hcA
          have := (hK.2 t _ ht).2
          have h9 : s.vm.findClass ("[" ++ (newarray.typeOf ty).toString) = some (aC t) := by cases ty <;> exact this
          exact Option.some.inj (h9.symm.trans hcA)
        split at he
        · cases he
          exact key 0 0 (.inl (fun _ => 0)) n r2 rfl g1 g2 rfl (hf 0 rfl) (fun _ => rfl) rfl (by decide) rfl
        · cases he
          exact key 1 0 (.inr (.inl (fun _ => 0))) n r2 rfl g1 g2 rfl (hf 1 rfl) (fun _ => rfl) rfl (by decide) rfl
        · cases he
          exact key 2 0 (.inl (fun _ => 0)) n r2 rfl g1 g2 rfl (hf 2 rfl) (fun _ => rfl) rfl (by decide) rfl
        · cases he
  · cases he
theorem ev_anewarray (hx : p.tables.exec = Jvm.exec) (hb : c.code = cc) (hbn : base + n0 = s.heap.size) (hts : ∀ w ∈ Ts, w.before args s = true) (hK : va_K D cl (ev_tys aC) s) {own C : String} {index len x y w : Nat} (hown : s.vm.findClass own = some m.cls) (hlink : Cond.classLink own index C ∈ Ts) (hao : va_AO C s) (ht0 : ev_tyl[x]? = some (.object C)) (hdg : decode cc pc = .ok (.anewarray index, 3)) (he : ev_s V dft (.anewarray index, len, x, y, w) pc ls st h = some r) (hrc : r.2.2.2.2.1 ≤ R.cells + n0 ∧ r.2.2.2.2.1 ≤ ev_ext ∧ r.2.2.2.2.2 ≤ R.slots + s0) (kk : ev_Sim p l e R s m args below meth c Q D cl aC base ex nL n0 s0 r) : ev_Sim p l e R s m args below meth c Q D cl aC base ex nL n0 s0 (pc, ls, st, h) := by
  intro Ls H locs cells slots hl hn hh hS h1 h2
  simp only [ev_s] at he
  have hX1 : base ≤ s.heap.size := by omega
  split at he
  · next n r2 =>
    split at he
    · cases he
    · next g1 =>
      split at he
      · cases he
      · next g2 =>
        cases he
        obtain ⟨q1, q2, q3⟩ := hrc
        dsimp only [ev_push] at q1 q2 q3
        dsimp only at h1 h2 hh
        refine va_newq hx hb hown (hts _ hlink) hao hK hh.1 (ev_D hh.2.2.2) (ev_S0 hS) (fun q hq => Nat.le_trans hX1 (Nat.le_trans hS.1 hq)) g1 rfl (Nat.le_trans (Nat.mul_le_mul_right 4 (Nat.not_lt.mp g2)) (by decide)) (by omega) (by omega) hdg (fun q cA H1 hK1 hP1 hD1 hS1 => ev_sized fun hsz => ?_)
        have ht1 : (ev_tys aC)[x]? = some (aC x, .object C) := by simp [ev_tys, ht0]
        have hcA : aC x = cA := by
          obtain ⟨k1, c1, -, -, -, a1⟩ := (hK.2 x _ ht1).2
          obtain ⟨k2, c2, -, -, -, a2⟩ := (hK1.2 (ev_tys aC).length (cA, .object C) (by rw [List.getElem?_append_right (Nat.le_refl _), Nat.sub_self]; rfl)).2
          exact Option.some.inj (a1.symm.trans a2)
        have e9 : ev_cv (ev_ad base ex) aC (.inl (x, n.toNatClampNeg, .inr (.inr (.inr (.inr (fun _ => none)))))) = (.inl (aC x, n.toNatClampNeg, .inr (.inr (.inr (.inr (fun _ => none))))) : va_E) := rfl
        rw [← hcA, ← e9] at hP1 hD1
        obtain ⟨hq, hd⟩ := ev_born (n := n.toNatClampNeg) hbn hh h1 (by omega) hS1 hsz hP1 hD1
        rw [hq]
        exact kk Ls H1 locs (cells + 1) (slots + n.toNatClampNeg) hl hn hd (ev_S1 hS hS1) (by show cells + 1 + n0 = h.2.1 + 1; omega) (by show slots + n.toNatClampNeg + s0 = h.2.2 + n.toNatClampNeg; omega)
  · cases he
theorem ev_ldc (hx : p.tables.exec = Jvm.exec) (hb : c.code = cc) (hts : ∀ w ∈ Ts, w.before args s = true) {own : String} {index len x : Nat} {w : Nat × Nat} (hown : s.vm.findClass own = some m.cls) (hy : ¬ w.1 = 1) (hlink : Cond.constant own index (Int32.ofNat x) ∈ Ts) (hdg : decode cc pc = .ok (.ldc index, 2)) (he : ev_s V dft (.ldc index, len, x, w) pc ls st h = some r) (kk : ev_Sim p l e R s m args below meth c Q D cl aC base ex nL n0 s0 r) : ev_Sim p l e R s m args below meth c Q D cl aC base ex nL n0 s0 (pc, ls, st, h) := by
  intro Ls H locs cells slots hl hn hh hS h1 h2
  obtain ⟨y, z⟩ := w
  simp only [ev_s] at he
  rw [if_neg hy] at he
  cases he
  exact lv_ldc hx hb hown (hts _ hlink) hdg (kk Ls H locs cells slots hl hn hh hS h1 h2)
theorem ev_ldcT (hx : p.tables.exec = Jvm.exec) (hb : c.code = cc) {own tx : String} {index len x : Nat} {w : Nat × Nat} (hown : s.vm.findClass own = some m.cls) (hy : w.1 = 1) (hZ : vk_R own index tx (ex 2) s) (hdg : decode cc pc = .ok (.ldc index, 2)) (he : ev_s V dft (.ldc index, len, x, w) pc ls st h = some r) (kk : ev_Sim p l e R s m args below meth c Q D cl aC base ex nL n0 s0 r) : ev_Sim p l e R s m args below meth c Q D cl aC base ex nL n0 s0 (pc, ls, st, h) := by
  intro Ls H locs cells slots hl hn hh hS h1 h2
  obtain ⟨y, z⟩ := w
  simp only [ev_s] at he
  rw [if_pos hy] at he
  cases he
  refine va_ldcS hx hb hown hZ hdg ?_
  have K := kk Ls H locs cells slots hl hn hh hS h1 h2
  have e9 : ev_ad base ex (ev_ext + 2) = ex 2 := by
    unfold ev_ad
    rw [if_neg (by omega), Nat.add_sub_cancel_left]
  dsimp only [List.map, ev_tv] at K ⊢
  rw [e9] at K
  exact K
theorem ev_ldcw (hx : p.tables.exec = Jvm.exec) (hb : c.code = cc) (hts : ∀ w ∈ Ts, w.before args s = true) {own : String} {index len x : Nat} {w : Nat × Nat} (hown : s.vm.findClass own = some m.cls) (hlink : Cond.constant own index (Int32.ofNat x) ∈ Ts) (hdg : decode cc pc = .ok (.ldc_w index, 3)) (he : ev_s V dft (.ldc_w index, len, x, w) pc ls st h = some r) (kk : ev_Sim p l e R s m args below meth c Q D cl aC base ex nL n0 s0 r) : ev_Sim p l e R s m args below meth c Q D cl aC base ex nL n0 s0 (pc, ls, st, h) := by
  intro Ls H locs cells slots hl hn hh hS h1 h2
  simp only [ev_s] at he
  cases he
  exact lv_ldcw hx hb hown (hts _ hlink) hdg (kk Ls H locs cells slots hl hn hh hS h1 h2)
theorem ev_ldc2 (hx : p.tables.exec = Jvm.exec) (hb : c.code = cc) (hts : ∀ w ∈ Ts, w.before args s = true) {own : String} {index len x : Nat} {w : Nat × Nat} (hown : s.vm.findClass own = some m.cls) (hlink : Cond.constantLong own index (Int64.ofNat x) ∈ Ts) (hdg : decode cc pc = .ok (.ldc2_w index, 3)) (he : ev_s V dft (.ldc2_w index, len, x, w) pc ls st h = some r) (kk : ev_Sim p l e R s m args below meth c Q D cl aC base ex nL n0 s0 r) : ev_Sim p l e R s m args below meth c Q D cl aC base ex nL n0 s0 (pc, ls, st, h) := by
  intro Ls H locs cells slots hl hn hh hS h1 h2
  simp only [ev_s] at he
  cases he
  exact lv_ldc2 hx hb hown (hts _ hlink) hdg (kk Ls H locs cells slots hl hn hh hS h1 h2)
/-- a cell of a class is an object of it -/
theorem ev_recv (hK : va_K D cl (ev_tys aC) s) {H : Heap} (hh : ev_rel D cl aC base ex h H) {a ci : Nat} {fs : List Value} {C : String} {T : u_T} {N : Nat} (hc : cl[ci]? = some (C, T, N)) (ha : h.1[a]? = some (.inr (ci, fs))) : ∃ cell : Cell, H[ev_ad base ex a]? = some cell ∧ cell.vm.isStatics = false ∧ s.vm.findClass C = some cell.cls := by
  obtain ⟨r9, hr, cell, g1, g2, g3, -⟩ := hh.1 a _ (ev_ws_at ha)
  cases hr.symm.trans hc
  exact ⟨cell, g1, by rw [g3]; rfl, by rw [g2]; exact (hK.1 ci _ hc).2.1⟩
theorem ev_checkcast (hx : p.tables.exec = Jvm.exec) (hb : c.code = cc) (hts : ∀ w ∈ Ts, w.before args s = true) (hK : va_K D cl (ev_tys aC) s) {own C nm : String} {T : u_T} {N index len x : Nat} {w : Nat × Nat} (hown : s.vm.findClass own = some m.cls) (hlink : Cond.classLink own index nm ∈ Ts) (hc : cl[x]? = some (C, T, N)) (hca : va_Nw (.castable C nm) s) (hdg : decode cc pc = .ok (.checkcast index, 3)) (he : ev_s V dft (.checkcast index, len, x, w) pc ls st h = some r) (kk : ev_Sim p l e R s m args below meth c Q D cl aC base ex nL n0 s0 r) : ev_Sim p l e R s m args below meth c Q D cl aC base ex nL n0 s0 (pc, ls, st, h) := by
  intro Ls H locs cells slots hl hn hh hS h1 h2
  simp only [ev_s] at he
  split at he
  · next a r2 =>
    split at he
    · next hv =>
      cases he
      obtain ⟨fs, hfs⟩ := ev_isC_at hv
      exact va_castY hx hb hown (hts _ hlink) hca (ev_recv hK hh hc hfs) hdg (kk Ls H locs cells slots hl hn hh hS h1 h2)
    · cases he
  · cases he
theorem ev_null (hx : p.tables.exec = Jvm.exec) (hb : c.code = cc) (hdg : decode cc pc = .ok (.aconst_null, 1)) (he : ev_s V dft (.aconst_null, z) pc ls st h = some r) (kk : ev_Sim p l e R s m args below meth c Q D cl aC base ex nL n0 s0 r) : ev_Sim p l e R s m args below meth c Q D cl aC base ex nL n0 s0 (pc, ls, st, h) := by
  intro Ls H locs cells slots hl hn hh hS h1 h2
  simp only [ev_s] at he
  cases he
  exact lv_null hx hb hdg (kk Ls H locs cells slots hl hn hh hS h1 h2)
theorem ev_getst (hx : p.tables.exec = Jvm.exec) (hb : c.code = cc) (hts : ∀ w ∈ Ts, w.before args s = true) {own : String} {index len x : Nat} {w : Nat × Nat} (hown : s.vm.findClass own = some m.cls) (hZ : va_Z "java/util/ArrayList" "DEFAULTCAPACITY_EMPTY_ELEMENTDATA" "[Ljava/lang/Object;" (.ref (ex 1)) (fun a : Nat => base ≤ a) s s.heap) (hlink : Cond.fieldLink own index "java/util/ArrayList" "DEFAULTCAPACITY_EMPTY_ELEMENTDATA" "[Ljava/lang/Object;" ∈ Ts) (hdg : decode cc pc = .ok (.getstatic index, 3)) (he : ev_s V dft (.getstatic index, len, x, w) pc ls st h = some r) (kk : ev_Sim p l e R s m args below meth c Q D cl aC base ex nL n0 s0 r) : ev_Sim p l e R s m args below meth c Q D cl aC base ex nL n0 s0 (pc, ls, st, h) := by
  intro Ls H locs cells slots hl hn hh hS h1 h2
  simp only [ev_s] at he
  split at he
  · cases he
    have K := kk Ls H locs cells slots hl hn hh hS h1 h2
    refine va_gets hx hb hZ hS hown (hts _ hlink) (fun _ h9 => h9) hdg ?_
    rw [← ev_ad_1 (base := base) (ex := ex)]
    exact K
  · cases he
theorem ev_acmp (hx : p.tables.exec = Jvm.exec) (hb : c.code = cc) (hex : ∀ k, ex k < base) {cd : ClassFile.ACond} {off : Int} (hdg : decode cc pc = .ok (.if_acmp cd off, 3)) (he : ev_s V dft (.if_acmp cd off, z) pc ls st h = some r) (kk : ev_Sim p l e R s m args below meth c Q D cl aC base ex nL n0 s0 r) : ev_Sim p l e R s m args below meth c Q D cl aC base ex nL n0 s0 (pc, ls, st, h) := by
  intro Ls H locs cells slots hl hn hh hS h1 h2
  simp only [ev_s] at he
  split at he
  · next j i rr =>
    split at he
    · next hq =>
      obtain ⟨t, ht, e1⟩ := Option.map_eq_some_iff.mp he
      subst e1
      have K := kk Ls H locs cells slots hl hn hh hS h1 h2
      have hij : ev_ad base ex i = ev_ad base ex j ↔ i = j := by
        constructor
        · intro e1
          rcases hq with q | q | q
          · exact q
          · by_cases hj : j < ev_ext
            · rw [ev_ad_in q, ev_ad_in hj] at e1; exact Nat.add_left_cancel e1
            · rw [ev_ad_in q] at e1
              have := hex (j - ev_ext)
              unfold ev_ad at e1
              rw [if_neg hj] at e1
              omega
          · by_cases hi : i < ev_ext
            · rw [ev_ad_in q, ev_ad_in hi] at e1; exact Nat.add_left_cancel e1
            · rw [ev_ad_in q] at e1
              have := hex (i - ev_ext)
              unfold ev_ad at e1
              rw [if_neg hi] at e1
              omega
        · intro e1; rw [e1]
      show W p l e R s m args below meth c H locs cells slots Q (F0 m pc Ls (va_rf (some (ev_ad base ex j)) :: va_rf (some (ev_ad base ex i)) :: rr.map (ev_tv (ev_ad base ex))))
      cases cd with
      | eq => exact lv_acmp_eq hx hb hdg (ev_jmp_eq ht) (fun q => by simpa [ev_ac, hij.mp (Option.some.inj q)] using K) (fun q => by
          have : ¬ i = j := fun w => q (by rw [w])
          simpa [ev_ac, this] using K)
      | ne => exact lv_acmp_ne hx hb hdg (ev_jmp_eq ht) (fun q => by
          have : ¬ i = j := fun w => q (by rw [w])
          simpa [ev_ac, this] using K) (fun q => by simpa [ev_ac, hij.mp (Option.some.inj q)] using K)
    · cases he
  · cases he
theorem ev_dupx1 (hx : p.tables.exec = Jvm.exec) (hb : c.code = cc) (hdg : decode cc pc = .ok (.dup_x1, 1)) (he : ev_s V dft (.dup_x1, z) pc ls st h = some r) (kk : ev_Sim p l e R s m args below meth c Q D cl aC base ex nL n0 s0 r) : ev_Sim p l e R s m args below meth c Q D cl aC base ex nL n0 s0 (pc, ls, st, h) := by
  intro Ls H locs cells slots hl hn hh hS h1 h2
  simp only [ev_s] at he
  split at he
  · next v w r2 =>
    split at he
    · next hc => cases he; exact lv_dup_x1 hx hb hdg (by rw [ev_cat]; exact hc.1) (by rw [ev_cat]; exact hc.2) (kk Ls H locs cells slots hl hn hh hS h1 h2)
    · cases he
  · cases he
theorem ev_lushr (hx : p.tables.exec = Jvm.exec) (hb : c.code = cc) (hdg : decode cc pc = .ok (.lushr, 1)) (he : ev_s V dft (.lushr, z) pc ls st h = some r) (kk : ev_Sim p l e R s m args below meth c Q D cl aC base ex nL n0 s0 r) : ev_Sim p l e R s m args below meth c Q D cl aC base ex nL n0 s0 (pc, ls, st, h) := by
  intro Ls H locs cells slots hl hn hh hS h1 h2
  simp only [ev_s] at he
  obtain ⟨rr, hr, e1⟩ := Option.map_eq_some_iff.mp he
  subst e1
  unfold ev_li at hr
  split at hr
  · next y x r2 => cases hr; exact lv_lushr hx hb hdg rfl (kk Ls H locs cells slots hl hn hh hS h1 h2)
  · cases hr
theorem ev_l2i (hx : p.tables.exec = Jvm.exec) (hb : c.code = cc) (hdg : decode cc pc = .ok (.l2i, 1)) (he : ev_s V dft (.l2i, z) pc ls st h = some r) (kk : ev_Sim p l e R s m args below meth c Q D cl aC base ex nL n0 s0 r) : ev_Sim p l e R s m args below meth c Q D cl aC base ex nL n0 s0 (pc, ls, st, h) := by
  intro Ls H locs cells slots hl hn hh hS h1 h2
  simp only [ev_s] at he
  split at he
  · next x r2 => cases he; exact lv_l2i hx hb hdg rfl (kk Ls H locs cells slots hl hn hh hS h1 h2)
  · cases he
theorem ev_lsw (hx : p.tables.exec = Jvm.exec) (hb : c.code = cc) {dflt : Int} {ps : Array (Int × Int)} {len : Nat} (hdg : decode cc pc = .ok (.lookupswitch dflt ps, len)) (he : ev_s V dft (.lookupswitch dflt ps, z) pc ls st h = some r) (kk : ev_Sim p l e R s m args below meth c Q D cl aC base ex nL n0 s0 r) : ev_Sim p l e R s m args below meth c Q D cl aC base ex nL n0 s0 (pc, ls, st, h) := by
  intro Ls H locs cells slots hl hn hh hS h1 h2
  simp only [ev_s] at he
  split at he
  · next x rr =>
    split at he
    · next hp =>
      obtain ⟨t, ht, e1⟩ := Option.map_eq_some_iff.mp he
      subst e1
      exact lv_lookup hx hb hdg hp rfl (ev_jmp_eq ht) (kk Ls H locs cells slots hl hn hh hS h1 h2)
    · cases he
  · cases he
end EvE
