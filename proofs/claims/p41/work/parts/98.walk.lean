/-! The walk of the law, out of its walk over the evaluator. -/
theorem st_fr {s t : State} {o : Outcome} {L : List Loc} {k n : Nat} (h : FrameEnd s o t L k n) (hL : ∀ q ∈ L, s.heap.size ≤ q.base) (hk : k ≤ 749743) (hn : n ≤ 6852469) : Framed s o t [] 749743 6852469 := by
  obtain ⟨h1, h2, e1, e2, e3, e4, e5, e6⟩ := h
  refine ⟨h1, h2, e1, e2, Nat.le_trans e3 (by omega), e4, Nat.le_trans e5 hn, fun a c ha => ?_⟩
  obtain ⟨c', g1, g2, g3, g4⟩ := e6 a c ha
  refine ⟨c', g1, g2, g3, fun i _ => g4 i (fun hm => ?_)⟩
  exact absurd (hL _ hm) (Nat.not_le.mpr (Array.getElem?_eq_some_iff.mp ha).1)
theorem st_ad0 {base : Nat} {ex : Nat → Nat} : ev_ad base ex ev_ext = ex 0 := by simp [ev_ad]
theorem st_walk {p : Program} {e : Env} {s : State} {m : MethodId} {below : List Frame} {meth : Method} {c : Code} (l : Launch) (hflags : l.flags = flags0) {b L : Nat} {xs : Nat → Int32} (hL : L ≤ 260) (hx : p.tables.exec = Jvm.exec) (hb : c.code = code) (hr : meth.sig.returnType = ret) (hml : c.maxLocals = 29) (hown : s.vm.findClass "ThreewayleafLaw" = some m.cls) (hts : ∀ w ∈ lw_tbl, w.before #[Value.ref b] s = true) (hX : va_X b L xs s s.heap) (hbl : b < s.heap.size) (hlocks : meth.locks = false) (hgv : (Jvm.Cond.and given_1 narrow_1).before #[Value.ref b] s = true) (hname : meth.name = "law") (htab : c.exceptionTable.toList = []) :
    W p l e room_1 s m #[Value.ref b] below meth c s.heap [] 0 0 (fun t => ∃ o, t.status = .running ∧ Ended t below o ∧ o = .returned (some (.int 1)) ∧ Framed s o t [] 749743 6852469) (entryFrame m ([Value.ref b] : List Value).toArray 29) := by
  have hrun : En (L, xs) (0 + 9) 0 0 [some (.ref ev_ext), none, none, none, none, none, none, none, none, none, none, none, none, none, none, none, none, none, none, none, none, none, none, none, none, none, none, none, none] [] ([], 0, 0) (fun o h' => o = .inl (some (.int (iI 1))) ∧ h'.1.length ≤ 60000 ∧ h'.2.2 ≤ 600000 ∧ h'.2.1 = h'.1.length) := L_law (d := 0) (V := (L, xs)) hL (fun h' g1 g2 g3 => ⟨rfl, g1, g2, g3⟩)
  obtain ⟨o, h', he, ho, k4, k5, k6⟩ := hrun
  subst ho
  obtain ⟨n, hn⟩ := evL_of he
  obtain ⟨ex, hex0, hex, hR, hX0⟩ := st_X hts hgv hX hbl
  obtain ⟨D, aC, hG⟩ := st_G hts hgv s.heap.size ex (L, xs) hR
  have hl0 : l.stackTraces = false := by
    unfold Launch.stackTraces
    rw [hflags]
    rfl
  have c1 : h'.2.1 ≤ 60000 := by omega
  have K := eh_sim (l := l) (D := D) (aC := aC) (base := s.heap.size) (ex := ex) (V := (L, xs)) (dft := fx_dft) hl0 (fun w hw => (List.mem_filter.mp hw).2) st_bw hex mok_at mcw_at es_all n 9 0 0 _ _ _ _ _ mq_0 rfl hn p e room_1 s m #[.ref b] below meth c 0 0 h'.2.1 h'.2.2
    ⟨hx, hb, hml, hown, fun w hw => hts w (st_ts hw), hG, hX0, hr, hlocks, hname, htab, rfl, ⟨by decide, by decide⟩, Nat.le_trans c1 (by decide), Nat.le_trans k5 (by decide), rfl, rfl, Nat.le_trans c1 (by decide)⟩
  obtain ⟨e1, e2⟩ := ev_in_lr (ad := ev_ad s.heap.size ex) (n := 29) (vs := [.ref ev_ext]) (by decide)
  have hb0 : ([Value.ref ev_ext] : List Value).map (ev_tv (ev_ad s.heap.size ex)) = [Value.ref b] := by
    show [Value.ref (ev_ad s.heap.size ex ev_ext)] = _
    rw [st_ad0, hex0]
  rw [hb0] at e2
  have hrel : ev_rel D fx_kl aC s.heap.size ex ([], 0, 0) s.heap := ⟨fun k q hq => absurd (show ([] : List (Nat × va_E))[k]? = some q from hq) (by simp), rfl, rfl, (show 0 ≤ ev_ext from Nat.zero_le _)⟩
  rw [lg_entry_eq]
  have K := K _ s.heap [] 0 0 e2 rfl hrel va_S.rf rfl rfl
  intro T hT X
  obtain ⟨t, a1, o, b1, b2, b3⟩ := K T hT X
  refine ⟨t, a1, o, b1, b2, ?_⟩
  rcases b3 with ⟨⟨⟨v, q1, q2⟩, -, -⟩, Lc, hfe, hfr⟩ | ⟨q, -, E, hq⟩
  · have q1 : (Sum.inl (some (Value.int (iI 1))) : ev_O) = .inl v := q1
    cases q1
    exact ⟨q2, st_fr hfe hfr (Nat.le_trans c1 (by decide)) (Nat.le_trans k5 (by decide))⟩
  · obtain ⟨ce, Lc, ⟨⟨k9, T9, N9, q1, -⟩, -⟩, -⟩ := hq
    exact absurd (show (Sum.inl (some (Value.int (iI 1))) : ev_O) = .inr k9 from q1) (fun h => by cases h)
