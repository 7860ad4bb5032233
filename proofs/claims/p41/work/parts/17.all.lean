/-! ends, throws, and all together -/
theorem ev_nar_of {ret : Option FieldType} {v : Int32} (h : ev_nar ret v = true) : ∃ ty, ret = some ty ∧ narrow ty (.int v) = .int v := by
  unfold ev_nar at h
  split at h
  · exact ⟨_, rfl, rfl⟩
  · refine ⟨_, rfl, ?_⟩
    simp only [Bool.or_eq_true, beq_iff_eq] at h
    rcases h with h | h <;> (subst h; rfl)
  · refine ⟨_, rfl, ?_⟩
    simp only [Bool.and_eq_true, decide_eq_true_eq] at h
    obtain ⟨j, hj, e⟩ := nI_of2 (x := v) (M := 65535) (n := 65535) (by decide) (by
      have := h.1
      simp only [Int32.le_iff_toInt_le, Int32.lt_iff_toInt_lt] at *
      omega) h.2
    rw [e]
    exact (pk_charN (by omega)).1
  · cases h
theorem ev_isr_of {ret : Option FieldType} (h : ev_isr ret = true) : ∃ rt, ret = some rt ∧ ((∃ n, rt = .object n) ∨ ∃ t, rt = .array t) := by
  unfold ev_isr at h
  split at h
  · exact ⟨_, rfl, Or.inl ⟨_, rfl⟩⟩
  · exact ⟨_, rfl, Or.inr ⟨_, rfl⟩⟩
  · cases h
theorem ev_bw_tab {w : Cond} (h : ev_bw w = true) : w.onTables = true := by
  cases w <;> first | rfl | (simp [ev_bw] at h; done)
theorem ev_cats_tv (ad : Nat → Nat) (st : List Value) : ((st.map (ev_tv ad)).map fun v => v.category).sum = ev_cats st := by
  rw [List.map_map]
  have e1 : ((fun v : Value => v.category) ∘ ev_tv ad) = fun v => v.category := by funext v; exact ev_cat _ v
  rw [e1]; rfl
section EvJ
variable {l : Launch} {D : va_G} {cl : List vw_C} {aC : Nat → ClassId} {base : Nat} {ex : Nat → Nat} {V : ev_V} {Ts Bs : List Cond} {Ss : List (String × Nat × String)} {dft : Nat → List Value} {mt : List ev_Q} {f : ev_F}
theorem ev_ret_sim {d mi pc len : Nat} {i : Instr} {ls : ev_L} {st : List Value} {h : ev_H} {v : Option Value} {q : ev_Q} (he : ev_ret i q.2.2.2.1 st = some v) (hdg : decode q.2.1 pc = .ok (i, len)) (hlen : len = ev_len i)
    {p : Program} {e : Env} {R : Room} {s : State} {m : MethodId} {args : Array Value} {below : List Frame} {meth : Method} {c : Code} {n0 s0 mc ms : Nat} (hFr : ev_Fr p R s m args meth c D cl aC base ex V Ts Bs Ss q d n0 s0 mc ms h) :
    ev_Sim p l e R s m args below meth c (vx_MQ below (ev_Qc D cl aC base ex (.inl v) h) (ev_XC D cl aC base ex (.inl v) h) args s mc ms (fun a : Nat => base ≤ a)) D cl aC base ex q.2.2.1 n0 s0 (pc, ls, st, h) := by
  intro Ls H locs cells slots hl hn hh hS h1c h2c
  dsimp only at hl hn hh h1c h2c ⊢
  obtain ⟨hx, hb, hml, hown, hts, hG, hX, hret, hlocks, hname, htab, hbn, hroom, g1, g2, g3, g4, g5⟩ := hFr
  have hcm : cells = mc := by omega
  have hsm : slots = ms := by omega
  subst hcm; subst hsm
  have fin : ∀ (v : Option Value) (t : State), t.heap = H → ev_Qc D cl aC base ex (.inl v) h args s (.returned (v.map (ev_tv (ev_ad base ex)))) t := fun v t ht => ⟨⟨v, rfl, rfl⟩, by rw [ht]; exact hh, hS.F ht⟩
  unfold ev_ret at he
  split at he
  · split at he
    · next w =>
      split at he
      · next hw =>
        cases he
        obtain ⟨ty, e1, e2⟩ := ev_nar_of hw
        exact vx_ret (W.zret hx hb (hret.trans e1) e2 (fun t ht _ => fin _ t ht) hS.2.2 (by rw [hdg, hlen]; rfl) hlocks)
      · cases he
    · cases he
  · split at he
    · next w =>
      split at he
      · next hw =>
        cases he
        exact vx_ret (W.lret hx hb (hret.trans hw) (fun t ht _ => fin _ t ht) hS.2.2 (by rw [hdg, hlen]; rfl) hlocks)
      · cases he
    · cases he
  · split at he
    · next w =>
      split at he
      · next hw =>
        cases he
        obtain ⟨rt, e1, e2⟩ := ev_isr_of hw
        exact vx_ret (W.aret hx hb (hret.trans e1) e2 (Or.inr ⟨_, rfl⟩) (fun t ht _ => fin (some (.ref w)) t ht) hS.2.2 (by rw [hdg, hlen]; rfl) hlocks)
      · cases he
    · cases he
  · split at he
    · split at he
      · next hw =>
        cases he
        exact vx_ret (W.vret hx hb (hret.trans hw) (fun t ht _ => fin none t ht) hS.2.2 (by rw [hdg, hlen]; rfl) hlocks)
      · cases he
    · cases he
  · cases he
theorem ev_throw_sim (hl0 : l.stackTraces = false) (hbw : ∀ w ∈ Bs, ev_bw w = true) {d mi pc : Nat} {I : ev_I} {ls : ev_L} {st : List Value} {h : ev_H} {q : ev_Q} (hdg : decode q.2.1 pc = .ok (I.1, I.2.1)) (hlen : I.2.1 = ev_len I.1) (hc8 : ev_cats st ≤ 8) (hthr : ev_thr cl Ts Bs Ss q.1.cls q.2.1 pc I)
    {p : Program} {e : Env} {R : Room} {s : State} {m : MethodId} {args : Array Value} {below : List Frame} {meth : Method} {c : Code} {n0 s0 mc ms : Nat} (hFr : ev_Fr p R s m args meth c D cl aC base ex V Ts Bs Ss q d n0 s0 mc ms (ev_push h (.inr (I.2.2.1, [])) 6)) :
    ev_Sim p l e R s m args below meth c (vx_MQ below (ev_Qc D cl aC base ex (.inr I.2.2.1) (ev_push h (.inr (I.2.2.1, [])) 6)) (ev_XC D cl aC base ex (.inr I.2.2.1) (ev_push h (.inr (I.2.2.1, [])) 6)) args s mc ms (fun a : Nat => base ≤ a)) D cl aC base ex q.2.2.1 n0 s0 (pc, ls, st, h) := by
  intro Ls H locs cells slots hl hn hh hS h1c h2c
  dsimp only at hl hn hh h1c h2c ⊢
  obtain ⟨hx, hb, hml, hown, hts, hG, hX, hret, hlocks, hname, htab, hbn, hroom, g1, g2, g3, g4, g5⟩ := hFr
  dsimp only [ev_push] at g3 g4 g5
  obtain ⟨cls, T0, text, is, ic, ik, names, t1, t2, t3, t4, t5, t6, t7, t8, t9, t10, t11, t12⟩ := hthr
  have hX1 : base ≤ s.heap.size := by omega
  obtain ⟨sa, hsa⟩ := hG.2.1 _ t7
  have hat : ∀ w ∈ vx_atS q.1.cls ic cls names, w.before args s = true := fun w hw => (t11 w hw).elim (hts w) (fun hB => va_Nw.use (ev_bw_tab (hbw w hB)) (hG.1 w hB))
  have d0 : decode q.2.1 pc = .ok (.new ik, 3) := by rw [hdg, hlen, t2]; rfl
  have hsz : Ls.size = c.maxLocals := by rw [hml, ← hn]; exact hl.1
  have hA : ∀ a : Nat, s.heap.size ≤ a → (fun a : Nat => base ≤ a) a := fun a ha => Nat.le_trans hX1 ha
  have hcat := ev_cats_tv (ev_ad base ex) st
  have fin : ∀ (pc9 : Nat) (a : Nat) (H1 : Heap), decode q.2.1 pc9 = .ok (.athrow, 1) → va_P D cl (ev_ws (ev_ad base ex) aC h.1 ++ [(a, .inr (I.2.2.1, []))]) H1 → va_D (fun a : Nat => base ≤ a) (ev_ws (ev_ad base ex) aC h.1 ++ [(a, .inr (I.2.2.1, []))]) → va_S (fun a : Nat => base ≤ a) s.heap H1 locs → W p l e R s m args below meth c H1 locs (cells + 1) (slots + 6) (vx_MQ below (ev_Qc D cl aC base ex (.inr I.2.2.1) (ev_push h (.inr (I.2.2.1, [])) 6)) (ev_XC D cl aC base ex (.inr I.2.2.1) (ev_push h (.inr (I.2.2.1, [])) 6)) args s mc ms (fun a : Nat => base ≤ a)) (F0 m pc9 Ls (.ref a :: st.map (ev_tv (ev_ad base ex)))) := by
    intro pc9 a H1 d9 hP1 hD1 hS1
    refine ev_sized fun hsz1 => ?_
    have hlast : (ev_ws (ev_ad base ex) aC h.1 ++ [(a, (.inr (I.2.2.1, []) : va_E))])[(ev_ws (ev_ad base ex) aC h.1).length]? = some (a, .inr (I.2.2.1, [])) := by
      rw [List.getElem?_append_right (Nat.le_refl _), Nat.sub_self]; rfl
    obtain ⟨r9, hr9, cell, f1, f2, f3, -⟩ := hP1 _ _ hlast
    cases hr9.symm.trans t1
    have hle2 : H.size ≤ H1.size := by
      have q2 := hh.2.1
      have q3 := hh.2.2.1
      have hlen9 : (ev_ws (ev_ad base ex) aC h.1).length = h.1.length := by simp [ev_ws]
      rcases Nat.eq_zero_or_pos h.1.length with w | w
      · have := hS1.1
        omega
      · have hj : h.1.length - 1 < h.1.length := by omega
        have e1 : (ev_ws (ev_ad base ex) aC h.1 ++ [(a, (.inr (I.2.2.1, []) : va_E))])[h.1.length - 1]? = some (ev_ad base ex (h.1.length - 1), ev_cv (ev_ad base ex) aC h.1[h.1.length - 1]) := by
          rw [List.getElem?_append_left (by omega)]
          exact ev_ws_at (List.getElem?_eq_getElem hj)
        have e2 := (hP1 _ _ e1).lt
        have e3 : ev_ad base ex (h.1.length - 1) = base + (h.1.length - 1) := ev_ad_in (by have := hh.2.2.2; omega)
        dsimp only at e2
        rw [e3] at e2
        omega
    have hS9 : va_S (fun a : Nat => base ≤ a) H H1 [] := by
      refine ⟨hle2, fun q hq hna => ?_, fun z hz => nomatch hz⟩
      have hqb : q < base := Nat.not_le.mp hna
      rw [hS1.2.1 q (by omega) hna, hS.2.1 q (by omega) hna]
    have hext : h.2.1 < ev_ext := by omega
    obtain ⟨hq, hd⟩ := ev_born (x := .inr (I.2.2.1, [])) (n := 6) (locs1 := []) hbn hh h1c hext hS9 (by omega) hP1 hD1
    refine vx_athrow hx hb d9 ?_
    exact vx_out (fun x hx => absurd (htab x hx) id) hlocks f1 f3 (by rw [f2]; exact (hG.2.2.1.1 _ _ t1).2.1) (fun t ht _ => ⟨⟨_, T0, 0, rfl, t1⟩, by rw [ht]; exact hd, hS1.F ht⟩) hS1.2.2 (by omega) (by omega)
  rcases t4 with ⟨d4, d6, d9⟩ | ⟨d4, d6, d9⟩
  · exact vx_makeS hx hb hl0 hown t8 t9 (hts _ t5) (hts _ t6) hsa hat t12 hX.2.1 hX.2.2.1 hS hsz d0 t3 d4 d6 hG.2.2.1 hh.1 (ev_D hh.2.2.2) hA t1 (by omega) (by rw [hcat]; omega) (by omega) (by omega) (fun a H1 hP1 hD1 hS1 => fin _ a H1 d9 hP1 hD1 hS1)
  · exact vx_makeSW hx hb hl0 hown t8 t9 (hts _ t5) (hts _ t6) hsa hat t12 hX.2.1 hX.2.2.1 hS hsz d0 t3 d4 d6 hG.2.2.1 hh.1 (ev_D hh.2.2.2) hA t1 (by omega) (by rw [hcat]; omega) (by omega) (by omega) (fun a H1 hP1 hD1 hS1 => fin _ a H1 d9 hP1 hD1 hS1)
end EvJ
