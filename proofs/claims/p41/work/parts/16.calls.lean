/-! calls of each kind, ends and throws -/
theorem ev_split {st : List Value} {z : Nat} (h : z ≤ st.length) : st = (st.take z).reverse.reverse ++ st.drop z := by
  rw [List.reverse_reverse, List.take_append_drop]
theorem ev_par {x : Option MethodDescriptor} {n : Nat} (h : x.map (fun d => d.parameters.length) = some n) : ∀ sig, x = some sig → n = sig.parameters.length := by
  intro sig hs
  rw [hs] at h
  exact (Option.some.inj h).symm
theorem ev_rc1 {ci : Nat} {as : List Value} {h : ev_H} (c : ev_rc 1 ci as h = true) : ∃ a as' fs, as = .ref a :: as' ∧ h.1[a]? = some (.inr (ci, fs)) := by
  cases as with
  | nil => cases c
  | cons v as' =>
    cases v with
    | ref a =>
      obtain ⟨fs, hfs⟩ := ev_isC_at (show ev_isC ci h.1[a]? = true from c)
      exact ⟨a, as', fs, rfl, hfs⟩
    | _ => cases c
theorem ev_rc2 {ci : Nat} {as : List Value} {h : ev_H} (c : ev_rc 2 ci as h = true) : ∃ a as', as = .ref a :: as' := by
  cases as with
  | nil => cases c
  | cons v as' =>
    cases v with
    | ref a => exact ⟨a, as', rfl⟩
    | _ => cases c
section EvI
variable {l : Launch} {D : va_G} {cl : List vw_C} {aC : Nat → ClassId} {base : Nat} {ex : Nat → Nat} {V : ev_V} {Ts Bs : List Cond} {Ss : List (String × Nat × String)} {dft : Nat → List Value} {mt : List ev_Q} {f : ev_F}
theorem ev_call_sim (hfm : ev_fle f) (hf : ev_Cl l D cl aC base ex V Ts Bs Ss mt f) (hgood : ∀ w ∈ Ts, goodWord w = true) (hbw : ∀ w ∈ Bs, ev_bw w = true) (hex : ∀ k, ex k < base) (hmt : ∀ (mi : Nat) (q : ev_Q), mt[mi]? = some q → ev_mok cl Ts Bs Ss dft mt q)
    {sp d mi pc len x y z : Nat} {i : Instr} {ls : ev_L} {st : List Value} {h h' : ev_H} {o : ev_O} {q : ev_Q} {code : ev_M} {ks : List Nat} (hq : mt[mi]? = some q) (he : ev_call f mt [] ks code sp d mi pc x y z ls st h = some (o, h')) (hdg : decode q.2.1 pc = .ok (i, len)) (hlen : len = ev_len i) (hk : (sp = 1 ∧ ∃ k, i = .invokevirtual k) ∨ (sp = 0 ∧ ∃ k, i = .invokestatic k) ∨ (sp = 2 ∧ ∃ k, i = .invokespecial k)) (hlk : ev_lnk cl Ts Bs mt q.1.cls (i, len, x, y, z))
    {p : Program} {e : Env} {R : Room} {s : State} {m : MethodId} {args : Array Value} {below : List Frame} {meth : Method} {c : Code} {n0 s0 mc ms : Nat} (hFr : ev_Fr p R s m args meth c D cl aC base ex V Ts Bs Ss q d n0 s0 mc ms h') :
    ev_Sim p l e R s m args below meth c (vx_MQ below (ev_Qc D cl aC base ex o h') (ev_XC D cl aC base ex o h') args s mc ms (fun a : Nat => base ≤ a)) D cl aC base ex q.2.2.1 n0 s0 (pc, ls, st, h) := by
  intro Ls H locs cells slots hl hn hh hS h1c h2c
  dsimp only at hl hn hh h1c h2c ⊢
  unfold ev_call at he
  split at he
  · cases he
  · next q' hq' =>
    split at he
    · next hcond =>
      obtain ⟨c1, c2, c3, c4⟩ := hcond
      cases d with
      | zero => cases he
      | succ d =>
        dsimp only at he
        split at he
        · next r hr =>
          obtain ⟨o1, h1⟩ := r
          have hle := hfm _ _ _ _ _ _ _ _ hr
          have hle1 := ev_back_le hfm he
          obtain ⟨m1, m2, m3, m4, m5, m6⟩ := hmt x q' hq'
          have hlk' := hlk q' hq'
          have hFr0 := hFr
          obtain ⟨hx, hb, hml, hown, hts, hG, hX, hret, hlocks, hname, htab, hbn, hroom, g1, g2, g3, g4, g5⟩ := hFr
          have hX1 : base ≤ s.heap.size := by omega
          have hM := ev_meet (D := D) (aC := aC) (base := base) (ex := ex) hf hq' m1 hr c3 hle (Nat.le_trans hle1.1 g5)
          have hGd := ev_good hgood m3
          have hR : (ev_rm d (h1.2.1 - h.2.1) (h1.2.2 - h.2.2)).frames + 1 ≤ R.frames ∧ 8 + (q'.2.2.1 + 11) + (ev_rm d (h1.2.1 - h.2.1) (h1.2.2 - h.2.2)).locals ≤ R.locals := by
            constructor
            · show d + 8 + 1 ≤ R.frames; omega
            · show 8 + (q'.2.2.1 + 11) + (100 * d + 200) ≤ R.locals; omega
          obtain ⟨l1, l2⟩ := hle
          obtain ⟨k1, k2⟩ := hle1
          dsimp only at k1 k2 l1 l2
          have hfit : cells + (h1.2.1 - h.2.1) ≤ R.cells ∧ slots + (h1.2.2 - h.2.2) ≤ R.slots := by omega
          have hsz : (F0 m pc Ls (st.map (ev_tv (ev_ad base ex)))).locals.size = q.2.2.1 := by
            show Ls.size = _
            rw [← hn]; exact hl.1
          have hW8 : 2 * (F0 m pc Ls (st.map (ev_tv (ev_ad base ex)))).monitorRoom + (((st.drop z).map (ev_tv (ev_ad base ex))).map fun v => v.category).sum ≤ 8 := by
            refine lv_room ?_
            rw [List.map_map]
            have e1 : ((fun v : Value => v.category) ∘ ev_tv (ev_ad base ex)) = fun v => v.category := by funext v; exact ev_cat _ v
            rw [e1]
            exact c2
          have hst := ev_split c1
          have hdg3 : decode q.2.1 pc = .ok (i, 3) := by
            rcases hk with ⟨-, k, rfl⟩ | ⟨-, k, rfl⟩ | ⟨-, k, rfl⟩ <;> (rw [hdg, hlen]; rfl)
          generalize has : (st.take z).reverse = as at hr c3 c4 hM hst
          generalize hre : st.drop z = rest at he c2 hW8 hst
          have hasl : as.length = z := by rw [← has]; simp; omega
          have hmap : st.map (ev_tv (ev_ad base ex)) = (as.map (ev_tv (ev_ad base ex))).reverse ++ rest.map (ev_tv (ev_ad base ex)) := by
            rw [hst, List.map_append, List.map_reverse]
          have hS0 : CallFix p m c q.2.1 q.2.2.1 s args Ts q.1.cls := ⟨hx, hb, hml, hown, hts⟩
          rcases hk with ⟨rfl, k, rfl⟩ | ⟨rfl, k, rfl⟩ | ⟨rfl, k, rfl⟩
          · -- virtual
            obtain ⟨⟨T, N, hcl⟩, w1, w2, w3, w4, w5, w6⟩ := hlk'
            obtain ⟨a, as', fs, rfl, hfs⟩ := ev_rc1 c4
            refine ev_goon hf hq he ⟨k1, k2⟩ ⟨l1, l2⟩ hFr0 hl hn hS h1c h2c (a9 := (Value.ref (ev_ad base ex a) :: as'.map (ev_tv (ev_ad base ex))).toArray) ?_
            refine vx_runV (C := q'.1.cls) (As := as'.map (ev_tv (ev_ad base ex))) (b := ev_ad base ex a) hS0 hM ⟨callB_of (z - 1) hts hGd rfl rfl rfl (hts _ w3) (hts _ w4) ⟨m5.1, m5.2, w6⟩ hR, hts _ w1, hts _ w2⟩ ⟨ev_Pc_blind hbw, ev_recv hG.2.2.1 hh hcl hfs, fun U hU hW => ?_⟩ rfl (by simp only [List.length_map]; simp at hasl; omega) hsz ?_ hW8 hdg3 hfit
            · exact ev_pre hbw hex hX1 hG hX hh hS (.ref a :: as') U hU hW
            · show st.map (ev_tv (ev_ad base ex)) = _
              rw [hmap]
              simp [ev_tv]
          · -- static
            obtain ⟨w1, w2, w3, w4⟩ := hlk'
            refine ev_goon hf hq he ⟨k1, k2⟩ ⟨l1, l2⟩ hFr0 hl hn hS h1c h2c (a9 := (as.map (ev_tv (ev_ad base ex))).toArray) ?_
            rcases w3 with w3 | ⟨host, w3⟩
            · exact vx_runS (As := as.map (ev_tv (ev_ad base ex))) hS0 hM ⟨callB_of z hts hGd rfl rfl rfl (hts _ w2) (hts _ w3) ⟨m5.1, m5.2, w4⟩ hR, hts _ w1⟩ ⟨ev_Pc_blind hbw, fun U hU hW => ev_pre hbw hex hX1 hG hX hh hS as U hU hW⟩ rfl (by rw [List.length_map]; exact hasl) hsz hmap hW8 hdg3 hfit
            · exact vx_runSN (As := as.map (ev_tv (ev_ad base ex))) hS0 hM ⟨va_cnB z hts hGd rfl rfl rfl (hG.1 _ w3) (hts _ w2) ⟨m5.1, m5.2, w4⟩ hR, hts _ w1, trivial⟩ ⟨ev_Pc_blind hbw, fun U hU hW => ev_pre hbw hex hX1 hG hX hh hS as U hU hW⟩ rfl (by rw [List.length_map]; exact hasl) hsz hmap hW8 hdg3 hfit
          · -- special
            obtain ⟨w0, wr, w1, w2, w3, w5, w6⟩ := hlk'
            obtain ⟨a, as', rfl⟩ := ev_rc2 c4
            refine ev_goon hf hq he ⟨k1, k2⟩ ⟨l1, l2⟩ hFr0 hl hn hS h1c h2c (a9 := (Value.ref (ev_ad base ex a) :: as'.map (ev_tv (ev_ad base ex))).toArray) ?_
            rw [wr] at hM hGd
            have hstk : (F0 m pc Ls (st.map (ev_tv (ev_ad base ex)))).stack = (as'.map (ev_tv (ev_ad base ex))).reverse ++ .ref (ev_ad base ex a) :: rest.map (ev_tv (ev_ad base ex)) := by
              show st.map (ev_tv (ev_ad base ex)) = _
              rw [hmap]
              simp [ev_tv]
            have hlen9 : (as'.map (ev_tv (ev_ad base ex))).length = z - 1 := by simp only [List.length_map]; simp at hasl; omega
            rcases w3 with w3 | ⟨host, w3⟩
            · exact vx_runI (As := as'.map (ev_tv (ev_ad base ex))) (b := ev_ad base ex a) hS0 hM ⟨callB_of (z - 1) hts hGd rfl rfl rfl (hts _ w2) (hts _ w3) ⟨m5.1, m5.2, w6⟩ hR, w0, hts _ w1⟩ ⟨ev_Pc_blind hbw, fun U hU hW => ev_pre hbw hex hX1 hG hX hh hS (.ref a :: as') U hU hW⟩ rfl hlen9 hsz hstk hW8 hdg3 hfit
            · exact vx_runIN (As := as'.map (ev_tv (ev_ad base ex))) (b := ev_ad base ex a) hS0 hM ⟨va_cnB (z - 1) hts hGd rfl rfl rfl (hG.1 _ w3) (hts _ w2) ⟨m5.1, m5.2, w6⟩ hR, w0, hts _ w1⟩ ⟨ev_Pc_blind hbw, fun U hU hW => ev_pre hbw hex hX1 hG hX hh hS (.ref a :: as') U hU hW⟩ rfl hlen9 hsz hstk hW8 hdg3 hfit
        · cases he
    · cases he
end EvI
