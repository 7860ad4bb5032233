/-! THE SIMULATION, with the calls of the text. -/
theorem eh_sim {l : Launch} {D : va_G} {cl : List vw_C} {aC : Nat → ClassId} {base : Nat} {ex : Nat → Nat} {V : ev_V} {Ts Bs : List Cond} {Ss : List (String × Nat × String)} {Ns : List (String × String)} {dft : Nat → List Value} {mt : List ev_Q} (hl0 : l.stackTraces = false) (hgood : ∀ w ∈ Ts, goodWord w = true) (hbw : ∀ w ∈ Bs, ev_bw w = true) (hex : ∀ k, ex k < base) (hmt : ∀ (mi : Nat) (q : ev_Q), mt[mi]? = some q → eh_mok cl Ts Bs Ss Ns dft mt q) (hcw : ∀ (mi : Nat) (q : ev_Q), mt[mi]? = some q → 1 ≤ mi → eh_cw q ∈ Ts) (hes : ∀ w ∈ es_ws, w ∈ Ts) : ∀ n : Nat, eh_Cl l D cl aC base ex V Ts Bs Ss Ns mt (ev mt V dft n) := by
  intro n
  induction n with
  | zero => intro d mi pc ls st h o h' q hq he; unfold ev at he; cases he
  | succ n ih =>
    intro d mi pc ls st h o h' q hq he p e R s m args below meth c n0 s0 mc ms hFr
    have hmono := ev_mono mt V dft n
    unfold ev at he
    rw [hq] at he
    dsimp only at he
    split at he
    · cases he
    · next I hI =>
      obtain ⟨m1, m2, m4, m5, m6⟩ := hmt mi q hq
      obtain ⟨d1, d2, d3⟩ := m6 pc I hI
      have hFr0 := hFr
      obtain ⟨hx, hb, hml, hown, hts, hG, hX, hret, hlocks, hname, htab, hbn, hroom, g1, g2, g3, g4, g5⟩ := hFr
      have hX1 : base ≤ s.heap.size := by omega
      have hstep : ∀ (hs : ev_site cl Ts Bs dft q.1.cls q.1.name I) (_ : ev_step (ev mt V dft n) V dft I d mi pc ls st h = some (o, h')), ev_Sim p l e R s m args below meth c (vx_MQ below (ev_Qc D cl aC base ex o h') (ev_XC D cl aC base ex o h') args s mc ms (fun a : Nat => base ≤ a)) D cl aC base ex q.2.2.1 n0 s0 (pc, ls, st, h) := by
        intro hs he2
        unfold ev_step at he2
        split at he2
        · next r hr =>
          obtain ⟨k1, k2⟩ := hmono _ _ _ _ _ _ _ _ he2
          obtain ⟨i, len, x, y, z⟩ := I
          exact ev_step_sim hx hb hbn hex hts hbw hG.1 hX hown d1 d2 (by rw [hname]; exact hs) hr ⟨by omega, by omega, by omega⟩ (ih d mi r.1 r.2.1 r.2.2.1 r.2.2.2 o h' q hq he2 p e R s m args below meth c n0 s0 mc ms hFr0)
        · cases he2
      have hnosw : ∀ k, ev_kd I.1 = k → k ≠ 0 → I.2.1 = ev_len I.1 := by
        intro k hk h0
        refine d2.resolve_right (fun hw => h0 ?_)
        rw [← hk]
        unfold ev_isw at hw
        split at hw
        · next e9 => rw [e9]; rfl
        · next e9 => rw [e9]; rfl
        · cases hw
      unfold ev_one at he
      split at he
      · next hk =>
        obtain ⟨v, hv, e9⟩ := Option.map_eq_some_iff.mp he
        cases e9
        exact eh_ret_sim (mi := mi) hv d1 (hnosw _ hk (by decide)) hFr0
      · next hk =>
        rw [hk] at d3
        obtain ⟨i, len, x, y, z⟩ := I
        have hi : ∃ k, i = .invokevirtual k := ev_kd2 hk
        split at he
        · next hy =>
          rw [if_pos hy] at d3
          split at he
          · next r hr =>
            split at he
            · next h8 =>
              exact es_sim hmono ih hes hgood hbw hex hmt hcw hq hr he d1 (hnosw _ hk (by decide)) d3 h8 hFr0
            · cases he
          · cases he
        · next hy =>
          rw [if_neg hy] at d3
          exact eh_call_sim hmono ih hgood hbw hex hmt hcw hq he d1 (hnosw _ hk (by decide)) (Or.inl ⟨rfl, hi⟩) d3 hFr0
      · next hk =>
        rw [hk] at d3
        split at he
        · next hy =>
          rw [if_pos hy] at d3
          obtain ⟨index, i1, i2, i3, i4, i5⟩ := d3
          split at he
          · next r hr =>
            split at he
            · next h8 =>
              obtain ⟨k1, k2⟩ := hmono _ _ _ _ _ _ _ _ he
              exact ev_cpy_sim hx hb hml hown (hts _ i2) (hts _ i3) (hts _ i4) (hts _ i5) hbn hG.1.2.2.1 (by omega) (by omega) (by rw [d1, hnosw _ hk (by decide), i1]; rfl) hr h8 (ih d mi (pc + 3) ls r.1 r.2 o h' q hq he p e R s m args below meth c n0 s0 mc ms hFr0)
            · cases he
          · cases he
        · next hy =>
          rw [if_neg hy] at d3
          obtain ⟨i, len, x, y, z⟩ := I
          have hi : ∃ k, i = .invokestatic k := ev_kd3 hk
          exact eh_call_sim hmono ih hgood hbw hex hmt hcw hq he d1 (hnosw _ hk (by decide)) (Or.inr (Or.inl ⟨rfl, hi⟩)) d3 hFr0
      · next hk =>
        rw [hk] at d3
        split at he
        · next hy =>
          rw [if_pos hy] at d3
          obtain ⟨index, i1, i2, i3, i4⟩ := d3
          split at he
          · next a rr =>
            split at he
            · next h8 =>
              exact ev_obj_sim hx hb hml hown (hts _ i2) (hts _ i3) (hts _ i4) (by omega) (by omega) (by rw [d1, hnosw _ hk (by decide), i1]; rfl) h8 (ih d mi (pc + 3) ls rr h o h' q hq he p e R s m args below meth c n0 s0 mc ms hFr0)
            · cases he
          · cases he
        · next hy =>
          rw [if_neg hy] at d3
          obtain ⟨i, len, x, y, z⟩ := I
          have hi : ∃ k, i = .invokespecial k := ev_kd4 hk
          exact eh_call_sim hmono ih hgood hbw hex hmt hcw hq he d1 (hnosw _ hk (by decide)) (Or.inr (Or.inr ⟨rfl, hi⟩)) d3 hFr0
      · next hk =>
        rw [hk] at d3
        split at he
        · next hz =>
          rw [if_pos hz] at d3
          split at he
          · next h8 =>
            cases he
            rcases d3 with d3 | d3
            · exact eh_throw_sim (mi := mi) hl0 hbw d1 (hnosw _ hk (by decide)) h8.1 h8.2 d3 hFr0
            · exact eh_throw_simX (mi := mi) hl0 hbw d1 (hnosw _ hk (by decide)) h8.1 h8.2 d3 hFr0
          · cases he
        · next hz =>
          rw [if_neg hz] at d3
          exact hstep d3 he
      · next k1 k2 k3 k4 k5 =>
        have h0 : ev_kd I.1 = 0 := by
          unfold ev_kd at k1 k2 k3 k4 k5 ⊢
          split <;> first | rfl | simp_all
        rw [h0] at d3
        exact hstep d3 he
