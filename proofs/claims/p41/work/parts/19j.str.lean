/-! The calls of the text (String.length, charAt). -/
section EvS
variable {l : Launch} {D : va_G} {cl : List vw_C} {aC : Nat → ClassId} {base : Nat} {ex : Nat → Nat} {V : ev_V} {Ts Bs : List Cond} {Ss : List (String × Nat × String)} {Ns : List (String × String)} {dft : Nat → List Value} {mt : List ev_Q} {f : ev_F}
theorem es_sim (hfm : ev_fle f) (hf : eh_Cl l D cl aC base ex V Ts Bs Ss Ns mt f) (hes : ∀ w ∈ es_ws, w ∈ Ts) (hgood : ∀ w ∈ Ts, goodWord w = true) (hbw : ∀ w ∈ Bs, ev_bw w = true) (hex : ∀ k, ex k < base) (hmt : ∀ (mi : Nat) (q : ev_Q), mt[mi]? = some q → eh_mok cl Ts Bs Ss Ns dft mt q) (hcw : ∀ (mi : Nat) (q : ev_Q), mt[mi]? = some q → 1 ≤ mi → eh_cw q ∈ Ts)
    {d mi pc len x y z : Nat} {i : Instr} {ls : ev_L} {st r : List Value} {h h' : ev_H} {o : ev_O} {q : ev_Q} (hq : mt[mi]? = some q) (hr : ev_sb x st = some r) (he : f d mi (pc + 3) ls r h = some (o, h')) (hdg : decode q.2.1 pc = .ok (i, len)) (hlen : len = ev_len i) (hlk : es_lnk Ts q.1.cls (i, len, x, y, z)) (h8 : ev_cats r ≤ 8)
    {p : Program} {e : Env} {R : Room} {s : State} {m : MethodId} {args : Array Value} {below : List Frame} {meth : Method} {c : Code} {n0 s0 mc ms : Nat} (hFr : eh_Fr p R s m args meth c D cl aC base ex V Ts Bs Ss Ns q d n0 s0 mc ms h') :
    ev_Sim p l e R s m args below meth c (vx_MQ below (ev_Qc D cl aC base ex o h') (ev_XC D cl aC base ex o h') args s mc ms (fun a : Nat => base ≤ a)) D cl aC base ex q.2.2.1 n0 s0 (pc, ls, st, h) := by
  sorry
end EvS
