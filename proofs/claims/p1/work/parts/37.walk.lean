/-! The walk of the law, out of a run of the executor. -/
noncomputable def fx_kf : fx_K := fun o h => fx_if (Nat.beq o.1 1) (fx_if (Nat.beq o.2.1 0) (fx_if (Nat.beq o.2.2 1) (fx_if (Nat.ble h.2.1 600000) (Nat.ble h.2.2.1 7000000) false) false) false) false
noncomputable def fx_run (r : fx_R) : Bool := fx 1000000 (60, 0, mx_0, fx_kf) 0 mc_0_0 [(2, 1048576), (4, 0), (4, 0), (4, 0), (4, 0), (4, 0), (4, 0), (4, 0)] [] (fx_t0 7, 0, 0, r)
def fx_fu : Nat × Nat := (0, 4294967295)
def fx_ng : Nat × Nat := (0, 2147483647)
def fx_ps : Nat × Nat := (2147483648, 4294967295)
/-- the ranges at the start: of unknowns 1, 2 and 3; what the first number is of 64; how long the script is -/
def fx_r0 (r1 r2 r3 : Nat × Nat) (a b c d : Nat) : fx_R := [(0, 4294967295), r1, r2, r3, (0, 4294967295), (0, 4294967295), (0, 4294967295), (0, 4294967295), (0, 4294967295), (0, 4294967295), (0, 4294967295), (0, 4294967295), (0, 4294967295), (0, 4294967295), (0, 4294967295), (0, 4294967295), (2147483648 + a, 2147483648 + b), (2147483648 + c, 2147483648 + d)]
def st_u (L : Nat) (xs : Nat → Int32) : Nat → Int32 := fun j => if j = 17 then Int32.ofNat L else if j = 16 then xs 0 &&& 63 else xs j
theorem st_V {L : Nat} {xs : Nat → Int32} (hL : L ≤ 6) : fd_V (st_u L xs) (L, xs) := by
  refine ⟨rfl, by show L < _; omega, fun i h1 h2 => ?_, rfl⟩
  show (if i = 17 then Int32.ofNat L else if i = 16 then xs 0 &&& 63 else xs i) = xs i
  rw [if_neg (by omega), if_neg (by omega)]
theorem st_b_le (x : Int32) : fd_b x ≤ 4294967295 := Nat.le_of_lt_succ (fd_b_lt x)
theorem st_b16 (x : Int32) : 2147483648 ≤ fd_b (x &&& 63) ∧ fd_b (x &&& 63) ≤ 2147483648 + 63 := by
  have h1 : (x &&& 63).toBitVec = x.toBitVec &&& 63#32 := rfl
  have h2 : (x &&& 63).toBitVec.toNat ≤ 63 := by
    rw [h1, BitVec.toNat_and]
    exact Nat.and_le_right
  have h3 : (x &&& 63).toInt = ((x &&& 63).toBitVec.toNat : Int) := by
    show (x &&& 63).toBitVec.toInt = _
    rw [BitVec.toInt_eq_toNat_cond, if_pos (by omega)]
  unfold fd_b
  rw [h3]
  omega
theorem st_k {L : Nat} {xs : Nat → Int32} {r1 r2 r3 : Nat × Nat} {a b c d : Nat} (hL : L ≤ 6) (h1 : r1.1 ≤ fd_b (xs 1) ∧ fd_b (xs 1) ≤ r1.2) (h2 : r2.1 ≤ fd_b (xs 2) ∧ fd_b (xs 2) ≤ r2.2) (hr3 : r3.1 ≤ fd_b (xs 3) ∧ fd_b (xs 3) ≤ r3.2) (h3 : 2147483648 + a ≤ fd_b (xs 0 &&& 63) ∧ fd_b (xs 0 &&& 63) ≤ 2147483648 + b) (h4 : c ≤ L ∧ L ≤ d) : fd_k (st_u L xs) (fx_r0 r1 r2 r3 a b c d) := by
  have fu : ∀ x : Int32, 0 ≤ fd_b x ∧ fd_b x ≤ 4294967295 := fun x => ⟨Nat.zero_le _, st_b_le x⟩
  intro j
  match j with
  | 0 => exact fu _
  | 1 => exact h1
  | 2 => exact h2
  | 3 => exact hr3
  | 4 => exact fu _
  | 5 => exact fu _
  | 6 => exact fu _
  | 7 => exact fu _
  | 8 => exact fu _
  | 9 => exact fu _
  | 10 => exact fu _
  | 11 => exact fu _
  | 12 => exact fu _
  | 13 => exact fu _
  | 14 => exact fu _
  | 15 => exact fu _
  | 16 => exact h3
  | 17 =>
    show 2147483648 + c ≤ fd_b (Int32.ofNat L) ∧ fd_b (Int32.ofNat L) ≤ 2147483648 + d
    rw [fd_b_of (by omega)]
    omega
  | j + 18 => exact fu _
theorem st_fr {s t : State} {o : Outcome} {L : List Loc} {k n : Nat} (h : FrameEnd s o t L k n) (hL : ∀ q ∈ L, s.heap.size ≤ q.base) (hk : k ≤ 600002) (hn : n ≤ 7302232) : Framed s o t [] 600002 7302232 := by
  obtain ⟨h1, h2, e1, e2, e3, e4, e5, e6⟩ := h
  refine ⟨h1, h2, e1, e2, Nat.le_trans e3 (by omega), e4, Nat.le_trans e5 hn, fun a c ha => ?_⟩
  obtain ⟨c', g1, g2, g3, g4⟩ := e6 a c ha
  refine ⟨c', g1, g2, g3, fun i _ => g4 i (fun hm => ?_)⟩
  exact absurd (hL _ hm) (Nat.not_le.mpr (Array.getElem?_eq_some_iff.mp ha).1)
theorem st_walk {p : Program} {e : Env} {s : State} {m : MethodId} {below : List Frame} {meth : Method} {c : Code} (l : Launch) (hflags : l.flags = flags0) {b L : Nat} {xs : Nat → Int32} (hL : L ≤ 6) (hx : p.tables.exec = Jvm.exec) (hb : c.code = code) (hr : meth.sig.returnType = ret) (hml : c.maxLocals = 8) (hown : s.vm.findClass "ThreewayleafLaw" = some m.cls) (hts : ∀ w ∈ lw_tbl, w.before #[Value.ref b] s = true) (hX : va_X b L xs s s.heap) (hbl : b < s.heap.size) (hlocks : meth.locks = false) (hgv : (Jvm.Cond.and given_1 narrow_1).before #[Value.ref b] s = true) (hname : meth.name = "law") (htab : c.exceptionTable.toList = []) {r : fx_R} (hk : fd_k (st_u L xs) r) (hrun : fx_run r = true) :
    W p l e room_1 s m #[Value.ref b] below meth c s.heap [] 0 0 (fun t => ∃ o, t.status = .running ∧ Ended t below o ∧ o = .returned (some (.int 1)) ∧ Framed s o t [] 600002 7302232) (entryFrame m ([Value.ref b] : List Value).toArray 8) := by
  obtain ⟨o, h', he, hk', hK⟩ := fx_sound fm_ok (st_V (xs := xs) hL) 1000000 (60, 0, mx_0, fx_kf) mc_0_0 0 [(2, 1048576), (4, 0), (4, 0), (4, 0), (4, 0), (4, 0), (4, 0), (4, 0)] [] (fx_t0 7, 0, 0, r) rfl sx_0_0 hk hrun
  have hK : fx_kf o h' = true := hK
  unfold fx_kf at hK
  obtain ⟨k1, hK⟩ := if_t hK
  obtain ⟨k2, hK⟩ := if_t hK
  obtain ⟨k3, hK⟩ := if_t hK
  obtain ⟨k4, k5⟩ := if_t hK
  rw [beq_iff] at k1 k2 k3
  have k4 : h'.2.1 ≤ 600000 := Nat.le_of_ble_eq_true k4
  have k5 : h'.2.2.1 ≤ 7000000 := Nat.le_of_ble_eq_true k5
  obtain ⟨o1, o2, o3⟩ := o
  dsimp only at k1 k2 k3
  subst k1 k2 k3
  obtain ⟨n, hn⟩ := evL_of he
  obtain ⟨t0, ht0, hX0⟩ := st_X hts hgv hX
  obtain ⟨D, aC, hG⟩ := st_G hts hgv s.heap.size (fun k => if k = 0 then b else t0) (L, xs)
  have hex : ∀ k : Nat, (if k = 0 then b else t0) < s.heap.size := by
    intro k
    split
    · exact hbl
    · exact ht0
  have hl0 : l.stackTraces = false := by
    unfold Launch.stackTraces
    rw [hflags]
    rfl
  have K := eh_sim (l := l) (D := D) (aC := aC) (base := s.heap.size) (ex := fun k => if k = 0 then b else t0) (V := (L, xs)) (dft := fx_dft) hl0 (fun w hw => (List.mem_filter.mp hw).2) st_bw hex mok_at mcw_at n 60 0 0 _ _ _ _ _ mq_0 rfl hn p e room_1 s m #[.ref b] below meth c 0 0 h'.2.1 h'.2.2.1
    ⟨hx, hb, hml, hown, fun w hw => hts w (st_ts hw), hG, hX0, hr, hlocks, hname, htab, rfl, ⟨by decide, by decide⟩, Nat.le_trans k4 (by decide), Nat.le_trans k5 (by decide), rfl, rfl, Nat.le_trans k4 (by decide)⟩
  obtain ⟨e1, e2⟩ := ev_in_lr (ad := ev_ad s.heap.size (fun k => if k = 0 then b else t0)) (n := 8) (vs := [.ref 1048576]) (by decide)
  have hrel : ev_rel D fx_kl aC s.heap.size (fun k => if k = 0 then b else t0) (fd_h (st_u L xs) (fx_t0 7, 0, 0, r)) s.heap := ⟨fun k q hq => absurd (show ([] : List (Nat × va_E))[k]? = some q from hq) (by simp), rfl, rfl, (show 0 ≤ ev_ext from Nat.zero_le _)⟩
  rw [lg_entry_eq]
  have K := K _ s.heap [] 0 0 e2 rfl hrel va_S.rf rfl rfl
  intro T hT X
  obtain ⟨t, a1, o, b1, b2, b3⟩ := K T hT X
  refine ⟨t, a1, o, b1, b2, ?_⟩
  rcases b3 with ⟨⟨⟨v, q1, q2⟩, -, -⟩, Lc, hfe, hfr⟩ | ⟨q, -, E, hq⟩
  · have q1 : (Sum.inl (some (Value.int 1)) : ev_O) = .inl v := q1
    cases q1
    exact ⟨q2, st_fr hfe hfr (Nat.le_trans k4 (by decide)) (Nat.le_trans k5 (by decide))⟩
  · obtain ⟨ce, Lc, ⟨⟨k9, T9, N9, q1, -⟩, -⟩, -⟩ := hq
    exact absurd (show (Sum.inl (some (Value.int 1)) : ev_O) = .inr k9 from q1) (fun h => by cases h)
