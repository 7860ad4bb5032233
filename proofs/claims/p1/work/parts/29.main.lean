/-! THE EXECUTOR IS RIGHT: what it says, the evaluator comes to. -/
section FxD
variable {ρ : Nat → Int32} {V : ev_V} {F : fx_F} {X : fx_X} {pc : Nat} {tl : ev_M} {w : Nat × Nat × Nat × Nat} {i : Instr} {ls st : List fx_V} {h : fx_H}
abbrev fx_Go (ρ : Nat → Int32) (V : ev_V) (X : fx_X) (pc : Nat) (ls st : List fx_V) (h : fx_H) : Prop := ∃ o h', evL fx_mt V fx_dft X.1 X.2.1 pc (fd_l ρ ls) (fd_s ρ st) (fd_h ρ h) = some (fd_o ρ o, fd_h ρ h') ∧ fd_k ρ h'.2.2.2 ∧ X.2.2.2 o h' = true
theorem e1_ok {st : List fx_V} {k : Bool} (h : fx_e1 st k = true) : st = [] ∧ k = true := by
  cases st with
  | nil => exact ⟨rfl, h⟩
  | cons v r => cases h
theorem nr_ok {r : Option FieldType} {x : Nat} (h : fx_nr r x = true) : ev_nar r (fd_i ρ x) = true := by
  unfold fx_nr at h
  unfold ev_nar
  split at h
  · rfl
  · have h := ble_iff.mp h
    rcases Nat.lt_or_ge x 1 with g | g
    · rw [show x = 0 by omega]; rfl
    · rw [show x = 1 by omega]; rfl
  · have h := ble_iff.mp h
    have h3 : x < 4294967296 := by omega
    have h4 : (Int32.ofNat x).toInt = x := Int32.toInt_ofNat_of_lt (by omega)
    rw [fd_i_lt ρ h3]
    simp only [Bool.and_eq_true, decide_eq_true_eq]
    constructor
    · rw [Int32.le_iff_toInt_le, h4]; simp
    · rw [Int32.le_iff_toInt_le, h4]
      show (x : Int) ≤ 65535
      omega
  · cases h
theorem ret_ok (hX : fx_fm[X.2.1]? = some X.2.2.1) (hi : fx_inc X.2.2.1.1.2.2.2.2.2.2 = true) (hsf : fx_sf X.2.2.1 ((pc, (i, w)) :: tl)) (hkd : ev_kd i = 1) (hk : fd_k ρ h.2.2.2) {v : Option Value} {o : fx_O} (hv : ev_ret i X.2.2.1.1.2.2.2.1 (fd_s ρ st) = some v) (ho : fd_o ρ o = .inl v) (hK : X.2.2.2 o h = true) : fx_Go ρ V X pc ls st h := by
  refine ⟨o, h, ?_, hk, hK⟩
  rw [evL_one hX hi hsf]
  unfold ev_one
  simp only [hkd, hv, ho]
  rfl
theorem go_ire (hX : fx_fm[X.2.1]? = some X.2.2.1) (hi : fx_inc X.2.2.1.1.2.2.2.2.2.2 = true) (hsf : fx_sf X.2.2.1 ((pc, (.ireturn, w)) :: tl)) (hk : fd_k ρ h.2.2.2) (he : fx_ire F X pc tl w ls st h = true) : fx_Go ρ V X pc ls st h := by
  obtain ⟨x, s, rfl, a⟩ := pi_ok he
  rw [fr_eq] at a
  obtain ⟨b1, b2⟩ := if_t a
  obtain ⟨rfl, b3⟩ := e1_ok b2
  refine ret_ok (v := some (.int (fd_i ρ x))) (o := (1, (0, x))) hX hi hsf rfl hk ?_ rfl b3
  simp only [ev_ret, fsc, fv0]
  show (if ev_nar _ _ = true then _ else _) = _
  rw [if_pos (nr_ok b1)]
theorem go_lre (hX : fx_fm[X.2.1]? = some X.2.2.1) (hi : fx_inc X.2.2.1.1.2.2.2.2.2.2 = true) (hsf : fx_sf X.2.2.1 ((pc, (.lreturn, w)) :: tl)) (hk : fd_k ρ h.2.2.2) (he : fx_lre F X pc tl w ls st h = true) : fx_Go ρ V X pc ls st h := by
  obtain ⟨x, s, rfl, a⟩ := pt_ok he
  rw [fr_eq] at a
  obtain ⟨b1, b2⟩ := if_t a
  obtain ⟨rfl, b3⟩ := e1_ok b2
  refine ret_ok (v := some (.long (Int64.ofNat x))) (o := (1, (1, x))) hX hi hsf rfl hk ?_ rfl b3
  simp only [ev_ret, fsc, fv1]
  show (if _ = _ then _ else _) = _
  rw [if_pos (of_decide_eq_true b1)]
theorem go_are (hX : fx_fm[X.2.1]? = some X.2.2.1) (hi : fx_inc X.2.2.1.1.2.2.2.2.2.2 = true) (hsf : fx_sf X.2.2.1 ((pc, (.areturn, w)) :: tl)) (hk : fd_k ρ h.2.2.2) (he : fx_are F X pc tl w ls st h = true) : fx_Go ρ V X pc ls st h := by
  obtain ⟨x, s, rfl, a⟩ := pt_ok he
  rw [fr_eq] at a
  obtain ⟨b1, b2⟩ := if_t a
  obtain ⟨rfl, b3⟩ := e1_ok b2
  refine ret_ok (v := some (.ref x)) (o := (1, (2, x))) hX hi hsf rfl hk ?_ rfl b3
  simp only [ev_ret, fsc, fv2]
  show (if ev_isr _ = true then _ else _) = _
  rw [if_pos b1]
theorem go_vre (hX : fx_fm[X.2.1]? = some X.2.2.1) (hi : fx_inc X.2.2.1.1.2.2.2.2.2.2 = true) (hsf : fx_sf X.2.2.1 ((pc, (.return_, w)) :: tl)) (hk : fd_k ρ h.2.2.2) (he : fx_vre F X pc tl w ls st h = true) : fx_Go ρ V X pc ls st h := by
  obtain ⟨b1, b2⟩ := if_t he
  obtain ⟨rfl, b3⟩ := e1_ok b2
  refine ret_ok (v := none) (o := (0, (0, 0))) hX hi hsf rfl hk ?_ rfl b3
  show (if _ = none then _ else _) = _
  rw [if_pos (Option.isNone_iff_eq_none.mp b1)]
theorem call_go (hX : fx_fm[X.2.1]? = some X.2.2.1) (hi : fx_inc X.2.2.1.1.2.2.2.2.2.2 = true) (hsf : fx_sf X.2.2.1 ((pc, (i, w)) :: tl)) {sp : Nat} (hone : ∀ g d mi l s h, ev_one g fx_mt V fx_dft X.2.2.1.1.2.2.2.1 X.2.2.1.1.2.2.2.2.1 X.2.2.1.1.2.2.2.2.2.1 X.2.2.1.1.2.2.2.2.2.2 (i, w) d mi pc l s h = ev_call g fx_mt X.2.2.1.1.2.2.2.2.1 X.2.2.1.1.2.2.2.2.2.1 X.2.2.1.1.2.2.2.2.2.2 sp d mi pc w.2.1 w.2.2.1 w.2.2.2 l s h)
    (hc : ∃ o h', ev_call (evL fx_mt V fx_dft) fx_mt X.2.2.1.1.2.2.2.2.1 X.2.2.1.1.2.2.2.2.2.1 X.2.2.1.1.2.2.2.2.2.2 sp X.1 X.2.1 pc w.2.1 w.2.2.1 w.2.2.2 (fd_l ρ ls) (fd_s ρ st) (fd_h ρ h) = some (fd_o ρ o, fd_h ρ h') ∧ fd_k ρ h'.2.2.2 ∧ X.2.2.2 o h' = true) : fx_Go ρ V X pc ls st h := by
  obtain ⟨o, h', a, b, c⟩ := hc
  refine ⟨o, h', ?_, b, c⟩
  rw [evL_one hX hi hsf, hone]
  exact a
theorem fm_len : fx_fm.length = 286 := by decide +kernel
theorem iv_ok (hF : fx_Snd ρ V F) (hT : ∀ Q ∈ fx_fm, fx_ok Q) (hX : fx_fm[X.2.1]? = some X.2.2.1) (hsf : fx_sf X.2.2.1 tl) (hk : fd_k ρ h.2.2.2) {sp : Nat} (he : fx_iv sp F X pc tl w ls st h = true) :
    ∃ o h', ev_call (evL fx_mt V fx_dft) fx_mt X.2.2.1.1.2.2.2.2.1 X.2.2.1.1.2.2.2.2.2.1 X.2.2.1.1.2.2.2.2.2.2 sp X.1 X.2.1 pc w.2.1 w.2.2.1 w.2.2.2 (fd_l ρ ls) (fd_s ρ st) (fd_h ρ h) = some (fd_o ρ o, fd_h ρ h') ∧ fd_k ρ h'.2.2.2 ∧ X.2.2.2 o h' = true := by
  obtain ⟨len, x, y, z⟩ := w
  obtain ⟨a, b⟩ := if_t (show fx_if (Nat.blt x 286) (fx_inv sp x y z (fx_mq fx_fm x) F X pc tl (len, x, y, z) ls st h) false = true from he)
  rw [blt_iff] at a
  exact inv_ok hF hT hX hsf hk (mq_at (by rw [fm_len]; exact a)) b
theorem cpy_ok (hk : fd_k ρ h.2.2.2) (he : fx_cpy F X pc tl w ls st h = true) : ∃ s h', ev_cpy (fd_s ρ st) (fd_h ρ h) = some (fd_s ρ s, fd_h ρ h') ∧ ev_cats (fd_s ρ s) ≤ 8 ∧ fd_k ρ h'.2.2.2 ∧ F X (pc + 3) tl ls s h' = true := by
  obtain ⟨n, s1, rfl, a1⟩ := pi_ok he
  obtain ⟨dp, s2, rfl, a2⟩ := pi_ok a1
  obtain ⟨a, s3, rfl, a3⟩ := pt_ok a2
  obtain ⟨sp, s4, rfl, a4⟩ := pi_ok a3
  obtain ⟨b, s, rfl, a5⟩ := pt_ok a4
  obtain ⟨b1, a6⟩ := if_t a5
  obtain ⟨b2, a7⟩ := if_t a6
  obtain ⟨b3, a8⟩ := if_t a7
  rw [beq_iff] at b1 b2
  rw [blt_iff] at b3
  subst b1; subst b2
  obtain ⟨c1, cb, c2, c3⟩ := ce_ok a8
  obtain ⟨d1, ca, d2, d3⟩ := ce_ok c3
  obtain ⟨e0, e9⟩ := if_t d3
  obtain ⟨e1, e0⟩ := if_t e0
  obtain ⟨e2, e0⟩ := if_t e0
  obtain ⟨e3, e0⟩ := if_t e0
  obtain ⟨e4, e0⟩ := if_t e0
  obtain ⟨e5, e6⟩ := if_t e0
  rw [beq_iff] at e1 e2 e3 e4
  rw [ble_iff, cc_eq ρ] at e5
  have e6 : cb.1 = 0 ∨ (cb.1 = 2 ∧ fx_01 cb.2.2.2.1 = true) := by
    rcases if_or e6 with ⟨q, -⟩ | ⟨-, q⟩
    · exact Or.inl (beq_iff.mp q)
    · obtain ⟨q1, q2⟩ := if_t q
      exact Or.inr ⟨beq_iff.mp q1, q2⟩
  have hcb : cb.1 = 0 ∨ cb.1 = 2 := e6.imp id (·.1)
  obtain ⟨h', g1, g2, g3⟩ := cs_ok (ρ := ρ) e9
  refine ⟨s, h', ?_, e5, by rw [g2]; exact hk, g3⟩
  have f1 : (fd_h ρ h).1[b]? = some (fd_c ρ cb) := by rw [fd_at ρ h c1, c2]
  have f2 : (fd_h ρ h).1[a]? = some (fd_c ρ ca) := by rw [fd_at ρ h d1, d2]
  rw [fc_int hcb] at f1
  rw [fc_int (by rw [e1]; exact hcb)] at f2
  have h0 : fd_i ρ 0 = 0 := rfl
  have hn : fd_i ρ n = Int32.ofNat n := fd_i_lt ρ (by omega)
  have z0 : (0 : Int32).toNatClampNeg = 0 := rfl
  have zn : (Int32.ofNat n).toNatClampNeg = n := Int32.toNatClampNeg_ofNat_of_lt (by omega)
  have hn0 : ¬ Int32.ofNat n < 0 := by
    rw [Int32.lt_iff_toInt_lt, Int32.toInt_ofNat_of_lt (by omega)]
    simp
  have h00 : ¬ (0 : Int32) < 0 := by decide
  have hcpy : va_cpy (fd_fi ρ cb.2.1 cb.2.2.1 cb.2.2.2.1) (fd_fi ρ ca.2.1 ca.2.2.1 ca.2.2.2.1) 0 0 n = fd_fi ρ n cb.2.2.1 cb.2.2.2.1 := by
    funext j
    unfold va_cpy fd_fi
    rw [e2, e3]
    by_cases hj : j < n
    · simp [hj]
    · simp [hj]
  have e99 : fd_c ρ (cb.1, n, cb.2.2.1, cb.2.2.2.1, ca.2.2.2.2) = .inl (cb.1, n, .inl (fd_fi ρ n cb.2.2.1 cb.2.2.2.1)) := fc_int hcb
  rw [g1, e99]
  unfold ev_cpy
  simp only [fsc, fv0, fv2, h0, hn, f1, f2]
  rw [if_pos ⟨e1, hcb, h00, h00, hn0, by rw [z0, zn, e2]; omega, by rw [z0, zn, e3]; omega⟩, z0, zn, hcpy, e3]
  rw [if_pos]
  rcases e6 with q | ⟨q, q2⟩
  · exact Or.inl q
  · refine Or.inr ?_
    unfold ev_01
    rw [List.all_eq_true]
    intro k hk2
    have hkn := List.mem_range.mp hk2
    have hle := t01_ok cb.2.2.1 q2 (0 + k)
    have hk3 : 0 + k < cb.2.1 := by rw [e2]; omega
    unfold fd_fi
    rw [if_pos hk3]
    rcases Nat.lt_or_ge (fx_gt cb.2.2.1 cb.2.2.2.1 (0 + k)) 1 with g | g
    · rw [show fx_gt cb.2.2.1 cb.2.2.2.1 (0 + k) = 0 by omega]; rfl
    · rw [show fx_gt cb.2.2.1 cb.2.2.2.1 (0 + k) = 1 by omega]; rfl
theorem go_ist (hF : fx_Snd ρ V F) (hT : ∀ Q ∈ fx_fm, fx_ok Q) (hX : fx_fm[X.2.1]? = some X.2.2.1) {index : Nat} (hsf : fx_sf X.2.2.1 ((pc, (.invokestatic index, w)) :: tl)) (hk : fd_k ρ h.2.2.2) (he : fx_ist F X pc tl w ls st h = true) : fx_Go ρ V X pc ls st h := by
  have hi := (hT _ (List.mem_of_getElem? hX)).1
  rcases if_or he with ⟨a, b⟩ | ⟨a, b⟩
  · rw [beq_iff] at a
    obtain ⟨s, h', c1, c2, c3, c4⟩ := cpy_ok hk b
    obtain ⟨o, h2, d1, d2, d3⟩ := hF X tl (pc + 3) ls s h' hX (sf_tail hsf) c3 c4
    refine ⟨o, h2, ?_, d2, d3⟩
    rw [evL_one hX hi hsf]
    unfold ev_one
    simp only [ev_kd]
    rw [if_pos a, c1]
    dsimp only
    rw [if_pos c2]
    exact d1
  · rw [beq_no] at a
    refine call_go (sp := 0) hX hi hsf (fun g d mi l s h => ?_) (iv_ok hF hT hX (sf_tail hsf) hk b)
    unfold ev_one
    simp only [ev_kd]
    rw [if_neg a]
theorem go_isp (hF : fx_Snd ρ V F) (hT : ∀ Q ∈ fx_fm, fx_ok Q) (hX : fx_fm[X.2.1]? = some X.2.2.1) {index : Nat} (hsf : fx_sf X.2.2.1 ((pc, (.invokespecial index, w)) :: tl)) (hk : fd_k ρ h.2.2.2) (he : fx_isp F X pc tl w ls st h = true) : fx_Go ρ V X pc ls st h := by
  have hi := (hT _ (List.mem_of_getElem? hX)).1
  rcases if_or he with ⟨a, b⟩ | ⟨a, b⟩
  · rw [beq_iff] at a
    obtain ⟨x, s, rfl, c⟩ := pt_ok b
    obtain ⟨c1, c2⟩ := if_t c
    rw [ble_iff, cc_eq ρ] at c1
    obtain ⟨o, h2, d1, d2, d3⟩ := hF X tl (pc + 3) ls s h hX (sf_tail hsf) hk c2
    refine ⟨o, h2, ?_, d2, d3⟩
    rw [evL_one hX hi hsf]
    unfold ev_one
    simp only [ev_kd, fsc, fv2]
    rw [if_pos a, if_pos c1]
    exact d1
  · rw [beq_no] at a
    refine call_go (sp := 2) hX hi hsf (fun g d mi l s h => ?_) (iv_ok hF hT hX (sf_tail hsf) hk b)
    unfold ev_one
    simp only [ev_kd]
    rw [if_neg a]
theorem go_ivi (hF : fx_Snd ρ V F) (hT : ∀ Q ∈ fx_fm, fx_ok Q) (hX : fx_fm[X.2.1]? = some X.2.2.1) {index : Nat} (hsf : fx_sf X.2.2.1 ((pc, (.invokevirtual index, w)) :: tl)) (hk : fd_k ρ h.2.2.2) (he : fx_iv 1 F X pc tl w ls st h = true) : fx_Go ρ V X pc ls st h :=
  call_go (sp := 1) hX (hT _ (List.mem_of_getElem? hX)).1 hsf (fun g d mi l s h => rfl) (iv_ok hF hT hX (sf_tail hsf) hk he)
theorem go_new (hF : fx_Snd ρ V F) (hT : ∀ Q ∈ fx_fm, fx_ok Q) (hX : fx_fm[X.2.1]? = some X.2.2.1) {index : Nat} (hsf : fx_sf X.2.2.1 ((pc, (.new index, w)) :: tl)) (hk : fd_k ρ h.2.2.2) (he : fx_nex F X pc tl w ls st h = true) : fx_Go ρ V X pc ls st h := by
  have hi := (hT _ (List.mem_of_getElem? hX)).1
  rcases if_or he with ⟨a, b⟩ | ⟨a, b⟩
  · rw [beq_iff] at a
    obtain ⟨c1, c2⟩ := if_t b
    obtain ⟨c2, c3⟩ := if_t c2
    rw [ble_iff, cc_eq ρ] at c2
    obtain ⟨h', g1, g2, g3⟩ := nw_ok (ρ := ρ) c3
    refine ⟨(2, (0, w.2.1)), h', ?_, by rw [g2]; exact hk, g3⟩
    rw [evL_one hX hi hsf]
    unfold ev_one
    simp only [ev_kd]
    rw [if_pos a, if_pos ⟨c1, c2⟩, g1, fc_obj rfl]
    rfl
  · rw [beq_no] at a
    refine plain_ok hF hX hi hsf (fun g d mi l s h => ?_) (st_new (sf_tail hsf) hk b)
    unfold ev_one
    simp only [ev_kd]
    rw [if_neg a]
theorem fx_do_ok (hF : fx_Snd ρ V F) (hT : ∀ Q ∈ fx_fm, fx_ok Q) (hV : fd_V ρ V) (hX : fx_fm[X.2.1]? = some X.2.2.1) (hs : fx_sf X.2.2.1 ((pc, (i, w)) :: tl)) (hk : fd_k ρ h.2.2.2) (he : fx_do i F X pc tl w ls st h = true) : fx_Go ρ V X pc ls st h := by
  have hO := hT _ (List.mem_of_getElem? hX)
  have hi := hO.1
  have hj := hO.2.1 _ (sf_mem hs)
  have hQ := hO.2.2.2
  have ht := sf_tail hs
  cases i with
  | iload_n j => exact plain_ok hF hX hi hs (fun _ _ _ _ _ _ => rfl) (st_iload_n ht hk he)
  | iload j => exact plain_ok hF hX hi hs (fun _ _ _ _ _ _ => rfl) (st_iload ht hk he)
  | lload_n j => exact plain_ok hF hX hi hs (fun _ _ _ _ _ _ => rfl) (st_lload_n ht hk he)
  | lload j => exact plain_ok hF hX hi hs (fun _ _ _ _ _ _ => rfl) (st_lload ht hk he)
  | aload_n j => exact plain_ok hF hX hi hs (fun _ _ _ _ _ _ => rfl) (st_aload_n ht hk he)
  | aload j => exact plain_ok hF hX hi hs (fun _ _ _ _ _ _ => rfl) (st_aload ht hk he)
  | istore_n j => exact plain_ok hF hX hi hs (fun _ _ _ _ _ _ => rfl) (st_istore_n ht hk he)
  | istore j => exact plain_ok hF hX hi hs (fun _ _ _ _ _ _ => rfl) (st_istore ht hk he)
  | astore_n j => exact plain_ok hF hX hi hs (fun _ _ _ _ _ _ => rfl) (st_astore_n ht hk he)
  | astore j => exact plain_ok hF hX hi hs (fun _ _ _ _ _ _ => rfl) (st_astore ht hk he)
  | lstore_n j => exact plain_ok hF hX hi hs (fun _ _ _ _ _ _ => rfl) (st_lstore_n ht hk he)
  | lstore j => exact plain_ok hF hX hi hs (fun _ _ _ _ _ _ => rfl) (st_lstore ht hk he)
  | iinc j n => exact plain_ok hF hX hi hs (fun _ _ _ _ _ _ => rfl) (st_iinc ht hk he)
  | iconst n => exact plain_ok hF hX hi hs (fun _ _ _ _ _ _ => rfl) (st_iconst ht hk he)
  | bipush n => exact plain_ok hF hX hi hs (fun _ _ _ _ _ _ => rfl) (st_bipush ht hk he)
  | sipush n => exact plain_ok hF hX hi hs (fun _ _ _ _ _ _ => rfl) (st_sipush ht hk he)
  | lconst n => exact plain_ok hF hX hi hs (fun _ _ _ _ _ _ => rfl) (st_lconst ht hk he)
  | aconst_null => exact plain_ok hF hX hi hs (fun _ _ _ _ _ _ => rfl) (st_null ht hk he)
  | iadd => exact plain_ok hF hX hi hs (fun _ _ _ _ _ _ => rfl) (st_iadd ht hk he)
  | isub => exact plain_ok hF hX hi hs (fun _ _ _ _ _ _ => rfl) (st_isub ht hk he)
  | imul => exact plain_ok hF hX hi hs (fun _ _ _ _ _ _ => rfl) (st_imul ht hk he)
  | iand => exact plain_ok hF hX hi hs (fun _ _ _ _ _ _ => rfl) (st_iand hV ht hk he)
  | ineg => exact plain_ok hF hX hi hs (fun _ _ _ _ _ _ => rfl) (st_ineg ht hk he)
  | ladd => exact plain_ok hF hX hi hs (fun _ _ _ _ _ _ => rfl) (st_ladd ht hk he)
  | lsub => exact plain_ok hF hX hi hs (fun _ _ _ _ _ _ => rfl) (st_lsub ht hk he)
  | lmul => exact plain_ok hF hX hi hs (fun _ _ _ _ _ _ => rfl) (st_lmul ht hk he)
  | land => exact plain_ok hF hX hi hs (fun _ _ _ _ _ _ => rfl) (st_land ht hk he)
  | lor => exact plain_ok hF hX hi hs (fun _ _ _ _ _ _ => rfl) (st_lor ht hk he)
  | lxor => exact plain_ok hF hX hi hs (fun _ _ _ _ _ _ => rfl) (st_lxor ht hk he)
  | lshl => exact plain_ok hF hX hi hs (fun _ _ _ _ _ _ => rfl) (st_lshl ht hk he)
  | lshr => exact plain_ok hF hX hi hs (fun _ _ _ _ _ _ => rfl) (st_lshr ht hk he)
  | lushr => exact plain_ok hF hX hi hs (fun _ _ _ _ _ _ => rfl) (st_lushr ht hk he)
  | lcmp => exact plain_ok hF hX hi hs (fun _ _ _ _ _ _ => rfl) (st_lcmp ht hk he)
  | i2l => exact plain_ok hF hX hi hs (fun _ _ _ _ _ _ => rfl) (st_i2l ht hk he)
  | l2i => exact plain_ok hF hX hi hs (fun _ _ _ _ _ _ => rfl) (st_l2i ht hk he)
  | goto off => exact plain_ok hF hX hi hs (fun _ _ _ _ _ _ => rfl) (st_goto (tl := tl) hQ hk he)
  | ifCond c off => exact plain_ok hF hX hi hs (fun _ _ _ _ _ _ => rfl) (st_if1 hQ ht hk hj he)
  | if_icmp c off => exact plain_ok hF hX hi hs (fun _ _ _ _ _ _ => rfl) (st_if2 hQ ht hk hj he)
  | if_acmp c off => exact plain_ok hF hX hi hs (fun _ _ _ _ _ _ => rfl) (st_acm hQ ht hk hj he)
  | tableswitch a b c e => exact plain_ok hF hX hi hs (fun _ _ _ _ _ _ => rfl) (st_tsw (tl := tl) hQ hk he)
  | lookupswitch a b => exact plain_ok hF hX hi hs (fun _ _ _ _ _ _ => rfl) (st_lsw (tl := tl) hQ hk he)
  | dup => exact plain_ok hF hX hi hs (fun _ _ _ _ _ _ => rfl) (st_dup ht hk he)
  | dup2 => exact plain_ok hF hX hi hs (fun _ _ _ _ _ _ => rfl) (st_dup2 ht hk he)
  | dup_x1 => exact plain_ok hF hX hi hs (fun _ _ _ _ _ _ => rfl) (st_dux ht hk he)
  | pop => exact plain_ok hF hX hi hs (fun _ _ _ _ _ _ => rfl) (st_pop ht hk he)
  | iaload => exact plain_ok hF hX hi hs (fun _ _ _ _ _ _ => rfl) (st_iaload hV ht hk he)
  | baload => exact plain_ok hF hX hi hs (fun _ _ _ _ _ _ => rfl) (st_baload hV ht hk he)
  | laload => exact plain_ok hF hX hi hs (fun _ _ _ _ _ _ => rfl) (st_laload ht hk he)
  | aaload => exact plain_ok hF hX hi hs (fun _ _ _ _ _ _ => rfl) (st_aaload ht hk he)
  | iastore => exact plain_ok hF hX hi hs (fun _ _ _ _ _ _ => rfl) (st_iastore ht hk he)
  | bastore => exact plain_ok hF hX hi hs (fun _ _ _ _ _ _ => rfl) (st_bastore ht hk he)
  | lastore => exact plain_ok hF hX hi hs (fun _ _ _ _ _ _ => rfl) (st_lastore ht hk he)
  | aastore => exact plain_ok hF hX hi hs (fun _ _ _ _ _ _ => rfl) (st_aastore ht hk he)
  | arraylength => exact plain_ok hF hX hi hs (fun _ _ _ _ _ _ => rfl) (st_aln hV ht hk he)
  | newarray a => exact plain_ok hF hX hi hs (fun _ _ _ _ _ _ => rfl) (st_newarray ht hk he)
  | anewarray a => exact plain_ok hF hX hi hs (fun _ _ _ _ _ _ => rfl) (st_anewarray ht hk he)
  | getfield a => exact plain_ok hF hX hi hs (fun _ _ _ _ _ _ => rfl) (st_get ht hk he)
  | putfield a => exact plain_ok hF hX hi hs (fun _ _ _ _ _ _ => rfl) (st_put ht hk he)
  | ldc a => exact plain_ok hF hX hi hs (fun _ _ _ _ _ _ => rfl) (st_ldc ht hk he)
  | ldc_w a => exact plain_ok hF hX hi hs (fun _ _ _ _ _ _ => rfl) (st_ldcw ht hk he)
  | ldc2_w a => exact plain_ok hF hX hi hs (fun _ _ _ _ _ _ => rfl) (st_ldc2 ht hk he)
  | checkcast a => exact plain_ok hF hX hi hs (fun _ _ _ _ _ _ => rfl) (st_cas ht hk he)
  | getstatic a => exact plain_ok hF hX hi hs (fun _ _ _ _ _ _ => rfl) (st_gst ht hk he)
  | new a => exact go_new hF hT hX hs hk he
  | ireturn => exact go_ire (F := F) hX hi hs hk he
  | lreturn => exact go_lre (F := F) hX hi hs hk he
  | areturn => exact go_are (F := F) hX hi hs hk he
  | return_ => exact go_vre (F := F) (tl := tl) hX hi hs hk he
  | invokevirtual a => exact go_ivi hF hT hX hs hk he
  | invokestatic a => exact go_ist hF hT hX hs hk he
  | invokespecial a => exact go_isp hF hT hX hs hk he
  | _ => exact Bool.noConfusion (show false = true from he)
theorem fx_sound (hT : ∀ Q ∈ fx_fm, fx_ok Q) (hV : fd_V ρ V) : ∀ n, fx_Snd ρ V (fx n) := by
  intro n
  induction n with
  | zero => intro X rest pc ls st h _ _ _ he; exact Bool.noConfusion (show false = true from he)
  | succ n ih =>
    intro X rest pc ls st h hX hs hk he
    cases rest with
    | nil => exact Bool.noConfusion (show false = true from he)
    | cons e tl =>
      obtain ⟨p, i, w⟩ := e
      obtain ⟨a, b⟩ := if_t (show fx_if (Nat.beq pc p) (fx_do i (fx n) X p tl w ls st h) false = true from he)
      rw [beq_iff] at a
      subst a
      exact fx_do_ok ih hT hV hX hs hk b
end FxD
