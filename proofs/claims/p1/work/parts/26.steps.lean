/-! Each instruction: what the executor passes on, the evaluator steps to. -/
def fd_V (ρ : Nat → Int32) (V : ev_V) : Prop := ρ 17 = Int32.ofNat V.1 ∧ V.1 < 2147483648 ∧ (∀ i, i < 16 → i < V.1 → ρ i = V.2 i) ∧ ρ 16 = ρ 0 &&& 63
def fx_sf (Q : fx_Q) (r : ev_M) : Prop := ∃ pre, Q.1.2.2.2.2.2.2 = pre ++ r
def fx_dft (x : Nat) : List Value := fd_s (fun _ => 0) (fx_D x)
def fd_St (ρ : Nat → Int32) (V : ev_V) (F : fx_F) (X : fx_X) (I : ev_I) (pc : Nat) (ls st : List fx_V) (h : fx_H) : Prop :=
  ∃ pc' r' ls' st' h', ev_s V fx_dft I pc (fd_l ρ ls) (fd_s ρ st) (fd_h ρ h) = some (pc', fd_l ρ ls', fd_s ρ st', fd_h ρ h') ∧ fx_sf X.2.2.1 r' ∧ F X pc' r' ls' st' h' = true ∧ fd_k ρ h'.2.2.2
theorem fv0 (ρ : Nat → Int32) (x : Nat) : fd_v ρ (0, x) = .int (fd_i ρ x) := rfl
theorem fv1 (ρ : Nat → Int32) (x : Nat) : fd_v ρ (1, x) = .long (Int64.ofNat x) := rfl
theorem fv2 (ρ : Nat → Int32) (x : Nat) : fd_v ρ (2, x) = .ref x := rfl
theorem fv3 (ρ : Nat → Int32) (x : Nat) : fd_v ρ (3, x) = .null := rfl
theorem fsc (ρ : Nat → Int32) (v : fx_V) (st : List fx_V) : fd_s ρ (v :: st) = fd_v ρ v :: fd_s ρ st := rfl
theorem eta2 (p : fx_V) {t : Nat} (h : p.1 = t) : p = (t, p.2) := by rw [← h]
theorem pi_ok {st : List fx_V} {k : Nat → List fx_V → Bool} (h : fx_pi st k = true) : ∃ x r, st = (0, x) :: r ∧ k x r = true := pt_ok h
section FxA
variable {ρ : Nat → Int32} {V : ev_V} {F : fx_F} {X : fx_X} {pc : Nat} {tl : ev_M} {w : Nat × Nat × Nat × Nat} {ls st : List fx_V} {h : fx_H}
theorem sf_nil {Q : fx_Q} : fx_sf Q [] := ⟨Q.1.2.2.2.2.2.2, by simp⟩
theorem wk_sf {Q : fx_Q} {t : Nat} : ∀ {l : ev_M}, fx_sf Q l → fx_sf Q (fx_wk l t) := by
  intro l
  induction l with
  | nil => intro h; exact h
  | cons x r ih =>
    intro h
    have e : fx_wk (x :: r) t = Bool.rec (motive := fun _ => ev_M) (fx_wk r t) (x :: r) (Nat.beq x.1 t) := rfl
    rw [e]
    cases Nat.beq x.1 t with
    | true => exact h
    | false =>
      obtain ⟨pre, hp⟩ := h
      exact ih ⟨pre ++ [x], by rw [hp]; simp⟩
theorem nth_sf {Q : fx_Q} : ∀ {l : List ev_M} {i : Nat}, (∀ r ∈ l, fx_sf Q r) → fx_sf Q (fx_nth l i) := by
  intro l
  induction l with
  | nil => intro i _; exact sf_nil
  | cons x t ih =>
    intro i h
    cases i with
    | zero => exact h x List.mem_cons_self
    | succ j => exact ih (i := j) (fun r hr => h r (List.mem_cons_of_mem _ hr))
theorem to_sf (hQ : ∀ r ∈ X.2.2.1.2, fx_sf X.2.2.1 r) (t : Nat) : fx_sf X.2.2.1 (fx_to X t) := wk_sf (nth_sf hQ)
theorem jt_ok {off : Int} {k : Nat → Bool} (he : fx_jt pc off k = true) : ∃ t, ev_jmp pc off = some t ∧ k t = true := by
  cases off with
  | ofNat n =>
    have he : fx_fr (Nat.add pc n) k = true := he
    rw [fr_eq] at he
    refine ⟨pc + n, ?_, he⟩
    unfold ev_jmp
    rw [if_pos (by simp only [Int.ofNat_eq_natCast]; omega)]
    simp only [Int.ofNat_eq_natCast, Option.some.injEq]
    omega
  | negSucc m =>
    have he : fx_if (Nat.blt m pc) (fx_fr (Nat.sub pc (Nat.succ m)) k) false = true := he
    obtain ⟨a, b⟩ := if_t he
    rw [blt_iff] at a
    rw [fr_eq] at b
    refine ⟨pc - (m + 1), ?_, b⟩
    unfold ev_jmp
    rw [Int.negSucc_eq, if_pos (by omega)]
    simp only [Option.some.injEq]
    omega
theorem go_ok (hQ : ∀ r ∈ X.2.2.1.2, fx_sf X.2.2.1 r) {off : Int} (he : fx_go F X pc off ls st h = true) : ∃ t r, ev_jmp pc off = some t ∧ fx_sf X.2.2.1 r ∧ F X t r ls st h = true := by
  obtain ⟨t, a, b⟩ := jt_ok he
  exact ⟨t, _, a, to_sf hQ t, b⟩
theorem br_ok (hQ : ∀ r ∈ X.2.2.1.2, fx_sf X.2.2.1 r) (hsf : fx_sf X.2.2.1 tl) {b : Bool} {off : Int} (hj : (ev_jmp pc off).isSome = true) (he : fx_br b F X pc tl off ls st h = true) : ∃ t r, ev_jmp pc off = some t ∧ fx_sf X.2.2.1 r ∧ F X (if b = true then t else pc + 3) r ls st h = true := by
  cases b with
  | true =>
    obtain ⟨t, r, a1, a2, a3⟩ := go_ok hQ (show fx_go F X pc off ls st h = true from he)
    exact ⟨t, r, a1, a2, a3⟩
  | false =>
    obtain ⟨t, ht⟩ := Option.isSome_iff_exists.mp hj
    exact ⟨t, tl, ht, hsf, he⟩
theorem ld_ok {t i n : Nat} (ht : t < 4) (he : fx_ld t i n F X pc tl w ls st h = true) : ∃ x, ev_ldv (fd_l ρ ls) i = some (fd_v ρ (t, x)) ∧ F X (pc + n) tl ls ((t, x) :: st) h = true := by
  have he : fx_if (Nat.beq (fx_li ls i).1 t) (F X (pc + n) tl ls (((fx_li ls i).1, (fx_li ls i).2) :: st) h) false = true := he
  obtain ⟨a, b⟩ := if_t he
  rw [beq_iff] at a
  refine ⟨(fx_li ls i).2, ?_, ?_⟩
  · rw [fd_li (by omega), ← eta2 _ a]
  · rw [a] at b; exact b
theorem st_iload_n (hsf : fx_sf X.2.2.1 tl) (hk : fd_k ρ h.2.2.2) {i : Fin 4} (he : fx_ld 0 i.val 1 F X pc tl w ls st h = true) : fd_St ρ V F X (.iload_n i, w) pc ls st h := by
  obtain ⟨x, a, b⟩ := ld_ok (ρ := ρ) (by decide) he
  exact ⟨_, _, _, _, _, by simp only [ev_s, a, fv0]; rfl, hsf, b, hk⟩
theorem st_iload (hsf : fx_sf X.2.2.1 tl) (hk : fd_k ρ h.2.2.2) {i : Nat} (he : fx_ld 0 i 2 F X pc tl w ls st h = true) : fd_St ρ V F X (.iload i, w) pc ls st h := by
  obtain ⟨x, a, b⟩ := ld_ok (ρ := ρ) (by decide) he
  exact ⟨_, _, _, _, _, by simp only [ev_s, a, fv0]; rfl, hsf, b, hk⟩
theorem st_lload_n (hsf : fx_sf X.2.2.1 tl) (hk : fd_k ρ h.2.2.2) {i : Fin 4} (he : fx_ld 1 i.val 1 F X pc tl w ls st h = true) : fd_St ρ V F X (.lload_n i, w) pc ls st h := by
  obtain ⟨x, a, b⟩ := ld_ok (ρ := ρ) (by decide) he
  exact ⟨_, _, _, _, _, by simp only [ev_s, a, fv1]; rfl, hsf, b, hk⟩
theorem st_lload (hsf : fx_sf X.2.2.1 tl) (hk : fd_k ρ h.2.2.2) {i : Nat} (he : fx_ld 1 i 2 F X pc tl w ls st h = true) : fd_St ρ V F X (.lload i, w) pc ls st h := by
  obtain ⟨x, a, b⟩ := ld_ok (ρ := ρ) (by decide) he
  exact ⟨_, _, _, _, _, by simp only [ev_s, a, fv1]; rfl, hsf, b, hk⟩
theorem st_aload_n (hsf : fx_sf X.2.2.1 tl) (hk : fd_k ρ h.2.2.2) {i : Fin 4} (he : fx_ld 2 i.val 1 F X pc tl w ls st h = true) : fd_St ρ V F X (.aload_n i, w) pc ls st h := by
  obtain ⟨x, a, b⟩ := ld_ok (ρ := ρ) (by decide) he
  exact ⟨_, _, _, _, _, by simp only [ev_s, a, fv2]; rfl, hsf, b, hk⟩
theorem st_aload (hsf : fx_sf X.2.2.1 tl) (hk : fd_k ρ h.2.2.2) {i : Nat} (he : fx_ld 2 i 2 F X pc tl w ls st h = true) : fd_St ρ V F X (.aload i, w) pc ls st h := by
  obtain ⟨x, a, b⟩ := ld_ok (ρ := ρ) (by decide) he
  exact ⟨_, _, _, _, _, by simp only [ev_s, a, fv2]; rfl, hsf, b, hk⟩
theorem sto_ok {t i n : Nat} (ht : t < 4) (he : fx_sto t i n F X pc tl w ls st h = true) : ∃ x r ls', st = (t, x) :: r ∧ ev_st1 (fd_l ρ ls) i (fd_v ρ (t, x)) = some (fd_l ρ ls') ∧ F X (pc + n) tl ls' r h = true := by
  obtain ⟨x, r, rfl, a1_⟩ := pt_ok he
  have a := a1_
  obtain ⟨ls', b, c⟩ := s1_ok (ρ := ρ) (v := (t, x)) ht a
  exact ⟨x, r, ls', rfl, b, c⟩
theorem st_istore_n (hsf : fx_sf X.2.2.1 tl) (hk : fd_k ρ h.2.2.2) {i : Fin 4} (he : fx_sto 0 i.val 1 F X pc tl w ls st h = true) : fd_St ρ V F X (.istore_n i, w) pc ls st h := by
  obtain ⟨x, r, ls', rfl, a, b⟩ := sto_ok (ρ := ρ) (by decide) he
  rw [fv0] at a
  exact ⟨_, _, _, _, _, by simp only [ev_s, fsc, fv0, a]; rfl, hsf, b, hk⟩
theorem st_istore (hsf : fx_sf X.2.2.1 tl) (hk : fd_k ρ h.2.2.2) {i : Nat} (he : fx_sto 0 i 2 F X pc tl w ls st h = true) : fd_St ρ V F X (.istore i, w) pc ls st h := by
  obtain ⟨x, r, ls', rfl, a, b⟩ := sto_ok (ρ := ρ) (by decide) he
  rw [fv0] at a
  exact ⟨_, _, _, _, _, by simp only [ev_s, fsc, fv0, a]; rfl, hsf, b, hk⟩
theorem st_astore_n (hsf : fx_sf X.2.2.1 tl) (hk : fd_k ρ h.2.2.2) {i : Fin 4} (he : fx_sto 2 i.val 1 F X pc tl w ls st h = true) : fd_St ρ V F X (.astore_n i, w) pc ls st h := by
  obtain ⟨x, r, ls', rfl, a, b⟩ := sto_ok (ρ := ρ) (by decide) he
  rw [fv2] at a
  exact ⟨_, _, _, _, _, by simp only [ev_s, fsc, fv2, a]; rfl, hsf, b, hk⟩
theorem st_astore (hsf : fx_sf X.2.2.1 tl) (hk : fd_k ρ h.2.2.2) {i : Nat} (he : fx_sto 2 i 2 F X pc tl w ls st h = true) : fd_St ρ V F X (.astore i, w) pc ls st h := by
  obtain ⟨x, r, ls', rfl, a, b⟩ := sto_ok (ρ := ρ) (by decide) he
  rw [fv2] at a
  exact ⟨_, _, _, _, _, by simp only [ev_s, fsc, fv2, a]; rfl, hsf, b, hk⟩
theorem stl_ok {i n : Nat} (he : fx_stl i n F X pc tl w ls st h = true) : ∃ x r ls', st = (1, x) :: r ∧ ev_st2 (fd_l ρ ls) i (.long (Int64.ofNat x)) = some (fd_l ρ ls') ∧ F X (pc + n) tl ls' r h = true := by
  obtain ⟨x, r, rfl, a1_⟩ := pt_ok he
  have a := a1_
  obtain ⟨ls', b, c⟩ := s2_ok (ρ := ρ) (v := (1, x)) (show 1 < 4 by decide) a
  exact ⟨x, r, ls', rfl, b, c⟩
theorem st_lstore_n (hsf : fx_sf X.2.2.1 tl) (hk : fd_k ρ h.2.2.2) {i : Fin 4} (he : fx_stl i.val 1 F X pc tl w ls st h = true) : fd_St ρ V F X (.lstore_n i, w) pc ls st h := by
  obtain ⟨x, r, ls', rfl, a, b⟩ := stl_ok (ρ := ρ) he
  exact ⟨_, _, _, _, _, by simp only [ev_s, fsc, fv1, a]; rfl, hsf, b, hk⟩
theorem st_lstore (hsf : fx_sf X.2.2.1 tl) (hk : fd_k ρ h.2.2.2) {i : Nat} (he : fx_stl i 2 F X pc tl w ls st h = true) : fd_St ρ V F X (.lstore i, w) pc ls st h := by
  obtain ⟨x, r, ls', rfl, a, b⟩ := stl_ok (ρ := ρ) he
  exact ⟨_, _, _, _, _, by simp only [ev_s, fsc, fv1, a]; rfl, hsf, b, hk⟩
theorem st_iinc (hsf : fx_sf X.2.2.1 tl) (hk : fd_k ρ h.2.2.2) {i : Nat} {n : Int} (he : fx_iinc i n F X pc tl w ls st h = true) : fd_St ρ V F X (.iinc i n, w) pc ls st h := by
  have he : fx_if (Nat.beq (fx_li ls i).1 0) (fx_kn (fx_li ls i).2 h (fun x h => fx_fr (Nat.mod (Nat.add x (fx_in n)) 4294967296) (fun z => fx_s1 ls i (0, z) (fun ls => F X (pc + 3) tl ls st h)))) false = true := he
  obtain ⟨a, b⟩ := if_t he
  rw [beq_iff] at a
  have a0 : ev_ldv (fd_l ρ ls) i = some (.int (fd_i ρ (fx_li ls i).2)) := by rw [fd_li (by omega), eta2 _ a]; rfl
  obtain ⟨v, r, v1, v2, v3, v4⟩ := kn_ok (ρ := ρ) b hk
  rw [fr_eq] at v4
  obtain ⟨ls', c1, c2⟩ := s1_ok (ρ := ρ) (v := (0, (v + fx_in n) % 4294967296)) (show 0 < 4 by decide) v4
  have e : fd_i ρ ((v + fx_in n) % 4294967296) = Int32.ofNat v + Int32.ofInt n := by
    rw [fd_i_lt ρ (Nat.mod_lt _ (by decide)), of_mod, Int32.ofNat_add, fo_in]
  rw [fv0, e] at c1
  exact ⟨_, _, _, _, _, by simp only [ev_s, a0, v2, c1]; rfl, hsf, c2, v3⟩
theorem st_iconst (hsf : fx_sf X.2.2.1 tl) (hk : fd_k ρ h.2.2.2) {n : Int} (he : fx_ic n 1 F X pc tl w ls st h = true) : fd_St ρ V F X (.iconst n, w) pc ls st h := by
  unfold fx_ic at he
  rw [fr_eq] at he
  refine ⟨_, _, _, _, _, ?_, hsf, he, hk⟩
  simp only [ev_s, fsc, fv0, fd_i_lt ρ (in_lt n), fo_in]
theorem st_bipush (hsf : fx_sf X.2.2.1 tl) (hk : fd_k ρ h.2.2.2) {n : Int} (he : fx_ib 128 256 n 2 F X pc tl w ls st h = true) : fd_St ρ V F X (.bipush n, w) pc ls st h := by
  unfold fx_ib at he
  rw [fr_eq] at he
  obtain ⟨a, b⟩ := if_t he
  rw [blt_iff] at a
  refine ⟨_, _, _, _, _, ?_, hsf, b, hk⟩
  simp only [ev_s, fsc, fv0, fd_i_lt ρ (in_lt n), fo_int a]
theorem st_sipush (hsf : fx_sf X.2.2.1 tl) (hk : fd_k ρ h.2.2.2) {n : Int} (he : fx_ib 32768 65536 n 3 F X pc tl w ls st h = true) : fd_St ρ V F X (.sipush n, w) pc ls st h := by
  unfold fx_ib at he
  rw [fr_eq] at he
  obtain ⟨a, b⟩ := if_t he
  rw [blt_iff] at a
  refine ⟨_, _, _, _, _, ?_, hsf, b, hk⟩
  simp only [ev_s, fsc, fv0, fd_i_lt ρ (in_lt n), fo_ins a]
theorem st_lconst (hsf : fx_sf X.2.2.1 tl) (hk : fd_k ρ h.2.2.2) {n : Fin 2} (he : fx_ct 1 n.val 1 F X pc tl w ls st h = true) : fd_St ρ V F X (.lconst n, w) pc ls st h := ⟨_, _, _, _, _, rfl, hsf, he, hk⟩
theorem st_null (hsf : fx_sf X.2.2.1 tl) (hk : fd_k ρ h.2.2.2) (he : fx_ct 3 0 1 F X pc tl w ls st h = true) : fd_St ρ V F X (.aconst_null, w) pc ls st h := ⟨_, _, _, _, _, rfl, hsf, he, hk⟩
theorem i2_ok (hk : fd_k ρ h.2.2.2) {f : Nat → Nat → Nat} (he : fx_i2 f F X pc tl w ls st h = true) : ∃ y x s v u r, st = (0, y) :: (0, x) :: s ∧ v < 4294967296 ∧ u < 4294967296 ∧ fd_i ρ x = Int32.ofNat v ∧ fd_i ρ y = Int32.ofNat u ∧ fd_k ρ r ∧ F X (pc + 1) tl ls ((0, f v u) :: s) (fd_w h r) = true := by
  obtain ⟨y, s1, rfl, a1_⟩ := pi_ok he
  obtain ⟨x, s, rfl, a1__⟩ := pi_ok a1_
  have a := a1__
  obtain ⟨v, r, v1, v2, v3, v4⟩ := kn_ok (ρ := ρ) a hk
  obtain ⟨u, r2, u1, u2, u3, u4⟩ := kn_ok (ρ := ρ) v4 v3
  rw [fr_eq] at u4
  exact ⟨y, x, s, v, u, r2, rfl, v1, u1, v2, u2, u3, u4⟩
theorem st_iadd (hsf : fx_sf X.2.2.1 tl) (hk : fd_k ρ h.2.2.2) (he : fx_i2 fx_fadd F X pc tl w ls st h = true) : fd_St ρ V F X (.iadd, w) pc ls st h := by
  obtain ⟨y, x, s, v, u, r, rfl, v1, u1, v2, u2, r1, a⟩ := i2_ok (ρ := ρ) hk he
  refine ⟨_, _, _, _, _, ?_, hsf, a, r1⟩
  simp only [ev_s, ev_ii, fsc, fv0, v2, u2, fd_i_lt ρ (show fx_fadd v u < 4294967296 from Nat.mod_lt _ (by decide)), fo_add]
  rfl
theorem st_imul (hsf : fx_sf X.2.2.1 tl) (hk : fd_k ρ h.2.2.2) (he : fx_i2 fx_fmul F X pc tl w ls st h = true) : fd_St ρ V F X (.imul, w) pc ls st h := by
  obtain ⟨y, x, s, v, u, r, rfl, v1, u1, v2, u2, r1, a⟩ := i2_ok (ρ := ρ) hk he
  refine ⟨_, _, _, _, _, ?_, hsf, a, r1⟩
  simp only [ev_s, ev_ii, fsc, fv0, v2, u2, fd_i_lt ρ (show fx_fmul v u < 4294967296 from Nat.mod_lt _ (by decide)), fo_mul]
  rfl
theorem st_isub2 (hsf : fx_sf X.2.2.1 tl) (hk : fd_k ρ h.2.2.2) (he : fx_i2 fx_fsub F X pc tl w ls st h = true) : fd_St ρ V F X (.isub, w) pc ls st h := by
  obtain ⟨y, x, s, v, u, r, rfl, v1, u1, v2, u2, r1, a⟩ := i2_ok (ρ := ρ) hk he
  refine ⟨_, _, _, _, _, ?_, hsf, a, r1⟩
  simp only [ev_s, ev_ii, fsc, fv0, v2, u2, fd_i_lt ρ (show fx_fsub v u < 4294967296 from Nat.mod_lt _ (by decide)), fo_sub u1]
  rfl
theorem neg_neg1 (a : Int32) : -1 - (-1 - a) = a := by
  apply fd_b_eq
  have h := fd_b_lt a
  rw [fd_b_neg, fd_b_neg]
  omega
theorem st_isub (hsf : fx_sf X.2.2.1 tl) (hk : fd_k ρ h.2.2.2) (he : fx_isub F X pc tl w ls st h = true) : fd_St ρ V F X (.isub, w) pc ls st h := by
  have he0 := he
  obtain ⟨y, s1, rfl, a1_⟩ := pi_ok he
  have a := a1_
  rcases if_or a with ⟨a1, a2⟩ | ⟨a1, a2⟩
  · exact st_isub2 hsf hk a2
  · obtain ⟨y', s1', e, b⟩ := pi_ok a2
    cases e
    obtain ⟨x, s, rfl, b'⟩ := pi_ok b
    rcases if_or b' with ⟨b1, b2⟩ | ⟨b1, b2⟩
    · obtain ⟨c1, c2⟩ := if_t b1
      obtain ⟨c2, c3⟩ := if_t c2
      rw [beq_iff] at c1
      rw [ble_iff] at c2
      rw [blt_iff] at c3
      subst c1
      have ex : fd_i ρ 4294967295 = -1 := by rw [fd_i_lt ρ (by decide), of_m1]
      rcases if_or b2 with ⟨d1, d2⟩ | ⟨d1, d2⟩
      · rw [blt_iff] at d1
        rw [fr_eq] at d2
        have e2 : fd_i ρ (Nat.add y 4294967296) = -1 - fd_i ρ y := by
          show fd_i ρ (y + 4294967296) = _
          unfold fd_i
          rw [if_neg (by omega), if_neg (by omega), if_neg (by omega), if_pos d1, show y + 4294967296 - 8589934592 = y - 4294967296 by omega]
        refine ⟨_, _, _, _, _, ?_, hsf, d2, hk⟩
        simp only [ev_s, ev_ii, fsc, fv0, ex, e2]
        rfl
      · rw [blt_no] at d1
        rw [fr_eq] at d2
        have e2 : fd_i ρ (Nat.sub y 4294967296) = -1 - fd_i ρ y := by
          show fd_i ρ (y - 4294967296) = _
          unfold fd_i
          rw [if_neg (by omega), if_pos (by omega), if_neg (by omega), if_neg d1, neg_neg1, show y - 4294967296 - 4294967296 = y - 8589934592 by omega]
        refine ⟨_, _, _, _, _, ?_, hsf, d2, hk⟩
        simp only [ev_s, ev_ii, fsc, fv0, ex, e2]
        rfl
    · exact st_isub2 hsf hk b2
theorem st_iand (hV : fd_V ρ V) (hsf : fx_sf X.2.2.1 tl) (hk : fd_k ρ h.2.2.2) (he : fx_iand F X pc tl w ls st h = true) : fd_St ρ V F X (.iand, w) pc ls st h := by
  obtain ⟨y, s1, rfl, a1_⟩ := pi_ok he
  obtain ⟨x, s, rfl, a1__⟩ := pi_ok a1_
  have a := a1__
  rcases if_or a with ⟨a1, a2⟩ | ⟨a1, a2⟩
  · obtain ⟨b1, b2⟩ := if_t a2
    rw [beq_iff] at a1 b1
    subst a1; subst b1
    refine ⟨_, _, _, _, _, ?_, hsf, b2, hk⟩
    have e1 : fd_i ρ 4294967296 = ρ 0 := rfl
    have e2 : fd_i ρ 63 = 63 := rfl
    have e3 : fd_i ρ 4294967312 = ρ 16 := rfl
    simp only [ev_s, ev_ii, fsc, fv0, e1, e2, e3, hV.2.2.2]
    rfl
  · obtain ⟨y, x, s, v, u, r, e, v1, u1, v2, u2, r1, a⟩ := i2_ok (ρ := ρ) hk a2
    cases e
    refine ⟨_, _, _, _, _, ?_, hsf, a, r1⟩
    simp only [ev_s, ev_ii, fsc, fv0, v2, u2, fd_i_lt ρ (show Nat.land v u < 4294967296 from Nat.and_lt_two_pow (n := 32) v u1), fo_and]
    rfl
theorem st_ineg (hsf : fx_sf X.2.2.1 tl) (hk : fd_k ρ h.2.2.2) (he : fx_ineg F X pc tl w ls st h = true) : fd_St ρ V F X (.ineg, w) pc ls st h := by
  obtain ⟨x, s, rfl, a1_⟩ := pi_ok he
  have a := a1_
  obtain ⟨v, r, v1, v2, v3, v4⟩ := kn_ok (ρ := ρ) a hk
  rw [fr_eq] at v4
  refine ⟨_, _, _, _, _, ?_, hsf, v4, v3⟩
  have e : fd_i ρ (Nat.mod (Nat.sub 4294967296 v) 4294967296) = -Int32.ofNat v := by
    show fd_i ρ ((4294967296 - v) % 4294967296) = _
    rw [fd_i_lt ρ (Nat.mod_lt _ (by decide))]
    exact fo_neg v1
  simp only [ev_s, fsc, fv0, v2, e]
  rfl
theorem l2_ok {f : Nat → Nat → Nat} (he : fx_l2 f F X pc tl w ls st h = true) : ∃ y x s, st = (1, y) :: (1, x) :: s ∧ F X (pc + 1) tl ls ((1, f x y) :: s) h = true := by
  obtain ⟨y, s1, rfl, a1_⟩ := pt_ok he
  obtain ⟨x, s, rfl, a1__⟩ := pt_ok a1_
  have a := a1__
  rw [fr_eq] at a
  exact ⟨y, x, s, rfl, a⟩
theorem st_ladd (hsf : fx_sf X.2.2.1 tl) (hk : fd_k ρ h.2.2.2) (he : fx_l2 fx_gadd F X pc tl w ls st h = true) : fd_St ρ V F X (.ladd, w) pc ls st h := by
  obtain ⟨y, x, s, rfl, a⟩ := l2_ok he
  exact ⟨_, _, _, _, _, by simp only [ev_s, ev_ll, fsc, fv1, go_add]; rfl, hsf, a, hk⟩
theorem st_lsub (hsf : fx_sf X.2.2.1 tl) (hk : fd_k ρ h.2.2.2) (he : fx_l2 fx_gsub F X pc tl w ls st h = true) : fd_St ρ V F X (.lsub, w) pc ls st h := by
  obtain ⟨y, x, s, rfl, a⟩ := l2_ok he
  exact ⟨_, _, _, _, _, by simp only [ev_s, ev_ll, fsc, fv1, go_sub]; rfl, hsf, a, hk⟩
theorem st_lmul (hsf : fx_sf X.2.2.1 tl) (hk : fd_k ρ h.2.2.2) (he : fx_l2 fx_gmul F X pc tl w ls st h = true) : fd_St ρ V F X (.lmul, w) pc ls st h := by
  obtain ⟨y, x, s, rfl, a⟩ := l2_ok he
  exact ⟨_, _, _, _, _, by simp only [ev_s, ev_ll, fsc, fv1, go_mul]; rfl, hsf, a, hk⟩
theorem st_land (hsf : fx_sf X.2.2.1 tl) (hk : fd_k ρ h.2.2.2) (he : fx_l2 Nat.land F X pc tl w ls st h = true) : fd_St ρ V F X (.land, w) pc ls st h := by
  obtain ⟨y, x, s, rfl, a⟩ := l2_ok he
  exact ⟨_, _, _, _, _, by simp only [ev_s, ev_ll, fsc, fv1, go_and]; rfl, hsf, a, hk⟩
theorem st_lor (hsf : fx_sf X.2.2.1 tl) (hk : fd_k ρ h.2.2.2) (he : fx_l2 Nat.lor F X pc tl w ls st h = true) : fd_St ρ V F X (.lor, w) pc ls st h := by
  obtain ⟨y, x, s, rfl, a⟩ := l2_ok he
  exact ⟨_, _, _, _, _, by simp only [ev_s, ev_ll, fsc, fv1, go_or]; rfl, hsf, a, hk⟩
theorem st_lxor (hsf : fx_sf X.2.2.1 tl) (hk : fd_k ρ h.2.2.2) (he : fx_l2 Nat.xor F X pc tl w ls st h = true) : fd_St ρ V F X (.lxor, w) pc ls st h := by
  obtain ⟨y, x, s, rfl, a⟩ := l2_ok he
  exact ⟨_, _, _, _, _, by simp only [ev_s, ev_ll, fsc, fv1, go_xor]; rfl, hsf, a, hk⟩
theorem lsh_ok (hk : fd_k ρ h.2.2.2) {f : Nat → Nat → Nat} (he : fx_lsh f F X pc tl w ls st h = true) : ∃ y x s u r, st = (0, y) :: (1, x) :: s ∧ fd_i ρ y = Int32.ofNat u ∧ fd_k ρ r ∧ F X (pc + 1) tl ls ((1, f x u) :: s) (fd_w h r) = true := by
  obtain ⟨y, s1, rfl, a1_⟩ := pi_ok he
  obtain ⟨x, s, rfl, a1__⟩ := pt_ok a1_
  have a := a1__
  obtain ⟨v, r, v1, v2, v3, v4⟩ := kn_ok (ρ := ρ) a hk
  rw [fr_eq] at v4
  exact ⟨y, x, s, v, r, rfl, v2, v3, v4⟩
theorem st_lshl (hsf : fx_sf X.2.2.1 tl) (hk : fd_k ρ h.2.2.2) (he : fx_lsh fx_gshl F X pc tl w ls st h = true) : fd_St ρ V F X (.lshl, w) pc ls st h := by
  obtain ⟨y, x, s, u, r, rfl, u2, r1, a⟩ := lsh_ok (ρ := ρ) hk he
  exact ⟨_, _, _, _, _, by simp only [ev_s, ev_li, fsc, fv0, fv1, u2, go_shl]; rfl, hsf, a, r1⟩
theorem st_lshr (hsf : fx_sf X.2.2.1 tl) (hk : fd_k ρ h.2.2.2) (he : fx_lsh fx_gshr F X pc tl w ls st h = true) : fd_St ρ V F X (.lshr, w) pc ls st h := by
  obtain ⟨y, x, s, u, r, rfl, u2, r1, a⟩ := lsh_ok (ρ := ρ) hk he
  exact ⟨_, _, _, _, _, by simp only [ev_s, ev_li, fsc, fv0, fv1, u2, go_shr]; rfl, hsf, a, r1⟩
theorem st_lushr (hsf : fx_sf X.2.2.1 tl) (hk : fd_k ρ h.2.2.2) (he : fx_lsh fx_gush F X pc tl w ls st h = true) : fd_St ρ V F X (.lushr, w) pc ls st h := by
  obtain ⟨y, x, s, u, r, rfl, u2, r1, a⟩ := lsh_ok (ρ := ρ) hk he
  exact ⟨_, _, _, _, _, by simp only [ev_s, ev_li, fsc, fv0, fv1, u2, go_ush]; rfl, hsf, a, r1⟩
theorem st_lcmp (hsf : fx_sf X.2.2.1 tl) (hk : fd_k ρ h.2.2.2) (he : fx_lcmp F X pc tl w ls st h = true) : fd_St ρ V F X (.lcmp, w) pc ls st h := by
  obtain ⟨y, s1, rfl, a1_⟩ := pt_ok he
  obtain ⟨x, s, rfl, a1__⟩ := pt_ok a1_
  have a := a1__
  rw [fr_eq] at a
  have e : fd_i ρ (fx_lcm (Nat.mod (Nat.add x 9223372036854775808) 18446744073709551616) (Nat.mod (Nat.add y 9223372036854775808) 18446744073709551616)) = lg_cmp (Int64.ofNat x) (Int64.ofNat y) := by
    rw [fd_i_lt ρ (lcm_lt _ _)]
    exact go_cmp x y
  refine ⟨_, _, _, _, _, ?_, hsf, a, hk⟩
  simp only [ev_s, fsc, fv0, fv1, e]
theorem st_i2l (hsf : fx_sf X.2.2.1 tl) (hk : fd_k ρ h.2.2.2) (he : fx_i2l F X pc tl w ls st h = true) : fd_St ρ V F X (.i2l, w) pc ls st h := by
  obtain ⟨x, s, rfl, a1_⟩ := pi_ok he
  have a := a1_
  obtain ⟨v, r, v1, v2, v3, v4⟩ := kn_ok (ρ := ρ) a hk
  rw [fr_eq] at v4
  exact ⟨_, _, _, _, _, by simp only [ev_s, fsc, fv0, fv1, v2, go_i2l v1]; rfl, hsf, v4, v3⟩
theorem st_l2i (hsf : fx_sf X.2.2.1 tl) (hk : fd_k ρ h.2.2.2) (he : fx_l2i F X pc tl w ls st h = true) : fd_St ρ V F X (.l2i, w) pc ls st h := by
  obtain ⟨x, s, rfl, a1_⟩ := pt_ok he
  have a := a1_
  rw [fr_eq] at a
  have e : fd_i ρ (Nat.mod x 4294967296) = (Int64.ofNat x).toInt32 := by
    show fd_i ρ (x % 4294967296) = _
    rw [fd_i_lt ρ (Nat.mod_lt _ (by decide))]
    exact go_l2i x
  exact ⟨_, _, _, _, _, by simp only [ev_s, fsc, fv0, fv1, e], hsf, a, hk⟩
theorem st_goto (hQ : ∀ r ∈ X.2.2.1.2, fx_sf X.2.2.1 r) (hk : fd_k ρ h.2.2.2) {off : Int} (he : fx_goto off F X pc tl w ls st h = true) : fd_St ρ V F X (.goto off, w) pc ls st h := by
  obtain ⟨t, r, a, b, c⟩ := go_ok hQ he
  exact ⟨_, _, _, _, _, by simp only [ev_s, a]; rfl, b, c, hk⟩
theorem st_if1 (hQ : ∀ r ∈ X.2.2.1.2, fx_sf X.2.2.1 r) (hsf : fx_sf X.2.2.1 tl) (hk : fd_k ρ h.2.2.2) {c : ClassFile.Cond} {off : Int} (hj : (ev_jmp pc off).isSome = true) (he : fx_if1 c off F X pc tl w ls st h = true) : fd_St ρ V F X (.ifCond c off, w) pc ls st h := by
  obtain ⟨x, s, rfl, a1_⟩ := pi_ok he
  have a := a1_
  obtain ⟨r, c1, c2⟩ := cb_ok (ρ := ρ) a hk
  obtain ⟨t, r', d1, d2, d3⟩ := br_ok hQ hsf hj c2
  have e0 : fd_i ρ 0 = 0 := rfl
  rw [e0] at d3
  exact ⟨_, _, _, _, _, by simp only [ev_s, fsc, fv0, d1]; rfl, d2, d3, c1⟩
theorem st_if2 (hQ : ∀ r ∈ X.2.2.1.2, fx_sf X.2.2.1 r) (hsf : fx_sf X.2.2.1 tl) (hk : fd_k ρ h.2.2.2) {c : ClassFile.Cond} {off : Int} (hj : (ev_jmp pc off).isSome = true) (he : fx_if2 c off F X pc tl w ls st h = true) : fd_St ρ V F X (.if_icmp c off, w) pc ls st h := by
  obtain ⟨y, s1, rfl, a1_⟩ := pi_ok he
  obtain ⟨x, s, rfl, a1__⟩ := pi_ok a1_
  have a := a1__
  obtain ⟨r, c1, c2⟩ := cb_ok (ρ := ρ) a hk
  obtain ⟨t, r', d1, d2, d3⟩ := br_ok hQ hsf hj c2
  exact ⟨_, _, _, _, _, by simp only [ev_s, fsc, fv0, d1]; rfl, d2, d3, c1⟩
theorem st_acm (hQ : ∀ r ∈ X.2.2.1.2, fx_sf X.2.2.1 r) (hsf : fx_sf X.2.2.1 tl) (hk : fd_k ρ h.2.2.2) {c : ClassFile.ACond} {off : Int} (hj : (ev_jmp pc off).isSome = true) (he : fx_acm c off F X pc tl w ls st h = true) : fd_St ρ V F X (.if_acmp c off, w) pc ls st h := by
  obtain ⟨y, s1, rfl, a1_⟩ := pt_ok he
  obtain ⟨x, s, rfl, a1__⟩ := pt_ok a1_
  have a := a1__
  obtain ⟨a1, a2⟩ := if_t a
  obtain ⟨t, r', d1, d2, d3⟩ := br_ok hQ hsf hj a2
  have hc : x = y ∨ x < ev_ext ∨ y < ev_ext := by
    rcases if_or a1 with ⟨b1, -⟩ | ⟨-, b1⟩
    · exact Or.inr (Or.inl (blt_iff.mp b1))
    · rcases if_or b1 with ⟨b1, -⟩ | ⟨-, b1⟩
      · exact Or.inr (Or.inr (blt_iff.mp b1))
      · exact Or.inl (beq_iff.mp b1)
  have e : fx_ac c (Nat.beq x y) = ev_ac c (decide (x = y)) := by
    have e2 : Nat.beq x y = decide (x = y) := by rw [Bool.eq_iff_iff, beq_iff, decide_eq_true_iff]
    rw [e2]
    cases c with
    | eq => rfl
    | ne => exact nt_eq _
  rw [e] at d3
  exact ⟨_, _, _, _, _, by simp only [ev_s, fsc, fv2, d1, if_pos hc]; rfl, d2, d3, hk⟩
theorem st_tsw (hQ : ∀ r ∈ X.2.2.1.2, fx_sf X.2.2.1 r) (hk : fd_k ρ h.2.2.2) {dflt lo hi : Int} {offs : Array Int} (he : fx_tsw dflt lo hi offs F X pc tl w ls st h = true) : fd_St ρ V F X (.tableswitch dflt lo hi offs, w) pc ls st h := by
  obtain ⟨x, s, rfl, a1_⟩ := pi_ok he
  have a := a1_
  obtain ⟨v, r, v1, v2, v3, v4⟩ := kn_ok (ρ := ρ) a hk
  cases ho : ev_sw lo hi dflt offs (fx_ti v) with
  | none => rw [ho] at v4; cases v4
  | some o =>
    rw [ho] at v4
    obtain ⟨t, r', d1, d2, d3⟩ := go_ok hQ (show fx_go F X pc o ls s (fd_w h r) = true from v4)
    rw [fo_ti v1, ← v2] at ho
    exact ⟨_, _, _, _, _, by simp only [ev_s, fsc, fv0, ho, Option.bind_some, d1]; rfl, d2, d3, v3⟩
theorem st_lsw (hQ : ∀ r ∈ X.2.2.1.2, fx_sf X.2.2.1 r) (hk : fd_k ρ h.2.2.2) {dflt : Int} {ps : Array (Int × Int)} (he : fx_lsw dflt ps F X pc tl w ls st h = true) : fd_St ρ V F X (.lookupswitch dflt ps, w) pc ls st h := by
  obtain ⟨x, s, rfl, a1_⟩ := pi_ok he
  have a := a1_
  obtain ⟨v, r, v1, v2, v3, v4⟩ := kn_ok (ρ := ρ) a hk
  obtain ⟨b1, b2⟩ := if_t v4
  obtain ⟨t, r', d1, d2, d3⟩ := go_ok hQ b2
  rw [fo_ti v1, ← v2] at d1
  exact ⟨_, _, _, _, _, by simp only [ev_s, fsc, fv0, d1]; rw [if_pos b1]; rfl, d2, d3, v3⟩
theorem cat_ok {v : fx_V} (h : Nat.beq v.1 1 = false) : (fd_v ρ v).category = 1 := by
  rw [fd_cat, if_neg (beq_no.mp h)]
theorem if_f {b x : Bool} (h : fx_if b false x = true) : b = false ∧ x = true := by cases b with
  | true => cases h
  | false => exact ⟨rfl, h⟩
theorem st_dup (hsf : fx_sf X.2.2.1 tl) (hk : fd_k ρ h.2.2.2) (he : fx_dup F X pc tl w ls st h = true) : fd_St ρ V F X (.dup, w) pc ls st h := by
  obtain ⟨t, x, s, rfl, a1_⟩ := p_ok he
  have a := a1_
  obtain ⟨a1, a2⟩ := if_f a
  exact ⟨_, _, _, _, _, by simp only [ev_s, fsc, cat_ok (ρ := ρ) (v := (t, x)) a1]; rfl, hsf, a2, hk⟩
theorem st_dup2 (hsf : fx_sf X.2.2.1 tl) (hk : fd_k ρ h.2.2.2) (he : fx_dup2 F X pc tl w ls st h = true) : fd_St ρ V F X (.dup2, w) pc ls st h := by
  obtain ⟨t, x, s, rfl, a1_⟩ := p_ok he
  obtain ⟨t', x', s, rfl, a1__⟩ := p_ok a1_
  have a := a1__
  obtain ⟨a1, a2⟩ := if_f a
  obtain ⟨a2, a3⟩ := if_f a2
  exact ⟨_, _, _, _, _, by simp only [ev_s, fsc, cat_ok (ρ := ρ) (v := (t, x)) a1, cat_ok (ρ := ρ) (v := (t', x')) a2]; rfl, hsf, a3, hk⟩
theorem st_dux (hsf : fx_sf X.2.2.1 tl) (hk : fd_k ρ h.2.2.2) (he : fx_dux F X pc tl w ls st h = true) : fd_St ρ V F X (.dup_x1, w) pc ls st h := by
  obtain ⟨t, x, s, rfl, a1_⟩ := p_ok he
  obtain ⟨t', x', s, rfl, a1__⟩ := p_ok a1_
  have a := a1__
  obtain ⟨a1, a2⟩ := if_f a
  obtain ⟨a2, a3⟩ := if_f a2
  exact ⟨_, _, _, _, _, by simp only [ev_s, fsc, cat_ok (ρ := ρ) (v := (t, x)) a1, cat_ok (ρ := ρ) (v := (t', x')) a2]; rfl, hsf, a3, hk⟩
theorem st_pop (hsf : fx_sf X.2.2.1 tl) (hk : fd_k ρ h.2.2.2) (he : fx_pop F X pc tl w ls st h = true) : fd_St ρ V F X (.pop, w) pc ls st h := by
  obtain ⟨t, x, s, rfl, a1_⟩ := p_ok he
  have a := a1_
  obtain ⟨a1, a2⟩ := if_f a
  exact ⟨_, _, _, _, _, by simp only [ev_s, fsc, cat_ok (ρ := ρ) (v := (t, x)) a1]; rfl, hsf, a2, hk⟩
end FxA
