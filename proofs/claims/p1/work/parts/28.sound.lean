/-! Calls, ends, throws; and the executor against the evaluator. -/
def fx_mt : List ev_Q := fx_fm.map (·.1)
/-- keys grow -/
def fx_inc (c : ev_M) : Bool := match c with
  | [] => true
  | [_] => true
  | a :: b :: r => Nat.blt a.1 b.1 && fx_inc (b :: r)
def fx_jok (e : Nat × ev_I) : Bool := match e.2.1 with
  | .ifCond _ off => (ev_jmp e.1 off).isSome
  | .if_icmp _ off => (ev_jmp e.1 off).isSome
  | .if_acmp _ off => (ev_jmp e.1 off).isSome
  | _ => true
theorem inc_head {a : Nat × ev_I} {r : ev_M} (h : fx_inc (a :: r) = true) : ∀ e ∈ r, a.1 < e.1 := by
  induction r generalizing a with
  | nil => intro e he; cases he
  | cons b t ih =>
    have h' : (Nat.blt a.1 b.1 && fx_inc (b :: t)) = true := h
    rw [Bool.and_eq_true] at h'
    intro e he
    have hab := blt_iff.mp h'.1
    rcases List.mem_cons.mp he with rfl | he
    · exact hab
    · exact Nat.lt_trans hab (ih h'.2 e he)
theorem inc_tail {a : Nat × ev_I} {r : ev_M} (h : fx_inc (a :: r) = true) : fx_inc r = true := by
  cases r with
  | nil => rfl
  | cons b t =>
    have h' : (Nat.blt a.1 b.1 && fx_inc (b :: t)) = true := h
    rw [Bool.and_eq_true] at h'
    exact h'.2
theorem find_of {pre : ev_M} {p : Nat} {I : ev_I} {tl : ev_M} (h : fx_inc (pre ++ (p, I) :: tl) = true) : ev_find (pre ++ (p, I) :: tl) p = some I := by
  induction pre with
  | nil => show (if p = p then some I else ev_find tl p) = _; rw [if_pos rfl]
  | cons a t ih =>
    have h1 := inc_head (show fx_inc (a :: (t ++ (p, I) :: tl)) = true from h) (p, I) (by simp)
    obtain ⟨k, i⟩ := a
    show (if k = p then some i else ev_find (t ++ (p, I) :: tl) p) = _
    have h1 : k < p := h1
    rw [if_neg (by omega)]
    exact ih (inc_tail h)
theorem sf_find {Q : fx_Q} (hi : fx_inc Q.1.2.2.2.2.2.2 = true) {p : Nat} {I : ev_I} {tl : ev_M} (h : fx_sf Q ((p, I) :: tl)) : ev_find Q.1.2.2.2.2.2.2 p = some I := by
  obtain ⟨pre, hp⟩ := h
  rw [hp] at hi ⊢
  exact find_of hi
theorem sf_tail {Q : fx_Q} {e : Nat × ev_I} {tl : ev_M} (h : fx_sf Q (e :: tl)) : fx_sf Q tl := by
  obtain ⟨pre, hp⟩ := h
  exact ⟨pre ++ [e], by rw [hp]; simp⟩
theorem sf_drop {Q : fx_Q} (n : Nat) {l : ev_M} (h : fx_sf Q l) : fx_sf Q (l.drop n) := by
  obtain ⟨pre, hp⟩ := h
  exact ⟨pre ++ l.take n, by rw [hp, List.append_assoc, List.take_append_drop]⟩
theorem sf_mem {Q : fx_Q} {e : Nat × ev_I} {tl : ev_M} (h : fx_sf Q (e :: tl)) : e ∈ Q.1.2.2.2.2.2.2 := by
  obtain ⟨pre, hp⟩ := h
  rw [hp]; simp
theorem wk_key {t : Nat} : ∀ {l : ev_M} {x : Nat × ev_I} {tl : ev_M}, fx_wk l t = x :: tl → x.1 = t := by
  intro l
  induction l with
  | nil => intro x tl h; cases h
  | cons y r ih =>
    intro x tl h
    have e : fx_wk (y :: r) t = Bool.rec (motive := fun _ => ev_M) (fx_wk r t) (y :: r) (Nat.beq y.1 t) := rfl
    rw [e] at h
    cases hb : Nat.beq y.1 t with
    | true => rw [hb] at h; cases h; exact beq_iff.mp hb
    | false => rw [hb] at h; exact ih h
/-- what the tables must have -/
def fx_ok (Q : fx_Q) : Prop := fx_inc Q.1.2.2.2.2.2.2 = true ∧ (∀ e ∈ Q.1.2.2.2.2.2.2, fx_jok e = true) ∧ fx_sf Q Q.1.2.2.2.2.2.2 ∧ ∀ r ∈ Q.2, fx_sf Q r
theorem sf_self (Q : fx_Q) : fx_sf Q Q.1.2.2.2.2.2.2 := ⟨[], rfl⟩
/-! arguments -/
def fx_al (vs : List fx_V) : List fx_V := vs.flatMap fun v => if v.1 = 1 then [v, (4, 0)] else [v]
theorem al_app (a b : List fx_V) : fx_al (a ++ b) = fx_al a ++ fx_al b := by simp [fx_al]
theorem al_one (v : fx_V) : fx_al [v] = if v.1 = 1 then [v, (4, 0)] else [v] := by simp [fx_al]
theorem cg_len (v : fx_V) : fx_cg v = (fx_al [v]).length := by
  obtain ⟨t, x⟩ := v
  rw [al_one]
  show Bool.rec (motive := fun _ => Nat) 1 2 (Nat.beq t 1) = _
  by_cases h : t = 1
  · rw [beq_iff.mpr h]; simp [h]
  · rw [beq_no.mpr h]; simp [h]
theorem cz_len : ∀ {z : Nat} {st : List fx_V}, z ≤ st.length → fx_cz z st = (fx_al (st.take z).reverse).length := by
  intro z
  induction z with
  | zero => intro st _; rfl
  | succ z ih =>
    intro st h
    cases st with
    | nil => cases h
    | cons v r =>
      have e : fx_cz (z + 1) (v :: r) = fx_cg v + fx_cz z r := rfl
      rw [e, ih (by simpa using h), cg_len, List.take_succ_cons, List.reverse_cons, al_app, List.length_append]
      omega
theorem tk_ok : ∀ {z : Nat} {st acc : List fx_V} {k : List fx_V → List fx_V → Bool}, fx_tk z st acc k = true → z ≤ st.length ∧ (∀ v ∈ st.take z, v.1 < 4) ∧ k (fx_al (st.take z).reverse ++ acc) (st.drop z) = true := by
  intro z
  induction z with
  | zero => intro st acc k h; exact ⟨Nat.zero_le _, fun v hv => by simp at hv, h⟩
  | succ z ih =>
    intro st acc k h
    cases st with
    | nil => cases h
    | cons v r =>
      obtain ⟨t, x⟩ := v
      have h : fx_if (Nat.blt t 4) (fx_if (Nat.beq t 1) (fx_tk z r ((t, x) :: (4, 0) :: acc) k) (fx_tk z r ((t, x) :: acc) k)) false = true := h
      obtain ⟨h1, h2⟩ := if_t h
      rw [blt_iff] at h1
      have key : ∀ acc', fx_al [(t, x)] ++ acc = acc' → fx_tk z r acc' k = true → z + 1 ≤ ((t, x) :: r).length ∧ (∀ v ∈ ((t, x) :: r).take (z + 1), v.1 < 4) ∧ k (fx_al (((t, x) :: r).take (z + 1)).reverse ++ acc) (((t, x) :: r).drop (z + 1)) = true := by
        intro acc' he hk
        obtain ⟨a1, a2, a3⟩ := ih hk
        refine ⟨by simpa using a1, ?_, ?_⟩
        · intro v hv
          rw [List.take_succ_cons] at hv
          rcases List.mem_cons.mp hv with rfl | hv
          · exact h1
          · exact a2 v hv
        · rw [List.take_succ_cons, List.reverse_cons, al_app, List.append_assoc, he, List.drop_succ_cons]
          exact a3
      rcases if_or h2 with ⟨b1, b2⟩ | ⟨b1, b2⟩
      · rw [beq_iff] at b1
        exact key _ (by rw [al_one, if_pos b1]; rfl) b2
      · rw [beq_no] at b1
        exact key _ (by rw [al_one, if_neg b1]; rfl) b2
theorem fd_al (ρ : Nat → Int32) : ∀ {vs : List fx_V}, (∀ v ∈ vs, v.1 < 4) → fd_l ρ (fx_al vs) = ev_sl (fd_s ρ vs) := by
  intro vs
  induction vs with
  | nil => intro _; rfl
  | cons v r ih =>
    intro h
    have e1 : fx_al (v :: r) = fx_al [v] ++ fx_al r := al_app [v] r
    have e2 : ev_sl (fd_s ρ (v :: r)) = (if (fd_v ρ v).category = 2 then [some (fd_v ρ v), none] else [some (fd_v ρ v)]) ++ ev_sl (fd_s ρ r) := by simp [ev_sl, fsc]
    rw [e1, e2, ← ih (fun w hw => h w (List.mem_cons_of_mem _ hw)), fd_cat]
    have hv := h v List.mem_cons_self
    unfold fd_l
    rw [List.map_append, al_one]
    by_cases h1 : v.1 = 1
    · simp [h1, fd_lo]
    · simp [h1, fd_lo, hv]
theorem fd_pd (ρ : Nat → Int32) (n : Nat) : fd_l ρ (fx_pd n) = List.replicate n none := by
  induction n with
  | zero => rfl
  | succ n ih =>
    show fd_lo ρ (4, 0) :: fd_l ρ (fx_pd n) = _
    rw [ih, List.replicate_succ]
    rfl
theorem cc_eq (ρ : Nat → Int32) (st : List fx_V) : fx_cc st = ev_cats (fd_s ρ st) := by
  induction st with
  | nil => rfl
  | cons v r ih =>
    have e : fx_cc (v :: r) = fx_cg v + fx_cc r := rfl
    rw [e, ih]
    unfold ev_cats
    rw [fsc, List.map_cons, List.sum_cons, fd_cat]
    congr 1
    obtain ⟨t, x⟩ := v
    show Bool.rec (motive := fun _ => Nat) 1 2 (Nat.beq t 1) = _
    by_cases h : t = 1
    · rw [beq_iff.mpr h]; simp [h]
    · rw [beq_no.mpr h]; simp [h]
theorem mq_at : ∀ {l : List fx_Q} {i : Nat}, i < l.length → l[i]? = some (fx_mq l i) := by
  intro l
  induction l with
  | nil => intro i h; cases h
  | cons x t ih =>
    intro i h
    cases i with
    | zero => rfl
    | succ j =>
      have e : fx_mq (x :: t) (j + 1) = fx_mq t j := rfl
      rw [e, List.getElem?_cons_succ]
      exact ih (by simpa using h)
theorem hn_eq : ∀ (hh : List (Nat × Nat × Nat × Nat)) (ks : List Nat) (pc c : Nat), fx_hn hh ks pc c = match ev_hd hh ks pc c with
    | none => 0
    | some t => t + 1 := by
  intro hh
  induction hh with
  | nil => intro ks pc c; rfl
  | cons x r ih =>
    intro ks pc c
    obtain ⟨a, b, t, q⟩ := x
    cases ks with
    | nil => rfl
    | cons d cs =>
      have e : fx_hn ((a, b, t, q) :: r) (d :: cs) pc c = Bool.rec (motive := fun _ => Nat) (fx_hn r cs pc c) (t + 1) (fx_if (Nat.ble a pc) (fx_if (Nat.blt pc b) (Nat.beq d c) false) false) := rfl
      have e2 : ev_hd ((a, b, t, q) :: r) (d :: cs) pc c = if a ≤ pc ∧ pc < b ∧ d = c then some t else ev_hd r cs pc c := rfl
      rw [e, e2, ih]
      by_cases h : a ≤ pc ∧ pc < b ∧ d = c
      · rw [if_pos h, ble_iff.mpr h.1, blt_iff.mpr h.2.1, beq_iff.mpr h.2.2]
        rfl
      · rw [if_neg h]
        have : fx_if (Nat.ble a pc) (fx_if (Nat.blt pc b) (Nat.beq d c) false) false = false := by
          cases hb : fx_if (Nat.ble a pc) (fx_if (Nat.blt pc b) (Nat.beq d c) false) false with
          | false => rfl
          | true =>
            obtain ⟨g1, g2⟩ := if_t hb
            obtain ⟨g2, g3⟩ := if_t g2
            exact absurd ⟨ble_iff.mp g1, blt_iff.mp g2, beq_iff.mp g3⟩ h
        rw [this]
section FxC
variable {ρ : Nat → Int32} {V : ev_V}
/-- the executor F against the evaluator -/
def fx_Snd (ρ : Nat → Int32) (V : ev_V) (F : fx_F) : Prop := ∀ (X : fx_X) (rest : ev_M) (pc : Nat) (ls st : List fx_V) (h : fx_H), fx_fm[X.2.1]? = some X.2.2.1 → fx_sf X.2.2.1 rest → fd_k ρ h.2.2.2 → F X pc rest ls st h = true →
  ∃ o h', evL fx_mt V fx_dft X.1 X.2.1 pc (fd_l ρ ls) (fd_s ρ st) (fd_h ρ h) = some (fd_o ρ o, fd_h ρ h') ∧ fd_k ρ h'.2.2.2 ∧ X.2.2.2 o h' = true
variable {F : fx_F} {X : fx_X} {pc : Nat} {tl : ev_M} {w : Nat × Nat × Nat × Nat} {i : Instr} {ls st : List fx_V} {h : fx_H}
theorem mt_at {x : Nat} {Q : fx_Q} (h : fx_fm[x]? = some Q) : fx_mt[x]? = some Q.1 := by
  unfold fx_mt
  rw [List.getElem?_map, h]
  rfl
theorem evL_one (hX : fx_fm[X.2.1]? = some X.2.2.1) (hi : fx_inc X.2.2.1.1.2.2.2.2.2.2 = true) (hsf : fx_sf X.2.2.1 ((pc, (i, w)) :: tl)) (d : Nat) (l : ev_L) (s : List Value) (h : ev_H) :
    evL fx_mt V fx_dft d X.2.1 pc l s h = ev_one (evL fx_mt V fx_dft) fx_mt V fx_dft X.2.2.1.1.2.2.2.1 X.2.2.1.1.2.2.2.2.1 X.2.2.1.1.2.2.2.2.2.1 X.2.2.1.1.2.2.2.2.2.2 (i, w) d X.2.1 pc l s h := by
  rw [evL_fix]
  unfold ev_body
  rw [mt_at hX]
  dsimp only
  rw [sf_find hi hsf]
theorem plain_ok (hF : fx_Snd ρ V F) (hX : fx_fm[X.2.1]? = some X.2.2.1) (hi : fx_inc X.2.2.1.1.2.2.2.2.2.2 = true) (hsf : fx_sf X.2.2.1 ((pc, (i, w)) :: tl)) (hone : ∀ g d mi l s h, ev_one g fx_mt V fx_dft X.2.2.1.1.2.2.2.1 X.2.2.1.1.2.2.2.2.1 X.2.2.1.1.2.2.2.2.2.1 X.2.2.1.1.2.2.2.2.2.2 (i, w) d mi pc l s h = ev_step g V fx_dft (i, w) d mi pc l s h) (S : fd_St ρ V F X (i, w) pc ls st h) :
    ∃ o h', evL fx_mt V fx_dft X.1 X.2.1 pc (fd_l ρ ls) (fd_s ρ st) (fd_h ρ h) = some (fd_o ρ o, fd_h ρ h') ∧ fd_k ρ h'.2.2.2 ∧ X.2.2.2 o h' = true := by
  obtain ⟨pc', r', ls', st', h', a1, a2, a3, a4⟩ := S
  obtain ⟨o, h2, b1, b2, b3⟩ := hF X r' pc' ls' st' h' hX a2 a4 a3
  refine ⟨o, h2, ?_, b2, b3⟩
  rw [evL_one hX hi hsf, hone]
  unfold ev_step
  rw [a1]
  exact b1
theorem back_ok (hF : fx_Snd ρ V F) (hX : fx_fm[X.2.1]? = some X.2.2.1) (hQ : fx_ok X.2.2.1) (hsf : fx_sf X.2.2.1 tl) {rest : List fx_V} {o : fx_O} (hk : fd_k ρ h.2.2.2) (he : fx_bk F X pc tl ls rest o h = true) :
    ∃ o' h', ev_back (evL fx_mt V fx_dft) X.2.2.1.1.2.2.2.2.1 X.2.2.1.1.2.2.2.2.2.1 X.2.2.1.1.2.2.2.2.2.2 X.1 X.2.1 pc (fd_l ρ ls) (fd_s ρ rest) (fd_o ρ o) (fd_h ρ h) = some (fd_o ρ o', fd_h ρ h') ∧ fd_k ρ h'.2.2.2 ∧ X.2.2.2 o' h' = true := by
  obtain ⟨n, v⟩ := o
  match n, he with
  | 0, he => exact hF X tl (pc + 3) ls rest h hX hsf hk he
  | 1, he => exact hF X tl (pc + 3) ls (v :: rest) h hX hsf hk he
  | n + 2, he =>
    have he : fx_thr F X pc ls v h = true := he
    have e0 : fd_o ρ (n + 2, v) = .inr v.2 := rfl
    rw [e0]
    unfold fx_thr at he
    rw [hn_eq] at he
    unfold ev_back
    dsimp only
    cases hh : ev_hd X.2.2.1.1.2.2.2.2.1 X.2.2.1.1.2.2.2.2.2.1 pc v.2 with
    | none =>
      rw [hh] at he
      obtain ⟨b1, b2⟩ := if_t (show fx_if (List.isEmpty X.2.2.1.1.2.2.2.2.1) (X.2.2.2 (2, v) h) false = true from he)
      exact ⟨(2, v), h, by dsimp only; rw [if_pos b1]; rfl, hk, b2⟩
    | some t =>
      rw [hh] at he
      have he : fx_ca (fx_to X t) F X t ls h = true := he
      dsimp only
      have hr := to_sf hQ.2.2.2 t
      cases hrr : fx_to X t with
      | nil => rw [hrr] at he; cases he
      | cons x tl2 =>
        rw [hrr] at he hr
        have hkey : x.1 = t := wk_key hrr
        obtain ⟨p, i, w⟩ := x
        have hkey : p = t := hkey
        subst hkey
        rw [sf_find hQ.1 hr]
        unfold fx_ca at he
        obtain ⟨-, he⟩ := if_t he
        have ht := sf_tail hr
        cases i with
        | astore_n i =>
          obtain ⟨ls', c1, c2⟩ := s0_ok (ρ := ρ) (show fx_s1 ls i.val (4, 0) (fun ls => F X (p + 1) tl2 ls [] h) = true from he)
          obtain ⟨o, h2, d1, d2, d3⟩ := hF X tl2 (p + 1) ls' [] h hX ht hk c2
          exact ⟨o, h2, by simp only [ev_caught, c1]; exact d1, d2, d3⟩
        | astore i =>
          obtain ⟨ls', c1, c2⟩ := s0_ok (ρ := ρ) (show fx_s1 ls i (4, 0) (fun ls => F X (p + 2) tl2 ls [] h) = true from he)
          obtain ⟨o, h2, d1, d2, d3⟩ := hF X tl2 (p + 2) ls' [] h hX ht hk c2
          exact ⟨o, h2, by simp only [ev_caught, c1]; exact d1, d2, d3⟩
        | _ => exact Bool.noConfusion (show false = true from he)
theorem rc_ok {sp ci : Nat} {as : List fx_V} {args : List fx_V} {acc : List fx_V} {k : Bool} (has : as = fx_al args ++ acc) (hacc : ∀ v ∈ acc, v.1 = 4) (he : fx_rc sp ci h as k = true) : ev_rc sp ci (fd_s ρ args) (fd_h ρ h) = true ∧ k = true := by
  cases sp with
  | zero => exact ⟨rfl, he⟩
  | succ s =>
    obtain ⟨a, r, e, he⟩ := pt_ok (show fx_pt 2 as (fun a _ => Nat.rec (motive := fun _ => Bool) (fx_ob h a ci (fun _ => k)) (fun _ _ => k) s) = true from he)
    have hd : ∃ r', args = (2, a) :: r' := by
      cases args with
      | nil =>
        rw [show fx_al [] ++ acc = acc from rfl] at has
        rw [has] at e
        have := hacc (2, a) (by rw [e]; exact List.mem_cons_self)
        exact absurd (show (2 : Nat) = 4 from this) (by decide)
      | cons v r' =>
        rw [has, show fx_al (v :: r') = fx_al [v] ++ fx_al r' from al_app [v] r', al_one] at e
        by_cases h1 : v.1 = 1
        · rw [if_pos h1] at e
          have : v = (2, a) := (List.cons.inj e).1
          rw [this] at h1
          exact absurd (show (2 : Nat) = 1 from h1) (by decide)
        · rw [if_neg h1] at e
          exact ⟨r', by rw [(List.cons.inj e).1]⟩
    obtain ⟨r', rfl⟩ := hd
    cases s with
    | zero =>
      obtain ⟨f, o1, o2⟩ := ob_ok (ρ := ρ) he
      refine ⟨?_, o2⟩
      show ev_isC ci (fd_h ρ h).1[a]? = true
      rw [o1]
      simp [ev_isC]
    | succ s => exact ⟨rfl, he⟩
theorem pd_mem {n : Nat} : ∀ v ∈ fx_pd n, v.1 = 4 := by
  induction n with
  | zero => intro v hv; cases hv
  | succ n ih =>
    intro v hv
    rcases List.mem_cons.mp (show v ∈ (4, 0) :: fx_pd n from hv) with rfl | hv
    · rfl
    · exact ih v hv
theorem inv_ok (hF : fx_Snd ρ V F) (hT : ∀ Q ∈ fx_fm, fx_ok Q) (hX : fx_fm[X.2.1]? = some X.2.2.1) (hsf : fx_sf X.2.2.1 tl) (hk : fd_k ρ h.2.2.2) {sp x y z : Nat} {Q : fx_Q} (hQ : fx_fm[x]? = some Q) (he : fx_inv sp x y z Q F X pc tl w ls st h = true) :
    ∃ o h', ev_call (evL fx_mt V fx_dft) fx_mt X.2.2.1.1.2.2.2.2.1 X.2.2.1.1.2.2.2.2.2.1 X.2.2.1.1.2.2.2.2.2.2 sp X.1 X.2.1 pc x y z (fd_l ρ ls) (fd_s ρ st) (fd_h ρ h) = some (fd_o ρ o, fd_h ρ h') ∧ fd_k ρ h'.2.2.2 ∧ X.2.2.2 o h' = true := by
  unfold fx_inv at he
  rw [fr_eq] at he
  obtain ⟨a1, a2⟩ := if_t he
  rw [ble_iff] at a1
  obtain ⟨b1, b2, b3⟩ := tk_ok a2
  obtain ⟨c1, c2⟩ := if_t b3
  rw [ble_iff, cc_eq ρ] at c1
  have hr : ∀ v ∈ (st.take z).reverse, v.1 < 4 := fun v hv => b2 v (List.mem_reverse.mp hv)
  obtain ⟨d1, d2⟩ := rc_ok (ρ := ρ) rfl pd_mem c2
  rw [cz_len b1] at a1 d2
  have e1 : (fd_s ρ st).take z = fd_s ρ (st.take z) := by simp [fd_s]
  have e2 : (fd_s ρ st).drop z = fd_s ρ (st.drop z) := by simp [fd_s]
  have e3 : (fd_s ρ (st.take z)).reverse = fd_s ρ (st.take z).reverse := by simp [fd_s]
  have e4 : (ev_sl (fd_s ρ (st.take z).reverse)).length = (fx_al (st.take z).reverse).length := by
    rw [← fd_al ρ hr]
    simp [fd_l]
  have e5 : fd_l ρ (fx_al (st.take z).reverse ++ fx_pd (Q.1.2.2.1 - (fx_al (st.take z).reverse).length)) = ev_in Q.1.2.2.1 (fd_s ρ (st.take z).reverse) := by
    unfold ev_in
    rw [e4, ← fd_al ρ hr, ← fd_pd ρ]
    simp [fd_l]
  unfold ev_call
  rw [mt_at hQ]
  dsimp only
  rw [e1, e2, e3, e4, if_pos ⟨by simp only [fd_s, List.length_map]; exact b1, c1, a1, d1⟩]
  obtain ⟨d, mi, QX, K⟩ := X
  cases d with
  | zero => cases d2
  | succ d =>
    have d2 : F (d, x, Q, fx_bk F (d + 1, mi, QX, K) pc tl ls (st.drop z)) 0 Q.1.2.2.2.2.2.2 (fx_al (st.take z).reverse ++ fx_pd (Q.1.2.2.1 - (fx_al (st.take z).reverse).length)) [] h = true := d2
    obtain ⟨o, h1, f1, f2, f3⟩ := hF (d, x, Q, fx_bk F (d + 1, mi, QX, K) pc tl ls (st.drop z)) _ 0 _ [] h hQ (sf_self Q) hk d2
    obtain ⟨o', h2, g1, g2, g3⟩ := back_ok (X := (d + 1, mi, QX, K)) hF hX (hT QX (List.mem_of_getElem? hX)) hsf f2 f3
    refine ⟨o', h2, ?_, g2, g3⟩
    rw [e5] at f1
    dsimp only at f1 ⊢
    have f1 : evL fx_mt V fx_dft d x 0 (ev_in Q.1.2.2.1 (fd_s ρ (st.take z).reverse)) [] (fd_h ρ h) = some (fd_o ρ o, fd_h ρ h1) := f1
    rw [f1]
    exact g1
end FxC
