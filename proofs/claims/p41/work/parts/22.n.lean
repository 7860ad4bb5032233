/-! Numbers for ints; goals about the evaluator: from this place the method comes to an end of which P holds. -/
def iI (z : Int) : Int32 := Int32.ofInt z
def b2 (c : Bool) : Int := if c then 1 else 0
theorem iI_add (a b : Int) : iI a + iI b = iI (a + b) := (Int32.ofInt_add a b).symm
theorem iI_mul (a b : Int) : iI a * iI b = iI (a * b) := (Int32.ofInt_mul a b).symm
theorem iI_neg (a : Int) : -iI a = iI (-a) := (Int32.ofInt_neg a).symm
theorem iI_sub (a b : Int) : iI a - iI b = iI (a - b) := by
  rw [Int.sub_eq_add_neg, ← iI_add, ← iI_neg, Int32.sub_eq_add_neg]
theorem iI_to {a : Int} (h : -2147483648 ≤ a ∧ a < 2147483648) : (iI a).toInt = a := Int32.toInt_ofInt_of_le (by omega) (by omega)
theorem iI_lt {a b : Int} (ha : -2147483648 ≤ a ∧ a < 2147483648) (hb : -2147483648 ≤ b ∧ b < 2147483648) : iI a < iI b ↔ a < b := by
  rw [Int32.lt_iff_toInt_lt, iI_to ha, iI_to hb]
theorem iI_le {a b : Int} (ha : -2147483648 ≤ a ∧ a < 2147483648) (hb : -2147483648 ≤ b ∧ b < 2147483648) : iI a ≤ iI b ↔ a ≤ b := by
  rw [Int32.le_iff_toInt_le, iI_to ha, iI_to hb]
theorem iI_inj {a b : Int} (ha : -2147483648 ≤ a ∧ a < 2147483648) (hb : -2147483648 ≤ b ∧ b < 2147483648) : iI a = iI b ↔ a = b := by
  rw [← Int32.toInt_inj, iI_to ha, iI_to hb]
theorem iI_cl {a : Int} (h : 0 ≤ a ∧ a < 2147483648) : (iI a).toNatClampNeg = a.toNat := Int32.toNatClampNeg_ofInt_of_le (by omega) (by omega)
theorem iI_nat (n : Nat) : Int32.ofNat n = iI (n : Int) := rfl
theorem iI_div {a b : Int} (ha : 0 ≤ a ∧ a < 2147483648) (hb : 0 < b ∧ b < 2147483648) : iI a / iI b = iI (a / b) := by
  have h1 : 0 ≤ a / b := Int.ediv_nonneg ha.1 (by omega)
  have h2 : a / b ≤ a := Int.ediv_le_self b ha.1
  rw [← Int32.toInt_inj, Int32.toInt_div, iI_to (by omega), iI_to (by omega), iI_to (by omega), Int.tdiv_eq_ediv_of_nonneg ha.1]
  rw [Int.bmod_def]
  omega
theorem iI_rem {a b : Int} (ha : 0 ≤ a ∧ a < 2147483648) (hb : 0 < b ∧ b < 2147483648) : iI a - iI a / iI b * iI b = iI (a % b) := by
  rw [iI_div ha hb, iI_mul, iI_sub, Int.emod_def, Int.mul_comm]
theorem iI_ix {i : Int} {n : Nat} (h : 0 ≤ i ∧ i < n ∧ n < 2147483648) : ev_ix (iI i) n = true := by
  unfold ev_ix
  rw [iI_cl ⟨h.1, by omega⟩, Bool.and_eq_true, decide_eq_true_eq, decide_eq_true_eq]
  refine ⟨fun q => ?_, by omega⟩
  have := (iI_lt (a := i) (b := 0) (by omega) (by omega)).mp q
  omega
/-- arrays of ints, of booleans, of longs, of references; beyond their ends they hold nothing -/
def cG {A B : Type} (n : Nat) (z : B) (g : A → B) (f : Int → A) : Nat → B := fun j => if j < n then g (f j) else z
def bI (b : Bool) : Int32 := iI (b2 b)
def aI (n : Nat) (f : Int → Int) : ev_C := .inl (0, n, .inl (cG n 0 iI f))
def aB (n : Nat) (f : Int → Bool) : ev_C := .inl (2, n, .inl (cG n 0 bI f))
def aL (n : Nat) (f : Int → Int64) : ev_C := .inl (1, n, .inr (.inl (cG n 0 id f)))
def aR (t n : Nat) (f : Int → Option Nat) : ev_C := .inl (t, n, .inr (.inr (.inr (.inr (cG n none id f)))))
theorem cG_at {A B : Type} {n : Nat} {z : B} {g : A → B} {f : Int → A} {i : Int} (h : 0 ≤ i ∧ i < n) : cG n z g f i.toNat = g (f i) := by
  unfold cG
  rw [if_pos (by omega), show ((i.toNat : Nat) : Int) = i by omega]
theorem cG_congr {A B : Type} {n : Nat} {z : B} {g : A → B} {f f' : Int → A} (h : ∀ i : Int, 0 ≤ i → i < n → f i = f' i) : cG n z g f = cG n z g f' := by
  funext j
  unfold cG
  by_cases hj : j < n
  · rw [if_pos hj, if_pos hj, h j (by omega) (by omega)]
  · rw [if_neg hj, if_neg hj]
theorem cG_all {A B : Type} {n : Nat} {z : B} {g : A → B} {v : A} (h : g v = z) : (fun _ : Nat => z) = cG n z g (fun _ => v) := by
  funext j
  unfold cG
  rw [h, ite_self]
theorem aI_congr {n : Nat} {f f' : Int → Int} (h : ∀ i : Int, 0 ≤ i → i < n → f i = f' i) : aI n f = aI n f' := by unfold aI; rw [cG_congr h]
theorem aB_congr {n : Nat} {f f' : Int → Bool} (h : ∀ i : Int, 0 ≤ i → i < n → f i = f' i) : aB n f = aB n f' := by unfold aB; rw [cG_congr h]
theorem aL_congr {n : Nat} {f f' : Int → Int64} (h : ∀ i : Int, 0 ≤ i → i < n → f i = f' i) : aL n f = aL n f' := by unfold aL; rw [cG_congr h]
theorem aR_congr {t n : Nat} {f f' : Int → Option Nat} (h : ∀ i : Int, 0 ≤ i → i < n → f i = f' i) : aR t n f = aR t n f' := by unfold aR; rw [cG_congr h]
def uz {A : Type} (f : Int → A) (i : Int) (v : A) : Int → A := fun j => if j = i then v else f j
theorem uz_same {A : Type} (f : Int → A) (i : Int) (v : A) : uz f i v i = v := if_pos rfl
theorem uz_ne {A : Type} (f : Int → A) {i j : Int} (v : A) (h : ¬ j = i) : uz f i v j = f j := if_neg h
noncomputable def eL (V : ev_V) : ev_F := evL fx_mt V fx_dft
def En (V : ev_V) (d mi pc : Nat) (ls : ev_L) (st : List Value) (h : ev_H) (P : ev_O → ev_H → Prop) : Prop := ∃ o h', eL V d mi pc ls st h = some (o, h') ∧ P o h'
/-- behind a call -/
def nB (V : ev_V) (q : ev_Q) (d mi pc : Nat) (ls : ev_L) (rest : List Value) (P : ev_O → ev_H → Prop) (o : ev_O) (h : ev_H) : Prop := match o with
  | .inl v => En V d mi (pc + 3) ls (v.toList ++ rest) h P
  | .inr k => ∃ r, ev_back (eL V) q.2.2.2.2.1 q.2.2.2.2.2.1 q.2.2.2.2.2.2 d mi pc ls rest (.inr k) h = some r ∧ P r.1 r.2
def nF (mi : Nat) (q : ev_Q) (pc : Nat) (I : ev_I) : Prop := fx_mt[mi]? = some q ∧ ev_find q.2.2.2.2.2.2 pc = some I
section NN
variable {V : ev_V} {d mi pc pc' t u : Nat} {ls ls' : ev_L} {st st' rest : List Value} {h h' : ev_H} {P Q : ev_O → ev_H → Prop} {q q' : ev_Q} {I : ev_I} {len x y z k n : Nat} {a b v : Int} {off : Int} {w : Nat × Nat × Nat × Nat}
theorem En.imp (K : En V d mi pc ls st h P) (hPQ : ∀ o h, P o h → Q o h) : En V d mi pc ls st h Q := by
  obtain ⟨o, h1, e1, e2⟩ := K
  exact ⟨o, h1, e1, hPQ _ _ e2⟩
theorem n_eq (hF : nF mi q pc I) : eL V d mi pc ls st h = ev_one (eL V) fx_mt V fx_dft q.2.2.2.1 q.2.2.2.2.1 q.2.2.2.2.2.1 q.2.2.2.2.2.2 I d mi pc ls st h := by
  unfold eL
  rw [evL_fix]
  unfold ev_body
  rw [hF.1]
  try dsimp only
  rw [hF.2]
/-- a step that neither calls nor ends -/
theorem n_go (hF : nF mi q pc I) (h0 : ev_kd I.1 = 0) (hs : ev_s V fx_dft I pc ls st h = some (pc', ls', st', h')) (K : En V d mi pc' ls' st' h' P) : En V d mi pc ls st h P := by
  obtain ⟨o, h1, e1, e2⟩ := K
  refine ⟨o, h1, ?_, e2⟩
  rw [n_eq hF]
  unfold ev_one
  rw [h0]
  try dsimp only
  unfold ev_step
  rw [hs]
  exact e1
/-- a step behind which the new place is told by an equation -/
theorem n_gs (hF : nF mi q pc I) (h0 : ev_kd I.1 = 0) (r : ev_R) (hs : ev_s V fx_dft I pc ls st h = some r) (K : En V d mi r.1 r.2.1 r.2.2.1 r.2.2.2 P) : En V d mi pc ls st h P := n_go hF h0 hs K
theorem n_ret (hF : nF mi q pc I) (h0 : ev_kd I.1 = 1) {v : Option Value} (hs : ev_ret I.1 q.2.2.2.1 st = some v) (K : P (.inl v) h) : En V d mi pc ls st h P := by
  refine ⟨.inl v, h, ?_, K⟩
  rw [n_eq hF]
  unfold ev_one
  rw [h0]
  try dsimp only
  rw [hs]
  rfl
theorem n_rtz {c : Bool} (hF : nF mi q pc (.ireturn, w)) (hr : q.2.2.2.1 = some .boolean) (K : P (.inl (some (.int (iI (b2 c))))) h) : En V d mi pc ls [.int (iI (b2 c))] h P := by
  refine n_ret hF rfl ?_ K
  rw [hr]
  have e : ev_nar (some .boolean) (iI (b2 c)) = true := by cases c <;> decide
  unfold ev_ret
  try dsimp only
  rw [if_pos e]
theorem n_rt0 (hF : nF mi q pc (.ireturn, w)) (hr : q.2.2.2.1 = some .boolean) (K : P (.inl (some (.int (iI 0)))) h) : En V d mi pc ls [.int (iI 0)] h P := n_rtz (c := false) hF hr K
theorem n_rt1 (hF : nF mi q pc (.ireturn, w)) (hr : q.2.2.2.1 = some .boolean) (K : P (.inl (some (.int (iI 1)))) h) : En V d mi pc ls [.int (iI 1)] h P := n_rtz (c := true) hF hr K
theorem n_rtc (hF : nF mi q pc (.ireturn, w)) (hr : q.2.2.2.1 = some .char) (ha : 0 ≤ a ∧ a ≤ 65535) (K : P (.inl (some (.int (iI a)))) h) : En V d mi pc ls [.int (iI a)] h P := by
  refine n_ret hF rfl ?_ K
  rw [hr]
  have e : ev_nar (some .char) (iI a) = true := by
    unfold ev_nar
    rw [Bool.and_eq_true, decide_eq_true_eq, decide_eq_true_eq]
    exact ⟨(iI_le (a := 0) (b := a) (by omega) (by omega)).mpr ha.1, (iI_le (a := a) (b := 65535) (by omega) (by omega)).mpr ha.2⟩
  unfold ev_ret
  try dsimp only
  rw [if_pos e]
theorem n_thr (hF : nF mi q pc (.new k, len, x, y, 1)) (hh : q.2.2.2.2.1.isEmpty = true) (hc : Nat.ble (ev_cats st) 8 = true) (K : P (.inr x) (ev_push h (.inr (x, [])) 6)) : En V d mi pc ls st h P := by
  refine ⟨.inr x, _, ?_, K⟩
  rw [n_eq hF]
  unfold ev_one
  show (if (1 : Nat) = 1 then (if q.2.2.2.2.1.isEmpty = true ∧ ev_cats st ≤ 8 then some ((.inr x : ev_O), ev_push h (.inr (x, [])) 6) else none) else _) = _
  rw [if_pos rfl, if_pos ⟨hh, Nat.le_of_ble_eq_true hc⟩]
theorem n_new (hF : nF mi q pc (.new k, len, x, y, z)) (hz : ¬ z = 1) (e : h.2.1 = n) (K : En V d mi (pc + 3) ls (.ref n :: st) (ev_push h (.inr (x, fx_dft x)) (fx_dft x).length) P) : En V d mi pc ls st h P := by
  subst e
  obtain ⟨o, h1, e1, e2⟩ := K
  refine ⟨o, h1, ?_, e2⟩
  rw [n_eq hF]
  unfold ev_one
  show (if z = 1 then _ else ev_step (eL V) V fx_dft (.new k, len, x, y, z) d mi pc ls st h) = _
  rw [if_neg hz]
  unfold ev_step
  exact e1

theorem n_ic_eq (hF : nF mi q pc (.if_icmp .eq off, w)) (ht : ev_jmp pc off = some t) (hu : pc + 3 = u) (hr : (-2147483648 ≤ a ∧ a < 2147483648) ∧ (-2147483648 ≤ b ∧ b < 2147483648)) (K1 : a = b → En V d mi t ls st h P) (K2 : ¬ (a = b) → En V d mi u ls st h P) : En V d mi pc ls (.int (iI b) :: .int (iI a) :: st) h P := by
  subst hu
  have key : ev_cb .eq (iI a) (iI b) = decide (a = b) := decide_eq_decide.mpr (iI_inj hr.1 hr.2)
  refine n_gs hF rfl (if decide (a = b) = true then t else pc + 3, ls, st, h) (by simp only [ev_s, ht, key, Option.map_some]) ?_
  try dsimp only
  by_cases hc : a = b
  · rw [if_pos (decide_eq_true hc)]; exact K1 hc
  · rw [if_neg (by simpa using hc)]; exact K2 hc
theorem n_if_eq (hF : nF mi q pc (.ifCond .eq off, w)) (ht : ev_jmp pc off = some t) (hu : pc + 3 = u) (hr : -2147483648 ≤ a ∧ a < 2147483648) (K1 : a = 0 → En V d mi t ls st h P) (K2 : ¬ (a = 0) → En V d mi u ls st h P) : En V d mi pc ls (.int (iI a) :: st) h P := by
  subst hu
  have key : ev_cb .eq (iI a) 0 = decide (a = 0) := decide_eq_decide.mpr (iI_inj hr (b := 0) (by omega))
  refine n_gs hF rfl (if decide (a = 0) = true then t else pc + 3, ls, st, h) (by simp only [ev_s, ht, key, Option.map_some]) ?_
  try dsimp only
  by_cases hc : a = 0
  · rw [if_pos (decide_eq_true hc)]; exact K1 hc
  · rw [if_neg (by simpa using hc)]; exact K2 hc
theorem n_ic_ne (hF : nF mi q pc (.if_icmp .ne off, w)) (ht : ev_jmp pc off = some t) (hu : pc + 3 = u) (hr : (-2147483648 ≤ a ∧ a < 2147483648) ∧ (-2147483648 ≤ b ∧ b < 2147483648)) (K1 : ¬ a = b → En V d mi t ls st h P) (K2 : ¬ (¬ a = b) → En V d mi u ls st h P) : En V d mi pc ls (.int (iI b) :: .int (iI a) :: st) h P := by
  subst hu
  have key : ev_cb .ne (iI a) (iI b) = decide (¬ a = b) := decide_eq_decide.mpr (not_congr (iI_inj hr.1 hr.2))
  refine n_gs hF rfl (if decide (¬ a = b) = true then t else pc + 3, ls, st, h) (by simp only [ev_s, ht, key, Option.map_some]) ?_
  try dsimp only
  by_cases hc : ¬ a = b
  · rw [if_pos (decide_eq_true hc)]; exact K1 hc
  · rw [if_neg (by simpa using hc)]; exact K2 hc
theorem n_if_ne (hF : nF mi q pc (.ifCond .ne off, w)) (ht : ev_jmp pc off = some t) (hu : pc + 3 = u) (hr : -2147483648 ≤ a ∧ a < 2147483648) (K1 : ¬ a = 0 → En V d mi t ls st h P) (K2 : ¬ (¬ a = 0) → En V d mi u ls st h P) : En V d mi pc ls (.int (iI a) :: st) h P := by
  subst hu
  have key : ev_cb .ne (iI a) 0 = decide (¬ a = 0) := decide_eq_decide.mpr (not_congr (iI_inj hr (b := 0) (by omega)))
  refine n_gs hF rfl (if decide (¬ a = 0) = true then t else pc + 3, ls, st, h) (by simp only [ev_s, ht, key, Option.map_some]) ?_
  try dsimp only
  by_cases hc : ¬ a = 0
  · rw [if_pos (decide_eq_true hc)]; exact K1 hc
  · rw [if_neg (by simpa using hc)]; exact K2 hc
theorem n_ic_lt (hF : nF mi q pc (.if_icmp .lt off, w)) (ht : ev_jmp pc off = some t) (hu : pc + 3 = u) (hr : (-2147483648 ≤ a ∧ a < 2147483648) ∧ (-2147483648 ≤ b ∧ b < 2147483648)) (K1 : a < b → En V d mi t ls st h P) (K2 : ¬ (a < b) → En V d mi u ls st h P) : En V d mi pc ls (.int (iI b) :: .int (iI a) :: st) h P := by
  subst hu
  have key : ev_cb .lt (iI a) (iI b) = decide (a < b) := decide_eq_decide.mpr (iI_lt hr.1 hr.2)
  refine n_gs hF rfl (if decide (a < b) = true then t else pc + 3, ls, st, h) (by simp only [ev_s, ht, key, Option.map_some]) ?_
  try dsimp only
  by_cases hc : a < b
  · rw [if_pos (decide_eq_true hc)]; exact K1 hc
  · rw [if_neg (by simpa using hc)]; exact K2 hc
theorem n_if_lt (hF : nF mi q pc (.ifCond .lt off, w)) (ht : ev_jmp pc off = some t) (hu : pc + 3 = u) (hr : -2147483648 ≤ a ∧ a < 2147483648) (K1 : a < 0 → En V d mi t ls st h P) (K2 : ¬ (a < 0) → En V d mi u ls st h P) : En V d mi pc ls (.int (iI a) :: st) h P := by
  subst hu
  have key : ev_cb .lt (iI a) 0 = decide (a < 0) := decide_eq_decide.mpr (iI_lt hr (b := 0) (by omega))
  refine n_gs hF rfl (if decide (a < 0) = true then t else pc + 3, ls, st, h) (by simp only [ev_s, ht, key, Option.map_some]) ?_
  try dsimp only
  by_cases hc : a < 0
  · rw [if_pos (decide_eq_true hc)]; exact K1 hc
  · rw [if_neg (by simpa using hc)]; exact K2 hc
theorem n_ic_ge (hF : nF mi q pc (.if_icmp .ge off, w)) (ht : ev_jmp pc off = some t) (hu : pc + 3 = u) (hr : (-2147483648 ≤ a ∧ a < 2147483648) ∧ (-2147483648 ≤ b ∧ b < 2147483648)) (K1 : b ≤ a → En V d mi t ls st h P) (K2 : ¬ (b ≤ a) → En V d mi u ls st h P) : En V d mi pc ls (.int (iI b) :: .int (iI a) :: st) h P := by
  subst hu
  have key : ev_cb .ge (iI a) (iI b) = decide (b ≤ a) := decide_eq_decide.mpr (iI_le hr.2 hr.1)
  refine n_gs hF rfl (if decide (b ≤ a) = true then t else pc + 3, ls, st, h) (by simp only [ev_s, ht, key, Option.map_some]) ?_
  try dsimp only
  by_cases hc : b ≤ a
  · rw [if_pos (decide_eq_true hc)]; exact K1 hc
  · rw [if_neg (by simpa using hc)]; exact K2 hc
theorem n_if_ge (hF : nF mi q pc (.ifCond .ge off, w)) (ht : ev_jmp pc off = some t) (hu : pc + 3 = u) (hr : -2147483648 ≤ a ∧ a < 2147483648) (K1 : 0 ≤ a → En V d mi t ls st h P) (K2 : ¬ (0 ≤ a) → En V d mi u ls st h P) : En V d mi pc ls (.int (iI a) :: st) h P := by
  subst hu
  have key : ev_cb .ge (iI a) 0 = decide (0 ≤ a) := decide_eq_decide.mpr (iI_le (a := 0) (by omega) hr)
  refine n_gs hF rfl (if decide (0 ≤ a) = true then t else pc + 3, ls, st, h) (by simp only [ev_s, ht, key, Option.map_some]) ?_
  try dsimp only
  by_cases hc : 0 ≤ a
  · rw [if_pos (decide_eq_true hc)]; exact K1 hc
  · rw [if_neg (by simpa using hc)]; exact K2 hc
theorem n_ic_gt (hF : nF mi q pc (.if_icmp .gt off, w)) (ht : ev_jmp pc off = some t) (hu : pc + 3 = u) (hr : (-2147483648 ≤ a ∧ a < 2147483648) ∧ (-2147483648 ≤ b ∧ b < 2147483648)) (K1 : b < a → En V d mi t ls st h P) (K2 : ¬ (b < a) → En V d mi u ls st h P) : En V d mi pc ls (.int (iI b) :: .int (iI a) :: st) h P := by
  subst hu
  have key : ev_cb .gt (iI a) (iI b) = decide (b < a) := decide_eq_decide.mpr (iI_lt hr.2 hr.1)
  refine n_gs hF rfl (if decide (b < a) = true then t else pc + 3, ls, st, h) (by simp only [ev_s, ht, key, Option.map_some]) ?_
  try dsimp only
  by_cases hc : b < a
  · rw [if_pos (decide_eq_true hc)]; exact K1 hc
  · rw [if_neg (by simpa using hc)]; exact K2 hc
theorem n_if_gt (hF : nF mi q pc (.ifCond .gt off, w)) (ht : ev_jmp pc off = some t) (hu : pc + 3 = u) (hr : -2147483648 ≤ a ∧ a < 2147483648) (K1 : 0 < a → En V d mi t ls st h P) (K2 : ¬ (0 < a) → En V d mi u ls st h P) : En V d mi pc ls (.int (iI a) :: st) h P := by
  subst hu
  have key : ev_cb .gt (iI a) 0 = decide (0 < a) := decide_eq_decide.mpr (iI_lt (a := 0) (by omega) hr)
  refine n_gs hF rfl (if decide (0 < a) = true then t else pc + 3, ls, st, h) (by simp only [ev_s, ht, key, Option.map_some]) ?_
  try dsimp only
  by_cases hc : 0 < a
  · rw [if_pos (decide_eq_true hc)]; exact K1 hc
  · rw [if_neg (by simpa using hc)]; exact K2 hc
theorem n_ic_le (hF : nF mi q pc (.if_icmp .le off, w)) (ht : ev_jmp pc off = some t) (hu : pc + 3 = u) (hr : (-2147483648 ≤ a ∧ a < 2147483648) ∧ (-2147483648 ≤ b ∧ b < 2147483648)) (K1 : a ≤ b → En V d mi t ls st h P) (K2 : ¬ (a ≤ b) → En V d mi u ls st h P) : En V d mi pc ls (.int (iI b) :: .int (iI a) :: st) h P := by
  subst hu
  have key : ev_cb .le (iI a) (iI b) = decide (a ≤ b) := decide_eq_decide.mpr (iI_le hr.1 hr.2)
  refine n_gs hF rfl (if decide (a ≤ b) = true then t else pc + 3, ls, st, h) (by simp only [ev_s, ht, key, Option.map_some]) ?_
  try dsimp only
  by_cases hc : a ≤ b
  · rw [if_pos (decide_eq_true hc)]; exact K1 hc
  · rw [if_neg (by simpa using hc)]; exact K2 hc
theorem n_if_le (hF : nF mi q pc (.ifCond .le off, w)) (ht : ev_jmp pc off = some t) (hu : pc + 3 = u) (hr : -2147483648 ≤ a ∧ a < 2147483648) (K1 : a ≤ 0 → En V d mi t ls st h P) (K2 : ¬ (a ≤ 0) → En V d mi u ls st h P) : En V d mi pc ls (.int (iI a) :: st) h P := by
  subst hu
  have key : ev_cb .le (iI a) 0 = decide (a ≤ 0) := decide_eq_decide.mpr (iI_le hr (b := 0) (by omega))
  refine n_gs hF rfl (if decide (a ≤ 0) = true then t else pc + 3, ls, st, h) (by simp only [ev_s, ht, key, Option.map_some]) ?_
  try dsimp only
  by_cases hc : a ≤ 0
  · rw [if_pos (decide_eq_true hc)]; exact K1 hc
  · rw [if_neg (by simpa using hc)]; exact K2 hc
theorem n_ib_eq {c : Bool} (hF : nF mi q pc (.ifCond .eq off, w)) (ht : ev_jmp pc off = some t) (hu : pc + 3 = u) (K1 : c = false → En V d mi t ls st h P) (K2 : c = true → En V d mi u ls st h P) : En V d mi pc ls (.int (iI (b2 c)) :: st) h P := by
  refine n_if_eq hF ht hu (by unfold b2; split <;> omega) (fun e => K1 ?_) (fun e => K2 ?_)
  · cases c
    · rfl
    · exact absurd e (by decide)
  · cases c
    · exact absurd rfl e
    · rfl
theorem n_ib_ne {c : Bool} (hF : nF mi q pc (.ifCond .ne off, w)) (ht : ev_jmp pc off = some t) (hu : pc + 3 = u) (K1 : c = true → En V d mi t ls st h P) (K2 : c = false → En V d mi u ls st h P) : En V d mi pc ls (.int (iI (b2 c)) :: st) h P := by
  refine n_if_ne hF ht hu (by unfold b2; split <;> omega) (fun e => K1 ?_) (fun e => K2 ?_)
  · cases c
    · exact absurd rfl e
    · rfl
  · cases c
    · rfl
    · exact absurd (show ¬ b2 true = 0 by decide) e

theorem n_iadd (hF : nF mi q pc (.iadd, w)) (hu : pc + 1 = u) (K : En V d mi u ls (.int (iI (a + b)) :: st) h P) : En V d mi pc ls (.int (iI b) :: .int (iI a) :: st) h P := by
  subst hu
  rw [← iI_add] at K
  exact n_go hF rfl rfl K
theorem n_isub (hF : nF mi q pc (.isub, w)) (hu : pc + 1 = u) (K : En V d mi u ls (.int (iI (a - b)) :: st) h P) : En V d mi pc ls (.int (iI b) :: .int (iI a) :: st) h P := by
  subst hu
  rw [← iI_sub] at K
  exact n_go hF rfl rfl K
theorem n_imul (hF : nF mi q pc (.imul, w)) (hu : pc + 1 = u) (K : En V d mi u ls (.int (iI (a * b)) :: st) h P) : En V d mi pc ls (.int (iI b) :: .int (iI a) :: st) h P := by
  subst hu
  rw [← iI_mul] at K
  exact n_go hF rfl rfl K
theorem n_idiv (hF : nF mi q pc (.idiv, w)) (hu : pc + 1 = u) (hr : (0 ≤ a ∧ a < 2147483648) ∧ 0 < b ∧ b < 2147483648) (K : En V d mi u ls (.int (iI (a / b)) :: st) h P) : En V d mi pc ls (.int (iI b) :: .int (iI a) :: st) h P := by
  subst hu
  have hb : ¬ iI b = 0 := fun e => by
    have := (iI_inj (a := b) (b := 0) (by omega) (by omega)).mp e
    omega
  rw [← iI_div hr.1 hr.2] at K
  exact n_go hF rfl (by simp only [ev_s]; rw [if_neg hb]) K
theorem n_irem (hF : nF mi q pc (.irem, w)) (hu : pc + 1 = u) (hr : (0 ≤ a ∧ a < 2147483648) ∧ 0 < b ∧ b < 2147483648) (K : En V d mi u ls (.int (iI (a % b)) :: st) h P) : En V d mi pc ls (.int (iI b) :: .int (iI a) :: st) h P := by
  subst hu
  have hb : ¬ iI b = 0 := fun e => by
    have := (iI_inj (a := b) (b := 0) (by omega) (by omega)).mp e
    omega
  rw [← iI_rem hr.1 hr.2] at K
  exact n_go hF rfl (by simp only [ev_s]; rw [if_neg hb]) K
theorem n_iinc {m m' : Int} (hF : nF mi q pc (.iinc k m, w)) (hu : pc + 3 = u) (hm : m = m') (hv : ev_ldv ls k = some (.int (iI a))) (hl : ev_st1 ls k (.int (iI (a + m'))) = some ls') (K : En V d mi u ls' st h P) : En V d mi pc ls st h P := by
  subst hu hm
  rw [← iI_add] at hl
  exact n_go hF rfl (by simp only [ev_s, hv]; show Option.map _ (ev_st1 ls k (.int (iI a + iI m))) = _; rw [hl]; rfl) K
theorem n_gf (hF : nF mi q pc (.getfield k, len, x, y, z)) (hu : pc + 3 = u) {c : Nat} {fs : List Value} {v : Value} (hc : h.1[c]? = some (.inr (x, fs))) (hy : fs[y]? = some v) (K : En V d mi u ls (v :: st) h P) : En V d mi pc ls (.ref c :: st) h P := by
  subst hu
  exact n_go hF rfl (by simp only [ev_s, hc, hy, if_pos]) K
theorem n_pf (hF : nF mi q pc (.putfield k, len, x, y, z)) (hu : pc + 3 = u) {c : Nat} {fs : List Value} {v : Value} (hc : h.1[c]? = some (.inr (x, fs))) (hy : (ev_okf (z % 4) v && Nat.blt y fs.length) = true) (K : En V d mi u ls st (ev_set h c (.inr (x, fs.set y v))) P) : En V d mi pc ls (v :: .ref c :: st) h P := by
  subst hu
  rw [Bool.and_eq_true] at hy
  exact n_go hF rfl (by simp only [ev_s, hc, if_pos]; rw [if_pos ⟨hy.1, Nat.le_of_ble_eq_true hy.2⟩]) K
theorem n_ial (hF : nF mi q pc (.iaload, w)) (hu : pc + 1 = u) {c : Nat} {f : Int → Int} (hc : h.1[c]? = some (aI n f)) (he : ¬ c = ev_ext) (hr : 0 ≤ a ∧ a < n ∧ n < 2147483648) (K : En V d mi u ls (.int (iI (f a)) :: st) h P) : En V d mi pc ls (.int (iI a) :: .ref c :: st) h P := by
  subst hu
  have e := cG_at (n := n) (z := (0 : Int32)) (g := iI) (f := f) ⟨hr.1, hr.2.1⟩
  rw [← e, ← iI_cl (a := a) ⟨hr.1, by omega⟩] at K
  exact n_go hF rfl (by simp only [ev_s, ev_aldi, he, false_and, if_false, hc, aI, if_true, iI_ix hr, Option.map_some]) K
theorem n_bal (hF : nF mi q pc (.baload, w)) (hu : pc + 1 = u) {c : Nat} {f : Int → Bool} (hc : h.1[c]? = some (aB n f)) (hr : 0 ≤ a ∧ a < n ∧ n < 2147483648) (K : En V d mi u ls (.int (iI (b2 (f a))) :: st) h P) : En V d mi pc ls (.int (iI a) :: .ref c :: st) h P := by
  subst hu
  have e : cG n (0 : Int32) bI f a.toNat = iI (b2 (f a)) := cG_at ⟨hr.1, hr.2.1⟩
  rw [← e, ← iI_cl (a := a) ⟨hr.1, by omega⟩] at K
  exact n_go hF rfl (by simp only [ev_s, ev_aldi, show ¬ (2 : Nat) = 0 by decide, and_false, if_false, hc, aB, if_true, iI_ix hr, Option.map_some]) K
theorem n_lal (hF : nF mi q pc (.laload, w)) (hu : pc + 1 = u) {c : Nat} {f : Int → Int64} (hc : h.1[c]? = some (aL n f)) (hr : 0 ≤ a ∧ a < n ∧ n < 2147483648) (K : En V d mi u ls (.long (f a) :: st) h P) : En V d mi pc ls (.int (iI a) :: .ref c :: st) h P := by
  subst hu
  have e : cG n (0 : Int64) id f a.toNat = f a := cG_at ⟨hr.1, hr.2.1⟩
  rw [← e, ← iI_cl (a := a) ⟨hr.1, by omega⟩] at K
  exact n_go hF rfl (by simp only [ev_s, ev_aldl, hc, aL, if_true, iI_ix hr, Option.map_some]) K
theorem n_aal (hF : nF mi q pc (.aaload, len, x, y, z)) (hu : pc + 1 = u) {c r : Nat} {f : Int → Option Nat} (hc : h.1[c]? = some (aR x n f)) (hr : 0 ≤ a ∧ a < n ∧ n < 2147483648) (hf : f a = some r) (K : En V d mi u ls (.ref r :: st) h P) : En V d mi pc ls (.int (iI a) :: .ref c :: st) h P := by
  subst hu
  have e : cG n none id f (iI a).toNatClampNeg = some r := by
    rw [iI_cl (a := a) ⟨hr.1, by omega⟩]
    exact (cG_at ⟨hr.1, hr.2.1⟩).trans hf
  exact n_go hF rfl (by simp only [ev_s, ev_aldq, hc, aR, if_true, iI_ix hr, e, Option.map_some]) K
theorem uz_fun {A B : Type} {n : Nat} {z : B} (g : A → B) (f : Int → A) {i : Int} (h : 0 ≤ i ∧ i < n) (v : A) : (fun j => if j = i.toNat then g v else cG n z g f j) = cG n z g (uz f i v) := by
  funext j
  unfold cG uz
  by_cases hj : j = i.toNat
  · rw [if_pos hj, if_pos (by omega), if_pos (by omega)]
  · rw [if_neg hj, if_neg (show ¬ (j : Int) = i by omega)]
theorem n_ias (hF : nF mi q pc (.iastore, w)) (hu : pc + 1 = u) {c : Nat} {f : Int → Int} (hc : h.1[c]? = some (aI n f)) (hr : 0 ≤ a ∧ a < n ∧ n < 2147483648) (K : En V d mi u ls st (ev_set h c (aI n (uz f a v))) P) : En V d mi pc ls (.int (iI v) :: .int (iI a) :: .ref c :: st) h P := by
  subst hu
  have e : upd (cG n (0 : Int32) iI f) a.toNat (iI v) = cG n 0 iI (uz f a v) := uz_fun iI f ⟨hr.1, hr.2.1⟩ v
  unfold aI at K
  rw [← e] at K
  refine n_go hF rfl (by
    simp only [ev_s, ev_asti, hc, aI, if_true, true_or, iI_ix hr, iI_cl ⟨hr.1, (by omega : a < 2147483648)⟩, Option.map_some]) K
theorem n_bas (hF : nF mi q pc (.bastore, w)) (hu : pc + 1 = u) {c : Nat} {f : Int → Bool} {v : Bool} (hc : h.1[c]? = some (aB n f)) (hr : 0 ≤ a ∧ a < n ∧ n < 2147483648) (K : En V d mi u ls st (ev_set h c (aB n (uz f a v))) P) : En V d mi pc ls (.int (iI (b2 v)) :: .int (iI a) :: .ref c :: st) h P := by
  subst hu
  have e : upd (cG n (0 : Int32) bI f) a.toNat (iI (b2 v)) = cG n 0 bI (uz f a v) := uz_fun bI f ⟨hr.1, hr.2.1⟩ v
  unfold aB at K
  rw [← e] at K
  have h01 : ((2 : Nat) = 0 ∨ iI (b2 v) = 0 ∨ iI (b2 v) = 1) := by cases v <;> decide
  refine n_go hF rfl (by
    simp only [ev_s, ev_asti, hc, aB, if_true, iI_ix hr, iI_cl ⟨hr.1, (by omega : a < 2147483648)⟩]
    rw [if_pos h01]; rfl) K
theorem n_las (hF : nF mi q pc (.lastore, w)) (hu : pc + 1 = u) {c : Nat} {f : Int → Int64} {v : Int64} (hc : h.1[c]? = some (aL n f)) (hr : 0 ≤ a ∧ a < n ∧ n < 2147483648) (K : En V d mi u ls st (ev_set h c (aL n (uz f a v))) P) : En V d mi pc ls (.long v :: .int (iI a) :: .ref c :: st) h P := by
  subst hu
  unfold aL at K
  have e : vp_updL (cG n (0 : Int64) id f) a.toNat v = cG n 0 id (uz f a v) := uz_fun id f ⟨hr.1, hr.2.1⟩ v
  rw [← e] at K
  refine n_go hF rfl (by
    simp only [ev_s, ev_astl, hc, aL, if_true, iI_ix hr, iI_cl ⟨hr.1, (by omega : a < 2147483648)⟩, Option.map_some]) K
theorem n_aas (hF : nF mi q pc (.aastore, len, x, y, z)) (hu : pc + 1 = u) {c r : Nat} {f : Int → Option Nat} {fs : List Value} (hc : h.1[c]? = some (aR x n f)) (hr : 0 ≤ a ∧ a < n ∧ n < 2147483648) (hq : h.1[r]? = some (.inr (y, fs))) (K : En V d mi u ls st (ev_set h c (aR x n (uz f a (some r)))) P) : En V d mi pc ls (.ref r :: .int (iI a) :: .ref c :: st) h P := by
  subst hu
  unfold aR at K
  have e : va_up (cG n none id f) a.toNat (some r) = cG n none id (uz f a (some r)) := uz_fun id f ⟨hr.1, hr.2.1⟩ (some r)
  rw [← e] at K
  refine n_go hF rfl (by
    simp only [ev_s, ev_astq, hc, aR, if_true, iI_ix hr, iI_cl ⟨hr.1, (by omega : a < 2147483648)⟩, ev_isC, hq, beq_self_eq_true, Option.map_some]) K
theorem n_aln (hF : nF mi q pc (.arraylength, w)) (hu : pc + 1 = u) {c m : Nat} {s : (Nat → Int32) ⊕ (Nat → Int64) ⊕ (Nat → UInt32) ⊕ (Nat → UInt64) ⊕ (Nat → Option Nat)} (hc : h.1[c]? = some (.inl (m, n, s))) (hm : Nat.blt m 5 = true) (he : ¬ c = ev_ext ∧ ¬ c = ev_ext + 1) (K : En V d mi u ls (.int (iI n) :: st) h P) : En V d mi pc ls (.ref c :: st) h P := by
  subst hu
  have hm : m < 5 := Nat.le_of_ble_eq_true hm
  refine n_go hF rfl (by
    simp only [ev_s, he.1, he.2, if_false, hc, hm, if_true]
    rfl) K
theorem n_nai (hF : nF mi q pc (.newarray .int, w)) (hu : pc + 2 = u) (hr : 0 ≤ a ∧ a ≤ 1000000) (e : h.2.1 = n) (K : En V d mi u ls (.ref n :: st) (ev_push h (aI a.toNat (fun _ => 0)) a.toNat) P) : En V d mi pc ls (.int (iI a) :: st) h P := by
  subst hu e
  unfold aI at K
  rw [← cG_all (n := a.toNat) (z := (0 : Int32)) (g := iI) (v := (0 : Int)) rfl] at K
  have h1 : ¬ iI a < 0 := fun q => by
    have := (iI_lt (a := a) (b := 0) (by omega) (by omega)).mp q
    omega
  refine n_go hF rfl (by
    simp only [ev_s, h1, if_false, iI_cl ⟨hr.1, (by omega : a < 2147483648)⟩]
    rw [if_neg (by omega)]) K
theorem n_nal (hF : nF mi q pc (.newarray .long, w)) (hu : pc + 2 = u) (hr : 0 ≤ a ∧ a ≤ 1000000) (e : h.2.1 = n) (K : En V d mi u ls (.ref n :: st) (ev_push h (aL a.toNat (fun _ => 0)) a.toNat) P) : En V d mi pc ls (.int (iI a) :: st) h P := by
  subst hu e
  unfold aL at K
  rw [← cG_all (n := a.toNat) (z := (0 : Int64)) (g := id) (v := (0 : Int64)) rfl] at K
  have h1 : ¬ iI a < 0 := fun q => by
    have := (iI_lt (a := a) (b := 0) (by omega) (by omega)).mp q
    omega
  refine n_go hF rfl (by
    simp only [ev_s, h1, if_false, iI_cl ⟨hr.1, (by omega : a < 2147483648)⟩]
    rw [if_neg (by omega)]) K
theorem n_nab (hF : nF mi q pc (.newarray .boolean, w)) (hu : pc + 2 = u) (hr : 0 ≤ a ∧ a ≤ 1000000) (e : h.2.1 = n) (K : En V d mi u ls (.ref n :: st) (ev_push h (aB a.toNat (fun _ => false)) a.toNat) P) : En V d mi pc ls (.int (iI a) :: st) h P := by
  subst hu e
  unfold aB at K
  rw [← cG_all (n := a.toNat) (z := (0 : Int32)) (g := bI) (v := false) rfl] at K
  have h1 : ¬ iI a < 0 := fun q => by
    have := (iI_lt (a := a) (b := 0) (by omega) (by omega)).mp q
    omega
  refine n_go hF rfl (by
    simp only [ev_s, h1, if_false, iI_cl ⟨hr.1, (by omega : a < 2147483648)⟩]
    rw [if_neg (by omega)]) K
theorem n_nar (hF : nF mi q pc (.anewarray k, len, x, y, z)) (hu : pc + 3 = u) (hr : 0 ≤ a ∧ a ≤ 1000000) (e : h.2.1 = n) (K : En V d mi u ls (.ref n :: st) (ev_push h (aR x a.toNat (fun _ => none)) a.toNat) P) : En V d mi pc ls (.int (iI a) :: st) h P := by
  subst hu e
  unfold aR at K
  rw [← cG_all (n := a.toNat) (z := (none : Option Nat)) (g := id) (v := none) rfl] at K
  have h1 : ¬ iI a < 0 := fun q => by
    have := (iI_lt (a := a) (b := 0) (by omega) (by omega)).mp q
    omega
  refine n_go hF rfl (by
    simp only [ev_s, h1, if_false, iI_cl ⟨hr.1, (by omega : a < 2147483648)⟩]
    rw [if_neg (by omega)]) K
theorem n_cst (hF : nF mi q pc (.checkcast k, len, x, y, z)) (hu : pc + 3 = u) {c : Nat} {fs : List Value} (hc : h.1[c]? = some (.inr (x, fs))) (K : En V d mi u ls (.ref c :: st) h P) : En V d mi pc ls (.ref c :: st) h P := by
  subst hu
  exact n_go hF rfl (by simp only [ev_s, ev_isC, hc, beq_self_eq_true, if_true]) K
theorem nat_and (m n : Nat) : iI (m : Int) &&& iI (n : Int) = iI ((m &&& n : Nat) : Int) := by
  apply Int32.toBitVec.inj
  apply BitVec.eq_of_toNat_eq
  have h1 : (iI (m : Int) &&& iI (n : Int)).toBitVec = (iI (m : Int)).toBitVec &&& (iI (n : Int)).toBitVec := rfl
  have h2 : ∀ k : Nat, (iI (k : Int)).toBitVec.toNat = k % 2 ^ 32 := fun k => by
    show (BitVec.ofInt 32 (k : Int)).toNat = _
    simp
  rw [h1, BitVec.toNat_and, h2, h2, h2, Nat.and_mod_two_pow]
theorem nat_or (m n : Nat) : iI (m : Int) ||| iI (n : Int) = iI ((m ||| n : Nat) : Int) := by
  apply Int32.toBitVec.inj
  apply BitVec.eq_of_toNat_eq
  have h1 : (iI (m : Int) ||| iI (n : Int)).toBitVec = (iI (m : Int)).toBitVec ||| (iI (n : Int)).toBitVec := rfl
  have h2 : ∀ k : Nat, (iI (k : Int)).toBitVec.toNat = k % 2 ^ 32 := fun k => by
    show (BitVec.ofInt 32 (k : Int)).toNat = _
    simp
  rw [h1, BitVec.toNat_or, h2, h2, h2, Nat.or_mod_two_pow]
theorem nat_shl {t : Int} (ht : 0 ≤ t ∧ t < 12) : iI 1 <<< (iI t &&& 31) = iI ((2 ^ t.toNat : Nat) : Int) := by
  rcases (by omega : t = 0 ∨ t = 1 ∨ t = 2 ∨ t = 3 ∨ t = 4 ∨ t = 5 ∨ t = 6 ∨ t = 7 ∨ t = 8 ∨ t = 9 ∨ t = 10 ∨ t = 11) with rfl | rfl | rfl | rfl | rfl | rfl | rfl | rfl | rfl | rfl | rfl | rfl <;> decide
theorem i2c_id {a : Int} (h : 0 ≤ a ∧ a < 65536) : ((iI a).toUInt32 % 65536).toInt32 = iI a := by
  apply Int32.toBitVec.inj
  apply BitVec.eq_of_toNat_eq
  have h2 : (iI a).toBitVec.toNat = a.toNat := by
    show (BitVec.ofInt 32 a).toNat = _
    rw [BitVec.toNat_ofInt]
    omega
  have h1 : ((iI a).toUInt32 % 65536).toInt32.toBitVec.toNat = (iI a).toBitVec.toNat % 65536 := by
    show ((iI a).toBitVec % 65536#32).toNat = _
    rw [BitVec.toNat_umod]
    rfl
  rw [h1, h2]
  omega
theorem n_i2c (hF : nF mi q pc (.i2c, w)) (hu : pc + 1 = u) (hr : 0 ≤ a ∧ a < 65536) (K : En V d mi u ls (.int (iI a) :: st) h P) : En V d mi pc ls (.int (iI a) :: st) h P := by
  subst hu
  refine n_go hF rfl rfl ?_
  rw [i2c_id hr]
  exact K
theorem n_ian {m n : Nat} (hF : nF mi q pc (.iand, w)) (hu : pc + 1 = u) (K : En V d mi u ls (.int (iI ((m &&& n : Nat) : Int)) :: st) h P) : En V d mi pc ls (.int (iI (n : Int)) :: .int (iI (m : Int)) :: st) h P := by
  subst hu
  rw [← nat_and] at K
  exact n_go hF rfl rfl K
theorem n_iot {m n : Nat} (hF : nF mi q pc (.ior, w)) (hu : pc + 1 = u) (K : En V d mi u ls (.int (iI ((m ||| n : Nat) : Int)) :: st) h P) : En V d mi pc ls (.int (iI (n : Int)) :: .int (iI (m : Int)) :: st) h P := by
  subst hu
  rw [← nat_or] at K
  exact n_go hF rfl rfl K
theorem n_ish1 {t : Int} (hF : nF mi q pc (.ishl, w)) (hu : pc + 1 = u) (ht : 0 ≤ t ∧ t < 12) (K : En V d mi u ls (.int (iI ((2 ^ t.toNat : Nat) : Int)) :: st) h P) : En V d mi pc ls (.int (iI t) :: .int (iI 1) :: st) h P := by
  subst hu
  rw [← nat_shl ht] at K
  exact n_go hF rfl rfl K
theorem n_bip {m c : Int} (hF : nF mi q pc (.bipush c, w)) (hu : pc + 2 = u) (e : (Int8.ofInt c).toInt32 = iI m) (K : En V d mi u ls (.int (iI m) :: st) h P) : En V d mi pc ls st h P := by
  subst hu
  rw [← e] at K
  exact n_go hF rfl rfl K
theorem n_sip {m c : Int} (hF : nF mi q pc (.sipush c, w)) (hu : pc + 3 = u) (e : (Int16.ofInt c).toInt32 = iI m) (K : En V d mi u ls (.int (iI m) :: st) h P) : En V d mi pc ls st h P := by
  subst hu
  rw [← e] at K
  exact n_go hF rfl rfl K
theorem n_tsw {m dflt lo hi : Int} {offs : Array Int} (hF : nF mi q pc (.tableswitch dflt lo hi offs, w)) (hr : -2147483648 ≤ a ∧ a < 2147483648) (hs : ev_sw lo hi dflt offs a = some m) (ht : ev_jmp pc m = some t) (K : En V d mi t ls st h P) : En V d mi pc ls (.int (iI a) :: st) h P :=
  n_go hF rfl (by simp only [ev_s, iI_to hr, hs, Option.bind_some, ht, Option.map_some]) K
theorem n_lsw {dflt : Int} {ps : Array (Int × Int)} (hF : nF mi q pc (.lookupswitch dflt ps, w)) (hr : -2147483648 ≤ a ∧ a < 2147483648) (hp : (ps.toList.zip (ps.toList.drop 1)).all (fun (a, next) => a.1 < next.1) = true) (ht : ev_jmp pc (Op.lookupswitch.offset ps.toList dflt a) = some t) (K : En V d mi t ls st h P) : En V d mi pc ls (.int (iI a) :: st) h P :=
  n_go hF rfl (by simp only [ev_s, iI_to hr, hp, if_true, ht, Option.map_some]) K
theorem n_ldc {m : Int} (hF : nF mi q pc (.ldc k, len, x, 0, z)) (hu : pc + 2 = u) (e : Int32.ofNat x = iI m) (K : En V d mi u ls (.int (iI m) :: st) h P) : En V d mi pc ls st h P := by
  subst hu
  rw [← e] at K
  exact n_go hF rfl (by simp only [ev_s]; rw [if_neg (by decide)]) K
theorem n_ldcw {m : Int} (hF : nF mi q pc (.ldc_w k, len, x, y, z)) (hu : pc + 3 = u) (e : Int32.ofNat x = iI m) (K : En V d mi u ls (.int (iI m) :: st) h P) : En V d mi pc ls st h P := by
  subst hu
  rw [← e] at K
  exact n_go hF rfl rfl K
/-- a whole row copied into another one -/
theorem cpy_all {B : Type} {n : Nat} {z : B} {A : Type} {g : A → B} {f f' : Int → A} : va_cpy (cG n z g f) (cG n z g f') 0 0 n = cG n z g f := by
  funext j
  unfold va_cpy
  by_cases hj : j < n
  · rw [if_pos (by omega)]
    congr 1
    omega
  · rw [if_neg (by omega)]
    unfold cG
    rw [if_neg hj, if_neg hj]
theorem n_cpI (hF : nF mi q pc (.invokestatic k, len, x, 8, z)) (hu : pc + 3 = u) {c c' : Nat} {f f' : Int → Int} (hc : h.1[c]? = some (aI n f)) (hc' : h.1[c']? = some (aI n f')) (hn : n < 2147483648) (hk : Nat.ble (ev_cats st) 8 = true) (K : En V d mi u ls st (ev_set h c' (aI n f)) P) : En V d mi pc ls (.int (iI n) :: .int (iI 0) :: .ref c' :: .int (iI 0) :: .ref c :: st) h P := by
  subst hu
  obtain ⟨o, h2, e1, e2⟩ := K
  refine ⟨o, h2, ?_, e2⟩
  rw [n_eq hF]
  unfold ev_one
  have hz : (iI 0).toNatClampNeg = 0 := by decide
  have hm : (iI (n : Int)).toNatClampNeg = n := by rw [iI_cl (by omega)]; omega
  have h0 : ¬ iI 0 < 0 := by decide
  have h1 : ¬ iI (n : Int) < 0 := fun e => by
    have := (iI_lt (a := n) (b := 0) (by omega) (by omega)).mp e
    omega
  have hcp : ev_cpy (.int (iI n) :: .int (iI 0) :: .ref c' :: .int (iI 0) :: .ref c :: st) h = some (st, ev_set h c' (aI n f)) := by
    unfold ev_cpy
    try dsimp only
    rw [hc, hc']
    unfold aI
    try dsimp only
    rw [hz, hm, cpy_all, if_pos ⟨rfl, Or.inl rfl, h0, h0, h1, by omega, by omega⟩, if_pos (Or.inl rfl)]
  show (if (8 : Nat) = 8 then _ else _) = _
  rw [if_pos rfl, hcp]
  try dsimp only
  rw [if_pos (Nat.le_of_ble_eq_true hk)]
  exact e1
theorem n_cpB (hF : nF mi q pc (.invokestatic k, len, x, 8, z)) (hu : pc + 3 = u) {c c' : Nat} {f f' : Int → Bool} (hc : h.1[c]? = some (aB n f)) (hc' : h.1[c']? = some (aB n f')) (hn : n < 2147483648) (hk : Nat.ble (ev_cats st) 8 = true) (K : En V d mi u ls st (ev_set h c' (aB n f)) P) : En V d mi pc ls (.int (iI n) :: .int (iI 0) :: .ref c' :: .int (iI 0) :: .ref c :: st) h P := by
  subst hu
  obtain ⟨o, h2, e1, e2⟩ := K
  refine ⟨o, h2, ?_, e2⟩
  rw [n_eq hF]
  unfold ev_one
  have hz : (iI 0).toNatClampNeg = 0 := by decide
  have hm : (iI (n : Int)).toNatClampNeg = n := by rw [iI_cl (by omega)]; omega
  have h0 : ¬ iI 0 < 0 := by decide
  have h1 : ¬ iI (n : Int) < 0 := fun e => by
    have := (iI_lt (a := n) (b := 0) (by omega) (by omega)).mp e
    omega
  have h01 : ev_01 (cG n 0 bI f) 0 n = true := by
    unfold ev_01
    rw [List.all_eq_true]
    intro i hi
    unfold cG
    rw [Nat.zero_add, if_pos (List.mem_range.mp hi)]
    cases f i <;> decide
  have hcp : ev_cpy (.int (iI n) :: .int (iI 0) :: .ref c' :: .int (iI 0) :: .ref c :: st) h = some (st, ev_set h c' (aB n f)) := by
    unfold ev_cpy
    try dsimp only
    rw [hc, hc']
    unfold aB
    try dsimp only
    rw [hz, hm, cpy_all, if_pos ⟨rfl, Or.inr rfl, h0, h0, h1, by omega, by omega⟩, if_pos (Or.inr h01)]
  show (if (8 : Nat) = 8 then _ else _) = _
  rw [if_pos rfl, hcp]
  try dsimp only
  rw [if_pos (Nat.le_of_ble_eq_true hk)]
  exact e1
/-- an exception goes on to the caller -/
theorem n_up (hh : q.2.2.2.2.1 = []) (K : P (.inr k) h) : nB V q d mi pc ls rest P (.inr k) h := by
  refine ⟨(.inr k, h), ?_, K⟩
  unfold ev_back
  rw [hh]
  rfl
theorem n_hd {t pc' : Nat} (ht : ev_hd q.2.2.2.2.1 q.2.2.2.2.2.1 pc k = some t) (hc : ev_caught (ev_find q.2.2.2.2.2.2 t) t ls = some (pc', ls')) (K : En V d mi pc' ls' [] h P) : nB V q d mi pc ls rest P (.inr k) h := by
  obtain ⟨o, h2, e1, e2⟩ := K
  refine ⟨(o, h2), ?_, e2⟩
  unfold ev_back
  try dsimp only
  rw [ht]
  try dsimp only
  rw [hc]
  exact e1
theorem n_bk {v : ev_O} {h1 : ev_H} (hB : nB V q d mi pc ls rest P v h1) : ∃ o h2, ev_back (eL V) q.2.2.2.2.1 q.2.2.2.2.2.1 q.2.2.2.2.2.2 d mi pc ls rest v h1 = some (o, h2) ∧ P o h2 := by
  cases v with
  | inl v => exact hB
  | inr k => obtain ⟨r, h1, h2⟩ := hB; exact ⟨r.1, r.2, h1, h2⟩
theorem n_cl {sp : Nat} (hx : fx_mt[x]? = some q') (hk : (Nat.ble z st.length && (Nat.ble (ev_cats (st.drop z)) 8 && Nat.ble (ev_sl (st.take z).reverse).length q'.2.2.1)) = true) (hr : ev_rc sp (y / 16) (st.take z).reverse h = true) (C : En V d x 0 (ev_in q'.2.2.1 (st.take z).reverse) [] h (nB V q (d + 1) mi pc ls (st.drop z) P)) : ∃ o h2, ev_call (eL V) fx_mt q.2.2.2.2.1 q.2.2.2.2.2.1 q.2.2.2.2.2.2 sp (d + 1) mi pc x y z ls st h = some (o, h2) ∧ P o h2 := by
  rw [Bool.and_eq_true, Bool.and_eq_true] at hk
  obtain ⟨o, h1, e1, e2⟩ := C
  obtain ⟨o2, h2, e3, e4⟩ := n_bk e2
  refine ⟨o2, h2, ?_, e4⟩
  unfold ev_call
  rw [hx]
  try dsimp only
  rw [if_pos ⟨Nat.le_of_ble_eq_true hk.1, Nat.le_of_ble_eq_true hk.2.1, Nat.le_of_ble_eq_true hk.2.2, hr⟩]
  rw [e1]
  exact e3
/-- an object's method -/
theorem n_cv {c : Nat} {fs : List Value} {as : List Value} (hF : nF mi q pc (.invokevirtual k, len, x, y, z)) (hy : ¬ y = 7) (hx : fx_mt[x]? = some q') (hk : (Nat.ble z st.length && (Nat.ble (ev_cats (st.drop z)) 8 && Nat.ble (ev_sl (st.take z).reverse).length q'.2.2.1)) = true) (ha : (st.take z).reverse = .ref c :: as) (hc : h.1[c]? = some (.inr (y / 16, fs))) (hl : ev_in q'.2.2.1 (st.take z).reverse = ls') (C : En V d x 0 ls' [] h (nB V q (d + 1) mi pc ls (st.drop z) P)) : En V (d + 1) mi pc ls st h P := by
  subst hl
  have hr : ev_rc 1 (y / 16) (st.take z).reverse h = true := by
    rw [ha]
    unfold ev_rc ev_isC
    try dsimp only
    rw [hc]
    exact beq_self_eq_true _
  obtain ⟨o, h2, e1, e2⟩ := n_cl hx hk hr C
  refine ⟨o, h2, ?_, e2⟩
  rw [n_eq hF]
  unfold ev_one
  show (if y = 7 then _ else ev_call (eL V) fx_mt q.2.2.2.2.1 q.2.2.2.2.2.1 q.2.2.2.2.2.2 1 (d + 1) mi pc x y z ls st h) = _
  rw [if_neg hy]
  exact e1
theorem n_cs (hF : nF mi q pc (.invokestatic k, len, x, y, z)) (hy : ¬ y = 8) (hx : fx_mt[x]? = some q') (hk : (Nat.ble z st.length && (Nat.ble (ev_cats (st.drop z)) 8 && Nat.ble (ev_sl (st.take z).reverse).length q'.2.2.1)) = true) (hl : ev_in q'.2.2.1 (st.take z).reverse = ls') (C : En V d x 0 ls' [] h (nB V q (d + 1) mi pc ls (st.drop z) P)) : En V (d + 1) mi pc ls st h P := by
  subst hl
  obtain ⟨o, h2, e1, e2⟩ := n_cl (sp := 0) (y := y) hx hk rfl C
  refine ⟨o, h2, ?_, e2⟩
  rw [n_eq hF]
  unfold ev_one
  show (if y = 8 then _ else ev_call (eL V) fx_mt q.2.2.2.2.1 q.2.2.2.2.2.1 q.2.2.2.2.2.2 0 (d + 1) mi pc x y z ls st h) = _
  rw [if_neg hy]
  exact e1
theorem n_ci {c : Nat} {as : List Value} (hF : nF mi q pc (.invokespecial k, len, x, y, z)) (hy : ¬ y = 9) (hx : fx_mt[x]? = some q') (hk : (Nat.ble z st.length && (Nat.ble (ev_cats (st.drop z)) 8 && Nat.ble (ev_sl (st.take z).reverse).length q'.2.2.1)) = true) (ha : (st.take z).reverse = .ref c :: as) (hl : ev_in q'.2.2.1 (st.take z).reverse = ls') (C : En V d x 0 ls' [] h (nB V q (d + 1) mi pc ls (st.drop z) P)) : En V (d + 1) mi pc ls st h P := by
  subst hl
  have hr : ev_rc 2 (y / 16) (st.take z).reverse h = true := by
    rw [ha]
    rfl
  obtain ⟨o, h2, e1, e2⟩ := n_cl hx hk hr C
  refine ⟨o, h2, ?_, e2⟩
  rw [n_eq hF]
  unfold ev_one
  show (if y = 9 then _ else ev_call (eL V) fx_mt q.2.2.2.2.1 q.2.2.2.2.2.1 q.2.2.2.2.2.2 2 (d + 1) mi pc x y z ls st h) = _
  rw [if_neg hy]
  exact e1
/-- Object's constructor -/
theorem n_ob {c : Nat} (hF : nF mi q pc (.invokespecial k, len, x, 9, z)) (hu : pc + 3 = u) (hk : Nat.ble (ev_cats st) 8 = true) (K : En V d mi u ls st h P) : En V d mi pc ls (.ref c :: st) h P := by
  subst hu
  obtain ⟨o, h2, e1, e2⟩ := K
  refine ⟨o, h2, ?_, e2⟩
  rw [n_eq hF]
  unfold ev_one
  show (if (9 : Nat) = 9 then (if ev_cats st ≤ 8 then eL V d mi (pc + 3) ls st h else none) else _) = _
  rw [if_pos rfl, if_pos (Nat.le_of_ble_eq_true hk)]
  exact e1
/-- String.length and charAt of the text -/
theorem n_sl (hF : nF mi q pc (.invokevirtual k, len, 0, 7, z)) (hu : pc + 3 = u) (hk : Nat.ble (ev_cats (.int 8 :: st)) 8 = true) (K : En V d mi u ls (.int (iI 8) :: st) h P) : En V d mi pc ls (.ref (ev_ext + 2) :: st) h P := by
  subst hu
  obtain ⟨o, h2, e1, e2⟩ := K
  refine ⟨o, h2, ?_, e2⟩
  rw [n_eq hF]
  unfold ev_one
  show (match ev_sb 0 (.ref (ev_ext + 2) :: st) with | some q => if ev_cats q ≤ 8 then eL V d mi (pc + 3) ls q h else none | none => none) = _
  rw [show ev_sb 0 (.ref (ev_ext + 2) :: st) = some (.int 8 :: st) by unfold ev_sb; exact if_pos rfl]
  dsimp only
  rw [if_pos (Nat.le_of_ble_eq_true hk)]
  exact e1
theorem n_sc (hF : nF mi q pc (.invokevirtual k, len, 1, 7, z)) (hu : pc + 3 = u) (hr : 0 ≤ a ∧ a < 8) (hk : Nat.ble (ev_cats (.int 8 :: st)) 8 = true) (K : En V d mi u ls (.int (es_ch a.toNat) :: st) h P) : En V d mi pc ls (.int (iI a) :: .ref (ev_ext + 2) :: st) h P := by
  subst hu
  obtain ⟨o, h2, e1, e2⟩ := K
  refine ⟨o, h2, ?_, e2⟩
  rw [n_eq hF]
  unfold ev_one
  show (match ev_sb 1 (.int (iI a) :: .ref (ev_ext + 2) :: st) with | some q => if ev_cats q ≤ 8 then eL V d mi (pc + 3) ls q h else none | none => none) = _
  rw [show ev_sb 1 (.int (iI a) :: .ref (ev_ext + 2) :: st) = some (.int (es_ch (iI a).toNatClampNeg) :: st) from if_pos ⟨rfl, iI_ix (n := 8) (by omega)⟩]
  dsimp only
  rw [if_pos (show ev_cats (.int (es_ch (iI a).toNatClampNeg) :: st) ≤ 8 from Nat.le_of_ble_eq_true hk), iI_cl (by omega)]
  exact e1
/-- a loop that counts up -/
theorem n_for {lo hi : Int} (hle : lo ≤ hi) (Inv : Int → ev_L → List Value → ev_H → Prop) (h0 : Inv lo ls st h)
    (step : ∀ i ls st h, lo ≤ i → i < hi → Inv i ls st h → (∀ ls' st' h', Inv (i + 1) ls' st' h' → En V d mi pc ls' st' h' P) → En V d mi pc ls st h P)
    (fin : ∀ ls st h, Inv hi ls st h → En V d mi pc ls st h P) : En V d mi pc ls st h P := by
  have key : ∀ (n : Nat) (i : Int) ls st h, i + n = hi → lo ≤ i → Inv i ls st h → En V d mi pc ls st h P := by
    intro n
    induction n with
    | zero => intro i ls st h e _ hI; rw [show i = hi by omega] at hI; exact fin ls st h hI
    | succ n ih => intro i ls st h e hlo hI; exact step i ls st h hlo (by omega) hI (fun ls' st' h' hI' => ih (i + 1) ls' st' h' (by omega) (by omega) hI')
  exact key (hi - lo).toNat lo ls st h (by omega) (by omega) h0
end NN

