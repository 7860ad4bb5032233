/-! Scripts, sameness and prints, in the class and in the law. -/
section RS
variable {K : dK} {S T : dS} {D D' Z Z' E W F X Y : Int → Int} {o i p x r c j q lo s pl ah n r0 t : Int} {dp : Int → Nat}
theorem edn_rl {k : Int} {c : Int → Int → Bool} {kd m : Nat} (hk : ckk kd = k) (h1 : ∀ i : Nat, i < m → due S T k i = c kd i) : ∀ n : Nat, m ≤ n → (∀ i : Nat, m ≤ i → i < n → due S T k i = false) → edn S T k n = rlL c kd m := by
  have key : ∀ a : Nat, a ≤ m → edn S T k a = rlL c kd a := by
    intro a
    induction a with
    | zero => intro _; rfl
    | succ a ih =>
      intro ha
      show edn S T k a ++ (if due S T k a = true then [(k, (a : Int))] else []) = rlL c kd a ++ (if c kd a = true then [(ckk kd, (a : Int))] else [])
      rw [ih (by omega), h1 a (by omega), hk]
  intro n
  induction n with
  | zero =>
    intro hm _
    rw [show m = 0 by omega]
    rfl
  | succ n ih =>
    intro hm h2
    by_cases e : m = n + 1
    · rw [e]
      rw [e] at key
      exact key _ (Nat.le_refl _)
    · show edn S T k n ++ (if due S T k n = true then [(k, (n : Int))] else []) = _
      rw [h2 n (by omega) (by omega), if_neg (by decide), List.append_nil]
      exact ih (by omega) (fun i a b => h2 i a (by omega))
theorem both_d {a b : Bool} {p q : Prop} [Decidable p] [Decidable q] (h : a = true → b = true → (p ↔ ¬ q)) : ((a && b) && decide p) = ((a && b) && !decide q) := by
  cases a
  · rfl
  · cases b
    · rfl
    · rw [← decide_not, decide_eq_decide.mpr (h rfl rfl)]
theorem du0 : due S T 0 p = (!hs S p && hs T p) := rfl
theorem du1 : due S T 1 p = ((hs S p && hs T p) && !decide (S.1 p = T.1 p)) := rfl
theorem du2 : due S T 2 p = ((hs S p && hs T p) && !decide (S.2.1 p = T.2.1 p)) := rfl
theorem du3 : due S T 3 p = ((hs S p && hs T p) && !decide (S.2.2.1 p = T.2.2.1 p)) := rfl
theorem du4 : due S T 4 p = false := rfl
theorem du5 : due S T 5 p = (!S.2.2.2 p && T.2.2.2 p) := rfl
theorem du6 : due S T 6 p = (S.2.2.2 p && !T.2.2.2 p) := rfl
theorem du7 : due S T 7 p = (hs S p && !hs T p) := rfl
theorem ls0 : lsd D W E F Z Y o t ((0 : Nat) : Int) p = (!(lt D o p) && lt W t p) := rfl
theorem ls1 : lsd D W E F Z Y o t ((1 : Nat) : Int) p = ((lt D o p && lt W t p) && decide (¬ Z (o + p) = Y (t + p))) := rfl
theorem ls2 : lsd D W E F Z Y o t ((2 : Nat) : Int) p = ((lt D o p && lt W t p) && decide (¬ D (o + p) / 256 % 16 = W (t + p) / 256 % 16)) := rfl
theorem ls3 : lsd D W E F Z Y o t ((3 : Nat) : Int) p = ((lt D o p && lt W t p) && decide (¬ D (o + p) / 4096 = W (t + p) / 4096)) := rfl
theorem ls4 : lsd D W E F Z Y o t ((4 : Nat) : Int) p = (decide (E (o + p) = 0) && decide (F (t + p) > 0)) := rfl
theorem ls5 : lsd D W E F Z Y o t ((5 : Nat) : Int) p = (decide (E (o + p) > 0) && decide (F (t + p) = 0)) := rfl
theorem ls6 : lsd D W E F Z Y o t ((6 : Nat) : Int) p = (lt D o p && !(lt W t p)) := rfl
theorem ed4 : ∀ n : Nat, edn S T 4 n = [] := by
  intro n
  induction n with
  | zero => rfl
  | succ n ih =>
    show edn S T 4 n ++ (if due S T 4 n = true then [((4 : Int), (n : Int))] else []) = []
    rw [ih, du4, if_neg (by decide)]
    rfl
/-- the law's list is the class's script -/
theorem ed_ll (hK : kI K) (hI : sI K S) (hI' : sI K T) (hR : rD K S D Z o) (hR' : rD K T W Y t) (hE : rE K S E o) (hE' : rE K T F t) : edk S T 8 = llL (lsd D W E F Z Y o t) (fun k => (if k = 4 ∨ k = 5 then kW K else kN K).toNat) 7 := by
  have hN := hK.2.2.1
  have hW := hK.2.2.2.1
  have hd := gd_dlo hK hI hI'
  have lim40 : ∀ k : Int, ¬ (k = 5 ∨ k = 6) → (lim k).toNat = 40 := fun k h => by unfold lim; rw [if_neg h]; rfl
  have lim120 : ∀ k : Int, (k = 5 ∨ k = 6) → (lim k).toNat = 120 := fun k h => by unfold lim; rw [if_pos h]; rfl
  have nn : ∀ i : Int, kN K ≤ i → i < 40 → hs S i = false ∧ hs T i = false := fun i a b => by
    refine ⟨?_, ?_⟩
    · cases e : hs S i with
      | true => have := (hI.1.1 i (by omega) b e).1; omega
      | false => rfl
    · cases e : hs T i with
      | true => have := (hI'.1.1 i (by omega) b e).1; omega
      | false => rfl
  have ltS : ∀ i : Nat, i < (kN K).toNat → lt D o i = hs S i ∧ lt W t i = hs T i := fun i h => ⟨rD_lt hK hI.1 hR (by omega), rD_lt hK hI'.1 hR' (by omega)⟩
  have e0 : edn S T 0 40 = rlL (lsd D W E F Z Y o t) 0 (kN K).toNat := edn_rl (k := 0) (kd := 0) (m := (kN K).toNat) (c := lsd D W E F Z Y o t) rfl (fun i h => by
    rw [du0, ls0, (ltS i h).1, (ltS i h).2]) 40 (by omega) (fun i a b => by
    rw [du0, (nn i (by omega) (by omega)).2, Bool.and_false])
  have e1 : edn S T 1 40 = rlL (lsd D W E F Z Y o t) 1 (kN K).toNat := edn_rl (k := 1) (kd := 1) (m := (kN K).toNat) (c := lsd D W E F Z Y o t) rfl (fun i h => by
    rw [du1, ls1, (ltS i h).1, (ltS i h).2]
    refine (both_d (fun a b => ?_)).symm
    rw [(rD_t hK hI.1 hR a).1.2.2.2.2.2.1, (rD_t hK hI'.1 hR' b).1.2.2.2.2.2.1]
    omega) 40 (by omega) (fun i a b => by
    rw [du1, (nn i (by omega) (by omega)).2, Bool.and_false]
    rfl)
  have e2 : edn S T 2 40 = rlL (lsd D W E F Z Y o t) 2 (kN K).toNat := edn_rl (k := 2) (kd := 2) (m := (kN K).toNat) (c := lsd D W E F Z Y o t) rfl (fun i h => by
    rw [du2, ls2, (ltS i h).1, (ltS i h).2]
    refine (both_d (fun a b => ?_)).symm
    rw [(rD_t hK hI.1 hR a).1.2.2.1, (rD_t hK hI'.1 hR' b).1.2.2.1]) 40 (by omega) (fun i a b => by
    rw [du2, (nn i (by omega) (by omega)).2, Bool.and_false]
    rfl)
  have e3 : edn S T 3 40 = rlL (lsd D W E F Z Y o t) 3 (kN K).toNat := edn_rl (k := 3) (kd := 3) (m := (kN K).toNat) (c := lsd D W E F Z Y o t) rfl (fun i h => by
    rw [du3, ls3, (ltS i h).1, (ltS i h).2]
    refine (both_d (fun a b => ?_)).symm
    rw [(rD_t hK hI.1 hR a).1.2.2.2.1, (rD_t hK hI'.1 hR' b).1.2.2.2.1]
    omega) 40 (by omega) (fun i a b => by
    rw [du3, (nn i (by omega) (by omega)).2, Bool.and_false]
    rfl)
  have sd : ∀ i : Nat, i < (kW K).toNat → (decide (E (o + i) = 0) = !S.2.2.2 i ∧ decide (E (o + i) > 0) = S.2.2.2 i) ∧ (decide (F (t + i) = 0) = !T.2.2.2 i ∧ decide (F (t + i) > 0) = T.2.2.2 i) := fun i h => by
    have one : ∀ {G : Int → Int} {U : dS} {u : Int}, rE K U G u → (decide (G (u + i) = 0) = !U.2.2.2 i ∧ decide (G (u + i) > 0) = U.2.2.2 i) := fun {G U u} hG => by
      cases e : U.2.2.2 i with
      | true =>
        have := (rE_t hG (by omega) e).2
        exact ⟨decide_eq_false (by omega), decide_eq_true (by omega)⟩
      | false =>
        have := hG.1 i (by omega) (by omega) e
        exact ⟨decide_eq_true this, decide_eq_false (by omega)⟩
    exact ⟨one hE, one hE'⟩
  have nw : ∀ i : Int, kW K ≤ i → S.2.2.2 i = false ∧ T.2.2.2 i = false := fun i a => ⟨sd_no hK hI a, sd_no hK hI' a⟩
  have e5 : edn S T 5 120 = rlL (lsd D W E F Z Y o t) 4 (kW K).toNat := edn_rl (k := 5) (kd := 4) (m := (kW K).toNat) (c := lsd D W E F Z Y o t) rfl (fun i h => by
    rw [du5, ls4, (sd i h).1.1, (sd i h).2.2]) 120 (by omega) (fun i a b => by
    rw [du5, (nw i (by omega)).2, Bool.and_false])
  have e6 : edn S T 6 120 = rlL (lsd D W E F Z Y o t) 5 (kW K).toNat := edn_rl (k := 6) (kd := 5) (m := (kW K).toNat) (c := lsd D W E F Z Y o t) rfl (fun i h => by
    rw [du6, ls5, (sd i h).1.2, (sd i h).2.1]) 120 (by omega) (fun i a b => by
    rw [du6, (nw i (by omega)).1, Bool.false_and])
  have e7 : edn S T 7 40 = rlL (lsd D W E F Z Y o t) 6 (kN K).toNat := edn_rl (k := 7) (kd := 6) (m := (kN K).toNat) (c := lsd D W E F Z Y o t) rfl (fun i h => by
    rw [du7, ls6, (ltS i h).1, (ltS i h).2]) 40 (by omega) (fun i a b => by
    rw [du7, (nn i (by omega) (by omega)).1, Bool.false_and])
  have E : ∀ (k : Nat) (z : Int) (n : Nat) (R : List (Int × Int)), (k : Int) = z → (lim z).toNat = n → edn S T z n = R → edk S T (k + 1) = edk S T k ++ R := fun k z n R h1 h2 h3 => by
    show edk S T k ++ edn S T k (lim k).toNat = _
    rw [h1, h2, h3]
  have s0 := E 0 0 40 _ rfl (lim40 0 (by decide)) e0
  have s1 := E 1 1 40 _ rfl (lim40 1 (by decide)) e1
  have s2 := E 2 2 40 _ rfl (lim40 2 (by decide)) e2
  have s3 := E 3 3 40 _ rfl (lim40 3 (by decide)) e3
  have s4 := E 4 4 40 _ rfl (lim40 4 (by decide)) (ed4 40)
  have s5 := E 5 5 120 _ rfl (lim120 5 (by decide)) e5
  have s6 := E 6 6 120 _ rfl (lim120 6 (by decide)) e6
  have s7 := E 7 7 40 _ rfl (lim40 7 (by decide)) e7
  have s00 : edk S T 0 = [] := rfl
  clear E e0 e1 e2 e3 e5 e6 e7
  generalize lsd D W E F Z Y o t = c at *
  generalize hcn : (fun k : Nat => (if k = 4 ∨ k = 5 then kW K else kN K).toNat) = cn
  have cnN : ∀ k : Nat, ¬ (k = 4 ∨ k = 5) → cn k = (kN K).toNat := fun k h => by rw [← hcn]; show (if k = 4 ∨ k = 5 then kW K else kN K).toNat = _; rw [if_neg h]
  have cnW : ∀ k : Nat, (k = 4 ∨ k = 5) → cn k = (kW K).toNat := fun k h => by rw [← hcn]; show (if k = 4 ∨ k = 5 then kW K else kN K).toNat = _; rw [if_pos h]
  have L : ∀ (k : Nat) (n : Nat), cn k = n → llL c cn (k + 1) = llL c cn k ++ rlL c k n := fun k n h => by
    show llL c cn k ++ rlL c k (cn k) = _
    rw [h]
  have r0 := L 0 _ (cnN 0 (by decide))
  have r1 := L 1 _ (cnN 1 (by decide))
  have r2 := L 2 _ (cnN 2 (by decide))
  have r3 := L 3 _ (cnN 3 (by decide))
  have r4 := L 4 _ (cnW 4 (by decide))
  have r5 := L 5 _ (cnW 5 (by decide))
  have r6 := L 6 _ (cnN 6 (by decide))
  have r00 : llL c cn 0 = [] := rfl
  rw [Nat.zero_add] at s0 r0
  rw [show (8 : Nat) = 7 + 1 from rfl, s7, show (7 : Nat) = 6 + 1 from rfl, s6, r6, show (6 : Nat) = 5 + 1 from rfl, s5, r5, show (5 : Nat) = 4 + 1 from rfl, s4, r4, show (4 : Nat) = 3 + 1 from rfl, s3, r3, show (3 : Nat) = 2 + 1 from rfl, s2, r2, show (2 : Nat) = 1 + 1 from rfl, s1, r1, s0, r0, s00, r00, List.append_nil]
theorem rl_nil {c : Int → Int → Bool} {kd : Nat} : ∀ n : Nat, (∀ i : Nat, i < n → c kd i = false) → rlL c kd n = [] := by
  intro n
  induction n with
  | zero => intro _; rfl
  | succ n ih =>
    intro h
    show rlL c kd n ++ (if c kd n = true then [(ckk kd, (n : Int))] else []) = []
    rw [ih (fun i hi => h i (by omega)), h n (by omega), if_neg (by decide)]
    rfl
theorem ll_nil {c : Int → Int → Bool} {cn : Nat → Nat} : ∀ k : Nat, (∀ kd : Nat, kd < k → ∀ i : Nat, i < cn kd → c kd i = false) → llL c cn k = [] := by
  intro k
  induction k with
  | zero => intro _; rfl
  | succ k ih =>
    intro h
    show llL c cn k ++ rlL c k (cn k) = []
    rw [ih (fun kd hk => h kd (by omega)), rl_nil _ (h k (by omega))]
    rfl
/-- two states are the same where the law says so -/
theorem sm_eq (hK : kI K) (hI : sI K S) (hI' : sI K T) (hR : rD K S D Z o) (hR' : rD K T W Y t) (hE : rE K S E o) (hE' : rE K T F t) : al (smC D E Z W F Y o t (kN K)) 10 = true ↔ edk S T 8 = [] := by
  have hN := hK.2.2.1
  have hW := hK.2.2.2.1
  rw [al_iff, ed_ll hK hI hI' hR hR' hE hE']
  generalize hc : lsd D W E F Z Y o t = c
  generalize hcn : (fun k : Nat => (if k = 4 ∨ k = 5 then kW K else kN K).toNat) = cn
  have cnN : ∀ k : Nat, ¬ (k = 4 ∨ k = 5) → cn k = (kN K).toNat := fun k h => by rw [← hcn]; show (if k = 4 ∨ k = 5 then kW K else kN K).toNat = _; rw [if_neg h]
  have cnW : ∀ k : Nat, (k = 4 ∨ k = 5) → cn k = (kW K).toNat := fun k h => by rw [← hcn]; show (if k = 4 ∨ k = 5 then kW K else kN K).toNat = _; rw [if_pos h]
  have wp : ∀ i : Int, 0 ≤ i → i < 10 → (0 < E (o + i) ↔ S.2.2.2 i = true) ∧ (0 < F (t + i) ↔ T.2.2.2 i = true) := fun i a b => ⟨rE_p hE ⟨a, b⟩, rE_p hE' ⟨a, b⟩⟩
  have e0 : ∀ i : Int, 0 ≤ i → i < 10 → 0 ≤ E (o + i) ∧ 0 ≤ F (t + i) := fun i a b => by
    refine ⟨?_, ?_⟩
    · cases e : S.2.2.2 i with
      | true => have := (rE_t hE ⟨a, b⟩ e).2; omega
      | false => have := hE.1 i a b e; omega
    · cases e : T.2.2.2 i with
      | true => have := (rE_t hE' ⟨a, b⟩ e).2; omega
      | false => have := hE'.1 i a b e; omega
  constructor
  · intro h
    refine ll_nil 7 (fun kd hk i hi => ?_)
    rw [← hc]
    have node : ∀ i : Nat, i < (kN K).toNat → hs S i = hs T i ∧ (hs S i = true → hs T i = true → S.1 i = T.1 i ∧ S.2.1 i = T.2.1 i ∧ S.2.2.1 i = T.2.2.1 i) := fun i hi => by
      have h1 := h i (by omega) (by omega)
      unfold smC at h1
      rw [Bool.and_eq_true, decide_eq_false (p := kN K ≤ (i : Int)) (by omega), Bool.false_or, Bool.and_eq_true, Bool.and_eq_true, decide_eq_true_eq, decide_eq_true_eq, decide_eq_true_eq, rD_lt hK hI.1 hR (by omega), rD_lt hK hI'.1 hR' (by omega)] at h1
      refine ⟨h1.1.1.2, fun a b => ?_⟩
      have ra := (rD_t hK hI.1 hR a).1
      have rb := (rD_t hK hI'.1 hR' b).1
      have ja := hI.1.1 i (by omega) (by omega) a
      have jb := hI'.1.1 i (by omega) (by omega) b
      omega
    have word : ∀ i : Nat, i < (kW K).toNat → S.2.2.2 i = T.2.2.2 i := fun i hi => by
      have h1 := h i (by omega) (by omega)
      unfold smC at h1
      rw [Bool.and_eq_true] at h1
      have h2 := decide_eq_decide.mp (of_decide_eq_true h1.2)
      have h3 := wp i (by omega) (by omega)
      have h4 : (S.2.2.2 i = true ↔ T.2.2.2 i = true) := h3.1.symm.trans (h2.trans h3.2)
      revert h4
      cases S.2.2.2 i <;> cases T.2.2.2 i <;> simp
    rcases (by omega : kd = 0 ∨ kd = 1 ∨ kd = 2 ∨ kd = 3 ∨ kd = 4 ∨ kd = 5 ∨ kd = 6) with rfl | rfl | rfl | rfl | rfl | rfl | rfl
    · rw [cnN 0 (by decide)] at hi
      have h1 := node i hi
      rw [ls0, rD_lt hK hI.1 hR (by omega), rD_lt hK hI'.1 hR' (by omega), h1.1]
      cases hs T i <;> rfl
    · rw [cnN 1 (by decide)] at hi
      have h1 := node i hi
      rw [ls1, rD_lt hK hI.1 hR (by omega), rD_lt hK hI'.1 hR' (by omega)]
      cases a : hs S i with
      | false => rfl
      | true =>
        have b : hs T i = true := by rw [← h1.1]; exact a
        rw [b, decide_eq_false (fun q => q (by rw [(rD_t hK hI.1 hR a).1.2.2.2.2.2.1, (rD_t hK hI'.1 hR' b).1.2.2.2.2.2.1, (h1.2 a b).1]))]
        rfl
    · rw [cnN 2 (by decide)] at hi
      have h1 := node i hi
      rw [ls2, rD_lt hK hI.1 hR (by omega), rD_lt hK hI'.1 hR' (by omega)]
      cases a : hs S i with
      | false => rfl
      | true =>
        have b : hs T i = true := by rw [← h1.1]; exact a
        rw [b, decide_eq_false (fun q => q (by rw [(rD_t hK hI.1 hR a).1.2.2.1, (rD_t hK hI'.1 hR' b).1.2.2.1, (h1.2 a b).2.1]))]
        rfl
    · rw [cnN 3 (by decide)] at hi
      have h1 := node i hi
      rw [ls3, rD_lt hK hI.1 hR (by omega), rD_lt hK hI'.1 hR' (by omega)]
      cases a : hs S i with
      | false => rfl
      | true =>
        have b : hs T i = true := by rw [← h1.1]; exact a
        rw [b, decide_eq_false (fun q => q (by rw [(rD_t hK hI.1 hR a).1.2.2.2.1, (rD_t hK hI'.1 hR' b).1.2.2.2.1, (h1.2 a b).2.2]))]
        rfl
    · rw [cnW 4 (by decide)] at hi
      have h1 := word i hi
      have h3 := wp i (by omega) (by omega)
      have h4 := e0 i (by omega) (by omega)
      rw [ls4]
      cases a : T.2.2.2 i with
      | false =>
        rw [a] at h3
        rw [decide_eq_false (p := F (t + i) > 0) (fun q => by have := h3.2.mp q; cases this), Bool.and_false]
      | true =>
        have b := h3.1.mpr (h1.trans a)
        rw [decide_eq_false (p := E (o + i) = 0) (by omega), Bool.false_and]
    · rw [cnW 5 (by decide)] at hi
      have h1 := word i hi
      have h3 := wp i (by omega) (by omega)
      have h4 := e0 i (by omega) (by omega)
      rw [ls5]
      cases a : T.2.2.2 i with
      | false =>
        rw [h1, a] at h3
        rw [decide_eq_false (p := E (o + i) > 0) (fun q => by have := h3.1.mp q; cases this), Bool.false_and]
      | true =>
        have b := h3.2.mpr a
        rw [decide_eq_false (p := F (t + i) = 0) (by omega), Bool.and_false]
    · rw [cnN 6 (by decide)] at hi
      have h1 := node i hi
      rw [ls6, rD_lt hK hI.1 hR (by omega), rD_lt hK hI'.1 hR' (by omega), h1.1]
      cases hs T i <;> rfl
  · intro h i a b
    have no : ∀ kd : Nat, kd < 7 → ∀ i : Nat, i < cn kd → lsd D W E F Z Y o t kd i = false := fun kd hk i hi => by
      cases e : lsd D W E F Z Y o t kd i with
      | false => rfl
      | true =>
        have := ll_at c cn kd i hk hi (by rw [← hc]; exact e)
        rw [h] at this
        cases this
    unfold smC
    have ei : ((i.toNat : Nat) : Int) = i := by omega
    have h3 := wp i a b
    have h4 := e0 i a b
    rw [Bool.and_eq_true]
    refine ⟨?_, ?_⟩
    · by_cases hm : kN K ≤ i
      · rw [decide_eq_true hm]
        rfl
      · rw [decide_eq_false hm, Bool.false_or]
        have n0 : (!(lt D o i) && lt W t i) = false := by have := no 0 (by decide) i.toNat (by rw [cnN 0 (by decide)]; omega); rw [ls0, ei] at this; exact this
        have n1 : ((lt D o i && lt W t i) && decide (¬ Z (o + i) = Y (t + i))) = false := by have := no 1 (by decide) i.toNat (by rw [cnN 1 (by decide)]; omega); rw [ls1, ei] at this; exact this
        have n2 : ((lt D o i && lt W t i) && decide (¬ D (o + i) / 256 % 16 = W (t + i) / 256 % 16)) = false := by have := no 2 (by decide) i.toNat (by rw [cnN 2 (by decide)]; omega); rw [ls2, ei] at this; exact this
        have n3 : ((lt D o i && lt W t i) && decide (¬ D (o + i) / 4096 = W (t + i) / 4096)) = false := by have := no 3 (by decide) i.toNat (by rw [cnN 3 (by decide)]; omega); rw [ls3, ei] at this; exact this
        have n6 : (lt D o i && !(lt W t i)) = false := by have := no 6 (by decide) i.toNat (by rw [cnN 6 (by decide)]; omega); rw [ls6, ei] at this; exact this
        rw [rD_lt hK hI.1 hR (by omega), rD_lt hK hI'.1 hR' (by omega)] at n0 n1 n2 n3 n6 ⊢
        cases p1 : hs S i with
        | true =>
          cases p2 : hs T i with
          | true =>
            rw [p1, p2] at n1 n2 n3
            have n1 := of_decide_eq_false (n1 : decide (¬ Z (o + i) = Y (t + i)) = false)
            have n2 := of_decide_eq_false (n2 : decide (¬ D (o + i) / 256 % 16 = W (t + i) / 256 % 16) = false)
            have n3 := of_decide_eq_false (n3 : decide (¬ D (o + i) / 4096 = W (t + i) / 4096) = false)
            have ra := (rD_t hK hI.1 hR p1).1
            have rb := (rD_t hK hI'.1 hR' p2).1
            rw [decide_eq_true (p := D (o + i) / 256 = W (t + i) / 256) (by omega), decide_eq_true (p := Z (o + i) = Y (t + i)) (by omega)]
            rfl
          | false => rw [p1, p2] at n6; cases n6
        | false =>
          cases p2 : hs T i with
          | true => rw [p1, p2] at n0; cases n0
          | false =>
            have ra := hR.1 i a b p1
            have rb := hR'.1 i a b p2
            rw [decide_eq_true (p := D (o + i) / 256 = W (t + i) / 256) (by omega), decide_eq_true (p := Z (o + i) = Y (t + i)) (by omega)]
            rfl
    · refine decide_eq_true (decide_eq_decide.mpr ?_)
      by_cases hm : kW K ≤ i
      · have := sd_no hK hI hm
        have := sd_no hK hI' hm
        have u1 := hE.1 i a b (sd_no hK hI hm)
        have u2 := hE'.1 i a b (sd_no hK hI' hm)
        omega
      · have n4 : (decide (E (o + i) = 0) && decide (F (t + i) > 0)) = false := by have := no 4 (by decide) i.toNat (by rw [cnW 4 (by decide)]; omega); rw [ls4, ei] at this; exact this
        have n5 : (decide (E (o + i) > 0) && decide (F (t + i) = 0)) = false := by have := no 5 (by decide) i.toNat (by rw [cnW 5 (by decide)]; omega); rw [ls5, ei] at this; exact this
        rw [Bool.and_eq_false_iff, decide_eq_false_iff_not, decide_eq_false_iff_not] at n4 n5
        omega
end RS
