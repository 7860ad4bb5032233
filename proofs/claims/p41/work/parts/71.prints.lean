/-! The law's prints are the class's. -/
section RP
variable {K : dK} {S T : dS} {D D' Z Z' E W F X Y : Int → Int} {o i p x r c j q lo s pl ah n r0 t : Int} {dp : Int → Nat} {f f' g : Int → Int64} {P0 : Int64}
theorem met_h (hK : kI K) (hJ : sJ K S) (hn : 0 ≤ n) (hj : 0 ≤ j ∧ j < swL K n) (h : 0 ≤ met K S n j) : hold K S (met K S n j) = n := by
  by_cases k1 : kK K n = 1
  · rw [met_1 k1] at h ⊢
    by_cases e : hold K S j = n
    · rw [if_pos e]; exact e
    · rw [if_neg e] at h; omega
  · have k0 : kK K n = 0 := by
      have h3 := hj.2
      unfold swL at h3
      by_cases e : kK K n = 0
      · exact e
      · rw [if_neg e, if_neg k1] at h3; omega
    rw [sw_0 k0] at hj
    rw [met_0 k1] at h ⊢
    by_cases e : sOk K S n (kQ K j) = true
    · rw [if_pos e]; exact (sO_c hK hJ (hK.1.1 j hj.1 hj.2) hn e).1
    · rw [if_neg e] at h; omega
theorem wpr_l (hK : kI K) (hr : rK K) (hW : rW K W) (hE : rE K S E o) : ∀ n : Nat, n ≤ (kW K).toNat → wpr K S p P0 n = lwp W E o (kW K) p P0 (cnI n (uOk K S p)).toNat := by
  have hN := hK.2.2.2.1
  intro n
  induction n with
  | zero => intro _; rfl
  | succ n ih =>
    intro hn
    have ih := ih (by omega)
    show (if uOk K S p n = true then 31 * wpr K S p P0 n + (iI (kE K (kU K n))).toInt64 + 1 else wpr K S p P0 n) = _
    have e1 : ((n + 1 : Nat) : Int) = (n : Int) + 1 := by omega
    cases e : uOk K S p n with
    | true =>
      have hc := cnI_r (i := (n : Int)) (p := uOk K S p) (by omega)
      rw [if_pos rfl, e1, cnI_t (by omega) e, ih, show (cnI n (uOk K S p) + 1).toNat = (cnI n (uOk K S p)).toNat + 1 by omega]
      show _ = lwp W E o (kW K) p P0 (cnI n (uOk K S p)).toNat * 31 + (iI (W (wdF W E o p (((cnI n (uOk K S p)).toNat : Nat) : Int) (kW K).toNat) / 16 % 128)).toInt64 + 1
      have e2 : (((cnI n (uOk K S p)).toNat : Nat) : Int) = cnI n (uOk K S p) := by omega
      rw [e2, wd_w hK hW hE hc.1 ⟨by omega, by omega⟩ e rfl]
      have ru := hK.2.1.1 n (by omega) (by omega)
      have w1 := hW _ ru.1 ru.2
      have w2 := hr.2.2.2.2.2.2.2.2.1 (kU K n)
      rw [show W (kU K n) / 16 % 128 = kE K (kU K n) by omega, Int64.mul_comm]
    | false =>
      rw [if_neg (by decide), e1, cnI_f (by omega) e, ih]
theorem kpr_l (hK : kI K) (hr : rK K) (hJ : sJ K S) (hR : rD K S D Z o) (hp : 0 ≤ p) (hF : F p = kK K p) (hk : kK K p = 0 ∨ kK K p = 1) : ∀ n : Nat, n ≤ (swL K p).toNat → kpr K S p g P0 n = lkp D F o (kN K) p g P0 (cnI n (mOk K S p (-1))).toNat := by
  have hN := hK.2.2.1
  have hw := swL_r hr p
  intro n
  induction n with
  | zero => intro _; rfl
  | succ n ih =>
    intro hn
    have ih := ih (by omega)
    show (if 0 ≤ met K S p n then 31 * kpr K S p g P0 n + g (met K S p n) else kpr K S p g P0 n) = _
    have e1 : ((n + 1 : Nat) : Int) = (n : Int) + 1 := by omega
    have hm := met_r hr S p n (by omega) (fun e => by have := hw.2.2 e; omega)
    cases e : mOk K S p (-1) n with
    | true =>
      have e3 : ¬ met K S p n = -1 ∧ ¬ met K S p n = -1 := of_decide_eq_true e
      have hc := cnI_r (i := (n : Int)) (p := mOk K S p (-1)) (by omega)
      rw [if_pos (by omega), e1, cnI_t (by omega) e, ih, show (cnI n (mOk K S p (-1)) + 1).toNat = (cnI n (mOk K S p (-1))).toNat + 1 by omega]
      show _ = lkp D F o (kN K) p g P0 (cnI n (mOk K S p (-1))).toNat * 31 + g (kdF D o p (decide (F p = 1)) (((cnI n (mOk K S p (-1))).toNat : Nat) : Int) (kN K).toNat)
      have e2 : (((cnI n (mOk K S p (-1))).toNat : Nat) : Int) = cnI n (mOk K S p (-1)) := by omega
      rw [e2, hF, (ch_kid hK hJ hR hp hk ⟨by omega, by omega⟩ e rfl).1, Int64.mul_comm]
    | false =>
      have e3 : ¬ (¬ met K S p n = -1 ∧ ¬ met K S p n = -1) := of_decide_eq_false e
      rw [if_neg (by omega), e1, cnI_f (by omega) e, ih]
theorem zpr_5 (p : Int64) : zpr p 5 = p * 28629151 := by
  show 31 * (31 * (31 * (31 * (31 * p + (iI 0).toInt64) + (iI 0).toInt64) + (iI 0).toInt64) + (iI 0).toInt64) + (iI 0).toInt64 = _
  rw [show (iI 0).toInt64 = 0 from by decide, Int64.add_zero, Int64.add_zero, Int64.add_zero, Int64.add_zero, Int64.add_zero, ← Int64.mul_assoc, ← Int64.mul_assoc, ← Int64.mul_assoc, ← Int64.mul_assoc, Int64.mul_comm]
  rfl
/-- a node's print by those of its children -/
theorem pr_n (hK : kI K) (hr : rK K) (hI : sI K S) (hR : rD K S D Z o) (hE : rE K S E o) (hW : rW K W) (hF : rF K F) (hi : hs S i = true) : npr K S g i = lnp D E F W o (kN K) (kW K) g i := by
  have hN := hK.2.2.1
  have hNw := hK.2.2.2.1
  have hri := hs_r hi
  have ji := hI.1.1 i hri.1 hri.2.1 hi
  have ri := (rD_t hK hI.1 hR hi).1
  have hf := hF i hri.1 ji.1
  have rk4 := hr.2.2.2.1 i
  unfold npr lnp
  dsimp only
  rw [zpr_5, hf, ri.2.2.1, ri.2.2.2.1]
  congr 1
  have e0 : 31 * (31 * (31 * (17 : Int64) + (iI (kK K i)).toInt64) + (iI (S.2.1 i)).toInt64) + (iI (S.2.2.1 i + 1)).toInt64 = ((((527 : Int64) + (iI (kK K i)).toInt64) * 31 + (iI (S.2.1 i)).toInt64) * 31 + (iI (S.2.2.1 i + 1)).toInt64) := by
    rw [show 31 * (17 : Int64) = 527 from by decide, Int64.mul_comm 31 (527 + _), Int64.mul_comm 31 (_ * 31 + _)]
  rw [← e0]
  generalize 31 * (31 * (31 * (17 : Int64) + (iI (kK K i)).toInt64) + (iI (S.2.1 i)).toInt64) + (iI (S.2.2.1 i + 1)).toInt64 = P1
  have ew : (if kK K i = 2 then wpr K S i P1 (kW K).toNat else P1) = lwp W E o (kW K) i P1 (cnI (kW K) (lu W E o i)).toNat := by
    rw [lu_cn hK hW hE]
    by_cases e : kK K i = 2
    · rw [if_pos e, wpr_l hK hr hW hE (kW K).toNat (Nat.le_refl _), show (((kW K).toNat : Nat) : Int) = kW K by omega, uw_cn hK]
    · rw [if_neg e, cnI_cut (M := 0) (by decide) hNw.1 (fun x a b => ?_)]
      · rfl
      · cases e2 : wOk K S i x with
        | false => rfl
        | true =>
          have h1 := wo_t e2
          have h2 := (hI.2.2.2 x h1.2).2.2
          rw [h1.1] at h2
          exact absurd h2 e
  rw [ew]
  generalize lwp W E o (kW K) i P1 (cnI (kW K) (lu W E o i)).toNat = P2
  rw [rD_kids hK hI.1 hR hri.1]
  by_cases hk : kK K i = 0 ∨ kK K i = 1
  · have hw := swL_r hr i
    rw [kpr_l hK hr hI.1 hR hri.1 hf hk (swL K i).toNat (Nat.le_refl _), show (((swL K i).toNat : Nat) : Int) = swL K i by omega]
    have hfu : cnI 40 (fun j => decide (¬ j = -1 ∧ hold K S j = i)) = cnI (swL K i) (mOk K S i (-1)) := full_t hK hI.1 hri.1 hk
    rw [← hfu, cnI_congr (q' := fun j => decide (hold K S j = i)) (by decide) (fun j a b => decide_eq_decide.mpr ⟨fun q => q.2, fun q => ⟨by omega, q⟩⟩)]
  · have hw0 : swL K i = 0 := by
      unfold swL
      rw [if_neg (fun e => hk (Or.inl e)), if_neg (fun e => hk (Or.inr e))]
    rw [hw0, cnI_cut (M := 0) (by decide) (by decide) (fun j a b => decide_eq_false (fun q => ?_))]
    · rfl
    · have h1 := hd_c hK hI.1 hri.1 q
      have h2 := (hI.2.2.1 j h1.2.1.1 b h1.1).2
      rw [q] at h2
      omega
theorem pr_eq (hK : kI K) (hr : rK K) (hI : sI K S) (hT : tI K S dp) (hR : rD K S D Z o) (hE : rE K S E o) (hW : rW K W) (hF : rF K F) (h1 : ∀ n, 0 ≤ n → n < 40 → 0 ≤ dep K S n → f n = npr K S f n) (h2 : ∀ i, 0 ≤ i → i < kN K → lt D o i = true → f' i = lnp D E F W o (kN K) (kW K) f' i) : f 0 = f' 0 := by
  have hN := hK.2.2.1
  have key : ∀ (k : Nat) (i : Int), hs S i = true → 30 ≤ dp i + k → f i = f' i := by
    intro k
    induction k with
    | zero =>
      intro i hi h
      have := tI_l hT hi
      omega
    | succ k ih =>
      intro i hi h
      have hri := hs_r hi
      have ji := hI.1.1 i hri.1 hri.2.1 hi
      rw [h1 i hri.1 hri.2.1 (by rw [dp_t hI hT hi]; omega), h2 i hri.1 ji.1 (rD_t hK hI.1 hR hi).1.1, npr_c (g := f') (fun j a b c => ?_)]
      · exact pr_n hK hr hI hR hE hW hF hi
      · have h3 := met_h hK hI.1 hri.1 ⟨a, b⟩ c
        have h4 := hd_c hK hI.1 hri.1 h3
        have h5 := tI_c hI hT h4.2.1.1 h4.1
        rw [h3] at h5
        exact ih _ h4.1 (by omega)
  exact key 30 0 hI.2.1 (by omega)
end RP
