/-! The law's store after a step. -/
theorem rD_cp {K : dK} {S : dS} {D Z D' Z' : Int → Int} {o t : Int} (h : rD K S D Z o) (e : ∀ i, 0 ≤ i → i < 10 → D' (t + i) = D (o + i) ∧ Z' (t + i) = Z (o + i)) : rD K S D' Z' t := by
  refine ⟨fun i a b c => ?_, fun i a b c => ?_⟩
  · rw [(e i a b).1, (e i a b).2]
    exact h.1 i a b c
  · rw [(e i a b).1, (e i a b).2]
    exact h.2 i a b c
theorem rE_cp {K : dK} {S : dS} {E E' : Int → Int} {o t : Int} (h : rE K S E o) (e : ∀ i, 0 ≤ i → i < 10 → E' (t + i) = E (o + i)) : rE K S E' t := by
  refine ⟨fun i a b c => ?_, fun i a b c => ?_⟩
  · rw [e i a b]
    exact h.1 i a b c
  · rw [e i a b]
    exact h.2 i a b c
theorem gO_cp {K : dK} {S : dS} {D Z E D' Z' E' : Int → Int} {o t : Int} (h : gO K S D Z E o) (e : ∀ i, 0 ≤ i → i < 10 → D' (t + i) = D (o + i) ∧ Z' (t + i) = Z (o + i) ∧ E' (t + i) = E (o + i)) : gO K S D' Z' E' t :=
  ⟨h.1, rD_cp h.2.1 (fun i a b => ⟨(e i a b).1, (e i a b).2.1⟩), rE_cp h.2.2 (fun i a b => (e i a b).2.2)⟩
theorem kx_O {K K' : dK} {S : dS} {D Z E : Int → Int} {o : Int} (hx : kx K K') (hK : kI K) (h : gO K S D Z E o) : gO K' S D Z E o := ⟨kx_g hx hK h.1, kx_D hx hK h.1.1.1 h.2.1, kx_E hx hK h.1.1 h.2.2⟩
section LST
variable {h h' : ev_H} {w : dW} {K' : dK} {T : dS} {b u t : Int} {n dd e z v f y k q p n' d' e' z' v' f' y' k' q' p' : Int → Int}
/-- a desk that has changed, and the stock -/
theorem Lst_ds (hL : Lst h w n dd e z v f y k q p) (hW' : Wd h' (sD (K', w.2) b T)) (hx : kx (wK w) K') (hT : gO K' T d' z' e' (10 * b)) (hout : ∀ i, ¬ (10 * b ≤ i ∧ i < 10 * b + 10) → d' i = dd i ∧ e' i = e i ∧ z' i = z i) (hn : rN (sD (K', w.2) b T) n') (hq : rW K' q') (hk : rF K' k') (hH : Hp h' n' d' e' z' v f y k' q' p) : Lst h' (sD (K', w.2) b T) n' d' e' z' v f y k' q' p := by
  obtain ⟨hW, hK, hN, hP, hOO, rw', rf', hH0, hE, hpp, hbd, hbv⟩ := hL
  refine ⟨hW', hx.1, hn, hP, ⟨fun c c1 c2 => ?_, fun u u1 u2 => kx_O hx hK (hOO.2 u u1 u2)⟩, hq, hk, hH, hE, hpp, fun i => ?_, hbv⟩
  · show gO K' (if c = b then T else wD w c) d' z' e' (10 * c)
    by_cases c3 : c = b
    · rw [if_pos c3, c3]
      exact hT
    · rw [if_neg c3]
      exact gO_cp (kx_O hx hK (hOO.1 c c1 c2)) (fun i a b => by
        have := hout (10 * c + i) (by omega)
        exact ⟨this.1, this.2.2, this.2.1⟩)
  · exact (bd_D hx.1 hT.1.1.1 hT.2.1 (fun i => ⟨(hH0.2.1.2.2.2.2 i).1, hbd i⟩) (fun i c => (hout i c).1) i).2
/-- the stock alone has changed -/
theorem Lst_kk (hL : Lst h w n dd e z v f y k q p) (hW' : Wd h' (K', w.2)) (hx : kx (wK w) K') (hn : rN (K', w.2) n) (hq : rW K' q) (hk : rF K' k') (hH : Hp h' n dd e z v f y k' q p) : Lst h' (K', w.2) n dd e z v f y k' q p := by
  obtain ⟨hW, hK, hN, hP, hOO, rw', rf', hH0, hE, hpp, hbd, hbv⟩ := hL
  exact ⟨hW', hx.1, hn, hP, ⟨fun c c1 c2 => kx_O hx hK (hOO.1 c c1 c2), fun u u1 u2 => kx_O hx hK (hOO.2 u u1 u2)⟩, hq, hk, hH, hE, hpp, hbd, hbv⟩
/-- what is planned alone -/
theorem pl_kx {K : dK} {sm p : Int} (hK : kI K) : kx K (plS (plN K sm) (kN K) p) := by
  refine ⟨hK, ⟨Int.le_refl _, Int.le_refl _, Int.le_refl _⟩, fun i a b => ?_, fun s a b => ⟨?_, ?_⟩, fun x a b => ⟨rfl, rfl, rfl⟩, fun g x r _ h => h, fun g x r _ h => h⟩
  · exact uz_ne _ _ (show ¬ i = kN K by omega)
  · exact uz_ne _ _ (show ¬ s = kS K by omega)
  · exact uz_ne _ _ (show ¬ s = kS K by omega)
theorem ps_kx {K : dK} {n p : Int} (hK : kI K) : kx K (plS K n p) := by
  refine ⟨hK, ⟨Int.le_refl _, Int.le_refl _, Int.le_refl _⟩, fun i a b => rfl, fun s a b => ⟨?_, ?_⟩, fun x a b => ⟨rfl, rfl, rfl⟩, fun g x r _ h => h, fun g x r _ h => h⟩
  · exact uz_ne _ _ (show ¬ s = kS K by omega)
  · exact uz_ne _ _ (show ¬ s = kS K by omega)
theorem kx_rf {K : dK} (hK : kI K) : kx K K := ⟨hK, ⟨Int.le_refl _, Int.le_refl _, Int.le_refl _⟩, fun _ _ _ => rfl, fun _ _ _ => ⟨rfl, rfl⟩, fun _ _ _ => ⟨rfl, rfl, rfl⟩, fun _ _ _ _ h => h, fun _ _ _ _ h => h⟩
/-- a desk taken from a version; a head set -/
theorem Lst_hd (hL : Lst h w n dd e z v f y k q p) (hb : 0 ≤ b ∧ b < 3) (hu : 0 ≤ u ∧ u < hN (wH w)) {nb : Int} (hnb : nb = wB w ∨ (nb = wB w + 1 ∧ b = wB w)) (hbw : b < nb) (hW' : Wd h' (wK w, wH w, nb, uz (wE w) b u, (sD w b (hV (wH w) u)).2.2.2.2)) (hd : ∀ i, 0 ≤ i → i < 10 → d' (10 * b + i) = v (10 * u + i) ∧ e' (10 * b + i) = f (10 * u + i) ∧ z' (10 * b + i) = y (10 * u + i)) (hout : ∀ i, ¬ (10 * b ≤ i ∧ i < 10 * b + 10) → d' i = dd i ∧ e' i = e i ∧ z' i = z i) (hn : n' 2 = nb ∧ n' (4 + b) = u ∧ ∀ i, ¬ i = 2 → ¬ i = 4 + b → n' i = n i) (hH : Hp h' n' d' e' z' v f y k q p) : Lst h' (wK w, wH w, nb, uz (wE w) b u, (sD w b (hV (wH w) u)).2.2.2.2) n' d' e' z' v f y k q p := by
  obtain ⟨hW, hK, ⟨n0, n1, n2, n3, n7, n4⟩, hP, hOO, rw', rf', hH0, hE, hpp, hbd, hbv⟩ := hL
  refine ⟨hW', hK, ⟨?_, ?_, hn.1, ?_, ?_, fun c c1 c2 => ?_⟩, hP, ⟨fun c c1 c2 => ?_, hOO.2⟩, rw', rf', hH, fun c => ?_, hpp, fun i => ?_, hbv⟩
  · rw [hn.2.2 0 (by decide) (by omega)]; exact n0
  · rw [hn.2.2 1 (by decide) (by omega)]; exact n1
  · rw [hn.2.2 3 (by decide) (by omega)]; exact n3
  · rw [hn.2.2 7 (by decide) (by omega)]; exact n7
  · show n' (4 + c) = uz (wE w) b u c
    have c2 : c < nb := c2
    by_cases c3 : c = b
    · rw [c3, uz_same]; exact hn.2.1
    · rw [uz_ne _ _ c3, hn.2.2 (4 + c) (by omega) (by omega)]
      exact n4 c c1 (by omega)
  · show gO (wK w) (if c = b then hV (wH w) u else wD w c) d' z' e' (10 * c)
    have c2 : c < nb := c2
    by_cases c3 : c = b
    · rw [if_pos c3, c3]
      exact gO_cp (hOO.2 u hu.1 hu.2) (fun i a b => ⟨(hd i a b).1, (hd i a b).2.2, (hd i a b).2.1⟩)
    · rw [if_neg c3]
      exact gO_cp (hOO.1 c c1 (by omega)) (fun i a b => by
        have := hout (10 * c + i) (by omega)
        exact ⟨this.1, this.2.2, this.2.1⟩)
  · show 0 ≤ uz (wE w) b u c ∧ uz (wE w) b u c < hN (wH w)
    by_cases c3 : c = b
    · rw [c3, uz_same]; exact hu
    · rw [uz_ne _ _ c3]; exact hE c
  · by_cases c : 10 * b ≤ i ∧ i < 10 * b + 10
    · have := (hd (i - 10 * b) (by omega) (by omega)).1
      rw [show 10 * b + (i - 10 * b) = i by omega] at this
      rw [this]
      exact hbv _
    · rw [(hout i c).1]
      exact hbd i
/-- a desk reset -/
theorem Lst_rs (hL : Lst h w n dd e z v f y k q p) (hb : 0 ≤ b ∧ b < wB w) (hu : 0 ≤ u ∧ u < hN (wH w)) (hW' : Wd h' (sD w b (hV (wH w) u))) (hd : ∀ i, 0 ≤ i → i < 10 → d' (10 * b + i) = v (10 * u + i) ∧ e' (10 * b + i) = f (10 * u + i) ∧ z' (10 * b + i) = y (10 * u + i)) (hout : ∀ i, ¬ (10 * b ≤ i ∧ i < 10 * b + 10) → d' i = dd i ∧ e' i = e i ∧ z' i = z i) (hH : Hp h' n d' e' z' v f y k q p) : Lst h' (sD w b (hV (wH w) u)) n d' e' z' v f y k q p := by
  have hOO := hL.2.2.2.2.1
  have hK := hL.2.1
  exact Lst_ds (K' := wK w) hL hW' (kx_rf hK) (gO_cp (hOO.2 u hu.1 hu.2) (fun i a b => ⟨(hd i a b).1, (hd i a b).2.2, (hd i a b).2.1⟩)) hout hL.2.2.1 hL.2.2.2.2.2.1 hL.2.2.2.2.2.2.1 hH
/-- a version made of a desk -/
theorem Lst_cm (hL : Lst h w n dd e z v f y k q p) (hb : 0 ≤ b ∧ b < wB w) {a : Nat} (h6 : hN (wH w) < 6) (hW' : Wd h' (wK w, addH (wH w) a (wD w b) (wE w b), wB w, uz (wE w) b (hN (wH w)), wD w)) (hd : ∀ i, 0 ≤ i → i < 10 → v' (10 * hN (wH w) + i) = dd (10 * b + i) ∧ f' (10 * hN (wH w) + i) = e (10 * b + i) ∧ y' (10 * hN (wH w) + i) = z (10 * b + i)) (hout : ∀ i, ¬ (10 * hN (wH w) ≤ i ∧ i < 10 * hN (wH w) + 10) → v' i = v i ∧ f' i = f i ∧ y' i = y i) (hn : n' 3 = hN (wH w) + 1 ∧ n' (4 + b) = hN (wH w) ∧ ∀ i, ¬ i = 3 → ¬ i = 4 + b → n' i = n i) (hp' : p' (hN (wH w)) = wE w b ∧ ∀ i, ¬ i = hN (wH w) → p' i = p i) (hH : Hp h' n' dd e z v' f' y' k q p') : Lst h' (wK w, addH (wH w) a (wD w b) (wE w b), wB w, uz (wE w) b (hN (wH w)), wD w) n' dd e z v' f' y' k q p' := by
  obtain ⟨hW, hK, ⟨n0, n1, n2, n3, n7, n4⟩, hP, hOO, rw', rf', hH0, hE, hpp, hbd, hbv⟩ := hL
  have h1 := hW.2.1.2.2.2.2.2.2.2.1
  have tb := hW.2.2.1.2.2.2.1
  have heb := hE b
  have e1 : hN (addH (wH w) a (wD w b) (wE w b)) = hN (wH w) + 1 := rfl
  refine ⟨hW', hK, ⟨?_, ?_, ?_, hn.1, ?_, fun c c1 c2 => ?_⟩, ⟨⟨?_, ?_⟩, fun u u1 u2 => ?_, fun u u1 u2 => ?_⟩, ⟨hOO.1, fun u u1 u2 => ?_⟩, rw', rf', hH, fun c => ?_, fun i => ?_, hbd, fun i => ?_⟩
  · rw [hn.2.2 0 (by decide) (by omega)]; exact n0
  · rw [hn.2.2 1 (by decide) (by omega)]; exact n1
  · rw [hn.2.2 2 (by decide) (by omega)]; exact n2
  · rw [hn.2.2 7 (by decide) (by omega)]; exact n7
  · show n' (4 + c) = uz (wE w) b (hN (wH w)) c
    have c2 : c < wB w := c2
    by_cases c3 : c = b
    · rw [c3, uz_same]; exact hn.2.1
    · rw [uz_ne _ _ c3, hn.2.2 (4 + c) (by omega) (by omega)]
      exact n4 c c1 c2
  · exact (uz_ne _ _ (show ¬ (0 : Int) = hN (wH w) by omega)).trans hP.1.1
  · exact (uz_ne _ _ (show ¬ (0 : Int) = hN (wH w) by omega)).trans hP.1.2
  · rw [e1] at u2
    by_cases c : u = hN (wH w)
    · rw [c]
      exact uz_same _ _ _
    · exact (uz_ne _ _ c).trans (hP.2.1 u u1 (by omega))
  · rw [e1] at u2
    by_cases c : u = hN (wH w)
    · rw [c, hp'.1]
      refine ⟨uz_same _ _ _, ⟨heb.1, heb.2⟩, ?_⟩
      show uz (hO (wH w)) (hN (wH w)) (lin (wH w) (wE w b)) (hN (wH w)) = uz (hO (wH w)) (hN (wH w)) (lin (wH w) (wE w b)) (wE w b) ||| 2 ^ (wE w b).toNat
      rw [uz_same, uz_ne _ _ (by omega), ln_e heb]
    · have h2 := hP.2.2 u u1 (by omega)
      rw [hp'.2 u c]
      refine ⟨(uz_ne _ _ c).trans h2.1, h2.2.1, ?_⟩
      show uz (hO (wH w)) (hN (wH w)) (lin (wH w) (wE w b)) u = uz (hO (wH w)) (hN (wH w)) (lin (wH w) (wE w b)) (p u) ||| 2 ^ (p u).toNat
      rw [uz_ne _ _ c, uz_ne _ _ (by omega)]
      exact h2.2.2
  · have u2 : u < hN (wH w) + 1 := u2
    show gO (wK w) (uz (hV (wH w)) (hN (wH w)) (wD w b) u) v' y' f' (10 * u)
    by_cases c : u = hN (wH w)
    · rw [c, uz_same]
      exact gO_cp (hOO.1 b hb.1 hb.2) (fun i a b => ⟨(hd i a b).1, (hd i a b).2.2, (hd i a b).2.1⟩)
    · rw [uz_ne _ _ c]
      exact gO_cp (hOO.2 u u1 (by omega)) (fun i a b => by
        have := hout (10 * u + i) (by omega)
        exact ⟨this.1, this.2.2, this.2.1⟩)
  · show 0 ≤ uz (wE w) b (hN (wH w)) c ∧ uz (wE w) b (hN (wH w)) c < hN (wH w) + 1
    by_cases c3 : c = b
    · rw [c3, uz_same]; omega
    · rw [uz_ne _ _ c3]; have := hE c; omega
  · by_cases c : i = hN (wH w)
    · rw [c, hp'.1]; omega
    · rw [hp'.2 i c]; exact hpp i
  · by_cases c : 10 * hN (wH w) ≤ i ∧ i < 10 * hN (wH w) + 10
    · have := (hd (i - 10 * hN (wH w)) (by omega) (by omega)).1
      rw [show 10 * hN (wH w) + (i - 10 * hN (wH w)) = i by omega] at this
      rw [this]
      exact hbd _
    · rw [(hout i c).1]
      exact hbv i
end LST
