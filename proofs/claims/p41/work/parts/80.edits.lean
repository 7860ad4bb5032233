/-! The law's edits: a node moved. -/
section RM2
variable {K : dK} {S : dS} {D D0 Z : Int → Int} {o i p n : Int} {dp : Int → Nat}
theorem sh_lo (hK : kI K) (hJ : sJ K S) (hR : rD K S D Z o) (hn : hs S n = true) (hn1 : 1 ≤ n) (X : Int → Bool) (hX : X n = true) (d0 : ∀ i, 0 ≤ i → i < 10 → D0 (o + i) = if X i = true then 0 else D (o + i)) (hi : 0 ≤ i ∧ i < 10) (h1 : lk D0 o (hold K S n) i = true) (h2 : lrow D o n ≤ lrow D0 o i) : 1 ≤ lrow D0 o i := by
  have hr := hs_r hn
  have hp : 0 ≤ hold K S n := by
    rw [hd_t hK hJ hn1 hn]
    exact (hJ.2.2.1 n hn1 hr.2.1 hn).2.2.1
  have e0 := d0 i hi.1 hi.2
  have rn := (rD_t hK hJ hR hn).1.2.2.2.2.2.2.2
  cases hx : X i with
  | true =>
    rw [if_pos hx] at e0
    unfold lk lt at h1
    rw [e0, decide_eq_false (p := (0 : Int) % 16 > 0) (by decide), Bool.and_false, Bool.false_and] at h1
    cases h1
  | false =>
    rw [if_neg (by rw [hx]; decide)] at e0
    have el : lk D0 o (hold K S n) i = lk D o (hold K S n) i := by
      unfold lk lt lh
      rw [e0]
    have er : lrow D0 o i = lrow D o i := by
      unfold lrow
      rw [e0]
    rw [el, rD_lk hK hJ hR hi hp, decide_eq_true_eq] at h1
    have : ¬ lrow D o n = lrow D o i := fun y => by
      have := lr_ne hK hJ hR hp rfl h1 y
      rw [← this, hX] at hx
      cases hx
    omega
/-- the law's way up from a node -/
theorem bl_K (hK : kI K) (hI : sI K S) (hT : tI K S dp) (hR : rD K S D Z o) (hn : 0 ≤ n) : ∀ (m : Nat) (i : Int), dp i < m → hs S i = true → ∃ k : Nat, (∀ j : Nat, j < k → 0 ≤ lh D o (upF D o j i) ∧ lh D o (upF D o j i) < 10 ∧ ¬ lh D o (upF D o j i) = n) ∧ (lh D o (upF D o k i) < 0 ∨ lh D o (upF D o k i) = n) ∧ decide (lh D o (upF D o k i) = n) = wth (hold K S) 40 (hold K S i) n := by
  have hN := hK.2.2.1
  intro m
  induction m with
  | zero => intro i h; omega
  | succ m ih =>
    intro i hm h
    have hl := (rD_t hK hI.1 hR h).1.2.1
    have hr := hs_r h
    by_cases z : i = 0
    · have e : lh D o i = -1 := by rw [hl, z, hd_0 hI.1]
      refine ⟨0, fun j hj => absurd hj (by omega), Or.inl ?_, ?_⟩
      · show lh D o i < 0
        omega
      · show decide (lh D o i = n) = _
        rw [e, z, hd_0 hI.1, wt_neg]
        exact decide_eq_false (by omega)
    · have h3 := tI_c hI hT (by omega) h
      have h4 := hs_r h3.1
      have h5 := (hI.1.1 _ h4.1 h4.2.1 h3.1).1
      by_cases y : hold K S i = n
      · refine ⟨0, fun j hj => absurd hj (by omega), Or.inr ?_, ?_⟩
        · show lh D o i = n
          omega
        · show decide (lh D o i = n) = _
          rw [hl, decide_eq_true y, y, wt_n hn]
      · obtain ⟨k, k1, k2, k3⟩ := ih (hold K S i) (by omega) h3.1
        have eu : ∀ j : Nat, upF D o (j + 1) i = upF D o j (hold K S i) := fun j => by
          show upF D o j (lh D o i) = _
          rw [hl]
        refine ⟨k + 1, fun j hj => ?_, by rw [eu]; exact k2, ?_⟩
        · cases j with
          | zero =>
            show 0 ≤ lh D o i ∧ lh D o i < 10 ∧ ¬ lh D o i = n
            omega
          | succ j =>
            rw [eu]
            exact k1 j (by omega)
        · rw [eu, k3]
          by_cases x : hold K S i = 0
          · rw [x, hd_0 hI.1, wt_neg, wt_0 hI (by omega)]
          · exact (wt_up hI hT h3.1 (by omega) y).symm
end RM2
section LG
variable {V : ev_V} {d : Nat} {h : ev_H} {P : ev_O → ev_H → Prop} {w : dW} {b kd nd pa pl sm tg : Int} {n dd e z v f y k q p : Int → Int}
theorem c_ledM (hL : Lst h w n dd e z v f y k q p) (hl : 92 ≤ h.1.length ∧ h.1.length < 900000) (hb : 0 ≤ b ∧ b < wB w) (hnd : hs (wD w b) nd = true) (hn1 : 1 ≤ nd) (hp : hs (wD w b) pa = true) (hk : kK (wK w) pa ≤ 1) (hw : wth (hold (wK w) (wD w b)) 40 pa nd = false) (hpl : 0 ≤ pl ∧ pl ≤ cnI 40 (fun i => decide (¬ i = nd ∧ hold (wK w) (wD w b) i = pa))) (hS : kS (wK w) < 112)
    (OK : okS (plS (wK w) nd pa) (movT (wK w) (wD w b) nd) → ∀ h' d', Wd h' w → Gw h h' 3 30 → Hp h' (uz n 7 (kS (wK w) + 2)) d' e (uz z (10 * b + nd) (kS (wK w) + 1)) v f y k q p → (∀ ah u, ahd (wK w) (wD w b) pa nd pl ah → insd (kQ (wK w)) (kS (wK w)) ah u → rD (kpS (plS (wK w) nd pa) u) (movT (wK w) (wD w b) nd) d' (uz z (10 * b + nd) (kS (wK w) + 1)) (10 * b)) → (∀ i, ¬ (10 * b ≤ i ∧ i < 10 * b + 10) → d' i = dd i) → P (.inl (some (.int (iI 0)))) h')
    (NO : ¬ okS (plS (wK w) nd pa) (movT (wK w) (wD w b) nd) → ∀ h', Wd h' w → Gw h h' 3 30 → Hp h' n dd e z v f y k q p → P (.inl (some (.int (iI (-13))))) h') :
    En V (d + 3) 5 0 [some (.ref 82), some (.ref 83), some (.ref 84), some (.ref 85), some (.int (iI (10 * b))), some (.ref 89), some (.ref 90), some (.int (iI 2)), some (.int (iI nd)), some (.int (iI pa)), some (.int (iI pl)), some (.int (iI sm)), some (.int (iI tg)), none, none, none, none, none, none, none, none, none, none] [] h P := by
  obtain ⟨hW, hK, ⟨n0, n1, n2, n3, n7, n4⟩, hP, hOO, rw', rf', hH, hE, hpp, hbd, hbv⟩ := id hL
  have tb := hW.2.2.1.2.2.2.1
  have kr := hW.1.2.2.2.2.2.2.2.2.2.2
  have kn := hK.2.2.1
  have ks0 := hK.2.2.2.2.1
  obtain ⟨⟨hI, ⟨dp, hT⟩, hOk⟩, hR, hEe⟩ := hOO.1 b hb.1 hb.2
  have hpr := hs_r hp
  have hnr := hs_r hnd
  have hpn := (hI.1.1 pa hpr.1 hpr.2.1 hp).1
  have hnn := (hI.1.1 nd hnr.1 hnr.2.1 hnd).1
  have hk2 : kK (wK w) pa = 0 ∨ kK (wK w) pa = 1 := by have := kr.2.2.2.1 pa; omega
  have bn : ∀ i, (0 ≤ n i ∧ n i < 1000000) ∧ (0 ≤ dd i ∧ dd i < 1000000) ∧ (0 ≤ e i ∧ e i < 1000000) ∧ 0 ≤ z i ∧ z i < 1000000 := fun i => ⟨hH.1.2.2.2.2 i, hH.2.1.2.2.2.2 i, hH.2.2.1.2.2.2.2 i, hH.2.2.2.1.2.2.2.2 i⟩
  have hor : 0 ≤ 10 * b ∧ 10 * b + 10 ≤ 30 := by omega
  have hcl := (cnI_r (i := 40) (p := fun i => decide (¬ i = nd ∧ hold (wK w) (wD w b) i = pa)) (by decide)).2
  refine c_led0 hW.2.2.2.2.2.2.2.2 hl hH hor (fun h0 a hG0 hl0 ho0 hS0 => ?_)
  have hW0 : Wd h0 w := Wd_grow hW ho0 hl0
  have H0 := hH.gm hG0
  have d0 := H0.2.1.1
  have bd0 := (bn (10 * b + nd)).2.1
  have bd1 := hbd (10 * b + nd)
  have rn := (rD_t hK hI.1 hR hnd).1
  have hhr := tI_c hI hT hn1 hnd
  have hhr2 := hs_r hhr.1
  have hhn := (hI.1.1 _ hhr2.1 hhr2.2.1 hhr.1).1
  have erow : dd (10 * b + nd) / 16 % 16 = lrow dd (10 * b) nd := rfl
  have dnn : decide (nd = nd) = true := decide_eq_true rfl
  -- the rows
  have f0 : ∀ i, 0 ≤ i → i < 10 → uz dd (10 * b + nd) 0 (10 * b + i) = if decide (i = nd) = true then 0 else dd (10 * b + i) := fun i i1 i2 => by
    by_cases c : i = nd
    · rw [c, uz_same, if_pos dnn]
    · rw [uz_ne _ _ (by omega), if_neg (by rw [decide_eq_false c]; decide)]
  have hlo := fun i (i1 : 0 ≤ i) (i2 : i < 10) h1 h2 => sh_lo (i := i) hK hI.1 hR hnd hn1 (fun i => decide (i = nd)) dnn f0 ⟨i1, i2⟩ h1 h2
  have u0 : ∀ i, 0 ≤ uz dd (10 * b + nd) 0 i ∧ uz dd (10 * b + nd) 0 i < 60000 := fun i => by
    have := (bn i).2.1
    have := hbd i
    unfold uz
    split <;> omega
  have o0 : ∀ i, ¬ (10 * b ≤ i ∧ i < 10 * b + 10) → uz dd (10 * b + nd) 0 i = dd i := fun i c => uz_ne _ _ (by omega)
  generalize hD0 : uz dd (10 * b + nd) 0 = D0 at *
  have o1 : ∀ i, ¬ (10 * b ≤ i ∧ i < 10 * b + 10) → shF D0 (10 * b) (hold (wK w) (wD w b) nd) (lrow dd (10 * b) nd) (-1) (kN (wK w)) i = dd i := fun i c => by
    unfold shF
    rw [if_neg (fun c2 => c (by omega))]
    exact o0 i c
  obtain ⟨ah, ha⟩ := ah_ex (lo := nd) (S := wD w b) hK hI.1 hpr.1 hk2 (pl := pl) hpl
  obtain ⟨u, hu⟩ := ins_ex ks0 hK.1 (ah_r hK hI.1 hpr.1 ha)
  have hmv : ∀ D2 : Int → Int, ∀ ah u, ahd (wK w) (wD w b) pa nd pl ah → insd (kQ (wK w)) (kS (wK w)) ah u → (∀ i, ¬ i = 10 * b + nd → D2 i = shF (shF D0 (10 * b) (hold (wK w) (wD w b) nd) (lrow dd (10 * b) nd) (-1) (kN (wK w))) (10 * b) pa (rpF (shF D0 (10 * b) (hold (wK w) (wD w b) nd) (lrow dd (10 * b) nd) (-1) (kN (wK w))) k (10 * b) pa pl (kN (wK w))) 1 (kN (wK w)) i) → D2 (10 * b + nd) = dd (10 * b + nd) / 256 * 256 + pa + 2 + 16 * rpF (shF D0 (10 * b) (hold (wK w) (wD w b) nd) (lrow dd (10 * b) nd) (-1) (kN (wK w))) k (10 * b) pa pl (kN (wK w)) → rD (kpS (plS (wK w) nd pa) u) (movT (wK w) (wD w b) nd) D2 (uz z (10 * b + nd) (kS (wK w) + 1)) (10 * b) ∧ rD (wK w) (offS (wD w b) nd) (shF D0 (10 * b) (hold (wK w) (wD w b) nd) (lrow dd (10 * b) nd) (-1) (kN (wK w))) (uz z (10 * b + nd) 0) (10 * b) := fun D2 ah u ha hu g1 g2 =>
    mv_D hK hI hR rf' (by omega) hu hnd hn1 hp hk2 ha f0 (fun i i1 i2 => rfl) (fun i i1 i2 c => g1 _ (by omega)) g2 (uz_same _ _ _) (fun i i1 i2 c => uz_ne _ _ (by omega))
  have hR1 := (hmv (uz (shF (shF D0 (10 * b) (hold (wK w) (wD w b) nd) (lrow dd (10 * b) nd) (-1) (kN (wK w))) (10 * b) pa (rpF (shF D0 (10 * b) (hold (wK w) (wD w b) nd) (lrow dd (10 * b) nd) (-1) (kN (wK w))) k (10 * b) pa pl (kN (wK w))) 1 (kN (wK w))) (10 * b + nd) (dd (10 * b + nd) / 256 * 256 + pa + 2 + 16 * rpF (shF D0 (10 * b) (hold (wK w) (wD w b) nd) (lrow dd (10 * b) nd) (-1) (kN (wK w))) k (10 * b) pa pl (kN (wK w)))) ah u ha hu (fun i c => uz_ne _ _ c) (uz_same _ _ _)).2
  have b1 := bd_D hK (of_J hI.1 hn1) hR1 (fun i => ⟨(bn i).2.1.1, hbd i⟩) o1
  refine n_go f_5_59 rfl (pc' := 61) rfl ?_
  refine n_if_ne f_5_61 rfl rfl (by omega) (fun _ => ?_) (fun e9 => absurd (by omega) e9)
  refine n_go f_5_156 rfl (pc' := 158) rfl ?_
  refine n_go f_5_158 rfl (pc' := 159) (st' := .int (iI 1) :: _) rfl ?_
  refine n_ic_ne f_5_159 rfl rfl ⟨by omega, by omega⟩ (fun _ => ?_) (fun e9 => absurd (by omega) e9)
  refine n_go f_5_317 rfl (pc' := 319) rfl ?_
  refine n_go f_5_319 rfl (pc' := 320) (st' := .int (iI 2) :: _) rfl ?_
  refine n_ic_ne f_5_320 rfl rfl ⟨by omega, by omega⟩ (fun e9 => absurd e9 (by omega)) (fun _ => ?_)
  refine n_go f_5_323 rfl (pc' := 324) rfl ?_
  refine n_go f_5_324 rfl (pc' := 326) rfl ?_
  refine n_go f_5_326 rfl (pc' := 328) rfl ?_
  refine n_iadd f_5_328 rfl ?_
  refine n_ial f_5_329 rfl (d0) (by unfold ev_ext; omega) (by omega) ?_
  refine n_sip (m := 256) f_5_330 rfl (by decide) ?_
  refine n_idiv f_5_333 rfl (by omega) ?_
  refine n_sip (m := 256) f_5_334 rfl (by decide) ?_
  refine n_imul f_5_337 rfl ?_
  refine n_go f_5_338 rfl (pc' := 340) (ls' := [_, _, _, _, _, _, _, _, _, _, _, _, _, _, _, _, _, _, _, _, _, _, _]) rfl ?_
  refine n_go f_5_340 rfl (pc' := 341) rfl ?_
  refine n_go f_5_341 rfl (pc' := 343) rfl ?_
  refine n_go f_5_343 rfl (pc' := 345) rfl ?_
  refine n_cs (ls' := [_, _, _]) f_5_345 (by decide) m_7 rfl rfl ?_
  refine c_lholder H0.2.1 (by omega) ?_
  show En V _ 5 348 _ [_] _ _
  rw [rn.2.1]
  refine n_go f_5_348 rfl (pc' := 350) (ls' := [_, _, _, _, _, _, _, _, _, _, _, _, _, _, _, _, _, _, _, _, _, _, _]) rfl ?_
  refine n_go f_5_350 rfl (pc' := 351) rfl ?_
  refine n_go f_5_351 rfl (pc' := 353) rfl ?_
  refine n_go f_5_353 rfl (pc' := 355) rfl ?_
  refine n_iadd f_5_355 rfl ?_
  refine n_ial f_5_356 rfl (d0) (by unfold ev_ext; omega) (by omega) ?_
  refine n_bip (m := 16) f_5_357 rfl (by decide) ?_
  refine n_idiv f_5_359 rfl (by omega) ?_
  refine n_bip (m := 16) f_5_360 rfl (by decide) ?_
  refine n_irem f_5_362 rfl (by omega) ?_
  rw [erow]
  refine n_go f_5_363 rfl (pc' := 365) (ls' := [_, _, _, _, _, _, _, _, _, _, _, _, _, _, _, _, _, _, _, _, _, _, _]) rfl ?_
  refine n_go f_5_365 rfl (pc' := 366) rfl ?_
  refine n_go f_5_366 rfl (pc' := 368) rfl ?_
  refine n_go f_5_368 rfl (pc' := 370) rfl ?_
  refine n_iadd f_5_370 rfl ?_
  refine n_go f_5_371 rfl (pc' := 372) (st' := .int (iI 0) :: _) rfl ?_
  refine n_ias f_5_372 rfl (d0) (by omega) ?_
  rw [hD0]
  have H1 := Hp_d H0 (g := D0) (fun i => by have := u0 i; omega)
  have E1 : Ek h0 (ev_set h0 83 (aI 30 D0)) := Ek.set (by decide)
  generalize ev_set h0 83 (aI 30 D0) = h1 at *
  have hb8 : ∀ i, D0 i < 900000 := fun i => by have := u0 i; omega
  refine n_go f_5_373 rfl (pc' := 374) rfl ?_
  refine n_go f_5_374 rfl (pc' := 375) rfl ?_
  refine n_go f_5_375 rfl (pc' := 377) rfl ?_
  refine n_go f_5_377 rfl (pc' := 379) rfl ?_
  refine n_go f_5_379 rfl (pc' := 381) rfl ?_
  refine n_go f_5_381 rfl (pc' := 382) (st' := .int (iI (-1)) :: _) rfl ?_
  refine n_cs (ls' := [_, _, _, _, _, _, _, _]) f_5_382 (by decide) m_39 rfl rfl ?_
  refine c_lshifts H1.1 ⟨n0, kn⟩ H1.2.1 (by decide) hor (by omega) (by omega) (Or.inr rfl) hb8 (fun i i1 i2 g1 g2 => Or.inr (hlo i i1 i2 g1 g2)) ?_
  show En V _ 5 385 _ [] _ _
  generalize shF D0 (10 * b) (hold (wK w) (wD w b) nd) (lrow dd (10 * b) nd) (-1) (kN (wK w)) = D1 at *
  have H2 := Hp_d H1 (g := D1) (fun i => by have := b1 i; omega)
  have E2 : Ek h0 (ev_set h1 83 (aI 30 D1)) := E1.tr (Ek.set (by decide))
  generalize ev_set h1 83 (aI 30 D1) = h2 at *
  have hr9 := rp_r (D := D1) (F := k) (o := 10 * b) (p := pa) (pl := pl) (m := kN (wK w))
  refine n_go f_5_385 rfl (pc' := 386) rfl ?_
  refine n_go f_5_386 rfl (pc' := 387) rfl ?_
  refine n_go f_5_387 rfl (pc' := 389) rfl ?_
  refine n_go f_5_389 rfl (pc' := 391) rfl ?_
  refine n_go f_5_391 rfl (pc' := 393) rfl ?_
  refine n_go f_5_393 rfl (pc' := 395) rfl ?_
  refine n_cs (ls' := [_, _, _, _, _, _, _]) f_5_395 (by decide) m_38 rfl rfl ?_
  refine c_lrowPlace H2.1 ⟨n0, kn⟩ H2.2.1 H2.2.2.2.2.2.2.2.1 hor (by omega) (by omega) ?_
  show En V _ 5 398 _ [_] _ _
  generalize hrr : rpF D1 k (10 * b) pa pl (kN (wK w)) = r at *
  have hb9 : ∀ i, D1 i < 900000 := fun i => by have := b1 i; omega
  refine n_go f_5_398 rfl (pc' := 400) (ls' := [_, _, _, _, _, _, _, _, _, _, _, _, _, _, _, _, _, _, _, _, _, _, _]) rfl ?_
  refine n_go f_5_400 rfl (pc' := 401) rfl ?_
  refine n_go f_5_401 rfl (pc' := 402) rfl ?_
  refine n_go f_5_402 rfl (pc' := 404) rfl ?_
  refine n_go f_5_404 rfl (pc' := 406) rfl ?_
  refine n_go f_5_406 rfl (pc' := 408) rfl ?_
  refine n_go f_5_408 rfl (pc' := 409) (st' := .int (iI 1) :: _) rfl ?_
  refine n_cs (ls' := [_, _, _, _, _, _, _, _]) f_5_409 (by decide) m_39 rfl rfl ?_
  refine c_lshifts H2.1 ⟨n0, kn⟩ H2.2.1 (by decide) hor (by omega) (by omega) (Or.inl rfl) hb9 (fun _ _ _ _ _ => Or.inl rfl) ?_
  show En V _ 5 412 _ [] _ _
  have b2x : ∀ i, 0 ≤ shF D1 (10 * b) pa r 1 (kN (wK w)) i ∧ shF D1 (10 * b) pa r 1 (kN (wK w)) i < 70000 := fun i => by
    have := b1 i
    unfold shF
    split <;> omega
  have o2 : ∀ i, ¬ (10 * b ≤ i ∧ i < 10 * b + 10) → shF D1 (10 * b) pa r 1 (kN (wK w)) i = dd i := fun i c => by
    unfold shF
    rw [if_neg (fun c2 => c (by omega))]
    exact o1 i c
  generalize shF D1 (10 * b) pa r 1 (kN (wK w)) = D2 at *
  have H3 := Hp_d H2 (g := D2) (fun i => by have := b2x i; omega)
  have E3 : Ek h0 (ev_set h2 83 (aI 30 D2)) := E2.tr (Ek.set (by decide))
  generalize ev_set h2 83 (aI 30 D2) = h3 at *
  have d3 := H3.2.1.1
  have hrp : ∀ ah u, ahd (wK w) (wD w b) pa nd pl ah → insd (kQ (wK w)) (kS (wK w)) ah u → rD (kpS (plS (wK w) nd pa) u) (movT (wK w) (wD w b) nd) (uz D2 (10 * b + nd) (dd (10 * b + nd) / 256 * 256 + pa + 2 + 16 * r)) (uz z (10 * b + nd) (kS (wK w) + 1)) (10 * b) := fun ah u ha hu => (hmv _ ah u ha hu (fun i c => uz_ne _ _ c) (uz_same _ _ _)).1
  have b3x : ∀ i, 0 ≤ uz D2 (10 * b + nd) (dd (10 * b + nd) / 256 * 256 + pa + 2 + 16 * r) i ∧ uz D2 (10 * b + nd) (dd (10 * b + nd) / 256 * 256 + pa + 2 + 16 * r) i < 1000000 := fun i => by
    have := b2x i
    unfold uz
    split <;> omega
  have o3 : ∀ i, ¬ (10 * b ≤ i ∧ i < 10 * b + 10) → uz D2 (10 * b + nd) (dd (10 * b + nd) / 256 * 256 + pa + 2 + 16 * r) i = dd i := fun i c => by
    rw [uz_ne _ _ (by omega)]
    exact o2 i c
  refine n_go f_5_412 rfl (pc' := 413) rfl ?_
  refine n_go f_5_413 rfl (pc' := 415) rfl ?_
  refine n_go f_5_415 rfl (pc' := 417) rfl ?_
  refine n_iadd f_5_417 rfl ?_
  refine n_go f_5_418 rfl (pc' := 420) rfl ?_
  refine n_go f_5_420 rfl (pc' := 422) rfl ?_
  refine n_iadd f_5_422 rfl ?_
  refine n_go f_5_423 rfl (pc' := 424) (st' := .int (iI 2) :: _) rfl ?_
  refine n_iadd f_5_424 rfl ?_
  refine n_bip (m := 16) f_5_425 rfl (by decide) ?_
  refine n_go f_5_427 rfl (pc' := 429) rfl ?_
  refine n_imul f_5_429 rfl ?_
  refine n_iadd f_5_430 rfl ?_
  refine n_ias f_5_431 rfl (d3) (by omega) ?_
  generalize uz D2 (10 * b + nd) (dd (10 * b + nd) / 256 * 256 + pa + 2 + 16 * r) = d' at *
  have H4 := Hp_d H3 (g := d') b3x
  have E4 : Ek h0 (ev_set h3 83 (aI 30 d')) := E3.tr (Ek.set (by decide))
  generalize ev_set h3 83 (aI 30 d') = h4 at *
  have c4 := H4.1.1
  have z4 := H4.2.2.2.1.1
  refine n_go f_5_432 rfl (pc' := 433) rfl ?_
  refine n_go f_5_433 rfl (pc' := 435) rfl ?_
  refine n_go f_5_435 rfl (pc' := 437) rfl ?_
  refine n_iadd f_5_437 rfl ?_
  refine n_go f_5_438 rfl (pc' := 439) rfl ?_
  refine n_bip (m := 7) f_5_439 rfl (by decide) ?_
  refine n_ial f_5_441 rfl (c4) (by unfold ev_ext; omega) (by omega) ?_
  rw [n7]
  refine n_ias f_5_442 rfl (z4) (by omega) ?_
  have H5 := Hp_z H4 (g := uz z (10 * b + nd) (kS (wK w) + 1)) (fun i => by have := (bn i).2.2.2; unfold uz; split <;> omega)
  have E5 : Ek h0 (ev_set h4 85 (aI 30 (uz z (10 * b + nd) (kS (wK w) + 1)))) := E4.tr (Ek.set (by decide))
  generalize ev_set h4 85 (aI 30 (uz z (10 * b + nd) (kS (wK w) + 1))) = h5 at *
  have c5 := H5.1.1
  refine n_go f_5_443 rfl (pc' := 444) rfl ?_
  refine n_bip (m := 7) f_5_444 rfl (by decide) ?_
  refine n_go f_5_446 rfl (pc' := 447) rfl ?_
  refine n_ial f_5_447 rfl (c5) (by unfold ev_ext; omega) (by omega) ?_
  refine n_go f_5_448 rfl (pc' := 449) (st' := .int (iI 1) :: _) rfl ?_
  refine n_iadd f_5_449 rfl ?_
  refine n_ias f_5_450 rfl (c5) (by omega) ?_
  refine n_go f_5_451 rfl (pc' := 489) rfl ?_
  rw [n7, show kS (wK w) + 1 + 1 = kS (wK w) + 2 by omega]
  have H6 := Hp_n H5 (g := uz n 7 (kS (wK w) + 2)) (fun i => by have := (bn i).1; unfold uz; split <;> omega)
  have E6 : Ek h0 (ev_set h5 82 (aI 8 (uz n 7 (kS (wK w) + 2)))) := E5.tr (Ek.set (by decide))
  generalize ev_set h5 82 (aI 8 (uz n 7 (kS (wK w) + 2))) = h6 at *
  have hx := mv_kx (n := nd) (p := pa) hK (by omega) hu
  have hI2 := mv_I hK hI (by omega) hu hnd hn1 hp hk
  have hT2 := mv_T hK hI hT hOk (by omega) hu hnd hn1 hp hw
  have e80 : uz n 7 (kS (wK w) + 2) 0 = kN (wK w) := (uz_ne _ _ (by decide)).trans n0
  exact c_led9 (K := kpS (plS (wK w) nd pa) u) H6 e80 hx.1 hI2 hT2 (hrp ah u ha hu) rf' (hS0.ek E6) hor (fun i c => ⟨o3 i c, rfl, uz_ne _ _ (by omega)⟩) (fun i c1 c2 => uz_ne _ _ c2) bn rfl n7.symm (fun hO => OK hO h6 d' (Wd_ek hW0 E6) ((hG0.gw.tr E6.gw).le (by omega) (by omega)) H6 hrp o3) (fun hO h7 hE7 hH7 => NO hO h7 (Wd_ek (Wd_ek hW0 E6) hE7) (((hG0.gw.tr E6.gw).tr hE7.gw).le (by omega) (by omega)) hH7)
end LG
