/-! The law's edits: what it keeps ahead, and gives back. -/
/-- the law's rows alone have changed -/
def Ek (h h' : ev_H) : Prop := h'.2 = h.2 ∧ h'.1.length = h.1.length ∧ ∀ j, ¬ (82 ≤ j ∧ j < 92) → h'.1[j]? = h.1[j]?
theorem Ek.rf (h : ev_H) : Ek h h := ⟨rfl, rfl, fun _ _ => rfl⟩
theorem Ek.tr {a b c : ev_H} (h1 : Ek a b) (h2 : Ek b c) : Ek a c := ⟨h2.1.trans h1.1, h2.2.1.trans h1.2.1, fun j hj => (h2.2.2 j hj).trans (h1.2.2 j hj)⟩
theorem Ek.set {h : ev_H} {a : Nat} {c : ev_C} (ha : 82 ≤ a ∧ a < 92) : Ek h (ev_set h a c) := ⟨rfl, g_len, fun j hj => g_ne (fun e => hj (by omega))⟩
theorem Wd_ek {h h' : ev_H} {w : dW} (hW : Wd h w) (hE : Ek h h') : Wd h' w := by
  obtain ⟨wk, wh, wt, wd, ⟨⟨t1, q1⟩, ⟨T0, q2⟩, q3, ⟨t2, q4⟩, ⟨f2, q5⟩⟩, w28, w23, we, wl⟩ := hW
  refine ⟨wk.of (fun j j1 j2 => hE.2.2 j (by omega)), wh.of (fun j hj => hE.2.2 j (by omega)), ⟨(hE.2.2 0 (by omega)).trans wt.1, (hE.2.2 36 (by omega)).trans wt.2.1, (hE.2.2 37 (by omega)).trans wt.2.2.1, wt.2.2.2⟩, fun b b1 b2 => (wd b b1 b2).of (fun j j1 j2 => hE.2.2 j (by omega)), ⟨⟨t1, (hE.2.2 11 (by omega)).trans q1⟩, ⟨T0, q2.of (fun j j1 j2 => hE.2.2 j (by omega))⟩, q3.of (fun j j1 j2 => hE.2.2 j (by omega)), ⟨t2, (hE.2.2 29 (by omega)).trans q4⟩, ⟨f2, (hE.2.2 44 (by omega)).trans q5⟩⟩, (hE.2.2 28 (by omega)).trans w28, (hE.2.2 23 (by omega)).trans w23, we, ?_⟩
  rw [hE.1, hE.2.1]
  exact wl
section HR
variable {h : ev_H} {n d e z v f y k q p g : Int → Int}
theorem Hp_n (H : Hp h n d e z v f y k q p) (hg : ∀ i, 0 ≤ g i ∧ g i < 1000000) : Hp (ev_set h 82 (aI 8 g)) g d e z v f y k q p := ⟨(H.1).new hg, (H.2.1).set (by decide), (H.2.2.1).set (by decide), (H.2.2.2.1).set (by decide), (H.2.2.2.2.1).set (by decide), (H.2.2.2.2.2.1).set (by decide), (H.2.2.2.2.2.2.1).set (by decide), (H.2.2.2.2.2.2.2.1).set (by decide), (H.2.2.2.2.2.2.2.2.1).set (by decide), (H.2.2.2.2.2.2.2.2.2).set (by decide)⟩
theorem Hp_d (H : Hp h n d e z v f y k q p) (hg : ∀ i, 0 ≤ g i ∧ g i < 1000000) : Hp (ev_set h 83 (aI 30 g)) n g e z v f y k q p := ⟨(H.1).set (by decide), (H.2.1).new hg, (H.2.2.1).set (by decide), (H.2.2.2.1).set (by decide), (H.2.2.2.2.1).set (by decide), (H.2.2.2.2.2.1).set (by decide), (H.2.2.2.2.2.2.1).set (by decide), (H.2.2.2.2.2.2.2.1).set (by decide), (H.2.2.2.2.2.2.2.2.1).set (by decide), (H.2.2.2.2.2.2.2.2.2).set (by decide)⟩
theorem Hp_e (H : Hp h n d e z v f y k q p) (hg : ∀ i, 0 ≤ g i ∧ g i < 1000000) : Hp (ev_set h 84 (aI 30 g)) n d g z v f y k q p := ⟨(H.1).set (by decide), (H.2.1).set (by decide), (H.2.2.1).new hg, (H.2.2.2.1).set (by decide), (H.2.2.2.2.1).set (by decide), (H.2.2.2.2.2.1).set (by decide), (H.2.2.2.2.2.2.1).set (by decide), (H.2.2.2.2.2.2.2.1).set (by decide), (H.2.2.2.2.2.2.2.2.1).set (by decide), (H.2.2.2.2.2.2.2.2.2).set (by decide)⟩
theorem Hp_z (H : Hp h n d e z v f y k q p) (hg : ∀ i, 0 ≤ g i ∧ g i < 1000000) : Hp (ev_set h 85 (aI 30 g)) n d e g v f y k q p := ⟨(H.1).set (by decide), (H.2.1).set (by decide), (H.2.2.1).set (by decide), (H.2.2.2.1).new hg, (H.2.2.2.2.1).set (by decide), (H.2.2.2.2.2.1).set (by decide), (H.2.2.2.2.2.2.1).set (by decide), (H.2.2.2.2.2.2.2.1).set (by decide), (H.2.2.2.2.2.2.2.2.1).set (by decide), (H.2.2.2.2.2.2.2.2.2).set (by decide)⟩
theorem Hp_v (H : Hp h n d e z v f y k q p) (hg : ∀ i, 0 ≤ g i ∧ g i < 1000000) : Hp (ev_set h 86 (aI 60 g)) n d e z g f y k q p := ⟨(H.1).set (by decide), (H.2.1).set (by decide), (H.2.2.1).set (by decide), (H.2.2.2.1).set (by decide), (H.2.2.2.2.1).new hg, (H.2.2.2.2.2.1).set (by decide), (H.2.2.2.2.2.2.1).set (by decide), (H.2.2.2.2.2.2.2.1).set (by decide), (H.2.2.2.2.2.2.2.2.1).set (by decide), (H.2.2.2.2.2.2.2.2.2).set (by decide)⟩
theorem Hp_f (H : Hp h n d e z v f y k q p) (hg : ∀ i, 0 ≤ g i ∧ g i < 1000000) : Hp (ev_set h 87 (aI 60 g)) n d e z v g y k q p := ⟨(H.1).set (by decide), (H.2.1).set (by decide), (H.2.2.1).set (by decide), (H.2.2.2.1).set (by decide), (H.2.2.2.2.1).set (by decide), (H.2.2.2.2.2.1).new hg, (H.2.2.2.2.2.2.1).set (by decide), (H.2.2.2.2.2.2.2.1).set (by decide), (H.2.2.2.2.2.2.2.2.1).set (by decide), (H.2.2.2.2.2.2.2.2.2).set (by decide)⟩
theorem Hp_y (H : Hp h n d e z v f y k q p) (hg : ∀ i, 0 ≤ g i ∧ g i < 1000000) : Hp (ev_set h 88 (aI 60 g)) n d e z v f g k q p := ⟨(H.1).set (by decide), (H.2.1).set (by decide), (H.2.2.1).set (by decide), (H.2.2.2.1).set (by decide), (H.2.2.2.2.1).set (by decide), (H.2.2.2.2.2.1).set (by decide), (H.2.2.2.2.2.2.1).new hg, (H.2.2.2.2.2.2.2.1).set (by decide), (H.2.2.2.2.2.2.2.2.1).set (by decide), (H.2.2.2.2.2.2.2.2.2).set (by decide)⟩
theorem Hp_k (H : Hp h n d e z v f y k q p) (hg : ∀ i, 0 ≤ g i ∧ g i < 1000000) : Hp (ev_set h 89 (aI 10 g)) n d e z v f y g q p := ⟨(H.1).set (by decide), (H.2.1).set (by decide), (H.2.2.1).set (by decide), (H.2.2.2.1).set (by decide), (H.2.2.2.2.1).set (by decide), (H.2.2.2.2.2.1).set (by decide), (H.2.2.2.2.2.2.1).set (by decide), (H.2.2.2.2.2.2.2.1).new hg, (H.2.2.2.2.2.2.2.2.1).set (by decide), (H.2.2.2.2.2.2.2.2.2).set (by decide)⟩
theorem Hp_q (H : Hp h n d e z v f y k q p) (hg : ∀ i, 0 ≤ g i ∧ g i < 1000000) : Hp (ev_set h 90 (aI 10 g)) n d e z v f y k g p := ⟨(H.1).set (by decide), (H.2.1).set (by decide), (H.2.2.1).set (by decide), (H.2.2.2.1).set (by decide), (H.2.2.2.2.1).set (by decide), (H.2.2.2.2.2.1).set (by decide), (H.2.2.2.2.2.2.1).set (by decide), (H.2.2.2.2.2.2.2.1).set (by decide), (H.2.2.2.2.2.2.2.2.1).new hg, (H.2.2.2.2.2.2.2.2.2).set (by decide)⟩
theorem Hp_p (H : Hp h n d e z v f y k q p) (hg : ∀ i, 0 ≤ g i ∧ g i < 1000000) : Hp (ev_set h 91 (aI 6 g)) n d e z v f y k q g := ⟨(H.1).set (by decide), (H.2.1).set (by decide), (H.2.2.1).set (by decide), (H.2.2.2.1).set (by decide), (H.2.2.2.2.1).set (by decide), (H.2.2.2.2.2.1).set (by decide), (H.2.2.2.2.2.2.1).set (by decide), (H.2.2.2.2.2.2.2.1).set (by decide), (H.2.2.2.2.2.2.2.2.1).set (by decide), (H.2.2.2.2.2.2.2.2.2).new hg⟩
end HR
/-- what edits keeps of a desk -/
def Sv (h : ev_H) (a : Nat) (D E Z : Int → Int) (o : Int) : Prop := (92 ≤ a ∧ a + 2 < 1048576) ∧ ∃ g1 g2 g3 : Int → Int, h.1[a]? = some (aI 10 g1) ∧ h.1[a + 1]? = some (aI 10 g2) ∧ h.1[a + 2]? = some (aI 10 g3) ∧ ∀ i, 0 ≤ i → i < 10 → g1 i = D (o + i) ∧ g2 i = E (o + i) ∧ g3 i = Z (o + i)
theorem Sv.ek {h h' : ev_H} {a : Nat} {D E Z : Int → Int} {o : Int} (S : Sv h a D E Z o) (hE : Ek h h') : Sv h' a D E Z o := by
  obtain ⟨h1, g1, g2, g3, h2, h3, h4, h5⟩ := S
  exact ⟨h1, g1, g2, g3, (hE.2.2 a (by omega)).trans h2, (hE.2.2 (a + 1) (by omega)).trans h3, (hE.2.2 (a + 2) (by omega)).trans h4, h5⟩
theorem pu_f {h : ev_H} {c : ev_C} {n : Nat} (hl : h.2.1 = h.1.length) : (ev_push h c n).2.1 = (ev_push h c n).1.length ∧ (ev_push h c n).1.length = h.1.length + 1 ∧ (ev_push h c n).1[h.1.length]? = some c ∧ ∀ j, j < h.1.length → (ev_push h c n).1[j]? = h.1[j]? := by
  refine ⟨?_, by simp [ev_push], ?_, fun j hj => ?_⟩
  · unfold ev_push
    dsimp only
    rw [hl, List.length_append]
    rfl
  · have := g_pn (c := c) (n := n) hl
    rw [hl] at this
    exact this
  · unfold ev_push
    dsimp only
    rw [List.getElem?_append_left hj]
section LE
variable {V : ev_V} {d : Nat} {h : ev_H} {P : ev_O → ev_H → Prop} {A B N M a : Nat} {D E : Int → Int} {o t kd nd pa pl sm tg tl s16 s17 : Int} {n dd e z v f y k q p n' d' e' z' k' : Int → Int} {K : dK} {T : dS} {dp : Int → Nat} {u19 u20 u21 u22 : Option Value}
theorem c_lcopG (a1 : h.1[A]? = some (aI N D)) (b1 : h.1[B]? = some (aI M E)) (a3 : A < 1048576) (b3 : B < 1048576) (hab : ¬ A = B) (hN : (N : Int) ≤ 60) (hM : (M : Int) ≤ 60) (hr : 0 ≤ o ∧ o + 10 ≤ N) (ht : 0 ≤ t ∧ t + 10 ≤ M) (KK : P (.inl none) (ev_set h B (aI M (cpF D E o t 10)))) : En V d 12 0 [some (.ref A), some (.int (iI o)), some (.ref B), some (.int (iI t)), none] [] h P := by
  refine n_go f_12_0 rfl (pc' := 1) (st' := .int (iI 0) :: _) rfl ?_
  refine n_go f_12_1 rfl (pc' := 3) (ls' := [_, _, _, _, _]) rfl ?_
  refine n_for (lo := 0) (hi := 10) (by decide) (fun j ls st h' => ls = [some (.ref A), some (.int (iI o)), some (.ref B), some (.int (iI t)), some (.int (iI j))] ∧ st = [] ∧ h' = ev_set h B (aI M (cpF D E o t j))) ⟨rfl, rfl, ?_⟩ ?_ ?_
  · rw [aI_congr (f := cpF D E o t 0) (f' := E) (fun i _ _ => if_neg (by omega)), g_sf b1]
  · rintro j ls st h' j1 j2 ⟨rfl, rfl, rfl⟩ kk
    have e1 : (ev_set h B (aI M (cpF D E o t j))).1[A]? = _ := (g_ne (fun e => hab e.symm)).trans a1
    have e2 : (ev_set h B (aI M (cpF D E o t j))).1[B]? = some (aI M (cpF D E o t j)) := g_eq b1
    refine n_go f_12_3 rfl (pc' := 5) rfl ?_
    refine n_bip (m := 10) f_12_5 rfl (by decide) ?_
    refine n_ic_ge f_12_7 rfl rfl ⟨by omega, by omega⟩ (fun e9 => absurd e9 (by omega)) (fun _ => ?_)
    refine n_go f_12_10 rfl (pc' := 11) rfl ?_
    refine n_go f_12_11 rfl (pc' := 12) rfl ?_
    refine n_go f_12_12 rfl (pc' := 14) rfl ?_
    refine n_iadd f_12_14 rfl ?_
    refine n_go f_12_15 rfl (pc' := 16) rfl ?_
    refine n_go f_12_16 rfl (pc' := 17) rfl ?_
    refine n_go f_12_17 rfl (pc' := 19) rfl ?_
    refine n_iadd f_12_19 rfl ?_
    refine n_ial f_12_20 rfl (e1) (by unfold ev_ext; omega) (by omega) ?_
    refine n_ias f_12_21 rfl (e2) (by omega) ?_
    refine n_iinc (m' := 1) (ls' := [_, _, _, _, _]) f_12_22 rfl rfl rfl rfl ?_
    refine n_go f_12_25 rfl (pc' := 3) rfl ?_
    refine kk _ _ _ ⟨rfl, rfl, ?_⟩
    rw [g_ss, aI_congr (f' := cpF D E o t (j + 1)) (fun i _ _ => ?_)]
    unfold cpF uz
    by_cases hi : i = t + j
    · rw [if_pos hi, if_pos (by omega), hi, show t + j - t = j by omega]
    · rw [if_neg hi]
      exact ite_c (by omega) _ _
  · rintro ls st h' ⟨rfl, rfl, rfl⟩
    refine n_go f_12_3 rfl (pc' := 5) rfl ?_
    refine n_bip (m := 10) f_12_5 rfl (by decide) ?_
    refine n_ic_ge f_12_7 rfl rfl ⟨by omega, by omega⟩ (fun _ => ?_) (fun e9 => absurd (by omega) e9)
    refine n_ret f_12_28 rfl rfl ?_
    exact KK
theorem c_led0 (hWl : h.2.1 = h.1.length) (hl : 92 ≤ h.1.length ∧ h.1.length < 900000) (H : Hp h n dd e z v f y k q p) (hr : 0 ≤ o ∧ o + 10 ≤ 30)
    (KK : ∀ h' a, Gm h h' 3 30 → h'.2.1 = h'.1.length → (∀ j, j < h.1.length → h'.1[j]? = h.1[j]?) → Sv h' a dd e z o → En V (d + 3) 5 59 [some (.ref 82), some (.ref 83), some (.ref 84), some (.ref 85), some (.int (iI o)), some (.ref 89), some (.ref 90), some (.int (iI kd)), some (.int (iI nd)), some (.int (iI pa)), some (.int (iI pl)), some (.int (iI sm)), some (.int (iI tg)), some (.ref a), some (.ref (a + 1)), some (.ref (a + 2)), some (.int (iI (n 0))), some (.int (iI (n 7))), some (.int (iI 0)), none, none, none, none] [] h' P) :
    En V (d + 3) 5 0 [some (.ref 82), some (.ref 83), some (.ref 84), some (.ref 85), some (.int (iI o)), some (.ref 89), some (.ref 90), some (.int (iI kd)), some (.int (iI nd)), some (.int (iI pa)), some (.int (iI pl)), some (.int (iI sm)), some (.int (iI tg)), none, none, none, none, none, none, none, none, none, none] [] h P := by
  obtain ⟨p1, p2, p3, p4⟩ := pu_f (c := aI 10 (fun _ => 0)) (n := 10) hWl
  have G1 : Gm h (ev_push h (aI 10 (fun _ => 0)) 10) 1 10 := Gm.push _ _ _
  refine n_bip (m := 10) f_5_0 rfl (by decide) ?_
  refine n_nai f_5_2 rfl (by omega) (hWl) ?_
  refine n_go f_5_4 rfl (pc' := 6) (ls' := [_, _, _, _, _, _, _, _, _, _, _, _, _, _, _, _, _, _, _, _, _, _, _]) rfl ?_
  show En V _ _ 6 _ _ (ev_push h (aI 10 (fun _ => 0)) 10) _
  generalize ev_push h (aI 10 (fun _ => 0)) 10 = h1 at *
  obtain ⟨q1, q2, q3, q4⟩ := pu_f (c := aI 10 (fun _ => 0)) (n := 10) p1
  have G2 : Gm h (ev_push h1 (aI 10 (fun _ => 0)) 10) 2 20 := G1.tr (Gm.push _ _ _)
  refine n_bip (m := 10) f_5_6 rfl (by decide) ?_
  refine n_nai f_5_8 rfl (by omega) (p1) ?_
  refine n_go f_5_10 rfl (pc' := 12) (ls' := [_, _, _, _, _, _, _, _, _, _, _, _, _, _, _, _, _, _, _, _, _, _, _]) rfl ?_
  show En V _ _ 12 _ _ (ev_push h1 (aI 10 (fun _ => 0)) 10) _
  generalize ev_push h1 (aI 10 (fun _ => 0)) 10 = h2 at *
  obtain ⟨r1, r2, r3, r4⟩ := pu_f (c := aI 10 (fun _ => 0)) (n := 10) q1
  have G3 : Gm h (ev_push h2 (aI 10 (fun _ => 0)) 10) 3 30 := G2.tr (Gm.push _ _ _)
  refine n_bip (m := 10) f_5_12 rfl (by decide) ?_
  refine n_nai f_5_14 rfl (by omega) (q1) ?_
  refine n_go f_5_16 rfl (pc' := 18) (ls' := [_, _, _, _, _, _, _, _, _, _, _, _, _, _, _, _, _, _, _, _, _, _, _]) rfl ?_
  show En V _ _ 18 _ _ (ev_push h2 (aI 10 (fun _ => 0)) 10) _
  generalize ev_push h2 (aI 10 (fun _ => 0)) 10 = h3 at *
  have L1 : h1.1.length = h.1.length + 1 := p2
  have L2 : h2.1.length = h.1.length + 1 + 1 := q2.trans (by rw [p2])
  rw [L1] at q3
  rw [L2] at r3
  rw [L1, L2]
  have A1 : h3.1[h.1.length]? = some (aI 10 (fun _ => 0)) := (r4 _ (by omega)).trans ((q4 _ (by omega)).trans p3)
  have A2 : h3.1[h.1.length + 1]? = some (aI 10 (fun _ => 0)) := (r4 _ (by omega)).trans q3
  have A3 : h3.1[h.1.length + 1 + 1]? = some (aI 10 (fun _ => 0)) := r3
  have O3 : ∀ j, j < h.1.length → h3.1[j]? = h.1[j]? := fun j hj => (r4 j (by omega)).trans ((q4 j (by omega)).trans (p4 j hj))
  generalize hA : h.1.length = a at *
  have d1 : ∀ x : Nat, x < a → h3.1[x]? = h.1[x]? := O3
  refine n_go f_5_18 rfl (pc' := 19) rfl ?_
  refine n_go f_5_19 rfl (pc' := 21) rfl ?_
  refine n_go f_5_21 rfl (pc' := 23) rfl ?_
  refine n_go f_5_23 rfl (pc' := 24) (st' := .int (iI 0) :: _) rfl ?_
  refine n_cs (ls' := [_, _, _, _, _]) f_5_24 (by decide) m_12 rfl rfl ?_
  refine c_lcopG ((O3 83 (by omega)).trans H.2.1.1) A1 (by decide) (by omega) (by omega) (by decide) (by decide) (by omega) (by decide) ?_
  show En V _ 5 27 _ [] _ _
  have B1 : (ev_set h3 a (aI 10 (cpF dd (fun _ => 0) o 0 10))).1[a]? = some (aI 10 (cpF dd (fun _ => 0) o 0 10)) := g_eq A1
  have B2 : (ev_set h3 a (aI 10 (cpF dd (fun _ => 0) o 0 10))).1[a + 1]? = some (aI 10 (fun _ => 0)) := (g_ne (by omega)).trans A2
  have B3 : (ev_set h3 a (aI 10 (cpF dd (fun _ => 0) o 0 10))).1[a + 1 + 1]? = some (aI 10 (fun _ => 0)) := (g_ne (by omega)).trans A3
  have B4 : ∀ j, j < a → (ev_set h3 a (aI 10 (cpF dd (fun _ => 0) o 0 10))).1[j]? = h.1[j]? := fun j hj => (g_ne (by omega)).trans (O3 j hj)
  have B5 : (ev_set h3 a (aI 10 (cpF dd (fun _ => 0) o 0 10))).2 = h3.2 ∧ (ev_set h3 a (aI 10 (cpF dd (fun _ => 0) o 0 10))).1.length = h3.1.length := ⟨rfl, g_len⟩
  generalize ev_set h3 a (aI 10 (cpF dd (fun _ => 0) o 0 10)) = h4 at *
  refine n_go f_5_27 rfl (pc' := 28) rfl ?_
  refine n_go f_5_28 rfl (pc' := 30) rfl ?_
  refine n_go f_5_30 rfl (pc' := 32) rfl ?_
  refine n_go f_5_32 rfl (pc' := 33) (st' := .int (iI 0) :: _) rfl ?_
  refine n_cs (ls' := [_, _, _, _, _]) f_5_33 (by decide) m_12 rfl rfl ?_
  refine c_lcopG ((B4 84 (by omega)).trans H.2.2.1.1) B2 (by decide) (by omega) (by omega) (by decide) (by decide) (by omega) (by decide) ?_
  show En V _ 5 36 _ [] _ _
  have C1 : (ev_set h4 (a + 1) (aI 10 (cpF e (fun _ => 0) o 0 10))).1[a]? = some (aI 10 (cpF dd (fun _ => 0) o 0 10)) := (g_ne (by omega)).trans B1
  have C2 : (ev_set h4 (a + 1) (aI 10 (cpF e (fun _ => 0) o 0 10))).1[a + 1]? = some (aI 10 (cpF e (fun _ => 0) o 0 10)) := g_eq B2
  have C3 : (ev_set h4 (a + 1) (aI 10 (cpF e (fun _ => 0) o 0 10))).1[a + 1 + 1]? = some (aI 10 (fun _ => 0)) := (g_ne (by omega)).trans B3
  have C4 : ∀ j, j < a → (ev_set h4 (a + 1) (aI 10 (cpF e (fun _ => 0) o 0 10))).1[j]? = h.1[j]? := fun j hj => (g_ne (by omega)).trans (B4 j hj)
  have C5 : (ev_set h4 (a + 1) (aI 10 (cpF e (fun _ => 0) o 0 10))).2 = h4.2 ∧ (ev_set h4 (a + 1) (aI 10 (cpF e (fun _ => 0) o 0 10))).1.length = h4.1.length := ⟨rfl, g_len⟩
  generalize ev_set h4 (a + 1) (aI 10 (cpF e (fun _ => 0) o 0 10)) = h5 at *
  refine n_go f_5_36 rfl (pc' := 37) rfl ?_
  refine n_go f_5_37 rfl (pc' := 39) rfl ?_
  refine n_go f_5_39 rfl (pc' := 41) rfl ?_
  refine n_go f_5_41 rfl (pc' := 42) (st' := .int (iI 0) :: _) rfl ?_
  refine n_cs (ls' := [_, _, _, _, _]) f_5_42 (by decide) m_12 rfl rfl ?_
  refine c_lcopG ((C4 85 (by omega)).trans H.2.2.2.1.1) C3 (by decide) (by omega) (by omega) (by decide) (by decide) (by omega) (by decide) ?_
  show En V _ 5 45 _ [] _ _
  have D1 : (ev_set h5 (a + 1 + 1) (aI 10 (cpF z (fun _ => 0) o 0 10))).1[a]? = some (aI 10 (cpF dd (fun _ => 0) o 0 10)) := (g_ne (by omega)).trans C1
  have D2 : (ev_set h5 (a + 1 + 1) (aI 10 (cpF z (fun _ => 0) o 0 10))).1[a + 1]? = some (aI 10 (cpF e (fun _ => 0) o 0 10)) := (g_ne (by omega)).trans C2
  have D3 : (ev_set h5 (a + 1 + 1) (aI 10 (cpF z (fun _ => 0) o 0 10))).1[a + 1 + 1]? = some (aI 10 (cpF z (fun _ => 0) o 0 10)) := g_eq C3
  have D4 : ∀ j, j < a → (ev_set h5 (a + 1 + 1) (aI 10 (cpF z (fun _ => 0) o 0 10))).1[j]? = h.1[j]? := fun j hj => (g_ne (by omega)).trans (C4 j hj)
  have D5 : (ev_set h5 (a + 1 + 1) (aI 10 (cpF z (fun _ => 0) o 0 10))).2 = h5.2 ∧ (ev_set h5 (a + 1 + 1) (aI 10 (cpF z (fun _ => 0) o 0 10))).1.length = h5.1.length := ⟨rfl, g_len⟩
  generalize ev_set h5 (a + 1 + 1) (aI 10 (cpF z (fun _ => 0) o 0 10)) = h6 at *
  have b6 : h6.1[82]? = some (aI 8 n) := (D4 82 (by omega)).trans H.1.1
  refine n_go f_5_45 rfl (pc' := 46) rfl ?_
  refine n_go f_5_46 rfl (pc' := 47) (st' := .int (iI 0) :: _) rfl ?_
  refine n_ial f_5_47 rfl (b6) (by unfold ev_ext; omega) (by omega) ?_
  refine n_go f_5_48 rfl (pc' := 50) (ls' := [_, _, _, _, _, _, _, _, _, _, _, _, _, _, _, _, _, _, _, _, _, _, _]) rfl ?_
  refine n_go f_5_50 rfl (pc' := 51) rfl ?_
  refine n_bip (m := 7) f_5_51 rfl (by decide) ?_
  refine n_ial f_5_53 rfl (b6) (by unfold ev_ext; omega) (by omega) ?_
  refine n_go f_5_54 rfl (pc' := 56) (ls' := [_, _, _, _, _, _, _, _, _, _, _, _, _, _, _, _, _, _, _, _, _, _, _]) rfl ?_
  refine n_go f_5_56 rfl (pc' := 57) (st' := .int (iI 0) :: _) rfl ?_
  refine n_go f_5_57 rfl (pc' := 59) (ls' := [_, _, _, _, _, _, _, _, _, _, _, _, _, _, _, _, _, _, _, _, _, _, _]) rfl ?_
  have L6 : h6.1.length = h3.1.length := by rw [D5.2, C5.2, B5.2]
  have S6 : h6.2 = h3.2 := by rw [D5.1, C5.1, B5.1]
  refine KK h6 a ⟨?_, ?_, ?_, fun j _ hj => D4 j ?_⟩ ?_ D4 ⟨⟨by omega, by omega⟩, _, _, _, D1, D2, D3, fun i i1 i2 => ?_⟩
  · rw [L6]; exact G3.1
  · rw [L6]; exact G3.2.1
  · rw [S6]; exact G3.2.2.1
  · omega
  · rw [L6, S6]
    exact r1
  · unfold cpF
    rw [if_pos (by omega), if_pos (by omega), if_pos (by omega), show o + (i - 0) = o + i by omega]
    exact ⟨rfl, rfl, rfl⟩
theorem c_led9 (H : Hp h n' d' e' z' v f y k' q p) (hm : n' 0 = kN K) (hK : kI K) (hI : sI K T) (hT : tI K T dp) (hR : rD K T d' z' o) (hF : rF K k') (hS : Sv h a dd e z o) (hr : 0 ≤ o ∧ o + 10 ≤ 30)
    (hOut : ∀ i, ¬ (o ≤ i ∧ i < o + 10) → d' i = dd i ∧ e' i = e i ∧ z' i = z i) (hn : ∀ i, ¬ i = 0 → ¬ i = 7 → n' i = n i) (bn : ∀ i, (0 ≤ n i ∧ n i < 1000000) ∧ (0 ≤ dd i ∧ dd i < 1000000) ∧ (0 ≤ e i ∧ e i < 1000000) ∧ 0 ≤ z i ∧ z i < 1000000)
    (h16 : s16 = n 0) (h17 : s17 = n 7) (OK : okS K T → P (.inl (some (.int (iI tl)))) h) (NO : ¬ okS K T → ∀ h', Ek h h' → Hp h' n dd e z v f y k' q p → P (.inl (some (.int (iI (-13))))) h') :
    En V (d + 3) 5 489 [some (.ref 82), some (.ref 83), some (.ref 84), some (.ref 85), some (.int (iI o)), some (.ref 89), some (.ref 90), some (.int (iI kd)), some (.int (iI nd)), some (.int (iI pa)), some (.int (iI pl)), some (.int (iI sm)), some (.int (iI tg)), some (.ref a), some (.ref (a + 1)), some (.ref (a + 2)), some (.int (iI s16)), some (.int (iI s17)), some (.int (iI tl)), u19, u20, u21, u22] [] h P := by
  subst h16 h17
  have kn := hK.2.2.1
  have hbr := br_ok hK hI hT hR hF
  refine n_go f_5_489 rfl (pc' := 490) rfl ?_
  refine n_go f_5_490 rfl (pc' := 491) rfl ?_
  refine n_go f_5_491 rfl (pc' := 493) rfl ?_
  refine n_go f_5_493 rfl (pc' := 495) rfl ?_
  refine n_cs (ls' := [_, _, _, _, _, _, _, _, _]) f_5_495 (by decide) m_41 rfl rfl ?_
  refine c_lbreaks (m := kN K) (dp := dp) H.1 ⟨hm, kn⟩ H.2.1 H.2.2.2.2.2.2.2.1 hr (fun i i1 i2 => ?_) (fun i i1 i2 i3 => ?_) (fun i i1 i2 i3 => ?_) ?_
  · cases c : hs T i with
    | true => have := (rD_t hK hI.1 hR c).1; have := hI.1.1 i i1 (by omega) c; omega
    | false => have := (hR.1 i i1 (by omega) c).1; omega
  · rw [rD_lt hK hI.1 hR (by omega)] at i3
    rw [(rD_t hK hI.1 hR i3).1.2.1]
    have h3 := tI_c hI hT i1 i3
    have h4 := hs_r h3.1
    have := (hI.1.1 _ h4.1 h4.2.1 h3.1).1
    omega
  · rw [rD_lt hK hI.1 hR (by omega)] at i3
    exact dpO_t hK hI hT hR i3
  show En V _ _ 498 _ [_] h _
  refine n_ib_eq f_5_498 rfl rfl (fun e1 => ?_) (fun e1 => ?_)
  · have h2 : okS K T := Classical.not_not.mp (fun q => by rw [hbr.mpr q] at e1; cases e1)
    refine n_go f_5_543 rfl (pc' := 545) rfl ?_
    refine n_ret f_5_545 rfl rfl ?_
    exact OK h2
  · have h2' := hbr.mp e1
    obtain ⟨ha, g1, g2, g3, s1, s2, s3, s4⟩ := hS
    refine n_go f_5_501 rfl (pc' := 503) rfl ?_
    refine n_go f_5_503 rfl (pc' := 504) (st' := .int (iI 0) :: _) rfl ?_
    refine n_go f_5_504 rfl (pc' := 505) rfl ?_
    refine n_go f_5_505 rfl (pc' := 507) rfl ?_
    refine n_cs (ls' := [_, _, _, _, _]) f_5_507 (by decide) m_12 rfl rfl ?_
    refine c_lcopG s1 H.2.1.1 (by omega) (by decide) (by omega) (by decide) (by decide) (by decide) hr ?_
    show En V _ 5 510 _ [] _ _
    have E1 : ∀ i : Int, 0 ≤ i → i < (30 : Nat) → cpF g1 d' 0 o 10 i = dd i := fun i i1 i2 => by
      unfold cpF
      by_cases c : o ≤ i ∧ i < o + 10
      · rw [if_pos c, show 0 + (i - o) = i - o by omega, (s4 (i - o) (by omega) (by omega)).1, show o + (i - o) = i by omega]
      · rw [if_neg c]; exact (hOut i c).1
    rw [aI_congr E1]
    have H1 := Hp_d H (g := dd) (fun i => (bn i).2.1)
    have K1 : Ek h (ev_set h 83 (aI 30 dd)) := Ek.set (by decide)
    generalize ev_set h 83 (aI 30 dd) = h1 at *
    have s2' : h1.1[a + 1]? = some (aI 10 g2) := (K1.2.2 _ (by omega)).trans s2
    refine n_go f_5_510 rfl (pc' := 512) rfl ?_
    refine n_go f_5_512 rfl (pc' := 513) (st' := .int (iI 0) :: _) rfl ?_
    refine n_go f_5_513 rfl (pc' := 514) rfl ?_
    refine n_go f_5_514 rfl (pc' := 516) rfl ?_
    refine n_cs (ls' := [_, _, _, _, _]) f_5_516 (by decide) m_12 rfl rfl ?_
    refine c_lcopG s2' H1.2.2.1.1 (by omega) (by decide) (by omega) (by decide) (by decide) (by decide) hr ?_
    show En V _ 5 519 _ [] _ _
    have E2 : ∀ i : Int, 0 ≤ i → i < (30 : Nat) → cpF g2 e' 0 o 10 i = e i := fun i i1 i2 => by
      unfold cpF
      by_cases c : o ≤ i ∧ i < o + 10
      · rw [if_pos c, show 0 + (i - o) = i - o by omega, (s4 (i - o) (by omega) (by omega)).2.1, show o + (i - o) = i by omega]
      · rw [if_neg c]; exact (hOut i c).2.1
    rw [aI_congr E2]
    have H2 := Hp_e H1 (g := e) (fun i => (bn i).2.2.1)
    have K2 : Ek h (ev_set h1 84 (aI 30 e)) := K1.tr (Ek.set (by decide))
    generalize ev_set h1 84 (aI 30 e) = h2 at *
    have s3' : h2.1[a + 2]? = some (aI 10 g3) := (K2.2.2 _ (by omega)).trans s3
    refine n_go f_5_519 rfl (pc' := 521) rfl ?_
    refine n_go f_5_521 rfl (pc' := 522) (st' := .int (iI 0) :: _) rfl ?_
    refine n_go f_5_522 rfl (pc' := 523) rfl ?_
    refine n_go f_5_523 rfl (pc' := 525) rfl ?_
    refine n_cs (ls' := [_, _, _, _, _]) f_5_525 (by decide) m_12 rfl rfl ?_
    refine c_lcopG s3' H2.2.2.2.1.1 (by omega) (by decide) (by omega) (by decide) (by decide) (by decide) hr ?_
    show En V _ 5 528 _ [] _ _
    have E3 : ∀ i : Int, 0 ≤ i → i < (30 : Nat) → cpF g3 z' 0 o 10 i = z i := fun i i1 i2 => by
      unfold cpF
      by_cases c : o ≤ i ∧ i < o + 10
      · rw [if_pos c, show 0 + (i - o) = i - o by omega, (s4 (i - o) (by omega) (by omega)).2.2, show o + (i - o) = i by omega]
      · rw [if_neg c]; exact (hOut i c).2.2
    rw [aI_congr E3]
    have H3 := Hp_z H2 (g := z) (fun i => (bn i).2.2.2)
    have K3 : Ek h (ev_set h2 85 (aI 30 z)) := K2.tr (Ek.set (by decide))
    generalize ev_set h2 85 (aI 30 z) = h3 at *
    have b3 := H3.1.1
    refine n_go f_5_528 rfl (pc' := 529) rfl ?_
    refine n_go f_5_529 rfl (pc' := 530) (st' := .int (iI 0) :: _) rfl ?_
    refine n_go f_5_530 rfl (pc' := 532) rfl ?_
    refine n_ias f_5_532 rfl (b3) (by omega) ?_
    have b4 : (ev_set h3 82 (aI 8 (uz n' 0 (n 0)))).1[82]? = some (aI 8 (uz n' 0 (n 0))) := g_eq b3
    refine n_go f_5_533 rfl (pc' := 534) rfl ?_
    refine n_bip (m := 7) f_5_534 rfl (by decide) ?_
    refine n_go f_5_536 rfl (pc' := 538) rfl ?_
    refine n_ias f_5_538 rfl (b4) (by omega) ?_
    rw [g_ss]
    have E4 : uz (uz n' 0 (n 0)) 7 (n 7) = n := by
      funext i
      by_cases c : i = 7
      · rw [c, uz_same]
      · rw [uz_ne _ _ c]
        by_cases c2 : i = 0
        · rw [c2, uz_same]
        · rw [uz_ne _ _ c2]; exact hn i c2 c
    rw [E4]
    have H4 := Hp_n H3 (g := n) (fun i => (bn i).1)
    have K4 : Ek h (ev_set h3 82 (aI 8 n)) := K3.tr (Ek.set (by decide))
    generalize ev_set h3 82 (aI 8 n) = h4 at *
    refine n_bip (m := (-13)) f_5_539 rfl (by decide) ?_
    refine n_go f_5_541 rfl (pc' := 543) (ls' := [_, _, _, _, _, _, _, _, _, _, _, _, _, _, _, _, _, _, _, _, _, _, _]) rfl ?_
    refine n_go f_5_543 rfl (pc' := 545) rfl ?_
    refine n_ret f_5_545 rfl rfl ?_
    exact NO h2' h4 K4 H4
end LE
