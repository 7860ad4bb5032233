/-! The print of a state's root. -/
theorem kpr_c {K : dK} {S : dS} {n : Int} {f g : Int → Int64} {p : Int64} (i : Nat) (hfg : ∀ j : Nat, j < i → 0 ≤ met K S n j → f (met K S n j) = g (met K S n j)) : kpr K S n f p i = kpr K S n g p i := by
  induction i with
  | zero => rfl
  | succ i ih =>
    have ih := ih (fun j hj => hfg j (by omega))
    unfold kpr
    rw [ih]
    split
    · next e => rw [hfg i (by omega) e]
    · rfl
theorem npr_c {K : dK} {S : dS} {n : Int} {f g : Int → Int64} (hfg : ∀ j : Int, 0 ≤ j → j < swL K n → 0 ≤ met K S n j → f (met K S n j) = g (met K S n j)) : npr K S f n = npr K S g n := by
  unfold npr
  dsimp only
  rw [kpr_c (f := f) (g := g) (swL K n).toNat (fun j hj e => hfg j (by omega) (by omega) e)]
/-- the depth of a node, -1 of one that is not below the root -/
def dep (K : dK) (S : dS) (n : Int) : Int := dpF (hs S) (hold K S) 40 0 n
/-- children are one deeper -/
def deeper (K : dK) (S : dS) : Prop := ∀ n j, 0 ≤ n → n < 40 → 0 ≤ dep K S n → 0 ≤ j → j < swL K n → 0 ≤ met K S n j → dep K S (met K S n j) = dep K S n + 1
section CF
variable {V : ev_V} {d : Nat} {h : ev_H} {P : ev_O → ev_H → Prop} {a : Nat} {K : dK} {S : dS} {n k b c : Int} {f f0 : Int → Int64} {t0 : Int → Int}
theorem c_fillP (hK : Sk h K) (hS : St h a S) (ha : a + 5 < 28 ∨ 44 < a ∨ (29 < a ∧ a + 5 < 44)) (h28 : h.1[28]? = some (.inr (8, [.ref 1, .ref 10, .ref 29]))) (h29 : h.1[29]? = some (aI 40 t0)) (hp : h.1[44]? = some (aL 40 f0)) (hd : deeper K S) (KK : ∀ t f, (∀ n, 0 ≤ n → n < 40 → 0 ≤ dep K S n → f n = npr K S f n) → P (.inl none) (ev_set (ev_set h 29 (aI 40 t)) 44 (aL 40 f))) : En V (d + 4) 138 0 [some (.ref 28), some (.ref a), some (.int (iI 0)), some (.ref 44), none, none, none] [] h P := by
  have kr := hK.2.2.2.2.2.2.2.2.2.2
  have dr : ∀ n, -1 ≤ dep K S n ∧ dep K S n < 41 := fun n => by
    have := dpF_r (hs S) (hold K S) 40 0 n (by decide)
    unfold dep
    omega
  have f29 : ∀ t, Sk (ev_set h 29 (aI 40 t)) K ∧ St (ev_set h 29 (aI 40 t)) a S ∧ (ev_set h 29 (aI 40 t)).1[28]? = some (.inr (8, [.ref 1, .ref 10, .ref 29])) ∧ (ev_set h 29 (aI 40 t)).1[29]? = some (aI 40 t) ∧ (ev_set h 29 (aI 40 t)).1[44]? = some (aL 40 f0) := fun t => ⟨hK.set (by decide), hS.set (by omega), by rw [g_ne (by decide)]; exact h28, g_eq h29, by rw [g_ne (by decide)]; exact hp⟩
  refine n_go f_138_0 rfl (pc' := 1) (st' := .int (iI 0) :: _) rfl ?_
  refine n_go f_138_1 rfl (pc' := 3) (ls' := [_, _, _, _, _, _, _]) rfl ?_
  refine n_go f_138_3 rfl (pc' := 4) (st' := .int (iI 0) :: _) rfl ?_
  refine n_go f_138_4 rfl (pc' := 6) (ls' := [_, _, _, _, _, _, _]) rfl ?_
  refine n_for (lo := 0) (hi := 40) (by decide) (fun i ls st h' => (∃ m, ls = [some (.ref 28), some (.ref a), some (.int (iI 0)), some (.ref 44), some (.int (iI m)), some (.int (iI i)), none] ∧ 0 ≤ m ∧ m < 41 ∧ ∀ n, 0 ≤ n → n < i → dep K S n ≤ m) ∧ st = [] ∧ h' = ev_set h 29 (aI 40 (fun n => if n < i then dep K S n else t0 n))) ⟨⟨0, rfl, by decide, by decide, fun n h1 h2 => absurd h2 (by omega)⟩, rfl, ?_⟩ ?_ ?_
  · rw [aI_congr (f' := t0) (fun j h1 h2 => if_neg (by omega)), g_sf h29]
  · rintro i ls st h' h1 h2 ⟨⟨m, rfl, m1, m2, m3⟩, rfl, rfl⟩ kk
    obtain ⟨f1, f2, f3, f4, f5⟩ := f29 (fun n => if n < i then dep K S n else t0 n)
    have k10 := f1.2.2.2.2.2.2.2.2.2.1
    have dd := dr i
    refine n_go f_138_6 rfl (pc' := 8) rfl ?_
    refine n_bip (m := 40) f_138_8 rfl (by decide) ?_
    refine n_ic_ge f_138_10 rfl rfl ⟨by omega, by omega⟩ (fun e9 => absurd e9 (by omega)) (fun _ => ?_)
    refine n_go f_138_13 rfl (pc' := 14) rfl ?_
    refine n_gf f_138_14 rfl (by assumption) rfl ?_
    refine n_go f_138_17 rfl (pc' := 19) rfl ?_
    refine n_go f_138_19 rfl (pc' := 20) rfl ?_
    refine n_gf f_138_20 rfl (by assumption) rfl ?_
    refine n_go f_138_23 rfl (pc' := 24) rfl ?_
    refine n_go f_138_24 rfl (pc' := 26) rfl ?_
    refine n_cv (ls' := [_, _, _, _, _]) f_138_26 (by decide) m_137 rfl rfl (by assumption) rfl ?_
    refine c_depthIn f1 f2 (by omega) ?_
    show En V _ 138 29 _ [_, _, _] _ _
    show En V _ _ 29 _ [.int (iI (dep K S i)), .int (iI i), .ref 29] _ _
    refine n_ias f_138_29 rfl (by assumption) (by omega) ?_
    rw [g_ss, aI_congr (f' := fun n => if n < i + 1 then dep K S n else t0 n) (fun j _ _ => mix_uz _ _ _ _ _ rfl)]
    obtain ⟨f1, f2, f3, f4, f5⟩ := f29 (fun n => if n < i + 1 then dep K S n else t0 n)
    refine n_go f_138_30 rfl (pc' := 32) rfl ?_
    refine n_go f_138_32 rfl (pc' := 33) rfl ?_
    refine n_gf f_138_33 rfl (by assumption) rfl ?_
    refine n_go f_138_36 rfl (pc' := 38) rfl ?_
    refine n_ial f_138_38 rfl (by assumption) (by unfold ev_ext; omega) (by omega) ?_
    rw [show (if i < i + 1 then dep K S i else t0 i) = dep K S i from if_pos (by omega)]
    refine n_cs (ls' := [_, _]) f_138_39 (by decide) m_174 rfl rfl ?_
    refine c_max (by omega) (by omega) ?_
    show En V _ 138 42 _ [_] _ _
    refine n_go f_138_42 rfl (pc' := 44) (ls' := [_, _, _, _, _, _, _]) rfl ?_
    refine n_iinc (m' := 1) (ls' := [_, _, _, _, _, _, _]) f_138_44 rfl rfl rfl rfl ?_
    refine n_go f_138_47 rfl (pc' := 6) rfl ?_
    refine kk _ _ _ ⟨⟨_, rfl, ?_, ?_, fun n g1 g2 => ?_⟩, rfl, rfl⟩
    · split <;> omega
    · split <;> omega
    · by_cases hn : n = i
      · subst hn; split <;> omega
      · have := m3 n g1 (by omega)
        split <;> omega
  rintro ls st h' ⟨⟨m, rfl, m1, m2, m3⟩, rfl, rfl⟩
  rw [aI_congr (f' := dep K S) (fun j _ h2 => if_pos (by omega))]
  obtain ⟨f1, f2, f3, f4, f5⟩ := f29 (dep K S)
  generalize hh1 : ev_set h 29 (aI 40 (dep K S)) = h1 at *
  refine n_go f_138_6 rfl (pc' := 8) rfl ?_
  refine n_bip (m := 40) f_138_8 rfl (by decide) ?_
  refine n_ic_ge f_138_10 rfl rfl ⟨by omega, by omega⟩ (fun _ => ?_) (fun e9 => absurd (by omega) e9)
  refine n_go f_138_50 rfl (pc' := 52) rfl ?_
  refine n_go f_138_52 rfl (pc' := 54) (ls' := [_, _, _, _, _, _, _]) rfl ?_
  have key : ∀ (m : Nat) (f : Int → Int64) (u : Option Value), m ≤ 41 → (∀ n, 0 ≤ n → n < 40 → (m : Int) ≤ dep K S n → f n = npr K S f n) → (∃ f', h1.1[44]? = some (aL 40 f')) → ∀ u' : Int, En V (d + 4) 138 54 [some (.ref 28), some (.ref a), some (.int (iI 0)), some (.ref 44), some (.int (iI u')), some (.int (iI ((m : Int) - 1))), u] [] (ev_set h1 44 (aL 40 f)) P := by
    intro m
    induction m with
    | zero =>
      intro f u hm hf hx u'
      refine n_go f_138_54 rfl (pc' := 56) rfl ?_
      refine n_if_lt f_138_56 rfl rfl (by omega) (fun _ => ?_) (fun e9 => absurd (by omega) e9)
      refine n_ret f_138_113 rfl rfl ?_
      rw [← hh1]
      exact KK _ _ (fun n g1 g2 g3 => hf n g1 g2 (by omega))
    | succ m ih =>
      intro f u hm hf hx u'
      rw [show ((m + 1 : Nat) : Int) - 1 = m by omega]
      refine n_go f_138_54 rfl (pc' := 56) rfl ?_
      refine n_if_lt f_138_56 rfl rfl (by omega) (fun e9 => absurd e9 (by omega)) (fun _ => ?_)
      refine n_go f_138_59 rfl (pc' := 60) (st' := .int (iI 0) :: _) rfl ?_
      refine n_go f_138_60 rfl (pc' := 62) (ls' := [_, _, _, _, _, _, _]) rfl ?_
      refine n_for (lo := 0) (hi := 40) (by decide) (fun i ls st h' => ls = [some (.ref 28), some (.ref a), some (.int (iI 0)), some (.ref 44), some (.int (iI u')), some (.int (iI m)), some (.int (iI i))] ∧ st = [] ∧ ∃ f, h' = ev_set h1 44 (aL 40 f) ∧ ∀ n, 0 ≤ n → n < 40 → ((m : Int) + 1 ≤ dep K S n ∨ (dep K S n = m ∧ n < i)) → f n = npr K S f n) ⟨rfl, rfl, f, rfl, fun n g1 g2 g3 => hf n g1 g2 (by omega)⟩ ?_ ?_
      · rintro i ls st h' g1 g2 ⟨rfl, rfl, f, rfl, hf⟩ kk
        have e44 : (ev_set h1 44 (aL 40 f)).1[44]? = some (aL 40 f) := g_eq f5
        have e29 : (ev_set h1 44 (aL 40 f)).1[29]? = some (aI 40 (dep K S)) := by rw [g_ne (by decide)]; exact f4
        have e28 : (ev_set h1 44 (aL 40 f)).1[28]? = some (.inr (8, [.ref 1, .ref 10, .ref 29])) := by rw [g_ne (by decide)]; exact f3
        have eK : Sk (ev_set h1 44 (aL 40 f)) K := f1.set (by decide)
        have eS : St (ev_set h1 44 (aL 40 f)) a S := f2.set (by omega)
        have dd := dr i
        unfold aL at e44
        refine n_go f_138_62 rfl (pc' := 64) rfl ?_
        refine n_bip (m := 40) f_138_64 rfl (by decide) ?_
        refine n_ic_ge f_138_66 rfl rfl ⟨by omega, by omega⟩ (fun e9 => absurd e9 (by omega)) (fun _ => ?_)
        refine n_go f_138_69 rfl (pc' := 71) rfl ?_
        refine n_go f_138_71 rfl (pc' := 72) rfl ?_
        refine n_aln f_138_72 rfl (by assumption) rfl (by unfold ev_ext; omega) ?_
        refine n_ic_ge f_138_73 rfl rfl ⟨by omega, by omega⟩ (fun e9 => absurd e9 (by omega)) (fun _ => ?_)
        refine n_go f_138_76 rfl (pc' := 77) rfl ?_
        refine n_gf f_138_77 rfl (by assumption) rfl ?_
        refine n_go f_138_80 rfl (pc' := 82) rfl ?_
        refine n_ial f_138_82 rfl (by assumption) (by unfold ev_ext; omega) (by omega) ?_
        refine n_go f_138_83 rfl (pc' := 85) rfl ?_
        refine n_ic_ne f_138_85 rfl rfl ⟨by omega, by omega⟩ (fun e => ?_) (fun e => ?_)
        · refine n_iinc (m' := 1) (ls' := [_, _, _, _, _, _, _]) f_138_101 rfl rfl rfl rfl ?_
          refine n_go f_138_104 rfl (pc' := 62) rfl ?_
          exact kk _ _ _ ⟨rfl, rfl, f, rfl, fun n q1 q2 q3 => hf n q1 q2 (by
            rcases q3 with q3 | q3
            · exact Or.inl q3
            · by_cases hn : n = i
              · subst hn; omega
              · exact Or.inr ⟨q3.1, by omega⟩)⟩
        refine n_go f_138_88 rfl (pc' := 89) rfl ?_
        refine n_go f_138_89 rfl (pc' := 91) rfl ?_
        refine n_go f_138_91 rfl (pc' := 92) rfl ?_
        refine n_go f_138_92 rfl (pc' := 93) rfl ?_
        refine n_go f_138_93 rfl (pc' := 95) rfl ?_
        refine n_go f_138_95 rfl (pc' := 96) rfl ?_
        refine n_go f_138_96 rfl (pc' := 97) rfl ?_
        refine n_cv (ls' := [_, _, _, _, _, _, _, _, _, _]) f_138_97 (by decide) m_175 rfl rfl (by assumption) rfl ?_
        refine c_printOf eK eS e28 (g_eq f5) ⟨g1, g2⟩ ?_
        show En V _ 138 100 _ [_, _, _] _ _
        refine n_las f_138_100 rfl (g_eq f5) (by omega) ?_
        refine n_iinc (m' := 1) (ls' := [_, _, _, _, _, _, _]) f_138_101 rfl rfl rfl rfl ?_
        refine n_go f_138_104 rfl (pc' := 62) rfl ?_
        refine kk _ _ _ ⟨rfl, rfl, uz f i (npr K S f i), by rw [g_ss], fun n q1 q2 q3 => ?_⟩
        have hc : ∀ n, 0 ≤ n → n < 40 → (m : Int) ≤ dep K S n → npr K S (uz f i (npr K S f i)) n = npr K S f n := by
          intro n q1 q2 q3
          refine npr_c (fun j r1 r2 r3 => uz_ne _ _ (fun e9 => ?_))
          have := hd n j q1 q2 (by omega) r1 r2 r3
          rw [e9] at this
          omega
        by_cases hn : n = i
        · subst hn
          rw [uz_same, hc n q1 q2 (by omega)]
        · rw [uz_ne _ _ hn, hc n q1 q2 (by omega)]
          exact hf n q1 q2 (by omega)
      · rintro ls st h' ⟨rfl, rfl, f, rfl, hf⟩
        refine n_go f_138_62 rfl (pc' := 64) rfl ?_
        refine n_bip (m := 40) f_138_64 rfl (by decide) ?_
        refine n_ic_ge f_138_66 rfl rfl ⟨by omega, by omega⟩ (fun _ => ?_) (fun e9 => absurd (by omega) e9)
        refine n_iinc (m' := (-1)) (ls' := [_, _, _, _, _, _, _]) f_138_107 rfl rfl rfl rfl ?_
        refine n_go f_138_110 rfl (pc' := 54) rfl ?_
        exact ih f _ (by omega) (fun n q1 q2 q3 => hf n q1 q2 (by omega)) hx u'
  have := key (m + 1).toNat f0 none (by omega) (fun n g1 g2 g3 => absurd (m3 n g1 g2) (by omega)) ⟨_, f5⟩ m
  rw [show (((m + 1).toNat : Nat) : Int) - 1 = m by omega, g_sf f5] at this
  exact this
theorem c_rootPrint (hK : Sk h K) (hS : St h a S) (ha : a + 5 < 28 ∨ 44 < a ∨ (29 < a ∧ a + 5 < 44)) (h0 : ∃ nb, h.1[0]? = some (.inr (0, [.ref 1, .ref 10, .ref 12, .ref 23, .ref 25, .ref 28, .ref 30, .ref 36, .ref 37, .int nb, .ref 38, .ref 44]))) (h28 : h.1[28]? = some (.inr (8, [.ref 1, .ref 10, .ref 29]))) (h29 : h.1[29]? = some (aI 40 t0)) (hp : h.1[44]? = some (aL 40 f0)) (hd : deeper K S) (KK : ∀ t f, (∀ n, 0 ≤ n → n < 40 → 0 ≤ dep K S n → f n = npr K S f n) → P (.inl (some (.long (f 0)))) (ev_set (ev_set h 29 (aI 40 t)) 44 (aL 40 f))) : En V (d + 5) 89 0 [some (.ref 0), some (.ref a)] [] h P := by
  obtain ⟨nb, h0⟩ := h0
  refine n_go f_89_0 rfl (pc' := 1) rfl ?_
  refine n_gf f_89_1 rfl (by assumption) rfl ?_
  refine n_go f_89_4 rfl (pc' := 5) rfl ?_
  refine n_go f_89_5 rfl (pc' := 6) (st' := .int (iI 0) :: _) rfl ?_
  refine n_go f_89_6 rfl (pc' := 7) rfl ?_
  refine n_gf f_89_7 rfl (by assumption) rfl ?_
  refine n_cv (ls' := [_, _, _, _, _, _, _]) f_89_10 (by decide) m_138 rfl rfl (by assumption) rfl ?_
  refine c_fillP hK hS ha h28 h29 hp hd (fun t f hf => ?_)
  show En V _ _ 13 _ [] _ _
  have e0 : (ev_set (ev_set h 29 (aI 40 t)) 44 (aL 40 f)).1[0]? = _ := (g_ne (by decide)).trans ((g_ne (by decide)).trans h0)
  have e44 : (ev_set (ev_set h 29 (aI 40 t)) 44 (aL 40 f)).1[44]? = some (aL 40 f) := g_eq (by rw [g_ne (by decide)]; exact hp)
  refine n_go f_89_13 rfl (pc' := 14) rfl ?_
  refine n_gf f_89_14 rfl (by assumption) rfl ?_
  refine n_go f_89_17 rfl (pc' := 18) (st' := .int (iI 0) :: _) rfl ?_
  refine n_lal f_89_18 rfl (by assumption) (by omega) ?_
  refine n_ret f_89_19 rfl rfl ?_
  exact KK t f hf
end CF
