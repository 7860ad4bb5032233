/-! Every method has all that it must have. -/
theorem ns_of (k : Nat) {ks : List Nat} {E : String} {T : u_T} {N : Nat} (hk : k ∈ [11, 12, 13, 14]) (hks : ∀ k' ∈ ks, k' ∈ [11, 12, 13, 14]) (hE : fx_kl[k]? = some (E, T, N)) : ∀ (k' : Nat) (E' : String) (T' : u_T) (N' : Nat), k' ∈ ks → k' ≠ k → fx_kl[k']? = some (E', T', N') → (E', E) ∈ fx_Ns := by
  intro k' E' T' N' h1 h2 h3
  refine ns_all k hk k' (hks k' h1) h2 E ?_ E' ?_
  · rw [List.getElem?_map, hE]; rfl
  · rw [List.getElem?_map, h3]; rfl
theorem find_mem {c : ev_M} {pc : Nat} {I : ev_I} (h : ev_find c pc = some I) : (pc, I) ∈ c := by
  induction c with
  | nil => cases h
  | cons e r ih =>
    obtain ⟨k, i⟩ := e
    have h : (if k = pc then some i else ev_find r pc) = some I := h
    by_cases hk : k = pc
    · rw [if_pos hk] at h
      cases h
      rw [hk]
      exact List.mem_cons_self
    · rw [if_neg hk] at h
      exact List.mem_cons_of_mem _ (ih h)
def fx_dc (b : ByteArray) (e : Nat × ev_I) : Bool := decide (decode b e.1 = .ok (e.2.1, e.2.2.1)) && (decide (e.2.2.1 = ev_len e.2.1) || ev_isw e.2.1)
theorem md_app {l : List (Nat × ev_I)} {f : Nat × ev_I → Bool} (n : Nat) (h1 : (l.take n).all f = true) (h2 : (l.drop n).all f = true) : l.all f = true := by
  rw [← List.take_append_drop n l, List.all_append, h1, h2]
  rfl
theorem mok_of {q : ev_Q} (h1 : plainName q.1.cls = true ∨ (plainFor q.1 = true ∧ q.2.2.2.2.1 = [])) (h2 : eh_hk fx_kl fx_Ts fx_Bs fx_Ns q.1.cls q.2.2.2.2.1 q.2.2.2.2.2.1) (h3 : q.2.2.1 ≤ 80) (h4 : q.1.cls ≠ "java/lang/invoke/MethodHandle" ∧ q.1.cls ≠ "java/lang/invoke/VarHandle")
    (h5 : q.2.2.2.2.2.2.all (fx_dc q.2.1) = true) (h6 : ∀ e ∈ q.2.2.2.2.2.2, fx_S q.1.cls q.1.name q.2.1 e) : eh_mok fx_kl fx_Ts fx_Bs fx_Ss fx_Ns fx_dft fx_mt q := by
  refine ⟨h1, h2, h3, h4, fun pc I hI => ?_⟩
  have hm := find_mem hI
  have h7 := List.all_eq_true.mp h5 _ hm
  simp only [fx_dc, Bool.and_eq_true, Bool.or_eq_true, decide_eq_true_eq] at h7
  exact ⟨h7.1, h7.2, h6 _ hm⟩
theorem mh_0 : eh_hk fx_kl fx_Ts fx_Bs fx_Ns "ThreewayleafLaw" mq_0.2.2.2.2.1 mq_0.2.2.2.2.2.1 := fun j _ _ hx => by cases hx
theorem mh_1 : eh_hk fx_kl fx_Ts fx_Bs fx_Ns "Threewayleaf" mq_1.2.2.2.2.1 mq_1.2.2.2.2.2.1 := fun j _ _ hx => by cases hx
theorem mh_2 : eh_hk fx_kl fx_Ts fx_Bs fx_Ns "ThreewayleafLaw" mq_2.2.2.2.2.1 mq_2.2.2.2.2.2.1 := fun j _ _ hx => by cases hx
theorem mh_3 : eh_hk fx_kl fx_Ts fx_Bs fx_Ns "ThreewayleafLaw" mq_3.2.2.2.2.1 mq_3.2.2.2.2.2.1 := fun j _ _ hx => by cases hx
theorem mh_4 : eh_hk fx_kl fx_Ts fx_Bs fx_Ns "ThreewayleafLaw" mq_4.2.2.2.2.1 mq_4.2.2.2.2.2.1 := fun j _ _ hx => by cases hx
theorem mh_5 : eh_hk fx_kl fx_Ts fx_Bs fx_Ns "ThreewayleafLaw" mq_5.2.2.2.2.1 mq_5.2.2.2.2.2.1 := fun j _ _ hx => by cases hx
theorem mh_6 : eh_hk fx_kl fx_Ts fx_Bs fx_Ns "ThreewayleafLaw" mq_6.2.2.2.2.1 mq_6.2.2.2.2.2.1 := by
  intro j x k hx hk
  match j, x, k, hx, hk with
  | 0, _, _, hx, hk => cases hx; cases hk; exact ⟨by decide, "java/util/NoSuchElementException", ct_14, 0, rfl, kf_236, (List.mem_of_getElem? (i := 13) rfl), ns_of 14 (by decide) (by decide) rfl⟩
  | 1, _, _, hx, hk => cases hx; cases hk; exact ⟨by decide, "java/lang/IndexOutOfBoundsException", ct_11, 0, rfl, kf_237, (List.mem_of_getElem? (i := 4) rfl), ns_of 11 (by decide) (by decide) rfl⟩
  | 2, _, _, hx, hk => cases hx; cases hk; exact ⟨by decide, "java/lang/IllegalArgumentException", ct_12, 0, rfl, kf_238, (List.mem_of_getElem? (i := 11) rfl), ns_of 12 (by decide) (by decide) rfl⟩
  | 3, _, _, hx, hk => cases hx; cases hk; exact ⟨by decide, "java/lang/IllegalStateException", ct_13, 0, rfl, kf_239, (List.mem_of_getElem? (i := 12) rfl), ns_of 13 (by decide) (by decide) rfl⟩
  | j + 4, _, _, hx, _ => cases hx
theorem mh_7 : eh_hk fx_kl fx_Ts fx_Bs fx_Ns "ThreewayleafLaw" mq_7.2.2.2.2.1 mq_7.2.2.2.2.2.1 := fun j _ _ hx => by cases hx
theorem mh_8 : eh_hk fx_kl fx_Ts fx_Bs fx_Ns "ThreewayleafLaw" mq_8.2.2.2.2.1 mq_8.2.2.2.2.2.1 := fun j _ _ hx => by cases hx
theorem mh_9 : eh_hk fx_kl fx_Ts fx_Bs fx_Ns "ThreewayleafLaw" mq_9.2.2.2.2.1 mq_9.2.2.2.2.2.1 := fun j _ _ hx => by cases hx
theorem mh_10 : eh_hk fx_kl fx_Ts fx_Bs fx_Ns "ThreewayleafLaw" mq_10.2.2.2.2.1 mq_10.2.2.2.2.2.1 := fun j _ _ hx => by cases hx
theorem mh_11 : eh_hk fx_kl fx_Ts fx_Bs fx_Ns "ThreewayleafLaw" mq_11.2.2.2.2.1 mq_11.2.2.2.2.2.1 := fun j _ _ hx => by cases hx
theorem mh_12 : eh_hk fx_kl fx_Ts fx_Bs fx_Ns "ThreewayleafLaw" mq_12.2.2.2.2.1 mq_12.2.2.2.2.2.1 := fun j _ _ hx => by cases hx
theorem mh_13 : eh_hk fx_kl fx_Ts fx_Bs fx_Ns "Threewayleaf" mq_13.2.2.2.2.1 mq_13.2.2.2.2.2.1 := fun j _ _ hx => by cases hx
theorem mh_14 : eh_hk fx_kl fx_Ts fx_Bs fx_Ns "ThreewayleafLaw" mq_14.2.2.2.2.1 mq_14.2.2.2.2.2.1 := fun j _ _ hx => by cases hx
theorem mh_15 : eh_hk fx_kl fx_Ts fx_Bs fx_Ns "Threewayleaf" mq_15.2.2.2.2.1 mq_15.2.2.2.2.2.1 := fun j _ _ hx => by cases hx
theorem mh_16 : eh_hk fx_kl fx_Ts fx_Bs fx_Ns "Threewayleaf" mq_16.2.2.2.2.1 mq_16.2.2.2.2.2.1 := fun j _ _ hx => by cases hx
theorem mh_17 : eh_hk fx_kl fx_Ts fx_Bs fx_Ns "ThreewayleafLaw" mq_17.2.2.2.2.1 mq_17.2.2.2.2.2.1 := fun j _ _ hx => by cases hx
theorem mh_18 : eh_hk fx_kl fx_Ts fx_Bs fx_Ns "Threewayleaf$Stock" mq_18.2.2.2.2.1 mq_18.2.2.2.2.2.1 := fun j _ _ hx => by cases hx
theorem mh_19 : eh_hk fx_kl fx_Ts fx_Bs fx_Ns "Threewayleaf$Look" mq_19.2.2.2.2.1 mq_19.2.2.2.2.2.1 := fun j _ _ hx => by cases hx
theorem mh_20 : eh_hk fx_kl fx_Ts fx_Bs fx_Ns "Threewayleaf$History" mq_20.2.2.2.2.1 mq_20.2.2.2.2.2.1 := fun j _ _ hx => by cases hx
theorem mh_21 : eh_hk fx_kl fx_Ts fx_Bs fx_Ns "Threewayleaf$BaseFinder" mq_21.2.2.2.2.1 mq_21.2.2.2.2.2.1 := fun j _ _ hx => by cases hx
theorem mh_22 : eh_hk fx_kl fx_Ts fx_Bs fx_Ns "Threewayleaf$Script" mq_22.2.2.2.2.1 mq_22.2.2.2.2.2.1 := fun j _ _ hx => by cases hx
theorem mh_23 : eh_hk fx_kl fx_Ts fx_Bs fx_Ns "Threewayleaf$Printer" mq_23.2.2.2.2.1 mq_23.2.2.2.2.2.1 := fun j _ _ hx => by cases hx
theorem mh_24 : eh_hk fx_kl fx_Ts fx_Bs fx_Ns "Threewayleaf$Matcher" mq_24.2.2.2.2.1 mq_24.2.2.2.2.2.1 := fun j _ _ hx => by cases hx
theorem mh_25 : eh_hk fx_kl fx_Ts fx_Bs fx_Ns "Threewayleaf$State" mq_25.2.2.2.2.1 mq_25.2.2.2.2.2.1 := fun j _ _ hx => by cases hx
theorem mh_26 : eh_hk fx_kl fx_Ts fx_Bs fx_Ns "Threewayleaf$State" mq_26.2.2.2.2.1 mq_26.2.2.2.2.2.1 := fun j _ _ hx => by cases hx
theorem mh_27 : eh_hk fx_kl fx_Ts fx_Bs fx_Ns "Threewayleaf$History" mq_27.2.2.2.2.1 mq_27.2.2.2.2.2.1 := fun j _ _ hx => by cases hx
theorem mh_28 : eh_hk fx_kl fx_Ts fx_Bs fx_Ns "Threewayleaf$State" mq_28.2.2.2.2.1 mq_28.2.2.2.2.2.1 := fun j _ _ hx => by cases hx
theorem mh_29 : eh_hk fx_kl fx_Ts fx_Bs fx_Ns "Threewayleaf" mq_29.2.2.2.2.1 mq_29.2.2.2.2.2.1 := fun j _ _ hx => by cases hx
theorem mh_30 : eh_hk fx_kl fx_Ts fx_Bs fx_Ns "Threewayleaf" mq_30.2.2.2.2.1 mq_30.2.2.2.2.2.1 := fun j _ _ hx => by cases hx
theorem mh_31 : eh_hk fx_kl fx_Ts fx_Bs fx_Ns "ThreewayleafLaw" mq_31.2.2.2.2.1 mq_31.2.2.2.2.2.1 := fun j _ _ hx => by cases hx
theorem mh_32 : eh_hk fx_kl fx_Ts fx_Bs fx_Ns "Threewayleaf" mq_32.2.2.2.2.1 mq_32.2.2.2.2.2.1 := fun j _ _ hx => by cases hx
theorem mh_33 : eh_hk fx_kl fx_Ts fx_Bs fx_Ns "Threewayleaf" mq_33.2.2.2.2.1 mq_33.2.2.2.2.2.1 := fun j _ _ hx => by cases hx
theorem mh_34 : eh_hk fx_kl fx_Ts fx_Bs fx_Ns "ThreewayleafLaw" mq_34.2.2.2.2.1 mq_34.2.2.2.2.2.1 := fun j _ _ hx => by cases hx
theorem mh_35 : eh_hk fx_kl fx_Ts fx_Bs fx_Ns "Threewayleaf" mq_35.2.2.2.2.1 mq_35.2.2.2.2.2.1 := fun j _ _ hx => by cases hx
theorem mh_36 : eh_hk fx_kl fx_Ts fx_Bs fx_Ns "Threewayleaf" mq_36.2.2.2.2.1 mq_36.2.2.2.2.2.1 := fun j _ _ hx => by cases hx
theorem mh_37 : eh_hk fx_kl fx_Ts fx_Bs fx_Ns "Threewayleaf" mq_37.2.2.2.2.1 mq_37.2.2.2.2.2.1 := fun j _ _ hx => by cases hx
theorem mh_38 : eh_hk fx_kl fx_Ts fx_Bs fx_Ns "ThreewayleafLaw" mq_38.2.2.2.2.1 mq_38.2.2.2.2.2.1 := fun j _ _ hx => by cases hx
theorem mh_39 : eh_hk fx_kl fx_Ts fx_Bs fx_Ns "ThreewayleafLaw" mq_39.2.2.2.2.1 mq_39.2.2.2.2.2.1 := fun j _ _ hx => by cases hx
theorem mh_40 : eh_hk fx_kl fx_Ts fx_Bs fx_Ns "ThreewayleafLaw" mq_40.2.2.2.2.1 mq_40.2.2.2.2.2.1 := fun j _ _ hx => by cases hx
theorem mh_41 : eh_hk fx_kl fx_Ts fx_Bs fx_Ns "ThreewayleafLaw" mq_41.2.2.2.2.1 mq_41.2.2.2.2.2.1 := fun j _ _ hx => by cases hx
theorem mh_42 : eh_hk fx_kl fx_Ts fx_Bs fx_Ns "Threewayleaf" mq_42.2.2.2.2.1 mq_42.2.2.2.2.2.1 := fun j _ _ hx => by cases hx
theorem mh_43 : eh_hk fx_kl fx_Ts fx_Bs fx_Ns "Threewayleaf" mq_43.2.2.2.2.1 mq_43.2.2.2.2.2.1 := fun j _ _ hx => by cases hx
theorem mh_44 : eh_hk fx_kl fx_Ts fx_Bs fx_Ns "ThreewayleafLaw" mq_44.2.2.2.2.1 mq_44.2.2.2.2.2.1 := fun j _ _ hx => by cases hx
theorem mh_45 : eh_hk fx_kl fx_Ts fx_Bs fx_Ns "Threewayleaf" mq_45.2.2.2.2.1 mq_45.2.2.2.2.2.1 := fun j _ _ hx => by cases hx
theorem mh_46 : eh_hk fx_kl fx_Ts fx_Bs fx_Ns "Threewayleaf" mq_46.2.2.2.2.1 mq_46.2.2.2.2.2.1 := fun j _ _ hx => by cases hx
theorem mh_47 : eh_hk fx_kl fx_Ts fx_Bs fx_Ns "Threewayleaf" mq_47.2.2.2.2.1 mq_47.2.2.2.2.2.1 := fun j _ _ hx => by cases hx
theorem mh_48 : eh_hk fx_kl fx_Ts fx_Bs fx_Ns "Threewayleaf" mq_48.2.2.2.2.1 mq_48.2.2.2.2.2.1 := fun j _ _ hx => by cases hx
theorem mh_49 : eh_hk fx_kl fx_Ts fx_Bs fx_Ns "ThreewayleafLaw" mq_49.2.2.2.2.1 mq_49.2.2.2.2.2.1 := fun j _ _ hx => by cases hx
theorem mh_50 : eh_hk fx_kl fx_Ts fx_Bs fx_Ns "Threewayleaf" mq_50.2.2.2.2.1 mq_50.2.2.2.2.2.1 := fun j _ _ hx => by cases hx
theorem mh_51 : eh_hk fx_kl fx_Ts fx_Bs fx_Ns "Threewayleaf" mq_51.2.2.2.2.1 mq_51.2.2.2.2.2.1 := fun j _ _ hx => by cases hx
theorem mh_52 : eh_hk fx_kl fx_Ts fx_Bs fx_Ns "Threewayleaf" mq_52.2.2.2.2.1 mq_52.2.2.2.2.2.1 := fun j _ _ hx => by cases hx
theorem mh_53 : eh_hk fx_kl fx_Ts fx_Bs fx_Ns "Threewayleaf" mq_53.2.2.2.2.1 mq_53.2.2.2.2.2.1 := fun j _ _ hx => by cases hx
theorem mh_54 : eh_hk fx_kl fx_Ts fx_Bs fx_Ns "Threewayleaf" mq_54.2.2.2.2.1 mq_54.2.2.2.2.2.1 := fun j _ _ hx => by cases hx
theorem mh_55 : eh_hk fx_kl fx_Ts fx_Bs fx_Ns "Threewayleaf" mq_55.2.2.2.2.1 mq_55.2.2.2.2.2.1 := fun j _ _ hx => by cases hx
theorem mh_56 : eh_hk fx_kl fx_Ts fx_Bs fx_Ns "Threewayleaf$Script" mq_56.2.2.2.2.1 mq_56.2.2.2.2.2.1 := fun j _ _ hx => by cases hx
theorem mh_57 : eh_hk fx_kl fx_Ts fx_Bs fx_Ns "Threewayleaf$Script" mq_57.2.2.2.2.1 mq_57.2.2.2.2.2.1 := fun j _ _ hx => by cases hx
theorem mh_58 : eh_hk fx_kl fx_Ts fx_Bs fx_Ns "ThreewayleafLaw" mq_58.2.2.2.2.1 mq_58.2.2.2.2.2.1 := fun j _ _ hx => by cases hx
theorem mh_59 : eh_hk fx_kl fx_Ts fx_Bs fx_Ns "Threewayleaf" mq_59.2.2.2.2.1 mq_59.2.2.2.2.2.1 := fun j _ _ hx => by cases hx
theorem mh_60 : eh_hk fx_kl fx_Ts fx_Bs fx_Ns "Threewayleaf$History" mq_60.2.2.2.2.1 mq_60.2.2.2.2.2.1 := fun j _ _ hx => by cases hx
theorem mh_61 : eh_hk fx_kl fx_Ts fx_Bs fx_Ns "Threewayleaf" mq_61.2.2.2.2.1 mq_61.2.2.2.2.2.1 := fun j _ _ hx => by cases hx
theorem mh_62 : eh_hk fx_kl fx_Ts fx_Bs fx_Ns "Threewayleaf" mq_62.2.2.2.2.1 mq_62.2.2.2.2.2.1 := fun j _ _ hx => by cases hx
theorem mh_63 : eh_hk fx_kl fx_Ts fx_Bs fx_Ns "java/util/ArrayList" mq_63.2.2.2.2.1 mq_63.2.2.2.2.2.1 := fun j _ _ hx => by cases hx
theorem mh_64 : eh_hk fx_kl fx_Ts fx_Bs fx_Ns "java/util/Arrays" mq_64.2.2.2.2.1 mq_64.2.2.2.2.2.1 := fun j _ _ hx => by cases hx
theorem mh_65 : eh_hk fx_kl fx_Ts fx_Bs fx_Ns "Threewayleaf$State" mq_65.2.2.2.2.1 mq_65.2.2.2.2.2.1 := fun j _ _ hx => by cases hx
theorem mh_66 : eh_hk fx_kl fx_Ts fx_Bs fx_Ns "java/util/ArrayList" mq_66.2.2.2.2.1 mq_66.2.2.2.2.2.1 := fun j _ _ hx => by cases hx
theorem mh_67 : eh_hk fx_kl fx_Ts fx_Bs fx_Ns "Threewayleaf$History" mq_67.2.2.2.2.1 mq_67.2.2.2.2.2.1 := fun j _ _ hx => by cases hx
theorem mh_68 : eh_hk fx_kl fx_Ts fx_Bs fx_Ns "java/util/ArrayList" mq_68.2.2.2.2.1 mq_68.2.2.2.2.2.1 := fun j _ _ hx => by cases hx
theorem mh_69 : eh_hk fx_kl fx_Ts fx_Bs fx_Ns "Threewayleaf$History" mq_69.2.2.2.2.1 mq_69.2.2.2.2.2.1 := fun j _ _ hx => by cases hx
theorem mh_70 : eh_hk fx_kl fx_Ts fx_Bs fx_Ns "Threewayleaf" mq_70.2.2.2.2.1 mq_70.2.2.2.2.2.1 := fun j _ _ hx => by cases hx
theorem mh_71 : eh_hk fx_kl fx_Ts fx_Bs fx_Ns "Threewayleaf" mq_71.2.2.2.2.1 mq_71.2.2.2.2.2.1 := fun j _ _ hx => by cases hx
theorem mh_72 : eh_hk fx_kl fx_Ts fx_Bs fx_Ns "Threewayleaf" mq_72.2.2.2.2.1 mq_72.2.2.2.2.2.1 := fun j _ _ hx => by cases hx
theorem mh_73 : eh_hk fx_kl fx_Ts fx_Bs fx_Ns "Threewayleaf" mq_73.2.2.2.2.1 mq_73.2.2.2.2.2.1 := fun j _ _ hx => by cases hx
theorem mh_74 : eh_hk fx_kl fx_Ts fx_Bs fx_Ns "Threewayleaf" mq_74.2.2.2.2.1 mq_74.2.2.2.2.2.1 := fun j _ _ hx => by cases hx
theorem mh_75 : eh_hk fx_kl fx_Ts fx_Bs fx_Ns "Threewayleaf" mq_75.2.2.2.2.1 mq_75.2.2.2.2.2.1 := fun j _ _ hx => by cases hx
theorem mh_76 : eh_hk fx_kl fx_Ts fx_Bs fx_Ns "ThreewayleafLaw" mq_76.2.2.2.2.1 mq_76.2.2.2.2.2.1 := fun j _ _ hx => by cases hx
theorem mh_77 : eh_hk fx_kl fx_Ts fx_Bs fx_Ns "Threewayleaf" mq_77.2.2.2.2.1 mq_77.2.2.2.2.2.1 := fun j _ _ hx => by cases hx
theorem mh_78 : eh_hk fx_kl fx_Ts fx_Bs fx_Ns "Threewayleaf" mq_78.2.2.2.2.1 mq_78.2.2.2.2.2.1 := fun j _ _ hx => by cases hx
theorem mh_79 : eh_hk fx_kl fx_Ts fx_Bs fx_Ns "Threewayleaf" mq_79.2.2.2.2.1 mq_79.2.2.2.2.2.1 := fun j _ _ hx => by cases hx
theorem mh_80 : eh_hk fx_kl fx_Ts fx_Bs fx_Ns "Threewayleaf" mq_80.2.2.2.2.1 mq_80.2.2.2.2.2.1 := fun j _ _ hx => by cases hx
theorem mh_81 : eh_hk fx_kl fx_Ts fx_Bs fx_Ns "Threewayleaf" mq_81.2.2.2.2.1 mq_81.2.2.2.2.2.1 := fun j _ _ hx => by cases hx
theorem mh_82 : eh_hk fx_kl fx_Ts fx_Bs fx_Ns "Threewayleaf" mq_82.2.2.2.2.1 mq_82.2.2.2.2.2.1 := fun j _ _ hx => by cases hx
theorem mh_83 : eh_hk fx_kl fx_Ts fx_Bs fx_Ns "Threewayleaf$History" mq_83.2.2.2.2.1 mq_83.2.2.2.2.2.1 := fun j _ _ hx => by cases hx
theorem mh_84 : eh_hk fx_kl fx_Ts fx_Bs fx_Ns "Threewayleaf$History" mq_84.2.2.2.2.1 mq_84.2.2.2.2.2.1 := fun j _ _ hx => by cases hx
theorem mh_85 : eh_hk fx_kl fx_Ts fx_Bs fx_Ns "java/lang/Long" mq_85.2.2.2.2.1 mq_85.2.2.2.2.2.1 := fun j _ _ hx => by cases hx
theorem mh_86 : eh_hk fx_kl fx_Ts fx_Bs fx_Ns "ThreewayleafLaw" mq_86.2.2.2.2.1 mq_86.2.2.2.2.2.1 := fun j _ _ hx => by cases hx
theorem mh_87 : eh_hk fx_kl fx_Ts fx_Bs fx_Ns "Threewayleaf" mq_87.2.2.2.2.1 mq_87.2.2.2.2.2.1 := fun j _ _ hx => by cases hx
theorem mh_88 : eh_hk fx_kl fx_Ts fx_Bs fx_Ns "Threewayleaf$Look" mq_88.2.2.2.2.1 mq_88.2.2.2.2.2.1 := fun j _ _ hx => by cases hx
theorem mh_89 : eh_hk fx_kl fx_Ts fx_Bs fx_Ns "Threewayleaf" mq_89.2.2.2.2.1 mq_89.2.2.2.2.2.1 := fun j _ _ hx => by cases hx
theorem mh_90 : eh_hk fx_kl fx_Ts fx_Bs fx_Ns "Threewayleaf$BaseFinder" mq_90.2.2.2.2.1 mq_90.2.2.2.2.2.1 := fun j _ _ hx => by cases hx
theorem mh_91 : eh_hk fx_kl fx_Ts fx_Bs fx_Ns "Threewayleaf$Join" mq_91.2.2.2.2.1 mq_91.2.2.2.2.2.1 := fun j _ _ hx => by cases hx
theorem mh_92 : eh_hk fx_kl fx_Ts fx_Bs fx_Ns "Threewayleaf$Join" mq_92.2.2.2.2.1 mq_92.2.2.2.2.2.1 := fun j _ _ hx => by cases hx
theorem mh_93 : eh_hk fx_kl fx_Ts fx_Bs fx_Ns "Threewayleaf$Look" mq_93.2.2.2.2.1 mq_93.2.2.2.2.2.1 := fun j _ _ hx => by cases hx
theorem mh_94 : eh_hk fx_kl fx_Ts fx_Bs fx_Ns "Threewayleaf" mq_94.2.2.2.2.1 mq_94.2.2.2.2.2.1 := fun j _ _ hx => by cases hx
theorem mh_95 : eh_hk fx_kl fx_Ts fx_Bs fx_Ns "Threewayleaf$Look" mq_95.2.2.2.2.1 mq_95.2.2.2.2.2.1 := fun j _ _ hx => by cases hx
theorem mh_96 : eh_hk fx_kl fx_Ts fx_Bs fx_Ns "Threewayleaf" mq_96.2.2.2.2.1 mq_96.2.2.2.2.2.1 := fun j _ _ hx => by cases hx
theorem mh_97 : eh_hk fx_kl fx_Ts fx_Bs fx_Ns "Threewayleaf$Stock" mq_97.2.2.2.2.1 mq_97.2.2.2.2.2.1 := fun j _ _ hx => by cases hx
theorem mh_98 : eh_hk fx_kl fx_Ts fx_Bs fx_Ns "Threewayleaf" mq_98.2.2.2.2.1 mq_98.2.2.2.2.2.1 := fun j _ _ hx => by cases hx
theorem mh_99 : eh_hk fx_kl fx_Ts fx_Bs fx_Ns "Threewayleaf$Stock" mq_99.2.2.2.2.1 mq_99.2.2.2.2.2.1 := fun j _ _ hx => by cases hx
theorem mh_100 : eh_hk fx_kl fx_Ts fx_Bs fx_Ns "Threewayleaf" mq_100.2.2.2.2.1 mq_100.2.2.2.2.2.1 := fun j _ _ hx => by cases hx
theorem mh_101 : eh_hk fx_kl fx_Ts fx_Bs fx_Ns "Threewayleaf" mq_101.2.2.2.2.1 mq_101.2.2.2.2.2.1 := fun j _ _ hx => by cases hx
theorem mh_102 : eh_hk fx_kl fx_Ts fx_Bs fx_Ns "Threewayleaf$Stock" mq_102.2.2.2.2.1 mq_102.2.2.2.2.2.1 := fun j _ _ hx => by cases hx
theorem mh_103 : eh_hk fx_kl fx_Ts fx_Bs fx_Ns "Threewayleaf$Stock" mq_103.2.2.2.2.1 mq_103.2.2.2.2.2.1 := fun j _ _ hx => by cases hx
theorem mh_104 : eh_hk fx_kl fx_Ts fx_Bs fx_Ns "Threewayleaf" mq_104.2.2.2.2.1 mq_104.2.2.2.2.2.1 := fun j _ _ hx => by cases hx
theorem mh_105 : eh_hk fx_kl fx_Ts fx_Bs fx_Ns "Threewayleaf" mq_105.2.2.2.2.1 mq_105.2.2.2.2.2.1 := fun j _ _ hx => by cases hx
theorem mh_106 : eh_hk fx_kl fx_Ts fx_Bs fx_Ns "Threewayleaf" mq_106.2.2.2.2.1 mq_106.2.2.2.2.2.1 := fun j _ _ hx => by cases hx
theorem mh_107 : eh_hk fx_kl fx_Ts fx_Bs fx_Ns "Threewayleaf$State" mq_107.2.2.2.2.1 mq_107.2.2.2.2.2.1 := fun j _ _ hx => by cases hx
theorem mh_108 : eh_hk fx_kl fx_Ts fx_Bs fx_Ns "Threewayleaf$Stock" mq_108.2.2.2.2.1 mq_108.2.2.2.2.2.1 := fun j _ _ hx => by cases hx
theorem mh_109 : eh_hk fx_kl fx_Ts fx_Bs fx_Ns "Threewayleaf$State" mq_109.2.2.2.2.1 mq_109.2.2.2.2.2.1 := fun j _ _ hx => by cases hx
theorem mh_110 : eh_hk fx_kl fx_Ts fx_Bs fx_Ns "Threewayleaf$Look" mq_110.2.2.2.2.1 mq_110.2.2.2.2.2.1 := fun j _ _ hx => by cases hx
theorem mh_111 : eh_hk fx_kl fx_Ts fx_Bs fx_Ns "Threewayleaf$Stock" mq_111.2.2.2.2.1 mq_111.2.2.2.2.2.1 := fun j _ _ hx => by cases hx
theorem mh_112 : eh_hk fx_kl fx_Ts fx_Bs fx_Ns "Threewayleaf$Look" mq_112.2.2.2.2.1 mq_112.2.2.2.2.2.1 := fun j _ _ hx => by cases hx
theorem mh_113 : eh_hk fx_kl fx_Ts fx_Bs fx_Ns "Threewayleaf$Stock" mq_113.2.2.2.2.1 mq_113.2.2.2.2.2.1 := fun j _ _ hx => by cases hx
theorem mh_114 : eh_hk fx_kl fx_Ts fx_Bs fx_Ns "Threewayleaf$State" mq_114.2.2.2.2.1 mq_114.2.2.2.2.2.1 := fun j _ _ hx => by cases hx
theorem mh_115 : eh_hk fx_kl fx_Ts fx_Bs fx_Ns "Threewayleaf" mq_115.2.2.2.2.1 mq_115.2.2.2.2.2.1 := fun j _ _ hx => by cases hx
theorem mh_116 : eh_hk fx_kl fx_Ts fx_Bs fx_Ns "Threewayleaf$Stock" mq_116.2.2.2.2.1 mq_116.2.2.2.2.2.1 := fun j _ _ hx => by cases hx
theorem mh_117 : eh_hk fx_kl fx_Ts fx_Bs fx_Ns "Threewayleaf" mq_117.2.2.2.2.1 mq_117.2.2.2.2.2.1 := fun j _ _ hx => by cases hx
theorem mh_118 : eh_hk fx_kl fx_Ts fx_Bs fx_Ns "Threewayleaf$History" mq_118.2.2.2.2.1 mq_118.2.2.2.2.2.1 := fun j _ _ hx => by cases hx
theorem mh_119 : eh_hk fx_kl fx_Ts fx_Bs fx_Ns "Threewayleaf" mq_119.2.2.2.2.1 mq_119.2.2.2.2.2.1 := fun j _ _ hx => by cases hx
theorem mh_120 : eh_hk fx_kl fx_Ts fx_Bs fx_Ns "Threewayleaf" mq_120.2.2.2.2.1 mq_120.2.2.2.2.2.1 := fun j _ _ hx => by cases hx
theorem mh_121 : eh_hk fx_kl fx_Ts fx_Bs fx_Ns "Threewayleaf$History" mq_121.2.2.2.2.1 mq_121.2.2.2.2.2.1 := fun j _ _ hx => by cases hx
theorem mh_122 : eh_hk fx_kl fx_Ts fx_Bs fx_Ns "Threewayleaf$Look" mq_122.2.2.2.2.1 mq_122.2.2.2.2.2.1 := fun j _ _ hx => by cases hx
theorem mh_123 : eh_hk fx_kl fx_Ts fx_Bs fx_Ns "Threewayleaf$Script" mq_123.2.2.2.2.1 mq_123.2.2.2.2.2.1 := fun j _ _ hx => by cases hx
theorem mh_124 : eh_hk fx_kl fx_Ts fx_Bs fx_Ns "Threewayleaf$Script" mq_124.2.2.2.2.1 mq_124.2.2.2.2.2.1 := fun j _ _ hx => by cases hx
theorem mh_125 : eh_hk fx_kl fx_Ts fx_Bs fx_Ns "Threewayleaf$Script" mq_125.2.2.2.2.1 mq_125.2.2.2.2.2.1 := fun j _ _ hx => by cases hx
theorem mh_126 : eh_hk fx_kl fx_Ts fx_Bs fx_Ns "Threewayleaf$History" mq_126.2.2.2.2.1 mq_126.2.2.2.2.2.1 := fun j _ _ hx => by cases hx
theorem mh_127 : eh_hk fx_kl fx_Ts fx_Bs fx_Ns "java/util/ArrayList" mq_127.2.2.2.2.1 mq_127.2.2.2.2.2.1 := fun j _ _ hx => by cases hx
theorem mh_128 : eh_hk fx_kl fx_Ts fx_Bs fx_Ns "Threewayleaf" mq_128.2.2.2.2.1 mq_128.2.2.2.2.2.1 := fun j _ _ hx => by cases hx
theorem mh_129 : eh_hk fx_kl fx_Ts fx_Bs fx_Ns "java/util/AbstractList" mq_129.2.2.2.2.1 mq_129.2.2.2.2.2.1 := fun j _ _ hx => by cases hx
theorem mh_130 : eh_hk fx_kl fx_Ts fx_Bs fx_Ns "java/util/ArrayList" mq_130.2.2.2.2.1 mq_130.2.2.2.2.2.1 := fun j _ _ hx => by cases hx
theorem mh_131 : eh_hk fx_kl fx_Ts fx_Bs fx_Ns "Threewayleaf$State" mq_131.2.2.2.2.1 mq_131.2.2.2.2.2.1 := fun j _ _ hx => by cases hx
theorem mh_132 : eh_hk fx_kl fx_Ts fx_Bs fx_Ns "Threewayleaf" mq_132.2.2.2.2.1 mq_132.2.2.2.2.2.1 := fun j _ _ hx => by cases hx
theorem mh_133 : eh_hk fx_kl fx_Ts fx_Bs fx_Ns "Threewayleaf$State" mq_133.2.2.2.2.1 mq_133.2.2.2.2.2.1 := fun j _ _ hx => by cases hx
theorem mh_134 : eh_hk fx_kl fx_Ts fx_Bs fx_Ns "Threewayleaf$Look" mq_134.2.2.2.2.1 mq_134.2.2.2.2.2.1 := fun j _ _ hx => by cases hx
theorem mh_135 : eh_hk fx_kl fx_Ts fx_Bs fx_Ns "Threewayleaf$Stock" mq_135.2.2.2.2.1 mq_135.2.2.2.2.2.1 := fun j _ _ hx => by cases hx
theorem mh_136 : eh_hk fx_kl fx_Ts fx_Bs fx_Ns "Threewayleaf$Join" mq_136.2.2.2.2.1 mq_136.2.2.2.2.2.1 := fun j _ _ hx => by cases hx
theorem mh_137 : eh_hk fx_kl fx_Ts fx_Bs fx_Ns "Threewayleaf$Look" mq_137.2.2.2.2.1 mq_137.2.2.2.2.2.1 := fun j _ _ hx => by cases hx
theorem mh_138 : eh_hk fx_kl fx_Ts fx_Bs fx_Ns "Threewayleaf$Printer" mq_138.2.2.2.2.1 mq_138.2.2.2.2.2.1 := fun j _ _ hx => by cases hx
theorem mh_139 : eh_hk fx_kl fx_Ts fx_Bs fx_Ns "Threewayleaf$Script" mq_139.2.2.2.2.1 mq_139.2.2.2.2.2.1 := fun j _ _ hx => by cases hx
theorem mh_140 : eh_hk fx_kl fx_Ts fx_Bs fx_Ns "Threewayleaf$Script" mq_140.2.2.2.2.1 mq_140.2.2.2.2.2.1 := fun j _ _ hx => by cases hx
theorem mh_141 : eh_hk fx_kl fx_Ts fx_Bs fx_Ns "Threewayleaf$Join" mq_141.2.2.2.2.1 mq_141.2.2.2.2.2.1 := fun j _ _ hx => by cases hx
theorem mh_142 : eh_hk fx_kl fx_Ts fx_Bs fx_Ns "Threewayleaf$Join" mq_142.2.2.2.2.1 mq_142.2.2.2.2.2.1 := fun j _ _ hx => by cases hx
theorem mh_143 : eh_hk fx_kl fx_Ts fx_Bs fx_Ns "Threewayleaf$Look" mq_143.2.2.2.2.1 mq_143.2.2.2.2.2.1 := fun j _ _ hx => by cases hx
theorem mh_144 : eh_hk fx_kl fx_Ts fx_Bs fx_Ns "Threewayleaf$Look" mq_144.2.2.2.2.1 mq_144.2.2.2.2.2.1 := fun j _ _ hx => by cases hx
theorem mh_145 : eh_hk fx_kl fx_Ts fx_Bs fx_Ns "Threewayleaf$Look" mq_145.2.2.2.2.1 mq_145.2.2.2.2.2.1 := fun j _ _ hx => by cases hx
theorem mh_146 : eh_hk fx_kl fx_Ts fx_Bs fx_Ns "Threewayleaf$Look" mq_146.2.2.2.2.1 mq_146.2.2.2.2.2.1 := fun j _ _ hx => by cases hx
theorem mh_147 : eh_hk fx_kl fx_Ts fx_Bs fx_Ns "Threewayleaf$State" mq_147.2.2.2.2.1 mq_147.2.2.2.2.2.1 := fun j _ _ hx => by cases hx
theorem mh_148 : eh_hk fx_kl fx_Ts fx_Bs fx_Ns "Threewayleaf$Stock" mq_148.2.2.2.2.1 mq_148.2.2.2.2.2.1 := fun j _ _ hx => by cases hx
theorem mh_149 : eh_hk fx_kl fx_Ts fx_Bs fx_Ns "Threewayleaf$Stock" mq_149.2.2.2.2.1 mq_149.2.2.2.2.2.1 := fun j _ _ hx => by cases hx
theorem mh_150 : eh_hk fx_kl fx_Ts fx_Bs fx_Ns "Threewayleaf$Stock" mq_150.2.2.2.2.1 mq_150.2.2.2.2.2.1 := fun j _ _ hx => by cases hx
theorem mh_151 : eh_hk fx_kl fx_Ts fx_Bs fx_Ns "Threewayleaf$Look" mq_151.2.2.2.2.1 mq_151.2.2.2.2.2.1 := fun j _ _ hx => by cases hx
theorem mh_152 : eh_hk fx_kl fx_Ts fx_Bs fx_Ns "Threewayleaf$State" mq_152.2.2.2.2.1 mq_152.2.2.2.2.2.1 := fun j _ _ hx => by cases hx
theorem mh_153 : eh_hk fx_kl fx_Ts fx_Bs fx_Ns "Threewayleaf$Look" mq_153.2.2.2.2.1 mq_153.2.2.2.2.2.1 := fun j _ _ hx => by cases hx
theorem mh_154 : eh_hk fx_kl fx_Ts fx_Bs fx_Ns "Threewayleaf$Stock" mq_154.2.2.2.2.1 mq_154.2.2.2.2.2.1 := fun j _ _ hx => by cases hx
theorem mh_155 : eh_hk fx_kl fx_Ts fx_Bs fx_Ns "Threewayleaf$Stock" mq_155.2.2.2.2.1 mq_155.2.2.2.2.2.1 := fun j _ _ hx => by cases hx
theorem mh_156 : eh_hk fx_kl fx_Ts fx_Bs fx_Ns "Threewayleaf$State" mq_156.2.2.2.2.1 mq_156.2.2.2.2.2.1 := fun j _ _ hx => by cases hx
theorem mh_157 : eh_hk fx_kl fx_Ts fx_Bs fx_Ns "Threewayleaf$Stock" mq_157.2.2.2.2.1 mq_157.2.2.2.2.2.1 := fun j _ _ hx => by cases hx
theorem mh_158 : eh_hk fx_kl fx_Ts fx_Bs fx_Ns "Threewayleaf" mq_158.2.2.2.2.1 mq_158.2.2.2.2.2.1 := fun j _ _ hx => by cases hx
theorem mh_159 : eh_hk fx_kl fx_Ts fx_Bs fx_Ns "Threewayleaf$Stock" mq_159.2.2.2.2.1 mq_159.2.2.2.2.2.1 := fun j _ _ hx => by cases hx
theorem mh_160 : eh_hk fx_kl fx_Ts fx_Bs fx_Ns "Threewayleaf$State" mq_160.2.2.2.2.1 mq_160.2.2.2.2.2.1 := fun j _ _ hx => by cases hx
theorem mh_161 : eh_hk fx_kl fx_Ts fx_Bs fx_Ns "Threewayleaf$Script" mq_161.2.2.2.2.1 mq_161.2.2.2.2.2.1 := fun j _ _ hx => by cases hx
theorem mh_162 : eh_hk fx_kl fx_Ts fx_Bs fx_Ns "Threewayleaf$Script" mq_162.2.2.2.2.1 mq_162.2.2.2.2.2.1 := fun j _ _ hx => by cases hx
theorem mh_163 : eh_hk fx_kl fx_Ts fx_Bs fx_Ns "Threewayleaf$State" mq_163.2.2.2.2.1 mq_163.2.2.2.2.2.1 := fun j _ _ hx => by cases hx
theorem mh_164 : eh_hk fx_kl fx_Ts fx_Bs fx_Ns "java/util/Objects" mq_164.2.2.2.2.1 mq_164.2.2.2.2.2.1 := fun j _ _ hx => by cases hx
theorem mh_165 : eh_hk fx_kl fx_Ts fx_Bs fx_Ns "java/util/ArrayList" mq_165.2.2.2.2.1 mq_165.2.2.2.2.2.1 := fun j _ _ hx => by cases hx
theorem mh_166 : eh_hk fx_kl fx_Ts fx_Bs fx_Ns "java/util/AbstractCollection" mq_166.2.2.2.2.1 mq_166.2.2.2.2.2.1 := fun j _ _ hx => by cases hx
theorem mh_167 : eh_hk fx_kl fx_Ts fx_Bs fx_Ns "java/util/ArrayList" mq_167.2.2.2.2.1 mq_167.2.2.2.2.2.1 := fun j _ _ hx => by cases hx
theorem mh_168 : eh_hk fx_kl fx_Ts fx_Bs fx_Ns "Threewayleaf$Stock" mq_168.2.2.2.2.1 mq_168.2.2.2.2.2.1 := fun j _ _ hx => by cases hx
theorem mh_169 : eh_hk fx_kl fx_Ts fx_Bs fx_Ns "Threewayleaf$Look" mq_169.2.2.2.2.1 mq_169.2.2.2.2.2.1 := fun j _ _ hx => by cases hx
theorem mh_170 : eh_hk fx_kl fx_Ts fx_Bs fx_Ns "Threewayleaf$Look" mq_170.2.2.2.2.1 mq_170.2.2.2.2.2.1 := fun j _ _ hx => by cases hx
theorem mh_171 : eh_hk fx_kl fx_Ts fx_Bs fx_Ns "Threewayleaf$Join" mq_171.2.2.2.2.1 mq_171.2.2.2.2.2.1 := fun j _ _ hx => by cases hx
theorem mh_172 : eh_hk fx_kl fx_Ts fx_Bs fx_Ns "Threewayleaf$Join" mq_172.2.2.2.2.1 mq_172.2.2.2.2.2.1 := fun j _ _ hx => by cases hx
theorem mh_173 : eh_hk fx_kl fx_Ts fx_Bs fx_Ns "Threewayleaf$Join" mq_173.2.2.2.2.1 mq_173.2.2.2.2.2.1 := fun j _ _ hx => by cases hx
theorem mh_174 : eh_hk fx_kl fx_Ts fx_Bs fx_Ns "java/lang/Math" mq_174.2.2.2.2.1 mq_174.2.2.2.2.2.1 := fun j _ _ hx => by cases hx
theorem mh_175 : eh_hk fx_kl fx_Ts fx_Bs fx_Ns "Threewayleaf$Printer" mq_175.2.2.2.2.1 mq_175.2.2.2.2.2.1 := fun j _ _ hx => by cases hx
theorem mh_176 : eh_hk fx_kl fx_Ts fx_Bs fx_Ns "Threewayleaf$State" mq_176.2.2.2.2.1 mq_176.2.2.2.2.2.1 := fun j _ _ hx => by cases hx
theorem mh_177 : eh_hk fx_kl fx_Ts fx_Bs fx_Ns "jdk/internal/util/Preconditions" mq_177.2.2.2.2.1 mq_177.2.2.2.2.2.1 := fun j _ _ hx => by cases hx
theorem mh_178 : eh_hk fx_kl fx_Ts fx_Bs fx_Ns "java/util/ArrayList" mq_178.2.2.2.2.1 mq_178.2.2.2.2.2.1 := fun j _ _ hx => by cases hx
theorem mh_179 : eh_hk fx_kl fx_Ts fx_Bs fx_Ns "Threewayleaf$Stock" mq_179.2.2.2.2.1 mq_179.2.2.2.2.2.1 := fun j _ _ hx => by cases hx
theorem mh_180 : eh_hk fx_kl fx_Ts fx_Bs fx_Ns "Threewayleaf$Stock" mq_180.2.2.2.2.1 mq_180.2.2.2.2.2.1 := fun j _ _ hx => by cases hx
theorem mh_181 : eh_hk fx_kl fx_Ts fx_Bs fx_Ns "Threewayleaf$Stock" mq_181.2.2.2.2.1 mq_181.2.2.2.2.2.1 := fun j _ _ hx => by cases hx
theorem mh_182 : eh_hk fx_kl fx_Ts fx_Bs fx_Ns "Threewayleaf$Join" mq_182.2.2.2.2.1 mq_182.2.2.2.2.2.1 := fun j _ _ hx => by cases hx
theorem mh_183 : eh_hk fx_kl fx_Ts fx_Bs fx_Ns "Threewayleaf$Join" mq_183.2.2.2.2.1 mq_183.2.2.2.2.2.1 := fun j _ _ hx => by cases hx
theorem mh_184 : eh_hk fx_kl fx_Ts fx_Bs fx_Ns "Threewayleaf$State" mq_184.2.2.2.2.1 mq_184.2.2.2.2.2.1 := fun j _ _ hx => by cases hx
theorem mh_185 : eh_hk fx_kl fx_Ts fx_Bs fx_Ns "Threewayleaf$Join" mq_185.2.2.2.2.1 mq_185.2.2.2.2.2.1 := fun j _ _ hx => by cases hx
theorem mh_186 : eh_hk fx_kl fx_Ts fx_Bs fx_Ns "Threewayleaf$Printer" mq_186.2.2.2.2.1 mq_186.2.2.2.2.2.1 := fun j _ _ hx => by cases hx
theorem mh_187 : eh_hk fx_kl fx_Ts fx_Bs fx_Ns "Threewayleaf$Printer" mq_187.2.2.2.2.1 mq_187.2.2.2.2.2.1 := fun j _ _ hx => by cases hx
theorem mh_188 : eh_hk fx_kl fx_Ts fx_Bs fx_Ns "jdk/internal/util/ArraysSupport" mq_188.2.2.2.2.1 mq_188.2.2.2.2.2.1 := fun j _ _ hx => by cases hx
theorem mh_189 : eh_hk fx_kl fx_Ts fx_Bs fx_Ns "Threewayleaf$Join" mq_189.2.2.2.2.1 mq_189.2.2.2.2.2.1 := fun j _ _ hx => by cases hx
theorem mh_190 : eh_hk fx_kl fx_Ts fx_Bs fx_Ns "Threewayleaf$Join" mq_190.2.2.2.2.1 mq_190.2.2.2.2.2.1 := fun j _ _ hx => by cases hx
theorem mh_191 : eh_hk fx_kl fx_Ts fx_Bs fx_Ns "java/lang/Math" mq_191.2.2.2.2.1 mq_191.2.2.2.2.2.1 := fun j _ _ hx => by cases hx
theorem md_0_144 : mc_0_144.all (fx_dc code) = true := by decide +kernel
theorem md_0_143 : mc_0_143.all (fx_dc code) = true := md_app 8 (by decide +kernel) md_0_144
theorem md_0_142 : mc_0_142.all (fx_dc code) = true := md_app 8 (by decide +kernel) md_0_143
theorem md_0_141 : mc_0_141.all (fx_dc code) = true := md_app 7 (by decide +kernel) md_0_142
theorem md_0_140 : mc_0_140.all (fx_dc code) = true := md_app 10 (by decide +kernel) md_0_141
theorem md_0_139 : mc_0_139.all (fx_dc code) = true := md_app 9 (by decide +kernel) md_0_140
theorem md_0_138 : mc_0_138.all (fx_dc code) = true := md_app 8 (by decide +kernel) md_0_139
theorem md_0_137 : mc_0_137.all (fx_dc code) = true := md_app 9 (by decide +kernel) md_0_138
theorem md_0_136 : mc_0_136.all (fx_dc code) = true := md_app 9 (by decide +kernel) md_0_137
theorem md_0_135 : mc_0_135.all (fx_dc code) = true := md_app 8 (by decide +kernel) md_0_136
theorem md_0_134 : mc_0_134.all (fx_dc code) = true := md_app 8 (by decide +kernel) md_0_135
theorem md_0_133 : mc_0_133.all (fx_dc code) = true := md_app 8 (by decide +kernel) md_0_134
theorem md_0_132 : mc_0_132.all (fx_dc code) = true := md_app 8 (by decide +kernel) md_0_133
theorem md_0_131 : mc_0_131.all (fx_dc code) = true := md_app 7 (by decide +kernel) md_0_132
theorem md_0_130 : mc_0_130.all (fx_dc code) = true := md_app 7 (by decide +kernel) md_0_131
theorem md_0_129 : mc_0_129.all (fx_dc code) = true := md_app 7 (by decide +kernel) md_0_130
theorem md_0_128 : mc_0_128.all (fx_dc code) = true := md_app 8 (by decide +kernel) md_0_129
theorem md_0_127 : mc_0_127.all (fx_dc code) = true := md_app 11 (by decide +kernel) md_0_128
theorem md_0_126 : mc_0_126.all (fx_dc code) = true := md_app 11 (by decide +kernel) md_0_127
theorem md_0_125 : mc_0_125.all (fx_dc code) = true := md_app 12 (by decide +kernel) md_0_126
theorem md_0_124 : mc_0_124.all (fx_dc code) = true := md_app 10 (by decide +kernel) md_0_125
theorem md_0_123 : mc_0_123.all (fx_dc code) = true := md_app 10 (by decide +kernel) md_0_124
theorem md_0_122 : mc_0_122.all (fx_dc code) = true := md_app 11 (by decide +kernel) md_0_123
theorem md_0_121 : mc_0_121.all (fx_dc code) = true := md_app 11 (by decide +kernel) md_0_122
theorem md_0_120 : mc_0_120.all (fx_dc code) = true := md_app 11 (by decide +kernel) md_0_121
theorem md_0_119 : mc_0_119.all (fx_dc code) = true := md_app 10 (by decide +kernel) md_0_120
theorem md_0_118 : mc_0_118.all (fx_dc code) = true := md_app 8 (by decide +kernel) md_0_119
theorem md_0_117 : mc_0_117.all (fx_dc code) = true := md_app 8 (by decide +kernel) md_0_118
theorem md_0_116 : mc_0_116.all (fx_dc code) = true := md_app 8 (by decide +kernel) md_0_117
theorem md_0_115 : mc_0_115.all (fx_dc code) = true := md_app 8 (by decide +kernel) md_0_116
theorem md_0_114 : mc_0_114.all (fx_dc code) = true := md_app 7 (by decide +kernel) md_0_115
theorem md_0_113 : mc_0_113.all (fx_dc code) = true := md_app 8 (by decide +kernel) md_0_114
theorem md_0_112 : mc_0_112.all (fx_dc code) = true := md_app 10 (by decide +kernel) md_0_113
theorem md_0_111 : mc_0_111.all (fx_dc code) = true := md_app 12 (by decide +kernel) md_0_112
theorem md_0_110 : mc_0_110.all (fx_dc code) = true := md_app 10 (by decide +kernel) md_0_111
theorem md_0_109 : mc_0_109.all (fx_dc code) = true := md_app 14 (by decide +kernel) md_0_110
theorem md_0_108 : mc_0_108.all (fx_dc code) = true := md_app 11 (by decide +kernel) md_0_109
theorem md_0_107 : mc_0_107.all (fx_dc code) = true := md_app 10 (by decide +kernel) md_0_108
theorem md_0_106 : mc_0_106.all (fx_dc code) = true := md_app 9 (by decide +kernel) md_0_107
theorem md_0_105 : mc_0_105.all (fx_dc code) = true := md_app 8 (by decide +kernel) md_0_106
theorem md_0_104 : mc_0_104.all (fx_dc code) = true := md_app 8 (by decide +kernel) md_0_105
theorem md_0_103 : mc_0_103.all (fx_dc code) = true := md_app 11 (by decide +kernel) md_0_104
theorem md_0_102 : mc_0_102.all (fx_dc code) = true := md_app 10 (by decide +kernel) md_0_103
theorem md_0_101 : mc_0_101.all (fx_dc code) = true := md_app 8 (by decide +kernel) md_0_102
theorem md_0_100 : mc_0_100.all (fx_dc code) = true := md_app 9 (by decide +kernel) md_0_101
theorem md_0_99 : mc_0_99.all (fx_dc code) = true := md_app 7 (by decide +kernel) md_0_100
theorem md_0_98 : mc_0_98.all (fx_dc code) = true := md_app 10 (by decide +kernel) md_0_99
theorem md_0_97 : mc_0_97.all (fx_dc code) = true := md_app 9 (by decide +kernel) md_0_98
theorem md_0_96 : mc_0_96.all (fx_dc code) = true := md_app 7 (by decide +kernel) md_0_97
theorem md_0_95 : mc_0_95.all (fx_dc code) = true := md_app 9 (by decide +kernel) md_0_96
theorem md_0_94 : mc_0_94.all (fx_dc code) = true := md_app 9 (by decide +kernel) md_0_95
theorem md_0_93 : mc_0_93.all (fx_dc code) = true := md_app 9 (by decide +kernel) md_0_94
theorem md_0_92 : mc_0_92.all (fx_dc code) = true := md_app 10 (by decide +kernel) md_0_93
theorem md_0_91 : mc_0_91.all (fx_dc code) = true := md_app 8 (by decide +kernel) md_0_92
theorem md_0_90 : mc_0_90.all (fx_dc code) = true := md_app 8 (by decide +kernel) md_0_91
theorem md_0_89 : mc_0_89.all (fx_dc code) = true := md_app 10 (by decide +kernel) md_0_90
theorem md_0_88 : mc_0_88.all (fx_dc code) = true := md_app 6 (by decide +kernel) md_0_89
theorem md_0_87 : mc_0_87.all (fx_dc code) = true := md_app 8 (by decide +kernel) md_0_88
theorem md_0_86 : mc_0_86.all (fx_dc code) = true := md_app 10 (by decide +kernel) md_0_87
theorem md_0_85 : mc_0_85.all (fx_dc code) = true := md_app 8 (by decide +kernel) md_0_86
theorem md_0_84 : mc_0_84.all (fx_dc code) = true := md_app 7 (by decide +kernel) md_0_85
theorem md_0_83 : mc_0_83.all (fx_dc code) = true := md_app 11 (by decide +kernel) md_0_84
theorem md_0_82 : mc_0_82.all (fx_dc code) = true := md_app 12 (by decide +kernel) md_0_83
theorem md_0_81 : mc_0_81.all (fx_dc code) = true := md_app 12 (by decide +kernel) md_0_82
theorem md_0_80 : mc_0_80.all (fx_dc code) = true := md_app 7 (by decide +kernel) md_0_81
theorem md_0_79 : mc_0_79.all (fx_dc code) = true := md_app 10 (by decide +kernel) md_0_80
theorem md_0_78 : mc_0_78.all (fx_dc code) = true := md_app 9 (by decide +kernel) md_0_79
theorem md_0_77 : mc_0_77.all (fx_dc code) = true := md_app 9 (by decide +kernel) md_0_78
theorem md_0_76 : mc_0_76.all (fx_dc code) = true := md_app 10 (by decide +kernel) md_0_77
theorem md_0_75 : mc_0_75.all (fx_dc code) = true := md_app 8 (by decide +kernel) md_0_76
theorem md_0_74 : mc_0_74.all (fx_dc code) = true := md_app 7 (by decide +kernel) md_0_75
theorem md_0_73 : mc_0_73.all (fx_dc code) = true := md_app 8 (by decide +kernel) md_0_74
theorem md_0_72 : mc_0_72.all (fx_dc code) = true := md_app 9 (by decide +kernel) md_0_73
theorem md_0_71 : mc_0_71.all (fx_dc code) = true := md_app 10 (by decide +kernel) md_0_72
theorem md_0_70 : mc_0_70.all (fx_dc code) = true := md_app 8 (by decide +kernel) md_0_71
theorem md_0_69 : mc_0_69.all (fx_dc code) = true := md_app 10 (by decide +kernel) md_0_70
theorem md_0_68 : mc_0_68.all (fx_dc code) = true := md_app 9 (by decide +kernel) md_0_69
theorem md_0_67 : mc_0_67.all (fx_dc code) = true := md_app 11 (by decide +kernel) md_0_68
theorem md_0_66 : mc_0_66.all (fx_dc code) = true := md_app 7 (by decide +kernel) md_0_67
theorem md_0_65 : mc_0_65.all (fx_dc code) = true := md_app 8 (by decide +kernel) md_0_66
theorem md_0_64 : mc_0_64.all (fx_dc code) = true := md_app 10 (by decide +kernel) md_0_65
theorem md_0_63 : mc_0_63.all (fx_dc code) = true := md_app 10 (by decide +kernel) md_0_64
theorem md_0_62 : mc_0_62.all (fx_dc code) = true := md_app 11 (by decide +kernel) md_0_63
theorem md_0_61 : mc_0_61.all (fx_dc code) = true := md_app 7 (by decide +kernel) md_0_62
theorem md_0_60 : mc_0_60.all (fx_dc code) = true := md_app 8 (by decide +kernel) md_0_61
theorem md_0_59 : mc_0_59.all (fx_dc code) = true := md_app 7 (by decide +kernel) md_0_60
theorem md_0_58 : mc_0_58.all (fx_dc code) = true := md_app 7 (by decide +kernel) md_0_59
theorem md_0_57 : mc_0_57.all (fx_dc code) = true := md_app 11 (by decide +kernel) md_0_58
theorem md_0_56 : mc_0_56.all (fx_dc code) = true := md_app 10 (by decide +kernel) md_0_57
theorem md_0_55 : mc_0_55.all (fx_dc code) = true := md_app 8 (by decide +kernel) md_0_56
theorem md_0_54 : mc_0_54.all (fx_dc code) = true := md_app 8 (by decide +kernel) md_0_55
theorem md_0_53 : mc_0_53.all (fx_dc code) = true := md_app 8 (by decide +kernel) md_0_54
theorem md_0_52 : mc_0_52.all (fx_dc code) = true := md_app 10 (by decide +kernel) md_0_53
theorem md_0_51 : mc_0_51.all (fx_dc code) = true := md_app 10 (by decide +kernel) md_0_52
theorem md_0_50 : mc_0_50.all (fx_dc code) = true := md_app 6 (by decide +kernel) md_0_51
theorem md_0_49 : mc_0_49.all (fx_dc code) = true := md_app 8 (by decide +kernel) md_0_50
theorem md_0_48 : mc_0_48.all (fx_dc code) = true := md_app 9 (by decide +kernel) md_0_49
theorem md_0_47 : mc_0_47.all (fx_dc code) = true := md_app 9 (by decide +kernel) md_0_48
theorem md_0_46 : mc_0_46.all (fx_dc code) = true := md_app 8 (by decide +kernel) md_0_47
theorem md_0_45 : mc_0_45.all (fx_dc code) = true := md_app 8 (by decide +kernel) md_0_46
theorem md_0_44 : mc_0_44.all (fx_dc code) = true := md_app 7 (by decide +kernel) md_0_45
theorem md_0_43 : mc_0_43.all (fx_dc code) = true := md_app 7 (by decide +kernel) md_0_44
theorem md_0_42 : mc_0_42.all (fx_dc code) = true := md_app 8 (by decide +kernel) md_0_43
theorem md_0_41 : mc_0_41.all (fx_dc code) = true := md_app 10 (by decide +kernel) md_0_42
theorem md_0_40 : mc_0_40.all (fx_dc code) = true := md_app 9 (by decide +kernel) md_0_41
theorem md_0_39 : mc_0_39.all (fx_dc code) = true := md_app 8 (by decide +kernel) md_0_40
theorem md_0_38 : mc_0_38.all (fx_dc code) = true := md_app 8 (by decide +kernel) md_0_39
theorem md_0_37 : mc_0_37.all (fx_dc code) = true := md_app 7 (by decide +kernel) md_0_38
theorem md_0_36 : mc_0_36.all (fx_dc code) = true := md_app 7 (by decide +kernel) md_0_37
theorem md_0_35 : mc_0_35.all (fx_dc code) = true := md_app 10 (by decide +kernel) md_0_36
theorem md_0_34 : mc_0_34.all (fx_dc code) = true := md_app 10 (by decide +kernel) md_0_35
theorem md_0_33 : mc_0_33.all (fx_dc code) = true := md_app 8 (by decide +kernel) md_0_34
theorem md_0_32 : mc_0_32.all (fx_dc code) = true := md_app 7 (by decide +kernel) md_0_33
theorem md_0_31 : mc_0_31.all (fx_dc code) = true := md_app 7 (by decide +kernel) md_0_32
theorem md_0_30 : mc_0_30.all (fx_dc code) = true := md_app 9 (by decide +kernel) md_0_31
theorem md_0_29 : mc_0_29.all (fx_dc code) = true := md_app 8 (by decide +kernel) md_0_30
theorem md_0_28 : mc_0_28.all (fx_dc code) = true := md_app 9 (by decide +kernel) md_0_29
theorem md_0_27 : mc_0_27.all (fx_dc code) = true := md_app 7 (by decide +kernel) md_0_28
theorem md_0_26 : mc_0_26.all (fx_dc code) = true := md_app 8 (by decide +kernel) md_0_27
theorem md_0_25 : mc_0_25.all (fx_dc code) = true := md_app 8 (by decide +kernel) md_0_26
theorem md_0_24 : mc_0_24.all (fx_dc code) = true := md_app 7 (by decide +kernel) md_0_25
theorem md_0_23 : mc_0_23.all (fx_dc code) = true := md_app 11 (by decide +kernel) md_0_24
theorem md_0_22 : mc_0_22.all (fx_dc code) = true := md_app 7 (by decide +kernel) md_0_23
theorem md_0_21 : mc_0_21.all (fx_dc code) = true := md_app 10 (by decide +kernel) md_0_22
theorem md_0_20 : mc_0_20.all (fx_dc code) = true := md_app 9 (by decide +kernel) md_0_21
theorem md_0_19 : mc_0_19.all (fx_dc code) = true := md_app 8 (by decide +kernel) md_0_20
theorem md_0_18 : mc_0_18.all (fx_dc code) = true := md_app 11 (by decide +kernel) md_0_19
theorem md_0_17 : mc_0_17.all (fx_dc code) = true := md_app 10 (by decide +kernel) md_0_18
theorem md_0_16 : mc_0_16.all (fx_dc code) = true := md_app 9 (by decide +kernel) md_0_17
theorem md_0_15 : mc_0_15.all (fx_dc code) = true := md_app 9 (by decide +kernel) md_0_16
theorem md_0_14 : mc_0_14.all (fx_dc code) = true := md_app 9 (by decide +kernel) md_0_15
theorem md_0_13 : mc_0_13.all (fx_dc code) = true := md_app 12 (by decide +kernel) md_0_14
theorem md_0_12 : mc_0_12.all (fx_dc code) = true := md_app 10 (by decide +kernel) md_0_13
theorem md_0_11 : mc_0_11.all (fx_dc code) = true := md_app 8 (by decide +kernel) md_0_12
theorem md_0_10 : mc_0_10.all (fx_dc code) = true := md_app 11 (by decide +kernel) md_0_11
theorem md_0_9 : mc_0_9.all (fx_dc code) = true := md_app 8 (by decide +kernel) md_0_10
theorem md_0_8 : mc_0_8.all (fx_dc code) = true := md_app 9 (by decide +kernel) md_0_9
theorem md_0_7 : mc_0_7.all (fx_dc code) = true := md_app 8 (by decide +kernel) md_0_8
theorem md_0_6 : mc_0_6.all (fx_dc code) = true := md_app 8 (by decide +kernel) md_0_7
theorem md_0_5 : mc_0_5.all (fx_dc code) = true := md_app 14 (by decide +kernel) md_0_6
theorem md_0_4 : mc_0_4.all (fx_dc code) = true := md_app 15 (by decide +kernel) md_0_5
theorem md_0_3 : mc_0_3.all (fx_dc code) = true := md_app 8 (by decide +kernel) md_0_4
theorem md_0_2 : mc_0_2.all (fx_dc code) = true := md_app 8 (by decide +kernel) md_0_3
theorem md_0_1 : mc_0_1.all (fx_dc code) = true := md_app 8 (by decide +kernel) md_0_2
theorem md_0 : mc_0_0.all (fx_dc code) = true := md_app 9 (by decide +kernel) md_0_1
theorem mok_0 : eh_mok fx_kl fx_Ts fx_Bs fx_Ss fx_Ns fx_dft fx_mt mq_0 := mok_of (Or.inl (by decide +kernel)) mh_0 (by decide) (by decide) md_0 ms_0_0
theorem md_1 : mc_1_0.all (fx_dc prog_1_method_1_code) = true := by decide +kernel
theorem mok_1 : eh_mok fx_kl fx_Ts fx_Bs fx_Ss fx_Ns fx_dft fx_mt mq_1 := mok_of (Or.inl (by decide +kernel)) mh_1 (by decide) (by decide) md_1 ms_1_0
theorem md_2_25 : mc_2_25.all (fx_dc method_24_code) = true := by decide +kernel
theorem md_2_24 : mc_2_24.all (fx_dc method_24_code) = true := md_app 8 (by decide +kernel) md_2_25
theorem md_2_23 : mc_2_23.all (fx_dc method_24_code) = true := md_app 8 (by decide +kernel) md_2_24
theorem md_2_22 : mc_2_22.all (fx_dc method_24_code) = true := md_app 8 (by decide +kernel) md_2_23
theorem md_2_21 : mc_2_21.all (fx_dc method_24_code) = true := md_app 8 (by decide +kernel) md_2_22
theorem md_2_20 : mc_2_20.all (fx_dc method_24_code) = true := md_app 7 (by decide +kernel) md_2_21
theorem md_2_19 : mc_2_19.all (fx_dc method_24_code) = true := md_app 8 (by decide +kernel) md_2_20
theorem md_2_18 : mc_2_18.all (fx_dc method_24_code) = true := md_app 8 (by decide +kernel) md_2_19
theorem md_2_17 : mc_2_17.all (fx_dc method_24_code) = true := md_app 8 (by decide +kernel) md_2_18
theorem md_2_16 : mc_2_16.all (fx_dc method_24_code) = true := md_app 8 (by decide +kernel) md_2_17
theorem md_2_15 : mc_2_15.all (fx_dc method_24_code) = true := md_app 9 (by decide +kernel) md_2_16
theorem md_2_14 : mc_2_14.all (fx_dc method_24_code) = true := md_app 8 (by decide +kernel) md_2_15
theorem md_2_13 : mc_2_13.all (fx_dc method_24_code) = true := md_app 8 (by decide +kernel) md_2_14
theorem md_2_12 : mc_2_12.all (fx_dc method_24_code) = true := md_app 11 (by decide +kernel) md_2_13
theorem md_2_11 : mc_2_11.all (fx_dc method_24_code) = true := md_app 9 (by decide +kernel) md_2_12
theorem md_2_10 : mc_2_10.all (fx_dc method_24_code) = true := md_app 9 (by decide +kernel) md_2_11
theorem md_2_9 : mc_2_9.all (fx_dc method_24_code) = true := md_app 8 (by decide +kernel) md_2_10
theorem md_2_8 : mc_2_8.all (fx_dc method_24_code) = true := md_app 10 (by decide +kernel) md_2_9
theorem md_2_7 : mc_2_7.all (fx_dc method_24_code) = true := md_app 12 (by decide +kernel) md_2_8
theorem md_2_6 : mc_2_6.all (fx_dc method_24_code) = true := md_app 11 (by decide +kernel) md_2_7
theorem md_2_5 : mc_2_5.all (fx_dc method_24_code) = true := md_app 7 (by decide +kernel) md_2_6
theorem md_2_4 : mc_2_4.all (fx_dc method_24_code) = true := md_app 11 (by decide +kernel) md_2_5
theorem md_2_3 : mc_2_3.all (fx_dc method_24_code) = true := md_app 10 (by decide +kernel) md_2_4
theorem md_2_2 : mc_2_2.all (fx_dc method_24_code) = true := md_app 9 (by decide +kernel) md_2_3
theorem md_2_1 : mc_2_1.all (fx_dc method_24_code) = true := md_app 9 (by decide +kernel) md_2_2
theorem md_2 : mc_2_0.all (fx_dc method_24_code) = true := md_app 10 (by decide +kernel) md_2_1
theorem mok_2 : eh_mok fx_kl fx_Ts fx_Bs fx_Ss fx_Ns fx_dft fx_mt mq_2 := mok_of (Or.inl (by decide +kernel)) mh_2 (by decide) (by decide) md_2 ms_2_0
theorem md_3 : mc_3_0.all (fx_dc method_3_code) = true := by decide +kernel
theorem mok_3 : eh_mok fx_kl fx_Ts fx_Bs fx_Ss fx_Ns fx_dft fx_mt mq_3 := mok_of (Or.inl (by decide +kernel)) mh_3 (by decide) (by decide) md_3 ms_3_0
theorem md_4 : mc_4_0.all (fx_dc method_4_code) = true := by decide +kernel
theorem mok_4 : eh_mok fx_kl fx_Ts fx_Bs fx_Ss fx_Ns fx_dft fx_mt mq_4 := mok_of (Or.inl (by decide +kernel)) mh_4 (by decide) (by decide) md_4 ms_4_0
theorem md_5_34 : mc_5_34.all (fx_dc method_25_code) = true := by decide +kernel
theorem md_5_33 : mc_5_33.all (fx_dc method_25_code) = true := md_app 11 (by decide +kernel) md_5_34
theorem md_5_32 : mc_5_32.all (fx_dc method_25_code) = true := md_app 9 (by decide +kernel) md_5_33
theorem md_5_31 : mc_5_31.all (fx_dc method_25_code) = true := md_app 7 (by decide +kernel) md_5_32
theorem md_5_30 : mc_5_30.all (fx_dc method_25_code) = true := md_app 11 (by decide +kernel) md_5_31
theorem md_5_29 : mc_5_29.all (fx_dc method_25_code) = true := md_app 11 (by decide +kernel) md_5_30
theorem md_5_28 : mc_5_28.all (fx_dc method_25_code) = true := md_app 10 (by decide +kernel) md_5_29
theorem md_5_27 : mc_5_27.all (fx_dc method_25_code) = true := md_app 12 (by decide +kernel) md_5_28
theorem md_5_26 : mc_5_26.all (fx_dc method_25_code) = true := md_app 11 (by decide +kernel) md_5_27
theorem md_5_25 : mc_5_25.all (fx_dc method_25_code) = true := md_app 10 (by decide +kernel) md_5_26
theorem md_5_24 : mc_5_24.all (fx_dc method_25_code) = true := md_app 8 (by decide +kernel) md_5_25
theorem md_5_23 : mc_5_23.all (fx_dc method_25_code) = true := md_app 11 (by decide +kernel) md_5_24
theorem md_5_22 : mc_5_22.all (fx_dc method_25_code) = true := md_app 10 (by decide +kernel) md_5_23
theorem md_5_21 : mc_5_21.all (fx_dc method_25_code) = true := md_app 9 (by decide +kernel) md_5_22
theorem md_5_20 : mc_5_20.all (fx_dc method_25_code) = true := md_app 9 (by decide +kernel) md_5_21
theorem md_5_19 : mc_5_19.all (fx_dc method_25_code) = true := md_app 8 (by decide +kernel) md_5_20
theorem md_5_18 : mc_5_18.all (fx_dc method_25_code) = true := md_app 9 (by decide +kernel) md_5_19
theorem md_5_17 : mc_5_17.all (fx_dc method_25_code) = true := md_app 9 (by decide +kernel) md_5_18
theorem md_5_16 : mc_5_16.all (fx_dc method_25_code) = true := md_app 11 (by decide +kernel) md_5_17
theorem md_5_15 : mc_5_15.all (fx_dc method_25_code) = true := md_app 10 (by decide +kernel) md_5_16
theorem md_5_14 : mc_5_14.all (fx_dc method_25_code) = true := md_app 8 (by decide +kernel) md_5_15
theorem md_5_13 : mc_5_13.all (fx_dc method_25_code) = true := md_app 9 (by decide +kernel) md_5_14
theorem md_5_12 : mc_5_12.all (fx_dc method_25_code) = true := md_app 7 (by decide +kernel) md_5_13
theorem md_5_11 : mc_5_11.all (fx_dc method_25_code) = true := md_app 8 (by decide +kernel) md_5_12
theorem md_5_10 : mc_5_10.all (fx_dc method_25_code) = true := md_app 9 (by decide +kernel) md_5_11
theorem md_5_9 : mc_5_9.all (fx_dc method_25_code) = true := md_app 12 (by decide +kernel) md_5_10
theorem md_5_8 : mc_5_8.all (fx_dc method_25_code) = true := md_app 13 (by decide +kernel) md_5_9
theorem md_5_7 : mc_5_7.all (fx_dc method_25_code) = true := md_app 10 (by decide +kernel) md_5_8
theorem md_5_6 : mc_5_6.all (fx_dc method_25_code) = true := md_app 11 (by decide +kernel) md_5_7
theorem md_5_5 : mc_5_5.all (fx_dc method_25_code) = true := md_app 10 (by decide +kernel) md_5_6
theorem md_5_4 : mc_5_4.all (fx_dc method_25_code) = true := md_app 9 (by decide +kernel) md_5_5
theorem md_5_3 : mc_5_3.all (fx_dc method_25_code) = true := md_app 9 (by decide +kernel) md_5_4
theorem md_5_2 : mc_5_2.all (fx_dc method_25_code) = true := md_app 10 (by decide +kernel) md_5_3
theorem md_5_1 : mc_5_1.all (fx_dc method_25_code) = true := md_app 9 (by decide +kernel) md_5_2
theorem md_5 : mc_5_0.all (fx_dc method_25_code) = true := md_app 8 (by decide +kernel) md_5_1
theorem mok_5 : eh_mok fx_kl fx_Ts fx_Bs fx_Ss fx_Ns fx_dft fx_mt mq_5 := mok_of (Or.inl (by decide +kernel)) mh_5 (by decide) (by decide) md_5 ms_5_0
theorem md_6 : mc_6_0.all (fx_dc method_16_code) = true := by decide +kernel
theorem mok_6 : eh_mok fx_kl fx_Ts fx_Bs fx_Ss fx_Ns fx_dft fx_mt mq_6 := mok_of (Or.inl (by decide +kernel)) mh_6 (by decide) (by decide) md_6 ms_6_0
theorem md_7 : mc_7_0.all (fx_dc method_2_code) = true := by decide +kernel
theorem mok_7 : eh_mok fx_kl fx_Ts fx_Bs fx_Ss fx_Ns fx_dft fx_mt mq_7 := mok_of (Or.inl (by decide +kernel)) mh_7 (by decide) (by decide) md_7 ms_7_0
theorem md_8 : mc_8_0.all (fx_dc method_7_code) = true := by decide +kernel
theorem mok_8 : eh_mok fx_kl fx_Ts fx_Bs fx_Ss fx_Ns fx_dft fx_mt mq_8 := mok_of (Or.inl (by decide +kernel)) mh_8 (by decide) (by decide) md_8 ms_8_0
theorem md_9 : mc_9_0.all (fx_dc method_10_code) = true := by decide +kernel
theorem mok_9 : eh_mok fx_kl fx_Ts fx_Bs fx_Ss fx_Ns fx_dft fx_mt mq_9 := mok_of (Or.inl (by decide +kernel)) mh_9 (by decide) (by decide) md_9 ms_9_0
theorem md_10 : mc_10_0.all (fx_dc method_11_code) = true := by decide +kernel
theorem mok_10 : eh_mok fx_kl fx_Ts fx_Bs fx_Ss fx_Ns fx_dft fx_mt mq_10 := mok_of (Or.inl (by decide +kernel)) mh_10 (by decide) (by decide) md_10 ms_10_0
theorem md_11 : mc_11_0.all (fx_dc method_22_code) = true := by decide +kernel
theorem mok_11 : eh_mok fx_kl fx_Ts fx_Bs fx_Ss fx_Ns fx_dft fx_mt mq_11 := mok_of (Or.inl (by decide +kernel)) mh_11 (by decide) (by decide) md_11 ms_11_0
theorem md_12 : mc_12_0.all (fx_dc method_13_code) = true := by decide +kernel
theorem mok_12 : eh_mok fx_kl fx_Ts fx_Bs fx_Ss fx_Ns fx_dft fx_mt mq_12 := mok_of (Or.inl (by decide +kernel)) mh_12 (by decide) (by decide) md_12 ms_12_0
theorem md_13 : mc_13_0.all (fx_dc prog_1_method_36_code) = true := by decide +kernel
theorem mok_13 : eh_mok fx_kl fx_Ts fx_Bs fx_Ss fx_Ns fx_dft fx_mt mq_13 := mok_of (Or.inl (by decide +kernel)) mh_13 (by decide) (by decide) md_13 ms_13_0
theorem md_14_31 : mc_14_31.all (fx_dc method_21_code) = true := by decide +kernel
theorem md_14_30 : mc_14_30.all (fx_dc method_21_code) = true := md_app 8 (by decide +kernel) md_14_31
theorem md_14_29 : mc_14_29.all (fx_dc method_21_code) = true := md_app 10 (by decide +kernel) md_14_30
theorem md_14_28 : mc_14_28.all (fx_dc method_21_code) = true := md_app 7 (by decide +kernel) md_14_29
theorem md_14_27 : mc_14_27.all (fx_dc method_21_code) = true := md_app 6 (by decide +kernel) md_14_28
theorem md_14_26 : mc_14_26.all (fx_dc method_21_code) = true := md_app 9 (by decide +kernel) md_14_27
theorem md_14_25 : mc_14_25.all (fx_dc method_21_code) = true := md_app 7 (by decide +kernel) md_14_26
theorem md_14_24 : mc_14_24.all (fx_dc method_21_code) = true := md_app 7 (by decide +kernel) md_14_25
theorem md_14_23 : mc_14_23.all (fx_dc method_21_code) = true := md_app 9 (by decide +kernel) md_14_24
theorem md_14_22 : mc_14_22.all (fx_dc method_21_code) = true := md_app 8 (by decide +kernel) md_14_23
theorem md_14_21 : mc_14_21.all (fx_dc method_21_code) = true := md_app 9 (by decide +kernel) md_14_22
theorem md_14_20 : mc_14_20.all (fx_dc method_21_code) = true := md_app 9 (by decide +kernel) md_14_21
theorem md_14_19 : mc_14_19.all (fx_dc method_21_code) = true := md_app 7 (by decide +kernel) md_14_20
theorem md_14_18 : mc_14_18.all (fx_dc method_21_code) = true := md_app 10 (by decide +kernel) md_14_19
theorem md_14_17 : mc_14_17.all (fx_dc method_21_code) = true := md_app 8 (by decide +kernel) md_14_18
theorem md_14_16 : mc_14_16.all (fx_dc method_21_code) = true := md_app 8 (by decide +kernel) md_14_17
theorem md_14_15 : mc_14_15.all (fx_dc method_21_code) = true := md_app 9 (by decide +kernel) md_14_16
theorem md_14_14 : mc_14_14.all (fx_dc method_21_code) = true := md_app 8 (by decide +kernel) md_14_15
theorem md_14_13 : mc_14_13.all (fx_dc method_21_code) = true := md_app 9 (by decide +kernel) md_14_14
theorem md_14_12 : mc_14_12.all (fx_dc method_21_code) = true := md_app 9 (by decide +kernel) md_14_13
theorem md_14_11 : mc_14_11.all (fx_dc method_21_code) = true := md_app 7 (by decide +kernel) md_14_12
theorem md_14_10 : mc_14_10.all (fx_dc method_21_code) = true := md_app 7 (by decide +kernel) md_14_11
theorem md_14_9 : mc_14_9.all (fx_dc method_21_code) = true := md_app 7 (by decide +kernel) md_14_10
theorem md_14_8 : mc_14_8.all (fx_dc method_21_code) = true := md_app 8 (by decide +kernel) md_14_9
theorem md_14_7 : mc_14_7.all (fx_dc method_21_code) = true := md_app 6 (by decide +kernel) md_14_8
theorem md_14_6 : mc_14_6.all (fx_dc method_21_code) = true := md_app 11 (by decide +kernel) md_14_7
theorem md_14_5 : mc_14_5.all (fx_dc method_21_code) = true := md_app 8 (by decide +kernel) md_14_6
theorem md_14_4 : mc_14_4.all (fx_dc method_21_code) = true := md_app 7 (by decide +kernel) md_14_5
theorem md_14_3 : mc_14_3.all (fx_dc method_21_code) = true := md_app 8 (by decide +kernel) md_14_4
theorem md_14_2 : mc_14_2.all (fx_dc method_21_code) = true := md_app 7 (by decide +kernel) md_14_3
theorem md_14_1 : mc_14_1.all (fx_dc method_21_code) = true := md_app 7 (by decide +kernel) md_14_2
theorem md_14 : mc_14_0.all (fx_dc method_21_code) = true := md_app 9 (by decide +kernel) md_14_1
theorem mok_14 : eh_mok fx_kl fx_Ts fx_Bs fx_Ss fx_Ns fx_dft fx_mt mq_14 := mok_of (Or.inl (by decide +kernel)) mh_14 (by decide) (by decide) md_14 ms_14_0
theorem md_15 : mc_15_0.all (fx_dc prog_1_method_11_code) = true := by decide +kernel
theorem mok_15 : eh_mok fx_kl fx_Ts fx_Bs fx_Ss fx_Ns fx_dft fx_mt mq_15 := mok_of (Or.inl (by decide +kernel)) mh_15 (by decide) (by decide) md_15 ms_15_0
theorem md_16 : mc_16_0.all (fx_dc prog_1_method_19_code) = true := by decide +kernel
theorem mok_16 : eh_mok fx_kl fx_Ts fx_Bs fx_Ss fx_Ns fx_dft fx_mt mq_16 := mok_of (Or.inl (by decide +kernel)) mh_16 (by decide) (by decide) md_16 ms_16_0
theorem md_17 : mc_17_0.all (fx_dc method_23_code) = true := by decide +kernel
theorem mok_17 : eh_mok fx_kl fx_Ts fx_Bs fx_Ss fx_Ns fx_dft fx_mt mq_17 := mok_of (Or.inl (by decide +kernel)) mh_17 (by decide) (by decide) md_17 ms_17_0
theorem md_18 : mc_18_0.all (fx_dc prog_10_method_1_code) = true := by decide +kernel
theorem mok_18 : eh_mok fx_kl fx_Ts fx_Bs fx_Ss fx_Ns fx_dft fx_mt mq_18 := mok_of (Or.inl (by decide +kernel)) mh_18 (by decide) (by decide) md_18 ms_18_0
theorem md_19 : mc_19_0.all (fx_dc prog_5_method_1_code) = true := by decide +kernel
theorem mok_19 : eh_mok fx_kl fx_Ts fx_Bs fx_Ss fx_Ns fx_dft fx_mt mq_19 := mok_of (Or.inl (by decide +kernel)) mh_19 (by decide) (by decide) md_19 ms_19_0
theorem md_20 : mc_20_0.all (fx_dc prog_3_method_1_code) = true := by decide +kernel
theorem mok_20 : eh_mok fx_kl fx_Ts fx_Bs fx_Ss fx_Ns fx_dft fx_mt mq_20 := mok_of (Or.inl (by decide +kernel)) mh_20 (by decide) (by decide) md_20 ms_20_0
theorem md_21 : mc_21_0.all (fx_dc prog_2_method_1_code) = true := by decide +kernel
theorem mok_21 : eh_mok fx_kl fx_Ts fx_Bs fx_Ss fx_Ns fx_dft fx_mt mq_21 := mok_of (Or.inl (by decide +kernel)) mh_21 (by decide) (by decide) md_21 ms_21_0
theorem md_22 : mc_22_0.all (fx_dc prog_8_method_1_code) = true := by decide +kernel
theorem mok_22 : eh_mok fx_kl fx_Ts fx_Bs fx_Ss fx_Ns fx_dft fx_mt mq_22 := mok_of (Or.inl (by decide +kernel)) mh_22 (by decide) (by decide) md_22 ms_22_0
theorem md_23 : mc_23_0.all (fx_dc prog_7_method_1_code) = true := by decide +kernel
theorem mok_23 : eh_mok fx_kl fx_Ts fx_Bs fx_Ss fx_Ns fx_dft fx_mt mq_23 := mok_of (Or.inl (by decide +kernel)) mh_23 (by decide) (by decide) md_23 ms_23_0
theorem md_24 : mc_24_0.all (fx_dc prog_6_method_1_code) = true := by decide +kernel
theorem mok_24 : eh_mok fx_kl fx_Ts fx_Bs fx_Ss fx_Ns fx_dft fx_mt mq_24 := mok_of (Or.inl (by decide +kernel)) mh_24 (by decide) (by decide) md_24 ms_24_0
theorem md_25 : mc_25_0.all (fx_dc prog_9_method_1_code) = true := by decide +kernel
theorem mok_25 : eh_mok fx_kl fx_Ts fx_Bs fx_Ss fx_Ns fx_dft fx_mt mq_25 := mok_of (Or.inl (by decide +kernel)) mh_25 (by decide) (by decide) md_25 ms_25_0
theorem md_26 : mc_26_0.all (fx_dc prog_9_method_13_code) = true := by decide +kernel
theorem mok_26 : eh_mok fx_kl fx_Ts fx_Bs fx_Ss fx_Ns fx_dft fx_mt mq_26 := mok_of (Or.inl (by decide +kernel)) mh_26 (by decide) (by decide) md_26 ms_26_0
theorem md_27 : mc_27_0.all (fx_dc prog_3_method_9_code) = true := by decide +kernel
theorem mok_27 : eh_mok fx_kl fx_Ts fx_Bs fx_Ss fx_Ns fx_dft fx_mt mq_27 := mok_of (Or.inl (by decide +kernel)) mh_27 (by decide) (by decide) md_27 ms_27_0
theorem md_28 : mc_28_0.all (fx_dc prog_9_method_16_code) = true := by decide +kernel
theorem mok_28 : eh_mok fx_kl fx_Ts fx_Bs fx_Ss fx_Ns fx_dft fx_mt mq_28 := mok_of (Or.inl (by decide +kernel)) mh_28 (by decide) (by decide) md_28 ms_28_0
theorem md_29 : mc_29_0.all (fx_dc prog_1_method_17_code) = true := by decide +kernel
theorem mok_29 : eh_mok fx_kl fx_Ts fx_Bs fx_Ss fx_Ns fx_dft fx_mt mq_29 := mok_of (Or.inl (by decide +kernel)) mh_29 (by decide) (by decide) md_29 ms_29_0
theorem md_30 : mc_30_0.all (fx_dc prog_1_method_18_code) = true := by decide +kernel
theorem mok_30 : eh_mok fx_kl fx_Ts fx_Bs fx_Ss fx_Ns fx_dft fx_mt mq_30 := mok_of (Or.inl (by decide +kernel)) mh_30 (by decide) (by decide) md_30 ms_30_0
theorem md_31 : mc_31_0.all (fx_dc method_19_code) = true := by decide +kernel
theorem mok_31 : eh_mok fx_kl fx_Ts fx_Bs fx_Ss fx_Ns fx_dft fx_mt mq_31 := mok_of (Or.inl (by decide +kernel)) mh_31 (by decide) (by decide) md_31 ms_31_0
theorem md_32 : mc_32_0.all (fx_dc prog_1_method_20_code) = true := by decide +kernel
theorem mok_32 : eh_mok fx_kl fx_Ts fx_Bs fx_Ss fx_Ns fx_dft fx_mt mq_32 := mok_of (Or.inl (by decide +kernel)) mh_32 (by decide) (by decide) md_32 ms_32_0
theorem md_33 : mc_33_0.all (fx_dc prog_1_method_21_code) = true := by decide +kernel
theorem mok_33 : eh_mok fx_kl fx_Ts fx_Bs fx_Ss fx_Ns fx_dft fx_mt mq_33 := mok_of (Or.inl (by decide +kernel)) mh_33 (by decide) (by decide) md_33 ms_33_0
theorem md_34 : mc_34_0.all (fx_dc method_15_code) = true := by decide +kernel
theorem mok_34 : eh_mok fx_kl fx_Ts fx_Bs fx_Ss fx_Ns fx_dft fx_mt mq_34 := mok_of (Or.inl (by decide +kernel)) mh_34 (by decide) (by decide) md_34 ms_34_0
theorem md_35 : mc_35_0.all (fx_dc prog_1_method_34_code) = true := by decide +kernel
theorem mok_35 : eh_mok fx_kl fx_Ts fx_Bs fx_Ss fx_Ns fx_dft fx_mt mq_35 := mok_of (Or.inl (by decide +kernel)) mh_35 (by decide) (by decide) md_35 ms_35_0
theorem md_36 : mc_36_0.all (fx_dc prog_1_method_35_code) = true := by decide +kernel
theorem mok_36 : eh_mok fx_kl fx_Ts fx_Bs fx_Ss fx_Ns fx_dft fx_mt mq_36 := mok_of (Or.inl (by decide +kernel)) mh_36 (by decide) (by decide) md_36 ms_36_0
theorem md_37 : mc_37_0.all (fx_dc prog_1_method_16_code) = true := by decide +kernel
theorem mok_37 : eh_mok fx_kl fx_Ts fx_Bs fx_Ss fx_Ns fx_dft fx_mt mq_37 := mok_of (Or.inl (by decide +kernel)) mh_37 (by decide) (by decide) md_37 ms_37_0
theorem md_38 : mc_38_0.all (fx_dc method_14_code) = true := by decide +kernel
theorem mok_38 : eh_mok fx_kl fx_Ts fx_Bs fx_Ss fx_Ns fx_dft fx_mt mq_38 := mok_of (Or.inl (by decide +kernel)) mh_38 (by decide) (by decide) md_38 ms_38_0
theorem md_39 : mc_39_0.all (fx_dc method_6_code) = true := by decide +kernel
theorem mok_39 : eh_mok fx_kl fx_Ts fx_Bs fx_Ss fx_Ns fx_dft fx_mt mq_39 := mok_of (Or.inl (by decide +kernel)) mh_39 (by decide) (by decide) md_39 ms_39_0
theorem md_40 : mc_40_0.all (fx_dc method_12_code) = true := by decide +kernel
theorem mok_40 : eh_mok fx_kl fx_Ts fx_Bs fx_Ss fx_Ns fx_dft fx_mt mq_40 := mok_of (Or.inl (by decide +kernel)) mh_40 (by decide) (by decide) md_40 ms_40_0
theorem md_41 : mc_41_0.all (fx_dc method_9_code) = true := by decide +kernel
theorem mok_41 : eh_mok fx_kl fx_Ts fx_Bs fx_Ss fx_Ns fx_dft fx_mt mq_41 := mok_of (Or.inl (by decide +kernel)) mh_41 (by decide) (by decide) md_41 ms_41_0
theorem md_42 : mc_42_0.all (fx_dc prog_1_method_2_code) = true := by decide +kernel
theorem mok_42 : eh_mok fx_kl fx_Ts fx_Bs fx_Ss fx_Ns fx_dft fx_mt mq_42 := mok_of (Or.inl (by decide +kernel)) mh_42 (by decide) (by decide) md_42 ms_42_0
theorem md_43 : mc_43_0.all (fx_dc prog_1_method_3_code) = true := by decide +kernel
theorem mok_43 : eh_mok fx_kl fx_Ts fx_Bs fx_Ss fx_Ns fx_dft fx_mt mq_43 := mok_of (Or.inl (by decide +kernel)) mh_43 (by decide) (by decide) md_43 ms_43_0
theorem md_44 : mc_44_0.all (fx_dc method_17_code) = true := by decide +kernel
theorem mok_44 : eh_mok fx_kl fx_Ts fx_Bs fx_Ss fx_Ns fx_dft fx_mt mq_44 := mok_of (Or.inl (by decide +kernel)) mh_44 (by decide) (by decide) md_44 ms_44_0
theorem md_45 : mc_45_0.all (fx_dc prog_1_method_5_code) = true := by decide +kernel
theorem mok_45 : eh_mok fx_kl fx_Ts fx_Bs fx_Ss fx_Ns fx_dft fx_mt mq_45 := mok_of (Or.inl (by decide +kernel)) mh_45 (by decide) (by decide) md_45 ms_45_0
theorem md_46 : mc_46_0.all (fx_dc prog_1_method_6_code) = true := by decide +kernel
theorem mok_46 : eh_mok fx_kl fx_Ts fx_Bs fx_Ss fx_Ns fx_dft fx_mt mq_46 := mok_of (Or.inl (by decide +kernel)) mh_46 (by decide) (by decide) md_46 ms_46_0
theorem md_47 : mc_47_0.all (fx_dc prog_1_method_7_code) = true := by decide +kernel
theorem mok_47 : eh_mok fx_kl fx_Ts fx_Bs fx_Ss fx_Ns fx_dft fx_mt mq_47 := mok_of (Or.inl (by decide +kernel)) mh_47 (by decide) (by decide) md_47 ms_47_0
theorem md_48 : mc_48_0.all (fx_dc prog_1_method_8_code) = true := by decide +kernel
theorem mok_48 : eh_mok fx_kl fx_Ts fx_Bs fx_Ss fx_Ns fx_dft fx_mt mq_48 := mok_of (Or.inl (by decide +kernel)) mh_48 (by decide) (by decide) md_48 ms_48_0
theorem md_49 : mc_49_0.all (fx_dc method_18_code) = true := by decide +kernel
theorem mok_49 : eh_mok fx_kl fx_Ts fx_Bs fx_Ss fx_Ns fx_dft fx_mt mq_49 := mok_of (Or.inl (by decide +kernel)) mh_49 (by decide) (by decide) md_49 ms_49_0
theorem md_50 : mc_50_0.all (fx_dc prog_1_method_10_code) = true := by decide +kernel
theorem mok_50 : eh_mok fx_kl fx_Ts fx_Bs fx_Ss fx_Ns fx_dft fx_mt mq_50 := mok_of (Or.inl (by decide +kernel)) mh_50 (by decide) (by decide) md_50 ms_50_0
theorem md_51 : mc_51_0.all (fx_dc prog_1_method_12_code) = true := by decide +kernel
theorem mok_51 : eh_mok fx_kl fx_Ts fx_Bs fx_Ss fx_Ns fx_dft fx_mt mq_51 := mok_of (Or.inl (by decide +kernel)) mh_51 (by decide) (by decide) md_51 ms_51_0
theorem md_52 : mc_52_0.all (fx_dc prog_1_method_13_code) = true := by decide +kernel
theorem mok_52 : eh_mok fx_kl fx_Ts fx_Bs fx_Ss fx_Ns fx_dft fx_mt mq_52 := mok_of (Or.inl (by decide +kernel)) mh_52 (by decide) (by decide) md_52 ms_52_0
theorem md_53 : mc_53_0.all (fx_dc prog_1_method_24_code) = true := by decide +kernel
theorem mok_53 : eh_mok fx_kl fx_Ts fx_Bs fx_Ss fx_Ns fx_dft fx_mt mq_53 := mok_of (Or.inl (by decide +kernel)) mh_53 (by decide) (by decide) md_53 ms_53_0
theorem md_54 : mc_54_0.all (fx_dc prog_1_method_37_code) = true := by decide +kernel
theorem mok_54 : eh_mok fx_kl fx_Ts fx_Bs fx_Ss fx_Ns fx_dft fx_mt mq_54 := mok_of (Or.inl (by decide +kernel)) mh_54 (by decide) (by decide) md_54 ms_54_0
theorem md_55 : mc_55_0.all (fx_dc prog_1_method_53_code) = true := by decide +kernel
theorem mok_55 : eh_mok fx_kl fx_Ts fx_Bs fx_Ss fx_Ns fx_dft fx_mt mq_55 := mok_of (Or.inl (by decide +kernel)) mh_55 (by decide) (by decide) md_55 ms_55_0
theorem md_56 : mc_56_0.all (fx_dc prog_8_method_5_code) = true := by decide +kernel
theorem mok_56 : eh_mok fx_kl fx_Ts fx_Bs fx_Ss fx_Ns fx_dft fx_mt mq_56 := mok_of (Or.inl (by decide +kernel)) mh_56 (by decide) (by decide) md_56 ms_56_0
theorem md_57 : mc_57_0.all (fx_dc prog_8_method_2_code) = true := by decide +kernel
theorem mok_57 : eh_mok fx_kl fx_Ts fx_Bs fx_Ss fx_Ns fx_dft fx_mt mq_57 := mok_of (Or.inl (by decide +kernel)) mh_57 (by decide) (by decide) md_57 ms_57_0
theorem md_58 : mc_58_0.all (fx_dc method_20_code) = true := by decide +kernel
theorem mok_58 : eh_mok fx_kl fx_Ts fx_Bs fx_Ss fx_Ns fx_dft fx_mt mq_58 := mok_of (Or.inl (by decide +kernel)) mh_58 (by decide) (by decide) md_58 ms_58_0
theorem md_59 : mc_59_0.all (fx_dc prog_1_method_51_code) = true := by decide +kernel
theorem mok_59 : eh_mok fx_kl fx_Ts fx_Bs fx_Ss fx_Ns fx_dft fx_mt mq_59 := mok_of (Or.inl (by decide +kernel)) mh_59 (by decide) (by decide) md_59 ms_59_0
theorem md_60 : mc_60_0.all (fx_dc prog_3_method_5_code) = true := by decide +kernel
theorem mok_60 : eh_mok fx_kl fx_Ts fx_Bs fx_Ss fx_Ns fx_dft fx_mt mq_60 := mok_of (Or.inl (by decide +kernel)) mh_60 (by decide) (by decide) md_60 ms_60_0
theorem md_61 : mc_61_0.all (fx_dc prog_1_method_40_code) = true := by decide +kernel
theorem mok_61 : eh_mok fx_kl fx_Ts fx_Bs fx_Ss fx_Ns fx_dft fx_mt mq_61 := mok_of (Or.inl (by decide +kernel)) mh_61 (by decide) (by decide) md_61 ms_61_0
theorem md_62 : mc_62_0.all (fx_dc prog_1_method_54_code) = true := by decide +kernel
theorem mok_62 : eh_mok fx_kl fx_Ts fx_Bs fx_Ss fx_Ns fx_dft fx_mt mq_62 := mok_of (Or.inl (by decide +kernel)) mh_62 (by decide) (by decide) md_62 ms_62_0
theorem md_63 : mc_63_0.all (fx_dc prog_34_method_2_code) = true := by decide +kernel
theorem mok_63 : eh_mok fx_kl fx_Ts fx_Bs fx_Ss fx_Ns fx_dft fx_mt mq_63 := mok_of (Or.inl (by decide +kernel)) mh_63 (by decide) (by decide) md_63 ms_63_0
theorem md_64 : mc_64_0.all (fx_dc prog_35_method_103_code) = true := by decide +kernel
theorem mok_64 : eh_mok fx_kl fx_Ts fx_Bs fx_Ss fx_Ns fx_dft fx_mt mq_64 := mok_of (Or.inl (by decide +kernel)) mh_64 (by decide) (by decide) md_64 ms_64_0
theorem md_65 : mc_65_0.all (fx_dc prog_9_method_6_code) = true := by decide +kernel
theorem mok_65 : eh_mok fx_kl fx_Ts fx_Bs fx_Ss fx_Ns fx_dft fx_mt mq_65 := mok_of (Or.inl (by decide +kernel)) mh_65 (by decide) (by decide) md_65 ms_65_0
theorem md_66 : mc_66_0.all (fx_dc prog_34_method_8_code) = true := by decide +kernel
theorem mok_66 : eh_mok fx_kl fx_Ts fx_Bs fx_Ss fx_Ns fx_dft fx_mt mq_66 := mok_of (Or.inl (by decide +kernel)) mh_66 (by decide) (by decide) md_66 ms_66_0
theorem md_67 : mc_67_0.all (fx_dc prog_3_method_8_code) = true := by decide +kernel
theorem mok_67 : eh_mok fx_kl fx_Ts fx_Bs fx_Ss fx_Ns fx_dft fx_mt mq_67 := mok_of (Or.inl (by decide +kernel)) mh_67 (by decide) (by decide) md_67 ms_67_0
theorem md_68 : mc_68_0.all (fx_dc prog_34_method_25_code) = true := by decide +kernel
theorem mok_68 : eh_mok fx_kl fx_Ts fx_Bs fx_Ss fx_Ns fx_dft fx_mt mq_68 := mok_of (Or.inl (by decide +kernel)) mh_68 (by decide) (by decide) md_68 ms_68_0
theorem md_69 : mc_69_0.all (fx_dc prog_3_method_2_code) = true := by decide +kernel
theorem mok_69 : eh_mok fx_kl fx_Ts fx_Bs fx_Ss fx_Ns fx_dft fx_mt mq_69 := mok_of (Or.inl (by decide +kernel)) mh_69 (by decide) (by decide) md_69 ms_69_0
theorem md_70 : mc_70_0.all (fx_dc prog_1_method_31_code) = true := by decide +kernel
theorem mok_70 : eh_mok fx_kl fx_Ts fx_Bs fx_Ss fx_Ns fx_dft fx_mt mq_70 := mok_of (Or.inl (by decide +kernel)) mh_70 (by decide) (by decide) md_70 ms_70_0
theorem md_71 : mc_71_0.all (fx_dc prog_1_method_33_code) = true := by decide +kernel
theorem mok_71 : eh_mok fx_kl fx_Ts fx_Bs fx_Ss fx_Ns fx_dft fx_mt mq_71 := mok_of (Or.inl (by decide +kernel)) mh_71 (by decide) (by decide) md_71 ms_71_0
theorem md_72 : mc_72_0.all (fx_dc prog_1_method_22_code) = true := by decide +kernel
theorem mok_72 : eh_mok fx_kl fx_Ts fx_Bs fx_Ss fx_Ns fx_dft fx_mt mq_72 := mok_of (Or.inl (by decide +kernel)) mh_72 (by decide) (by decide) md_72 ms_72_0
theorem md_73 : mc_73_0.all (fx_dc prog_1_method_23_code) = true := by decide +kernel
theorem mok_73 : eh_mok fx_kl fx_Ts fx_Bs fx_Ss fx_Ns fx_dft fx_mt mq_73 := mok_of (Or.inl (by decide +kernel)) mh_73 (by decide) (by decide) md_73 ms_73_0
theorem md_74 : mc_74_0.all (fx_dc prog_1_method_25_code) = true := by decide +kernel
theorem mok_74 : eh_mok fx_kl fx_Ts fx_Bs fx_Ss fx_Ns fx_dft fx_mt mq_74 := mok_of (Or.inl (by decide +kernel)) mh_74 (by decide) (by decide) md_74 ms_74_0
theorem md_75 : mc_75_0.all (fx_dc prog_1_method_26_code) = true := by decide +kernel
theorem mok_75 : eh_mok fx_kl fx_Ts fx_Bs fx_Ss fx_Ns fx_dft fx_mt mq_75 := mok_of (Or.inl (by decide +kernel)) mh_75 (by decide) (by decide) md_75 ms_75_0
theorem md_76 : mc_76_0.all (fx_dc method_5_code) = true := by decide +kernel
theorem mok_76 : eh_mok fx_kl fx_Ts fx_Bs fx_Ss fx_Ns fx_dft fx_mt mq_76 := mok_of (Or.inl (by decide +kernel)) mh_76 (by decide) (by decide) md_76 ms_76_0
theorem md_77 : mc_77_0.all (fx_dc prog_1_method_27_code) = true := by decide +kernel
theorem mok_77 : eh_mok fx_kl fx_Ts fx_Bs fx_Ss fx_Ns fx_dft fx_mt mq_77 := mok_of (Or.inl (by decide +kernel)) mh_77 (by decide) (by decide) md_77 ms_77_0
theorem md_78 : mc_78_0.all (fx_dc prog_1_method_28_code) = true := by decide +kernel
theorem mok_78 : eh_mok fx_kl fx_Ts fx_Bs fx_Ss fx_Ns fx_dft fx_mt mq_78 := mok_of (Or.inl (by decide +kernel)) mh_78 (by decide) (by decide) md_78 ms_78_0
theorem md_79 : mc_79_0.all (fx_dc prog_1_method_29_code) = true := by decide +kernel
theorem mok_79 : eh_mok fx_kl fx_Ts fx_Bs fx_Ss fx_Ns fx_dft fx_mt mq_79 := mok_of (Or.inl (by decide +kernel)) mh_79 (by decide) (by decide) md_79 ms_79_0
theorem md_80 : mc_80_0.all (fx_dc prog_1_method_30_code) = true := by decide +kernel
theorem mok_80 : eh_mok fx_kl fx_Ts fx_Bs fx_Ss fx_Ns fx_dft fx_mt mq_80 := mok_of (Or.inl (by decide +kernel)) mh_80 (by decide) (by decide) md_80 ms_80_0
theorem md_81 : mc_81_0.all (fx_dc prog_1_method_41_code) = true := by decide +kernel
theorem mok_81 : eh_mok fx_kl fx_Ts fx_Bs fx_Ss fx_Ns fx_dft fx_mt mq_81 := mok_of (Or.inl (by decide +kernel)) mh_81 (by decide) (by decide) md_81 ms_81_0
theorem md_82 : mc_82_0.all (fx_dc prog_1_method_44_code) = true := by decide +kernel
theorem mok_82 : eh_mok fx_kl fx_Ts fx_Bs fx_Ss fx_Ns fx_dft fx_mt mq_82 := mok_of (Or.inl (by decide +kernel)) mh_82 (by decide) (by decide) md_82 ms_82_0
theorem md_83 : mc_83_0.all (fx_dc prog_3_method_6_code) = true := by decide +kernel
theorem mok_83 : eh_mok fx_kl fx_Ts fx_Bs fx_Ss fx_Ns fx_dft fx_mt mq_83 := mok_of (Or.inl (by decide +kernel)) mh_83 (by decide) (by decide) md_83 ms_83_0
theorem md_84 : mc_84_0.all (fx_dc prog_3_method_10_code) = true := by decide +kernel
theorem mok_84 : eh_mok fx_kl fx_Ts fx_Bs fx_Ss fx_Ns fx_dft fx_mt mq_84 := mok_of (Or.inl (by decide +kernel)) mh_84 (by decide) (by decide) md_84 ms_84_0
theorem md_85 : mc_85_0.all (fx_dc prog_22_method_50_code) = true := by decide +kernel
theorem mok_85 : eh_mok fx_kl fx_Ts fx_Bs fx_Ss fx_Ns fx_dft fx_mt mq_85 := mok_of (Or.inl (by decide +kernel)) mh_85 (by decide) (by decide) md_85 ms_85_0
theorem md_86 : mc_86_0.all (fx_dc method_8_code) = true := by decide +kernel
theorem mok_86 : eh_mok fx_kl fx_Ts fx_Bs fx_Ss fx_Ns fx_dft fx_mt mq_86 := mok_of (Or.inl (by decide +kernel)) mh_86 (by decide) (by decide) md_86 ms_86_0
theorem md_87 : mc_87_0.all (fx_dc prog_1_method_59_code) = true := by decide +kernel
theorem mok_87 : eh_mok fx_kl fx_Ts fx_Bs fx_Ss fx_Ns fx_dft fx_mt mq_87 := mok_of (Or.inl (by decide +kernel)) mh_87 (by decide) (by decide) md_87 ms_87_0
theorem md_88 : mc_88_0.all (fx_dc prog_5_method_17_code) = true := by decide +kernel
theorem mok_88 : eh_mok fx_kl fx_Ts fx_Bs fx_Ss fx_Ns fx_dft fx_mt mq_88 := mok_of (Or.inl (by decide +kernel)) mh_88 (by decide) (by decide) md_88 ms_88_0
theorem md_89 : mc_89_0.all (fx_dc prog_1_method_62_code) = true := by decide +kernel
theorem mok_89 : eh_mok fx_kl fx_Ts fx_Bs fx_Ss fx_Ns fx_dft fx_mt mq_89 := mok_of (Or.inl (by decide +kernel)) mh_89 (by decide) (by decide) md_89 ms_89_0
theorem md_90 : mc_90_0.all (fx_dc prog_2_method_3_code) = true := by decide +kernel
theorem mok_90 : eh_mok fx_kl fx_Ts fx_Bs fx_Ss fx_Ns fx_dft fx_mt mq_90 := mok_of (Or.inl (by decide +kernel)) mh_90 (by decide) (by decide) md_90 ms_90_0
theorem md_91 : mc_91_0.all (fx_dc prog_4_method_1_code) = true := by decide +kernel
theorem mok_91 : eh_mok fx_kl fx_Ts fx_Bs fx_Ss fx_Ns fx_dft fx_mt mq_91 := mok_of (Or.inl (by decide +kernel)) mh_91 (by decide) (by decide) md_91 ms_91_0
theorem md_92 : mc_92_0.all (fx_dc prog_4_method_3_code) = true := by decide +kernel
theorem mok_92 : eh_mok fx_kl fx_Ts fx_Bs fx_Ss fx_Ns fx_dft fx_mt mq_92 := mok_of (Or.inl (by decide +kernel)) mh_92 (by decide) (by decide) md_92 ms_92_0
theorem md_93 : mc_93_0.all (fx_dc prog_5_method_12_code) = true := by decide +kernel
theorem mok_93 : eh_mok fx_kl fx_Ts fx_Bs fx_Ss fx_Ns fx_dft fx_mt mq_93 := mok_of (Or.inl (by decide +kernel)) mh_93 (by decide) (by decide) md_93 ms_93_0
theorem md_94 : mc_94_0.all (fx_dc prog_1_method_43_code) = true := by decide +kernel
theorem mok_94 : eh_mok fx_kl fx_Ts fx_Bs fx_Ss fx_Ns fx_dft fx_mt mq_94 := mok_of (Or.inl (by decide +kernel)) mh_94 (by decide) (by decide) md_94 ms_94_0
theorem md_95 : mc_95_0.all (fx_dc prog_5_method_7_code) = true := by decide +kernel
theorem mok_95 : eh_mok fx_kl fx_Ts fx_Bs fx_Ss fx_Ns fx_dft fx_mt mq_95 := mok_of (Or.inl (by decide +kernel)) mh_95 (by decide) (by decide) md_95 ms_95_0
theorem md_96 : mc_96_0.all (fx_dc prog_1_method_46_code) = true := by decide +kernel
theorem mok_96 : eh_mok fx_kl fx_Ts fx_Bs fx_Ss fx_Ns fx_dft fx_mt mq_96 := mok_of (Or.inl (by decide +kernel)) mh_96 (by decide) (by decide) md_96 ms_96_0
theorem md_97 : mc_97_0.all (fx_dc prog_10_method_5_code) = true := by decide +kernel
theorem mok_97 : eh_mok fx_kl fx_Ts fx_Bs fx_Ss fx_Ns fx_dft fx_mt mq_97 := mok_of (Or.inl (by decide +kernel)) mh_97 (by decide) (by decide) md_97 ms_97_0
theorem md_98 : mc_98_0.all (fx_dc prog_1_method_57_code) = true := by decide +kernel
theorem mok_98 : eh_mok fx_kl fx_Ts fx_Bs fx_Ss fx_Ns fx_dft fx_mt mq_98 := mok_of (Or.inl (by decide +kernel)) mh_98 (by decide) (by decide) md_98 ms_98_0
theorem md_99 : mc_99_0.all (fx_dc prog_10_method_17_code) = true := by decide +kernel
theorem mok_99 : eh_mok fx_kl fx_Ts fx_Bs fx_Ss fx_Ns fx_dft fx_mt mq_99 := mok_of (Or.inl (by decide +kernel)) mh_99 (by decide) (by decide) md_99 ms_99_0
theorem md_100 : mc_100_0.all (fx_dc prog_1_method_56_code) = true := by decide +kernel
theorem mok_100 : eh_mok fx_kl fx_Ts fx_Bs fx_Ss fx_Ns fx_dft fx_mt mq_100 := mok_of (Or.inl (by decide +kernel)) mh_100 (by decide) (by decide) md_100 ms_100_0
theorem md_101 : mc_101_0.all (fx_dc prog_1_method_58_code) = true := by decide +kernel
theorem mok_101 : eh_mok fx_kl fx_Ts fx_Bs fx_Ss fx_Ns fx_dft fx_mt mq_101 := mok_of (Or.inl (by decide +kernel)) mh_101 (by decide) (by decide) md_101 ms_101_0
theorem md_102 : mc_102_0.all (fx_dc prog_10_method_18_code) = true := by decide +kernel
theorem mok_102 : eh_mok fx_kl fx_Ts fx_Bs fx_Ss fx_Ns fx_dft fx_mt mq_102 := mok_of (Or.inl (by decide +kernel)) mh_102 (by decide) (by decide) md_102 ms_102_0
theorem md_103 : mc_103_0.all (fx_dc prog_10_method_20_code) = true := by decide +kernel
theorem mok_103 : eh_mok fx_kl fx_Ts fx_Bs fx_Ss fx_Ns fx_dft fx_mt mq_103 := mok_of (Or.inl (by decide +kernel)) mh_103 (by decide) (by decide) md_103 ms_103_0
theorem md_104 : mc_104_0.all (fx_dc prog_1_method_45_code) = true := by decide +kernel
theorem mok_104 : eh_mok fx_kl fx_Ts fx_Bs fx_Ss fx_Ns fx_dft fx_mt mq_104 := mok_of (Or.inl (by decide +kernel)) mh_104 (by decide) (by decide) md_104 ms_104_0
theorem md_105 : mc_105_0.all (fx_dc prog_1_method_61_code) = true := by decide +kernel
theorem mok_105 : eh_mok fx_kl fx_Ts fx_Bs fx_Ss fx_Ns fx_dft fx_mt mq_105 := mok_of (Or.inl (by decide +kernel)) mh_105 (by decide) (by decide) md_105 ms_105_0
theorem md_106 : mc_106_0.all (fx_dc prog_1_method_4_code) = true := by decide +kernel
theorem mok_106 : eh_mok fx_kl fx_Ts fx_Bs fx_Ss fx_Ns fx_dft fx_mt mq_106 := mok_of (Or.inl (by decide +kernel)) mh_106 (by decide) (by decide) md_106 ms_106_0
theorem md_107 : mc_107_0.all (fx_dc prog_9_method_4_code) = true := by decide +kernel
theorem mok_107 : eh_mok fx_kl fx_Ts fx_Bs fx_Ss fx_Ns fx_dft fx_mt mq_107 := mok_of (Or.inl (by decide +kernel)) mh_107 (by decide) (by decide) md_107 ms_107_0
theorem md_108 : mc_108_0.all (fx_dc prog_10_method_8_code) = true := by decide +kernel
theorem mok_108 : eh_mok fx_kl fx_Ts fx_Bs fx_Ss fx_Ns fx_dft fx_mt mq_108 := mok_of (Or.inl (by decide +kernel)) mh_108 (by decide) (by decide) md_108 ms_108_0
theorem md_109 : mc_109_0.all (fx_dc prog_9_method_5_code) = true := by decide +kernel
theorem mok_109 : eh_mok fx_kl fx_Ts fx_Bs fx_Ss fx_Ns fx_dft fx_mt mq_109 := mok_of (Or.inl (by decide +kernel)) mh_109 (by decide) (by decide) md_109 ms_109_0
theorem md_110 : mc_110_0.all (fx_dc prog_5_method_9_code) = true := by decide +kernel
theorem mok_110 : eh_mok fx_kl fx_Ts fx_Bs fx_Ss fx_Ns fx_dft fx_mt mq_110 := mok_of (Or.inl (by decide +kernel)) mh_110 (by decide) (by decide) md_110 ms_110_0
theorem md_111 : mc_111_0.all (fx_dc prog_10_method_7_code) = true := by decide +kernel
theorem mok_111 : eh_mok fx_kl fx_Ts fx_Bs fx_Ss fx_Ns fx_dft fx_mt mq_111 := mok_of (Or.inl (by decide +kernel)) mh_111 (by decide) (by decide) md_111 ms_111_0
theorem md_112 : mc_112_0.all (fx_dc prog_5_method_10_code) = true := by decide +kernel
theorem mok_112 : eh_mok fx_kl fx_Ts fx_Bs fx_Ss fx_Ns fx_dft fx_mt mq_112 := mok_of (Or.inl (by decide +kernel)) mh_112 (by decide) (by decide) md_112 ms_112_0
theorem md_113 : mc_113_0.all (fx_dc prog_10_method_21_code) = true := by decide +kernel
theorem mok_113 : eh_mok fx_kl fx_Ts fx_Bs fx_Ss fx_Ns fx_dft fx_mt mq_113 := mok_of (Or.inl (by decide +kernel)) mh_113 (by decide) (by decide) md_113 ms_113_0
theorem md_114 : mc_114_0.all (fx_dc prog_9_method_12_code) = true := by decide +kernel
theorem mok_114 : eh_mok fx_kl fx_Ts fx_Bs fx_Ss fx_Ns fx_dft fx_mt mq_114 := mok_of (Or.inl (by decide +kernel)) mh_114 (by decide) (by decide) md_114 ms_114_0
theorem md_115 : mc_115_0.all (fx_dc prog_1_method_48_code) = true := by decide +kernel
theorem mok_115 : eh_mok fx_kl fx_Ts fx_Bs fx_Ss fx_Ns fx_dft fx_mt mq_115 := mok_of (Or.inl (by decide +kernel)) mh_115 (by decide) (by decide) md_115 ms_115_0
theorem md_116 : mc_116_0.all (fx_dc prog_10_method_13_code) = true := by decide +kernel
theorem mok_116 : eh_mok fx_kl fx_Ts fx_Bs fx_Ss fx_Ns fx_dft fx_mt mq_116 := mok_of (Or.inl (by decide +kernel)) mh_116 (by decide) (by decide) md_116 ms_116_0
theorem md_117 : mc_117_0.all (fx_dc prog_1_method_9_code) = true := by decide +kernel
theorem mok_117 : eh_mok fx_kl fx_Ts fx_Bs fx_Ss fx_Ns fx_dft fx_mt mq_117 := mok_of (Or.inl (by decide +kernel)) mh_117 (by decide) (by decide) md_117 ms_117_0
theorem md_118 : mc_118_0.all (fx_dc prog_3_method_3_code) = true := by decide +kernel
theorem mok_118 : eh_mok fx_kl fx_Ts fx_Bs fx_Ss fx_Ns fx_dft fx_mt mq_118 := mok_of (Or.inl (by decide +kernel)) mh_118 (by decide) (by decide) md_118 ms_118_0
theorem md_119 : mc_119_0.all (fx_dc prog_1_method_55_code) = true := by decide +kernel
theorem mok_119 : eh_mok fx_kl fx_Ts fx_Bs fx_Ss fx_Ns fx_dft fx_mt mq_119 := mok_of (Or.inl (by decide +kernel)) mh_119 (by decide) (by decide) md_119 ms_119_0
theorem md_120 : mc_120_0.all (fx_dc prog_1_method_47_code) = true := by decide +kernel
theorem mok_120 : eh_mok fx_kl fx_Ts fx_Bs fx_Ss fx_Ns fx_dft fx_mt mq_120 := mok_of (Or.inl (by decide +kernel)) mh_120 (by decide) (by decide) md_120 ms_120_0
theorem md_121 : mc_121_0.all (fx_dc prog_3_method_7_code) = true := by decide +kernel
theorem mok_121 : eh_mok fx_kl fx_Ts fx_Bs fx_Ss fx_Ns fx_dft fx_mt mq_121 := mok_of (Or.inl (by decide +kernel)) mh_121 (by decide) (by decide) md_121 ms_121_0
theorem md_122 : mc_122_0.all (fx_dc prog_5_method_2_code) = true := by decide +kernel
theorem mok_122 : eh_mok fx_kl fx_Ts fx_Bs fx_Ss fx_Ns fx_dft fx_mt mq_122 := mok_of (Or.inl (by decide +kernel)) mh_122 (by decide) (by decide) md_122 ms_122_0
theorem md_123 : mc_123_0.all (fx_dc prog_8_method_8_code) = true := by decide +kernel
theorem mok_123 : eh_mok fx_kl fx_Ts fx_Bs fx_Ss fx_Ns fx_dft fx_mt mq_123 := mok_of (Or.inl (by decide +kernel)) mh_123 (by decide) (by decide) md_123 ms_123_0
theorem md_124 : mc_124_0.all (fx_dc prog_8_method_9_code) = true := by decide +kernel
theorem mok_124 : eh_mok fx_kl fx_Ts fx_Bs fx_Ss fx_Ns fx_dft fx_mt mq_124 := mok_of (Or.inl (by decide +kernel)) mh_124 (by decide) (by decide) md_124 ms_124_0
theorem md_125 : mc_125_0.all (fx_dc prog_8_method_6_code) = true := by decide +kernel
theorem mok_125 : eh_mok fx_kl fx_Ts fx_Bs fx_Ss fx_Ns fx_dft fx_mt mq_125 := mok_of (Or.inl (by decide +kernel)) mh_125 (by decide) (by decide) md_125 ms_125_0
theorem md_126 : mc_126_0.all (fx_dc prog_3_method_4_code) = true := by decide +kernel
theorem mok_126 : eh_mok fx_kl fx_Ts fx_Bs fx_Ss fx_Ns fx_dft fx_mt mq_126 := mok_of (Or.inl (by decide +kernel)) mh_126 (by decide) (by decide) md_126 ms_126_0
theorem md_127 : mc_127_0.all (fx_dc prog_34_method_20_code) = true := by decide +kernel
theorem mok_127 : eh_mok fx_kl fx_Ts fx_Bs fx_Ss fx_Ns fx_dft fx_mt mq_127 := mok_of (Or.inl (by decide +kernel)) mh_127 (by decide) (by decide) md_127 ms_127_0
theorem md_128 : mc_128_0.all (fx_dc prog_1_method_52_code) = true := by decide +kernel
theorem mok_128 : eh_mok fx_kl fx_Ts fx_Bs fx_Ss fx_Ns fx_dft fx_mt mq_128 := mok_of (Or.inl (by decide +kernel)) mh_128 (by decide) (by decide) md_128 ms_128_0
theorem md_129 : mc_129_0.all (fx_dc prog_33_method_1_code) = true := by decide +kernel
theorem mok_129 : eh_mok fx_kl fx_Ts fx_Bs fx_Ss fx_Ns fx_dft fx_mt mq_129 := mok_of (Or.inl (by decide +kernel)) mh_129 (by decide) (by decide) md_129 ms_129_0
theorem md_130 : mc_130_0.all (fx_dc prog_34_method_24_code) = true := by decide +kernel
theorem mok_130 : eh_mok fx_kl fx_Ts fx_Bs fx_Ss fx_Ns fx_dft fx_mt mq_130 := mok_of (Or.inl (by decide +kernel)) mh_130 (by decide) (by decide) md_130 ms_130_0
theorem md_131 : mc_131_0.all (fx_dc prog_9_method_9_code) = true := by decide +kernel
theorem mok_131 : eh_mok fx_kl fx_Ts fx_Bs fx_Ss fx_Ns fx_dft fx_mt mq_131 := mok_of (Or.inl (by decide +kernel)) mh_131 (by decide) (by decide) md_131 ms_131_0
theorem md_132 : mc_132_0.all (fx_dc prog_1_method_42_code) = true := by decide +kernel
theorem mok_132 : eh_mok fx_kl fx_Ts fx_Bs fx_Ss fx_Ns fx_dft fx_mt mq_132 := mok_of (Or.inl (by decide +kernel)) mh_132 (by decide) (by decide) md_132 ms_132_0
theorem md_133 : mc_133_0.all (fx_dc prog_9_method_2_code) = true := by decide +kernel
theorem mok_133 : eh_mok fx_kl fx_Ts fx_Bs fx_Ss fx_Ns fx_dft fx_mt mq_133 := mok_of (Or.inl (by decide +kernel)) mh_133 (by decide) (by decide) md_133 ms_133_0
theorem md_134 : mc_134_0.all (fx_dc prog_5_method_8_code) = true := by decide +kernel
theorem mok_134 : eh_mok fx_kl fx_Ts fx_Bs fx_Ss fx_Ns fx_dft fx_mt mq_134 := mok_of (Or.inl (by decide +kernel)) mh_134 (by decide) (by decide) md_134 ms_134_0
theorem md_135 : mc_135_0.all (fx_dc prog_10_method_14_code) = true := by decide +kernel
theorem mok_135 : eh_mok fx_kl fx_Ts fx_Bs fx_Ss fx_Ns fx_dft fx_mt mq_135 := mok_of (Or.inl (by decide +kernel)) mh_135 (by decide) (by decide) md_135 ms_135_0
theorem md_136 : mc_136_0.all (fx_dc prog_4_method_2_code) = true := by decide +kernel
theorem mok_136 : eh_mok fx_kl fx_Ts fx_Bs fx_Ss fx_Ns fx_dft fx_mt mq_136 := mok_of (Or.inl (by decide +kernel)) mh_136 (by decide) (by decide) md_136 ms_136_0
theorem md_137 : mc_137_0.all (fx_dc prog_5_method_4_code) = true := by decide +kernel
theorem mok_137 : eh_mok fx_kl fx_Ts fx_Bs fx_Ss fx_Ns fx_dft fx_mt mq_137 := mok_of (Or.inl (by decide +kernel)) mh_137 (by decide) (by decide) md_137 ms_137_0
theorem md_138 : mc_138_0.all (fx_dc prog_7_method_2_code) = true := by decide +kernel
theorem mok_138 : eh_mok fx_kl fx_Ts fx_Bs fx_Ss fx_Ns fx_dft fx_mt mq_138 := mok_of (Or.inl (by decide +kernel)) mh_138 (by decide) (by decide) md_138 ms_138_0
theorem md_139 : mc_139_0.all (fx_dc prog_8_method_4_code) = true := by decide +kernel
theorem mok_139 : eh_mok fx_kl fx_Ts fx_Bs fx_Ss fx_Ns fx_dft fx_mt mq_139 := mok_of (Or.inl (by decide +kernel)) mh_139 (by decide) (by decide) md_139 ms_139_0
theorem md_140 : mc_140_0.all (fx_dc prog_8_method_3_code) = true := by decide +kernel
theorem mok_140 : eh_mok fx_kl fx_Ts fx_Bs fx_Ss fx_Ns fx_dft fx_mt mq_140 := mok_of (Or.inl (by decide +kernel)) mh_140 (by decide) (by decide) md_140 ms_140_0
theorem md_141 : mc_141_0.all (fx_dc prog_4_method_12_code) = true := by decide +kernel
theorem mok_141 : eh_mok fx_kl fx_Ts fx_Bs fx_Ss fx_Ns fx_dft fx_mt mq_141 := mok_of (Or.inl (by decide +kernel)) mh_141 (by decide) (by decide) md_141 ms_141_0
theorem md_142 : mc_142_0.all (fx_dc prog_4_method_13_code) = true := by decide +kernel
theorem mok_142 : eh_mok fx_kl fx_Ts fx_Bs fx_Ss fx_Ns fx_dft fx_mt mq_142 := mok_of (Or.inl (by decide +kernel)) mh_142 (by decide) (by decide) md_142 ms_142_0
theorem md_143 : mc_143_0.all (fx_dc prog_5_method_13_code) = true := by decide +kernel
theorem mok_143 : eh_mok fx_kl fx_Ts fx_Bs fx_Ss fx_Ns fx_dft fx_mt mq_143 := mok_of (Or.inl (by decide +kernel)) mh_143 (by decide) (by decide) md_143 ms_143_0
theorem md_144 : mc_144_0.all (fx_dc prog_5_method_14_code) = true := by decide +kernel
theorem mok_144 : eh_mok fx_kl fx_Ts fx_Bs fx_Ss fx_Ns fx_dft fx_mt mq_144 := mok_of (Or.inl (by decide +kernel)) mh_144 (by decide) (by decide) md_144 ms_144_0
theorem md_145 : mc_145_0.all (fx_dc prog_5_method_15_code) = true := by decide +kernel
theorem mok_145 : eh_mok fx_kl fx_Ts fx_Bs fx_Ss fx_Ns fx_dft fx_mt mq_145 := mok_of (Or.inl (by decide +kernel)) mh_145 (by decide) (by decide) md_145 ms_145_0
theorem md_146 : mc_146_0.all (fx_dc prog_5_method_16_code) = true := by decide +kernel
theorem mok_146 : eh_mok fx_kl fx_Ts fx_Bs fx_Ss fx_Ns fx_dft fx_mt mq_146 := mok_of (Or.inl (by decide +kernel)) mh_146 (by decide) (by decide) md_146 ms_146_0
theorem md_147 : mc_147_0.all (fx_dc prog_9_method_3_code) = true := by decide +kernel
theorem mok_147 : eh_mok fx_kl fx_Ts fx_Bs fx_Ss fx_Ns fx_dft fx_mt mq_147 := mok_of (Or.inl (by decide +kernel)) mh_147 (by decide) (by decide) md_147 ms_147_0
theorem md_148 : mc_148_0.all (fx_dc prog_10_method_6_code) = true := by decide +kernel
theorem mok_148 : eh_mok fx_kl fx_Ts fx_Bs fx_Ss fx_Ns fx_dft fx_mt mq_148 := mok_of (Or.inl (by decide +kernel)) mh_148 (by decide) (by decide) md_148 ms_148_0
theorem md_149 : mc_149_0.all (fx_dc prog_10_method_19_code) = true := by decide +kernel
theorem mok_149 : eh_mok fx_kl fx_Ts fx_Bs fx_Ss fx_Ns fx_dft fx_mt mq_149 := mok_of (Or.inl (by decide +kernel)) mh_149 (by decide) (by decide) md_149 ms_149_0
theorem md_150 : mc_150_0.all (fx_dc prog_10_method_16_code) = true := by decide +kernel
theorem mok_150 : eh_mok fx_kl fx_Ts fx_Bs fx_Ss fx_Ns fx_dft fx_mt mq_150 := mok_of (Or.inl (by decide +kernel)) mh_150 (by decide) (by decide) md_150 ms_150_0
theorem md_151 : mc_151_0.all (fx_dc prog_5_method_3_code) = true := by decide +kernel
theorem mok_151 : eh_mok fx_kl fx_Ts fx_Bs fx_Ss fx_Ns fx_dft fx_mt mq_151 := mok_of (Or.inl (by decide +kernel)) mh_151 (by decide) (by decide) md_151 ms_151_0
theorem md_152 : mc_152_0.all (fx_dc prog_9_method_14_code) = true := by decide +kernel
theorem mok_152 : eh_mok fx_kl fx_Ts fx_Bs fx_Ss fx_Ns fx_dft fx_mt mq_152 := mok_of (Or.inl (by decide +kernel)) mh_152 (by decide) (by decide) md_152 ms_152_0
theorem md_153 : mc_153_0.all (fx_dc prog_5_method_11_code) = true := by decide +kernel
theorem mok_153 : eh_mok fx_kl fx_Ts fx_Bs fx_Ss fx_Ns fx_dft fx_mt mq_153 := mok_of (Or.inl (by decide +kernel)) mh_153 (by decide) (by decide) md_153 ms_153_0
theorem md_154 : mc_154_0.all (fx_dc prog_10_method_4_code) = true := by decide +kernel
theorem mok_154 : eh_mok fx_kl fx_Ts fx_Bs fx_Ss fx_Ns fx_dft fx_mt mq_154 := mok_of (Or.inl (by decide +kernel)) mh_154 (by decide) (by decide) md_154 ms_154_0
theorem md_155 : mc_155_0.all (fx_dc prog_10_method_12_code) = true := by decide +kernel
theorem mok_155 : eh_mok fx_kl fx_Ts fx_Bs fx_Ss fx_Ns fx_dft fx_mt mq_155 := mok_of (Or.inl (by decide +kernel)) mh_155 (by decide) (by decide) md_155 ms_155_0
theorem md_156 : mc_156_0.all (fx_dc prog_9_method_11_code) = true := by decide +kernel
theorem mok_156 : eh_mok fx_kl fx_Ts fx_Bs fx_Ss fx_Ns fx_dft fx_mt mq_156 := mok_of (Or.inl (by decide +kernel)) mh_156 (by decide) (by decide) md_156 ms_156_0
theorem md_157 : mc_157_0.all (fx_dc prog_10_method_15_code) = true := by decide +kernel
theorem mok_157 : eh_mok fx_kl fx_Ts fx_Bs fx_Ss fx_Ns fx_dft fx_mt mq_157 := mok_of (Or.inl (by decide +kernel)) mh_157 (by decide) (by decide) md_157 ms_157_0
theorem md_158 : mc_158_0.all (fx_dc prog_1_method_49_code) = true := by decide +kernel
theorem mok_158 : eh_mok fx_kl fx_Ts fx_Bs fx_Ss fx_Ns fx_dft fx_mt mq_158 := mok_of (Or.inl (by decide +kernel)) mh_158 (by decide) (by decide) md_158 ms_158_0
theorem md_159 : mc_159_0.all (fx_dc prog_10_method_9_code) = true := by decide +kernel
theorem mok_159 : eh_mok fx_kl fx_Ts fx_Bs fx_Ss fx_Ns fx_dft fx_mt mq_159 := mok_of (Or.inl (by decide +kernel)) mh_159 (by decide) (by decide) md_159 ms_159_0
theorem md_160 : mc_160_0.all (fx_dc prog_9_method_8_code) = true := by decide +kernel
theorem mok_160 : eh_mok fx_kl fx_Ts fx_Bs fx_Ss fx_Ns fx_dft fx_mt mq_160 := mok_of (Or.inl (by decide +kernel)) mh_160 (by decide) (by decide) md_160 ms_160_0
theorem md_161 : mc_161_0.all (fx_dc prog_8_method_7_code) = true := by decide +kernel
theorem mok_161 : eh_mok fx_kl fx_Ts fx_Bs fx_Ss fx_Ns fx_dft fx_mt mq_161 := mok_of (Or.inl (by decide +kernel)) mh_161 (by decide) (by decide) md_161 ms_161_0
theorem md_162 : mc_162_0.all (fx_dc prog_8_method_10_code) = true := by decide +kernel
theorem mok_162 : eh_mok fx_kl fx_Ts fx_Bs fx_Ss fx_Ns fx_dft fx_mt mq_162 := mok_of (Or.inl (by decide +kernel)) mh_162 (by decide) (by decide) md_162 ms_162_0
theorem md_163 : mc_163_0.all (fx_dc prog_9_method_10_code) = true := by decide +kernel
theorem mok_163 : eh_mok fx_kl fx_Ts fx_Bs fx_Ss fx_Ns fx_dft fx_mt mq_163 := mok_of (Or.inl (by decide +kernel)) mh_163 (by decide) (by decide) md_163 ms_163_0
theorem md_164 : mc_164_0.all (fx_dc prog_39_method_17_code) = true := by decide +kernel
theorem mok_164 : eh_mok fx_kl fx_Ts fx_Bs fx_Ss fx_Ns fx_dft fx_mt mq_164 := mok_of (Or.inl (by decide +kernel)) mh_164 (by decide) (by decide) md_164 ms_164_0
theorem md_165 : mc_165_0.all (fx_dc prog_34_method_18_code) = true := by decide +kernel
theorem mok_165 : eh_mok fx_kl fx_Ts fx_Bs fx_Ss fx_Ns fx_dft fx_mt mq_165 := mok_of (Or.inl (by decide +kernel)) mh_165 (by decide) (by decide) md_165 ms_165_0
theorem md_166 : mc_166_0.all (fx_dc prog_32_method_1_code) = true := by decide +kernel
theorem mok_166 : eh_mok fx_kl fx_Ts fx_Bs fx_Ss fx_Ns fx_dft fx_mt mq_166 := mok_of (Or.inl (by decide +kernel)) mh_166 (by decide) (by decide) md_166 ms_166_0
theorem md_167 : mc_167_0.all (fx_dc prog_34_method_7_code) = true := by decide +kernel
theorem mok_167 : eh_mok fx_kl fx_Ts fx_Bs fx_Ss fx_Ns fx_dft fx_mt mq_167 := mok_of (Or.inl (by decide +kernel)) mh_167 (by decide) (by decide) md_167 ms_167_0
theorem md_168 : mc_168_0.all (fx_dc prog_10_method_2_code) = true := by decide +kernel
theorem mok_168 : eh_mok fx_kl fx_Ts fx_Bs fx_Ss fx_Ns fx_dft fx_mt mq_168 := mok_of (Or.inl (by decide +kernel)) mh_168 (by decide) (by decide) md_168 ms_168_0
theorem md_169 : mc_169_0.all (fx_dc prog_5_method_5_code) = true := by decide +kernel
theorem mok_169 : eh_mok fx_kl fx_Ts fx_Bs fx_Ss fx_Ns fx_dft fx_mt mq_169 := mok_of (Or.inl (by decide +kernel)) mh_169 (by decide) (by decide) md_169 ms_169_0
theorem md_170 : mc_170_0.all (fx_dc prog_5_method_6_code) = true := by decide +kernel
theorem mok_170 : eh_mok fx_kl fx_Ts fx_Bs fx_Ss fx_Ns fx_dft fx_mt mq_170 := mok_of (Or.inl (by decide +kernel)) mh_170 (by decide) (by decide) md_170 ms_170_0
theorem md_171 : mc_171_0.all (fx_dc prog_4_method_6_code) = true := by decide +kernel
theorem mok_171 : eh_mok fx_kl fx_Ts fx_Bs fx_Ss fx_Ns fx_dft fx_mt mq_171 := mok_of (Or.inl (by decide +kernel)) mh_171 (by decide) (by decide) md_171 ms_171_0
theorem md_172 : mc_172_0.all (fx_dc prog_4_method_9_code) = true := by decide +kernel
theorem mok_172 : eh_mok fx_kl fx_Ts fx_Bs fx_Ss fx_Ns fx_dft fx_mt mq_172 := mok_of (Or.inl (by decide +kernel)) mh_172 (by decide) (by decide) md_172 ms_172_0
theorem md_173 : mc_173_0.all (fx_dc prog_4_method_10_code) = true := by decide +kernel
theorem mok_173 : eh_mok fx_kl fx_Ts fx_Bs fx_Ss fx_Ns fx_dft fx_mt mq_173 := mok_of (Or.inl (by decide +kernel)) mh_173 (by decide) (by decide) md_173 ms_173_0
theorem md_174 : mc_174_0.all (fx_dc prog_23_method_65_code) = true := by decide +kernel
theorem mok_174 : eh_mok fx_kl fx_Ts fx_Bs fx_Ss fx_Ns fx_dft fx_mt mq_174 := mok_of (Or.inr ⟨by decide +kernel, rfl⟩) mh_174 (by decide) (by decide) md_174 ms_174_0
theorem md_175 : mc_175_0.all (fx_dc prog_7_method_3_code) = true := by decide +kernel
theorem mok_175 : eh_mok fx_kl fx_Ts fx_Bs fx_Ss fx_Ns fx_dft fx_mt mq_175 := mok_of (Or.inl (by decide +kernel)) mh_175 (by decide) (by decide) md_175 ms_175_0
theorem md_176 : mc_176_0.all (fx_dc prog_9_method_7_code) = true := by decide +kernel
theorem mok_176 : eh_mok fx_kl fx_Ts fx_Bs fx_Ss fx_Ns fx_dft fx_mt mq_176 := mok_of (Or.inl (by decide +kernel)) mh_176 (by decide) (by decide) md_176 ms_176_0
theorem md_177 : mc_177_0.all (fx_dc prog_43_method_11_code) = true := by decide +kernel
theorem mok_177 : eh_mok fx_kl fx_Ts fx_Bs fx_Ss fx_Ns fx_dft fx_mt mq_177 := mok_of (Or.inl (by decide +kernel)) mh_177 (by decide) (by decide) md_177 ms_177_0
theorem md_178 : mc_178_0.all (fx_dc prog_34_method_6_code) = true := by decide +kernel
theorem mok_178 : eh_mok fx_kl fx_Ts fx_Bs fx_Ss fx_Ns fx_dft fx_mt mq_178 := mok_of (Or.inl (by decide +kernel)) mh_178 (by decide) (by decide) md_178 ms_178_0
theorem md_179 : mc_179_0.all (fx_dc prog_10_method_3_code) = true := by decide +kernel
theorem mok_179 : eh_mok fx_kl fx_Ts fx_Bs fx_Ss fx_Ns fx_dft fx_mt mq_179 := mok_of (Or.inl (by decide +kernel)) mh_179 (by decide) (by decide) md_179 ms_179_0
theorem md_180 : mc_180_0.all (fx_dc prog_10_method_11_code) = true := by decide +kernel
theorem mok_180 : eh_mok fx_kl fx_Ts fx_Bs fx_Ss fx_Ns fx_dft fx_mt mq_180 := mok_of (Or.inl (by decide +kernel)) mh_180 (by decide) (by decide) md_180 ms_180_0
theorem md_181 : mc_181_0.all (fx_dc prog_10_method_10_code) = true := by decide +kernel
theorem mok_181 : eh_mok fx_kl fx_Ts fx_Bs fx_Ss fx_Ns fx_dft fx_mt mq_181 := mok_of (Or.inl (by decide +kernel)) mh_181 (by decide) (by decide) md_181 ms_181_0
theorem md_182 : mc_182_0.all (fx_dc prog_4_method_7_code) = true := by decide +kernel
theorem mok_182 : eh_mok fx_kl fx_Ts fx_Bs fx_Ss fx_Ns fx_dft fx_mt mq_182 := mok_of (Or.inl (by decide +kernel)) mh_182 (by decide) (by decide) md_182 ms_182_0
theorem md_183 : mc_183_0.all (fx_dc prog_4_method_8_code) = true := by decide +kernel
theorem mok_183 : eh_mok fx_kl fx_Ts fx_Bs fx_Ss fx_Ns fx_dft fx_mt mq_183 := mok_of (Or.inl (by decide +kernel)) mh_183 (by decide) (by decide) md_183 ms_183_0
theorem md_184 : mc_184_0.all (fx_dc prog_9_method_15_code) = true := by decide +kernel
theorem mok_184 : eh_mok fx_kl fx_Ts fx_Bs fx_Ss fx_Ns fx_dft fx_mt mq_184 := mok_of (Or.inl (by decide +kernel)) mh_184 (by decide) (by decide) md_184 ms_184_0
theorem md_185 : mc_185_0.all (fx_dc prog_4_method_11_code) = true := by decide +kernel
theorem mok_185 : eh_mok fx_kl fx_Ts fx_Bs fx_Ss fx_Ns fx_dft fx_mt mq_185 := mok_of (Or.inl (by decide +kernel)) mh_185 (by decide) (by decide) md_185 ms_185_0
theorem md_186 : mc_186_0.all (fx_dc prog_7_method_4_code) = true := by decide +kernel
theorem mok_186 : eh_mok fx_kl fx_Ts fx_Bs fx_Ss fx_Ns fx_dft fx_mt mq_186 := mok_of (Or.inl (by decide +kernel)) mh_186 (by decide) (by decide) md_186 ms_186_0
theorem md_187 : mc_187_0.all (fx_dc prog_7_method_5_code) = true := by decide +kernel
theorem mok_187 : eh_mok fx_kl fx_Ts fx_Bs fx_Ss fx_Ns fx_dft fx_mt mq_187 := mok_of (Or.inl (by decide +kernel)) mh_187 (by decide) (by decide) md_187 ms_187_0
theorem md_188 : mc_188_0.all (fx_dc prog_42_method_27_code) = true := by decide +kernel
theorem mok_188 : eh_mok fx_kl fx_Ts fx_Bs fx_Ss fx_Ns fx_dft fx_mt mq_188 := mok_of (Or.inl (by decide +kernel)) mh_188 (by decide) (by decide) md_188 ms_188_0
theorem md_189 : mc_189_0.all (fx_dc prog_4_method_4_code) = true := by decide +kernel
theorem mok_189 : eh_mok fx_kl fx_Ts fx_Bs fx_Ss fx_Ns fx_dft fx_mt mq_189 := mok_of (Or.inl (by decide +kernel)) mh_189 (by decide) (by decide) md_189 ms_189_0
theorem md_190 : mc_190_0.all (fx_dc prog_4_method_5_code) = true := by decide +kernel
theorem mok_190 : eh_mok fx_kl fx_Ts fx_Bs fx_Ss fx_Ns fx_dft fx_mt mq_190 := mok_of (Or.inl (by decide +kernel)) mh_190 (by decide) (by decide) md_190 ms_190_0
theorem md_191 : mc_191_0.all (fx_dc prog_23_method_69_code) = true := by decide +kernel
theorem mok_191 : eh_mok fx_kl fx_Ts fx_Bs fx_Ss fx_Ns fx_dft fx_mt mq_191 := mok_of (Or.inr ⟨by decide +kernel, rfl⟩) mh_191 (by decide) (by decide) md_191 ms_191_0
def fx_ml : List ev_Q := [mq_0, mq_1, mq_2, mq_3, mq_4, mq_5, mq_6, mq_7, mq_8, mq_9, mq_10, mq_11, mq_12, mq_13, mq_14, mq_15, mq_16, mq_17, mq_18, mq_19, mq_20, mq_21, mq_22, mq_23, mq_24, mq_25, mq_26, mq_27, mq_28, mq_29, mq_30, mq_31, mq_32, mq_33, mq_34, mq_35, mq_36, mq_37, mq_38, mq_39, mq_40, mq_41, mq_42, mq_43, mq_44, mq_45, mq_46, mq_47, mq_48, mq_49, mq_50, mq_51, mq_52, mq_53, mq_54, mq_55, mq_56, mq_57, mq_58, mq_59, mq_60, mq_61, mq_62, mq_63, mq_64, mq_65, mq_66, mq_67, mq_68, mq_69, mq_70, mq_71, mq_72, mq_73, mq_74, mq_75, mq_76, mq_77, mq_78, mq_79, mq_80, mq_81, mq_82, mq_83, mq_84, mq_85, mq_86, mq_87, mq_88, mq_89, mq_90, mq_91, mq_92, mq_93, mq_94, mq_95, mq_96, mq_97, mq_98, mq_99, mq_100, mq_101, mq_102, mq_103, mq_104, mq_105, mq_106, mq_107, mq_108, mq_109, mq_110, mq_111, mq_112, mq_113, mq_114, mq_115, mq_116, mq_117, mq_118, mq_119, mq_120, mq_121, mq_122, mq_123, mq_124, mq_125, mq_126, mq_127, mq_128, mq_129, mq_130, mq_131, mq_132, mq_133, mq_134, mq_135, mq_136, mq_137, mq_138, mq_139, mq_140, mq_141, mq_142, mq_143, mq_144, mq_145, mq_146, mq_147, mq_148, mq_149, mq_150, mq_151, mq_152, mq_153, mq_154, mq_155, mq_156, mq_157, mq_158, mq_159, mq_160, mq_161, mq_162, mq_163, mq_164, mq_165, mq_166, mq_167, mq_168, mq_169, mq_170, mq_171, mq_172, mq_173, mq_174, mq_175, mq_176, mq_177, mq_178, mq_179, mq_180, mq_181, mq_182, mq_183, mq_184, mq_185, mq_186, mq_187, mq_188, mq_189, mq_190, mq_191]
set_option maxRecDepth 100000 in
theorem ml_eq : fx_mt = fx_ml := rfl
set_option maxRecDepth 100000 in
theorem mok_all : ∀ q ∈ fx_ml, eh_mok fx_kl fx_Ts fx_Bs fx_Ss fx_Ns fx_dft fx_mt q := (List.forall_mem_cons.mpr ⟨mok_0, (List.forall_mem_cons.mpr ⟨mok_1, (List.forall_mem_cons.mpr ⟨mok_2, (List.forall_mem_cons.mpr ⟨mok_3, (List.forall_mem_cons.mpr ⟨mok_4, (List.forall_mem_cons.mpr ⟨mok_5, (List.forall_mem_cons.mpr ⟨mok_6, (List.forall_mem_cons.mpr ⟨mok_7, (List.forall_mem_cons.mpr ⟨mok_8, (List.forall_mem_cons.mpr ⟨mok_9, (List.forall_mem_cons.mpr ⟨mok_10, (List.forall_mem_cons.mpr ⟨mok_11, (List.forall_mem_cons.mpr ⟨mok_12, (List.forall_mem_cons.mpr ⟨mok_13, (List.forall_mem_cons.mpr ⟨mok_14, (List.forall_mem_cons.mpr ⟨mok_15, (List.forall_mem_cons.mpr ⟨mok_16, (List.forall_mem_cons.mpr ⟨mok_17, (List.forall_mem_cons.mpr ⟨mok_18, (List.forall_mem_cons.mpr ⟨mok_19, (List.forall_mem_cons.mpr ⟨mok_20, (List.forall_mem_cons.mpr ⟨mok_21, (List.forall_mem_cons.mpr ⟨mok_22, (List.forall_mem_cons.mpr ⟨mok_23, (List.forall_mem_cons.mpr ⟨mok_24, (List.forall_mem_cons.mpr ⟨mok_25, (List.forall_mem_cons.mpr ⟨mok_26, (List.forall_mem_cons.mpr ⟨mok_27, (List.forall_mem_cons.mpr ⟨mok_28, (List.forall_mem_cons.mpr ⟨mok_29, (List.forall_mem_cons.mpr ⟨mok_30, (List.forall_mem_cons.mpr ⟨mok_31, (List.forall_mem_cons.mpr ⟨mok_32, (List.forall_mem_cons.mpr ⟨mok_33, (List.forall_mem_cons.mpr ⟨mok_34, (List.forall_mem_cons.mpr ⟨mok_35, (List.forall_mem_cons.mpr ⟨mok_36, (List.forall_mem_cons.mpr ⟨mok_37, (List.forall_mem_cons.mpr ⟨mok_38, (List.forall_mem_cons.mpr ⟨mok_39, (List.forall_mem_cons.mpr ⟨mok_40, (List.forall_mem_cons.mpr ⟨mok_41, (List.forall_mem_cons.mpr ⟨mok_42, (List.forall_mem_cons.mpr ⟨mok_43, (List.forall_mem_cons.mpr ⟨mok_44, (List.forall_mem_cons.mpr ⟨mok_45, (List.forall_mem_cons.mpr ⟨mok_46, (List.forall_mem_cons.mpr ⟨mok_47, (List.forall_mem_cons.mpr ⟨mok_48, (List.forall_mem_cons.mpr ⟨mok_49, (List.forall_mem_cons.mpr ⟨mok_50, (List.forall_mem_cons.mpr ⟨mok_51, (List.forall_mem_cons.mpr ⟨mok_52, (List.forall_mem_cons.mpr ⟨mok_53, (List.forall_mem_cons.mpr ⟨mok_54, (List.forall_mem_cons.mpr ⟨mok_55, (List.forall_mem_cons.mpr ⟨mok_56, (List.forall_mem_cons.mpr ⟨mok_57, (List.forall_mem_cons.mpr ⟨mok_58, (List.forall_mem_cons.mpr ⟨mok_59, (List.forall_mem_cons.mpr ⟨mok_60, (List.forall_mem_cons.mpr ⟨mok_61, (List.forall_mem_cons.mpr ⟨mok_62, (List.forall_mem_cons.mpr ⟨mok_63, (List.forall_mem_cons.mpr ⟨mok_64, (List.forall_mem_cons.mpr ⟨mok_65, (List.forall_mem_cons.mpr ⟨mok_66, (List.forall_mem_cons.mpr ⟨mok_67, (List.forall_mem_cons.mpr ⟨mok_68, (List.forall_mem_cons.mpr ⟨mok_69, (List.forall_mem_cons.mpr ⟨mok_70, (List.forall_mem_cons.mpr ⟨mok_71, (List.forall_mem_cons.mpr ⟨mok_72, (List.forall_mem_cons.mpr ⟨mok_73, (List.forall_mem_cons.mpr ⟨mok_74, (List.forall_mem_cons.mpr ⟨mok_75, (List.forall_mem_cons.mpr ⟨mok_76, (List.forall_mem_cons.mpr ⟨mok_77, (List.forall_mem_cons.mpr ⟨mok_78, (List.forall_mem_cons.mpr ⟨mok_79, (List.forall_mem_cons.mpr ⟨mok_80, (List.forall_mem_cons.mpr ⟨mok_81, (List.forall_mem_cons.mpr ⟨mok_82, (List.forall_mem_cons.mpr ⟨mok_83, (List.forall_mem_cons.mpr ⟨mok_84, (List.forall_mem_cons.mpr ⟨mok_85, (List.forall_mem_cons.mpr ⟨mok_86, (List.forall_mem_cons.mpr ⟨mok_87, (List.forall_mem_cons.mpr ⟨mok_88, (List.forall_mem_cons.mpr ⟨mok_89, (List.forall_mem_cons.mpr ⟨mok_90, (List.forall_mem_cons.mpr ⟨mok_91, (List.forall_mem_cons.mpr ⟨mok_92, (List.forall_mem_cons.mpr ⟨mok_93, (List.forall_mem_cons.mpr ⟨mok_94, (List.forall_mem_cons.mpr ⟨mok_95, (List.forall_mem_cons.mpr ⟨mok_96, (List.forall_mem_cons.mpr ⟨mok_97, (List.forall_mem_cons.mpr ⟨mok_98, (List.forall_mem_cons.mpr ⟨mok_99, (List.forall_mem_cons.mpr ⟨mok_100, (List.forall_mem_cons.mpr ⟨mok_101, (List.forall_mem_cons.mpr ⟨mok_102, (List.forall_mem_cons.mpr ⟨mok_103, (List.forall_mem_cons.mpr ⟨mok_104, (List.forall_mem_cons.mpr ⟨mok_105, (List.forall_mem_cons.mpr ⟨mok_106, (List.forall_mem_cons.mpr ⟨mok_107, (List.forall_mem_cons.mpr ⟨mok_108, (List.forall_mem_cons.mpr ⟨mok_109, (List.forall_mem_cons.mpr ⟨mok_110, (List.forall_mem_cons.mpr ⟨mok_111, (List.forall_mem_cons.mpr ⟨mok_112, (List.forall_mem_cons.mpr ⟨mok_113, (List.forall_mem_cons.mpr ⟨mok_114, (List.forall_mem_cons.mpr ⟨mok_115, (List.forall_mem_cons.mpr ⟨mok_116, (List.forall_mem_cons.mpr ⟨mok_117, (List.forall_mem_cons.mpr ⟨mok_118, (List.forall_mem_cons.mpr ⟨mok_119, (List.forall_mem_cons.mpr ⟨mok_120, (List.forall_mem_cons.mpr ⟨mok_121, (List.forall_mem_cons.mpr ⟨mok_122, (List.forall_mem_cons.mpr ⟨mok_123, (List.forall_mem_cons.mpr ⟨mok_124, (List.forall_mem_cons.mpr ⟨mok_125, (List.forall_mem_cons.mpr ⟨mok_126, (List.forall_mem_cons.mpr ⟨mok_127, (List.forall_mem_cons.mpr ⟨mok_128, (List.forall_mem_cons.mpr ⟨mok_129, (List.forall_mem_cons.mpr ⟨mok_130, (List.forall_mem_cons.mpr ⟨mok_131, (List.forall_mem_cons.mpr ⟨mok_132, (List.forall_mem_cons.mpr ⟨mok_133, (List.forall_mem_cons.mpr ⟨mok_134, (List.forall_mem_cons.mpr ⟨mok_135, (List.forall_mem_cons.mpr ⟨mok_136, (List.forall_mem_cons.mpr ⟨mok_137, (List.forall_mem_cons.mpr ⟨mok_138, (List.forall_mem_cons.mpr ⟨mok_139, (List.forall_mem_cons.mpr ⟨mok_140, (List.forall_mem_cons.mpr ⟨mok_141, (List.forall_mem_cons.mpr ⟨mok_142, (List.forall_mem_cons.mpr ⟨mok_143, (List.forall_mem_cons.mpr ⟨mok_144, (List.forall_mem_cons.mpr ⟨mok_145, (List.forall_mem_cons.mpr ⟨mok_146, (List.forall_mem_cons.mpr ⟨mok_147, (List.forall_mem_cons.mpr ⟨mok_148, (List.forall_mem_cons.mpr ⟨mok_149, (List.forall_mem_cons.mpr ⟨mok_150, (List.forall_mem_cons.mpr ⟨mok_151, (List.forall_mem_cons.mpr ⟨mok_152, (List.forall_mem_cons.mpr ⟨mok_153, (List.forall_mem_cons.mpr ⟨mok_154, (List.forall_mem_cons.mpr ⟨mok_155, (List.forall_mem_cons.mpr ⟨mok_156, (List.forall_mem_cons.mpr ⟨mok_157, (List.forall_mem_cons.mpr ⟨mok_158, (List.forall_mem_cons.mpr ⟨mok_159, (List.forall_mem_cons.mpr ⟨mok_160, (List.forall_mem_cons.mpr ⟨mok_161, (List.forall_mem_cons.mpr ⟨mok_162, (List.forall_mem_cons.mpr ⟨mok_163, (List.forall_mem_cons.mpr ⟨mok_164, (List.forall_mem_cons.mpr ⟨mok_165, (List.forall_mem_cons.mpr ⟨mok_166, (List.forall_mem_cons.mpr ⟨mok_167, (List.forall_mem_cons.mpr ⟨mok_168, (List.forall_mem_cons.mpr ⟨mok_169, (List.forall_mem_cons.mpr ⟨mok_170, (List.forall_mem_cons.mpr ⟨mok_171, (List.forall_mem_cons.mpr ⟨mok_172, (List.forall_mem_cons.mpr ⟨mok_173, (List.forall_mem_cons.mpr ⟨mok_174, (List.forall_mem_cons.mpr ⟨mok_175, (List.forall_mem_cons.mpr ⟨mok_176, (List.forall_mem_cons.mpr ⟨mok_177, (List.forall_mem_cons.mpr ⟨mok_178, (List.forall_mem_cons.mpr ⟨mok_179, (List.forall_mem_cons.mpr ⟨mok_180, (List.forall_mem_cons.mpr ⟨mok_181, (List.forall_mem_cons.mpr ⟨mok_182, (List.forall_mem_cons.mpr ⟨mok_183, (List.forall_mem_cons.mpr ⟨mok_184, (List.forall_mem_cons.mpr ⟨mok_185, (List.forall_mem_cons.mpr ⟨mok_186, (List.forall_mem_cons.mpr ⟨mok_187, (List.forall_mem_cons.mpr ⟨mok_188, (List.forall_mem_cons.mpr ⟨mok_189, (List.forall_mem_cons.mpr ⟨mok_190, (List.forall_mem_cons.mpr ⟨mok_191, (fun _ h => absurd h List.not_mem_nil)⟩)⟩)⟩)⟩)⟩)⟩)⟩)⟩)⟩)⟩)⟩)⟩)⟩)⟩)⟩)⟩)⟩)⟩)⟩)⟩)⟩)⟩)⟩)⟩)⟩)⟩)⟩)⟩)⟩)⟩)⟩)⟩)⟩)⟩)⟩)⟩)⟩)⟩)⟩)⟩)⟩)⟩)⟩)⟩)⟩)⟩)⟩)⟩)⟩)⟩)⟩)⟩)⟩)⟩)⟩)⟩)⟩)⟩)⟩)⟩)⟩)⟩)⟩)⟩)⟩)⟩)⟩)⟩)⟩)⟩)⟩)⟩)⟩)⟩)⟩)⟩)⟩)⟩)⟩)⟩)⟩)⟩)⟩)⟩)⟩)⟩)⟩)⟩)⟩)⟩)⟩)⟩)⟩)⟩)⟩)⟩)⟩)⟩)⟩)⟩)⟩)⟩)⟩)⟩)⟩)⟩)⟩)⟩)⟩)⟩)⟩)⟩)⟩)⟩)⟩)⟩)⟩)⟩)⟩)⟩)⟩)⟩)⟩)⟩)⟩)⟩)⟩)⟩)⟩)⟩)⟩)⟩)⟩)⟩)⟩)⟩)⟩)⟩)⟩)⟩)⟩)⟩)⟩)⟩)⟩)⟩)⟩)⟩)⟩)⟩)⟩)⟩)⟩)⟩)⟩)⟩)⟩)⟩)⟩)⟩)⟩)⟩)⟩)⟩)⟩)⟩)⟩)⟩)⟩)⟩)⟩)⟩)⟩)⟩)⟩)⟩)⟩)⟩)⟩)⟩)⟩)⟩)⟩)⟩)⟩)⟩)⟩)⟩)⟩)⟩)⟩)⟩)
set_option maxRecDepth 100000 in
theorem mw_all : ∀ q ∈ fx_ml.drop 1, eh_cw q ∈ fx_Ts := (List.forall_mem_cons.mpr ⟨mw_1, (List.forall_mem_cons.mpr ⟨mw_2, (List.forall_mem_cons.mpr ⟨mw_3, (List.forall_mem_cons.mpr ⟨mw_4, (List.forall_mem_cons.mpr ⟨mw_5, (List.forall_mem_cons.mpr ⟨mw_6, (List.forall_mem_cons.mpr ⟨mw_7, (List.forall_mem_cons.mpr ⟨mw_8, (List.forall_mem_cons.mpr ⟨mw_9, (List.forall_mem_cons.mpr ⟨mw_10, (List.forall_mem_cons.mpr ⟨mw_11, (List.forall_mem_cons.mpr ⟨mw_12, (List.forall_mem_cons.mpr ⟨mw_13, (List.forall_mem_cons.mpr ⟨mw_14, (List.forall_mem_cons.mpr ⟨mw_15, (List.forall_mem_cons.mpr ⟨mw_16, (List.forall_mem_cons.mpr ⟨mw_17, (List.forall_mem_cons.mpr ⟨mw_18, (List.forall_mem_cons.mpr ⟨mw_19, (List.forall_mem_cons.mpr ⟨mw_20, (List.forall_mem_cons.mpr ⟨mw_21, (List.forall_mem_cons.mpr ⟨mw_22, (List.forall_mem_cons.mpr ⟨mw_23, (List.forall_mem_cons.mpr ⟨mw_24, (List.forall_mem_cons.mpr ⟨mw_25, (List.forall_mem_cons.mpr ⟨mw_26, (List.forall_mem_cons.mpr ⟨mw_27, (List.forall_mem_cons.mpr ⟨mw_28, (List.forall_mem_cons.mpr ⟨mw_29, (List.forall_mem_cons.mpr ⟨mw_30, (List.forall_mem_cons.mpr ⟨mw_31, (List.forall_mem_cons.mpr ⟨mw_32, (List.forall_mem_cons.mpr ⟨mw_33, (List.forall_mem_cons.mpr ⟨mw_34, (List.forall_mem_cons.mpr ⟨mw_35, (List.forall_mem_cons.mpr ⟨mw_36, (List.forall_mem_cons.mpr ⟨mw_37, (List.forall_mem_cons.mpr ⟨mw_38, (List.forall_mem_cons.mpr ⟨mw_39, (List.forall_mem_cons.mpr ⟨mw_40, (List.forall_mem_cons.mpr ⟨mw_41, (List.forall_mem_cons.mpr ⟨mw_42, (List.forall_mem_cons.mpr ⟨mw_43, (List.forall_mem_cons.mpr ⟨mw_44, (List.forall_mem_cons.mpr ⟨mw_45, (List.forall_mem_cons.mpr ⟨mw_46, (List.forall_mem_cons.mpr ⟨mw_47, (List.forall_mem_cons.mpr ⟨mw_48, (List.forall_mem_cons.mpr ⟨mw_49, (List.forall_mem_cons.mpr ⟨mw_50, (List.forall_mem_cons.mpr ⟨mw_51, (List.forall_mem_cons.mpr ⟨mw_52, (List.forall_mem_cons.mpr ⟨mw_53, (List.forall_mem_cons.mpr ⟨mw_54, (List.forall_mem_cons.mpr ⟨mw_55, (List.forall_mem_cons.mpr ⟨mw_56, (List.forall_mem_cons.mpr ⟨mw_57, (List.forall_mem_cons.mpr ⟨mw_58, (List.forall_mem_cons.mpr ⟨mw_59, (List.forall_mem_cons.mpr ⟨mw_60, (List.forall_mem_cons.mpr ⟨mw_61, (List.forall_mem_cons.mpr ⟨mw_62, (List.forall_mem_cons.mpr ⟨mw_63, (List.forall_mem_cons.mpr ⟨mw_64, (List.forall_mem_cons.mpr ⟨mw_65, (List.forall_mem_cons.mpr ⟨mw_66, (List.forall_mem_cons.mpr ⟨mw_67, (List.forall_mem_cons.mpr ⟨mw_68, (List.forall_mem_cons.mpr ⟨mw_69, (List.forall_mem_cons.mpr ⟨mw_70, (List.forall_mem_cons.mpr ⟨mw_71, (List.forall_mem_cons.mpr ⟨mw_72, (List.forall_mem_cons.mpr ⟨mw_73, (List.forall_mem_cons.mpr ⟨mw_74, (List.forall_mem_cons.mpr ⟨mw_75, (List.forall_mem_cons.mpr ⟨mw_76, (List.forall_mem_cons.mpr ⟨mw_77, (List.forall_mem_cons.mpr ⟨mw_78, (List.forall_mem_cons.mpr ⟨mw_79, (List.forall_mem_cons.mpr ⟨mw_80, (List.forall_mem_cons.mpr ⟨mw_81, (List.forall_mem_cons.mpr ⟨mw_82, (List.forall_mem_cons.mpr ⟨mw_83, (List.forall_mem_cons.mpr ⟨mw_84, (List.forall_mem_cons.mpr ⟨mw_85, (List.forall_mem_cons.mpr ⟨mw_86, (List.forall_mem_cons.mpr ⟨mw_87, (List.forall_mem_cons.mpr ⟨mw_88, (List.forall_mem_cons.mpr ⟨mw_89, (List.forall_mem_cons.mpr ⟨mw_90, (List.forall_mem_cons.mpr ⟨mw_91, (List.forall_mem_cons.mpr ⟨mw_92, (List.forall_mem_cons.mpr ⟨mw_93, (List.forall_mem_cons.mpr ⟨mw_94, (List.forall_mem_cons.mpr ⟨mw_95, (List.forall_mem_cons.mpr ⟨mw_96, (List.forall_mem_cons.mpr ⟨mw_97, (List.forall_mem_cons.mpr ⟨mw_98, (List.forall_mem_cons.mpr ⟨mw_99, (List.forall_mem_cons.mpr ⟨mw_100, (List.forall_mem_cons.mpr ⟨mw_101, (List.forall_mem_cons.mpr ⟨mw_102, (List.forall_mem_cons.mpr ⟨mw_103, (List.forall_mem_cons.mpr ⟨mw_104, (List.forall_mem_cons.mpr ⟨mw_105, (List.forall_mem_cons.mpr ⟨mw_106, (List.forall_mem_cons.mpr ⟨mw_107, (List.forall_mem_cons.mpr ⟨mw_108, (List.forall_mem_cons.mpr ⟨mw_109, (List.forall_mem_cons.mpr ⟨mw_110, (List.forall_mem_cons.mpr ⟨mw_111, (List.forall_mem_cons.mpr ⟨mw_112, (List.forall_mem_cons.mpr ⟨mw_113, (List.forall_mem_cons.mpr ⟨mw_114, (List.forall_mem_cons.mpr ⟨mw_115, (List.forall_mem_cons.mpr ⟨mw_116, (List.forall_mem_cons.mpr ⟨mw_117, (List.forall_mem_cons.mpr ⟨mw_118, (List.forall_mem_cons.mpr ⟨mw_119, (List.forall_mem_cons.mpr ⟨mw_120, (List.forall_mem_cons.mpr ⟨mw_121, (List.forall_mem_cons.mpr ⟨mw_122, (List.forall_mem_cons.mpr ⟨mw_123, (List.forall_mem_cons.mpr ⟨mw_124, (List.forall_mem_cons.mpr ⟨mw_125, (List.forall_mem_cons.mpr ⟨mw_126, (List.forall_mem_cons.mpr ⟨mw_127, (List.forall_mem_cons.mpr ⟨mw_128, (List.forall_mem_cons.mpr ⟨mw_129, (List.forall_mem_cons.mpr ⟨mw_130, (List.forall_mem_cons.mpr ⟨mw_131, (List.forall_mem_cons.mpr ⟨mw_132, (List.forall_mem_cons.mpr ⟨mw_133, (List.forall_mem_cons.mpr ⟨mw_134, (List.forall_mem_cons.mpr ⟨mw_135, (List.forall_mem_cons.mpr ⟨mw_136, (List.forall_mem_cons.mpr ⟨mw_137, (List.forall_mem_cons.mpr ⟨mw_138, (List.forall_mem_cons.mpr ⟨mw_139, (List.forall_mem_cons.mpr ⟨mw_140, (List.forall_mem_cons.mpr ⟨mw_141, (List.forall_mem_cons.mpr ⟨mw_142, (List.forall_mem_cons.mpr ⟨mw_143, (List.forall_mem_cons.mpr ⟨mw_144, (List.forall_mem_cons.mpr ⟨mw_145, (List.forall_mem_cons.mpr ⟨mw_146, (List.forall_mem_cons.mpr ⟨mw_147, (List.forall_mem_cons.mpr ⟨mw_148, (List.forall_mem_cons.mpr ⟨mw_149, (List.forall_mem_cons.mpr ⟨mw_150, (List.forall_mem_cons.mpr ⟨mw_151, (List.forall_mem_cons.mpr ⟨mw_152, (List.forall_mem_cons.mpr ⟨mw_153, (List.forall_mem_cons.mpr ⟨mw_154, (List.forall_mem_cons.mpr ⟨mw_155, (List.forall_mem_cons.mpr ⟨mw_156, (List.forall_mem_cons.mpr ⟨mw_157, (List.forall_mem_cons.mpr ⟨mw_158, (List.forall_mem_cons.mpr ⟨mw_159, (List.forall_mem_cons.mpr ⟨mw_160, (List.forall_mem_cons.mpr ⟨mw_161, (List.forall_mem_cons.mpr ⟨mw_162, (List.forall_mem_cons.mpr ⟨mw_163, (List.forall_mem_cons.mpr ⟨mw_164, (List.forall_mem_cons.mpr ⟨mw_165, (List.forall_mem_cons.mpr ⟨mw_166, (List.forall_mem_cons.mpr ⟨mw_167, (List.forall_mem_cons.mpr ⟨mw_168, (List.forall_mem_cons.mpr ⟨mw_169, (List.forall_mem_cons.mpr ⟨mw_170, (List.forall_mem_cons.mpr ⟨mw_171, (List.forall_mem_cons.mpr ⟨mw_172, (List.forall_mem_cons.mpr ⟨mw_173, (List.forall_mem_cons.mpr ⟨mw_174, (List.forall_mem_cons.mpr ⟨mw_175, (List.forall_mem_cons.mpr ⟨mw_176, (List.forall_mem_cons.mpr ⟨mw_177, (List.forall_mem_cons.mpr ⟨mw_178, (List.forall_mem_cons.mpr ⟨mw_179, (List.forall_mem_cons.mpr ⟨mw_180, (List.forall_mem_cons.mpr ⟨mw_181, (List.forall_mem_cons.mpr ⟨mw_182, (List.forall_mem_cons.mpr ⟨mw_183, (List.forall_mem_cons.mpr ⟨mw_184, (List.forall_mem_cons.mpr ⟨mw_185, (List.forall_mem_cons.mpr ⟨mw_186, (List.forall_mem_cons.mpr ⟨mw_187, (List.forall_mem_cons.mpr ⟨mw_188, (List.forall_mem_cons.mpr ⟨mw_189, (List.forall_mem_cons.mpr ⟨mw_190, (List.forall_mem_cons.mpr ⟨mw_191, (fun _ h => absurd h List.not_mem_nil)⟩)⟩)⟩)⟩)⟩)⟩)⟩)⟩)⟩)⟩)⟩)⟩)⟩)⟩)⟩)⟩)⟩)⟩)⟩)⟩)⟩)⟩)⟩)⟩)⟩)⟩)⟩)⟩)⟩)⟩)⟩)⟩)⟩)⟩)⟩)⟩)⟩)⟩)⟩)⟩)⟩)⟩)⟩)⟩)⟩)⟩)⟩)⟩)⟩)⟩)⟩)⟩)⟩)⟩)⟩)⟩)⟩)⟩)⟩)⟩)⟩)⟩)⟩)⟩)⟩)⟩)⟩)⟩)⟩)⟩)⟩)⟩)⟩)⟩)⟩)⟩)⟩)⟩)⟩)⟩)⟩)⟩)⟩)⟩)⟩)⟩)⟩)⟩)⟩)⟩)⟩)⟩)⟩)⟩)⟩)⟩)⟩)⟩)⟩)⟩)⟩)⟩)⟩)⟩)⟩)⟩)⟩)⟩)⟩)⟩)⟩)⟩)⟩)⟩)⟩)⟩)⟩)⟩)⟩)⟩)⟩)⟩)⟩)⟩)⟩)⟩)⟩)⟩)⟩)⟩)⟩)⟩)⟩)⟩)⟩)⟩)⟩)⟩)⟩)⟩)⟩)⟩)⟩)⟩)⟩)⟩)⟩)⟩)⟩)⟩)⟩)⟩)⟩)⟩)⟩)⟩)⟩)⟩)⟩)⟩)⟩)⟩)⟩)⟩)⟩)⟩)⟩)⟩)⟩)⟩)⟩)⟩)⟩)⟩)⟩)⟩)⟩)⟩)⟩)⟩)⟩)⟩)⟩)⟩)⟩)⟩)⟩)⟩)⟩)⟩)⟩)
theorem mok_at : ∀ (mi : Nat) (q : ev_Q), fx_mt[mi]? = some q → eh_mok fx_kl fx_Ts fx_Bs fx_Ss fx_Ns fx_dft fx_mt q := by
  intro mi q h
  rw [ml_eq] at h
  exact mok_all q (List.mem_of_getElem? h)
theorem mcw_at : ∀ (mi : Nat) (q : ev_Q), fx_mt[mi]? = some q → 1 ≤ mi → eh_cw q ∈ fx_Ts := by
  intro mi q h h1
  rw [ml_eq] at h
  refine mw_all q (List.mem_of_getElem? (i := mi - 1) ?_)
  rw [List.getElem?_drop, show 1 + (mi - 1) = mi by omega]
  exact h
