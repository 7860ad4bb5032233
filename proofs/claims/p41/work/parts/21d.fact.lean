/-! What classes, calls and throws need. -/
def ct_0 : u_T := fun k => match k with
  | 0 => ("Threewayleaf", "stock", "LThreewayleaf$Stock;", true)
  | 1 => ("Threewayleaf", "look", "LThreewayleaf$Look;", true)
  | 2 => ("Threewayleaf", "history", "LThreewayleaf$History;", true)
  | 3 => ("Threewayleaf", "baseFinder", "LThreewayleaf$BaseFinder;", true)
  | 4 => ("Threewayleaf", "script", "LThreewayleaf$Script;", true)
  | 5 => ("Threewayleaf", "printer", "LThreewayleaf$Printer;", true)
  | 6 => ("Threewayleaf", "matcher", "LThreewayleaf$Matcher;", true)
  | 7 => ("Threewayleaf", "desks", "[LThreewayleaf$State;", true)
  | 8 => ("Threewayleaf", "heads", "[I", true)
  | 9 => ("Threewayleaf", "branches", "I", false)
  | 10 => ("Threewayleaf", "trial", "LThreewayleaf$State;", true)
  | _ => ("Threewayleaf", "prints", "[J", true)
def cy_0 : Nat → FieldType := fun k => match k with
  | 0 => .object "Threewayleaf$Stock"
  | 1 => .object "Threewayleaf$Look"
  | 2 => .object "Threewayleaf$History"
  | 3 => .object "Threewayleaf$BaseFinder"
  | 4 => .object "Threewayleaf$Script"
  | 5 => .object "Threewayleaf$Printer"
  | 6 => .object "Threewayleaf$Matcher"
  | 7 => .array (.object "Threewayleaf$State")
  | 8 => .array (.int)
  | 9 => .int
  | 10 => .object "Threewayleaf$State"
  | _ => .array (.long)
theorem cn_0 : ∀ a, a < 12 → ∀ b, b < 12 → a ≠ b → (ct_0 a).2.1 ≠ (ct_0 b).2.1 := by decide +kernel
theorem cp_0 : ∀ k, k < 12 → parseFieldDescriptor (ct_0 k).2.2.1 = some (cy_0 k) := by decide +kernel
def ct_1 : u_T := fun k => match k with
  | 0 => ("Threewayleaf$Stock", "nodes", "I", false)
  | 1 => ("Threewayleaf$Stock", "spots", "I", false)
  | 2 => ("Threewayleaf$Stock", "words", "I", false)
  | 3 => ("Threewayleaf$Stock", "kinds", "[I", true)
  | 4 => ("Threewayleaf$Stock", "holders", "[I", true)
  | 5 => ("Threewayleaf$Stock", "owners", "[I", true)
  | 6 => ("Threewayleaf$Stock", "spotOrder", "[I", true)
  | 7 => ("Threewayleaf$Stock", "leaves", "[I", true)
  | 8 => ("Threewayleaf$Stock", "senses", "[I", true)
  | 9 => ("Threewayleaf$Stock", "writers", "[I", true)
  | _ => ("Threewayleaf$Stock", "wordOrder", "[I", true)
def cy_1 : Nat → FieldType := fun k => match k with
  | 0 => .int
  | 1 => .int
  | 2 => .int
  | 3 => .array (.int)
  | 4 => .array (.int)
  | 5 => .array (.int)
  | 6 => .array (.int)
  | 7 => .array (.int)
  | 8 => .array (.int)
  | 9 => .array (.int)
  | _ => .array (.int)
theorem cn_1 : ∀ a, a < 11 → ∀ b, b < 11 → a ≠ b → (ct_1 a).2.1 ≠ (ct_1 b).2.1 := by decide +kernel
theorem cp_1 : ∀ k, k < 11 → parseFieldDescriptor (ct_1 k).2.2.1 = some (cy_1 k) := by decide +kernel
def ct_2 : u_T := fun k => match k with
  | 0 => ("Threewayleaf$Look", "stock", "LThreewayleaf$Stock;", true)
  | _ => ("Threewayleaf$Look", "tally", "[I", true)
def cy_2 : Nat → FieldType := fun k => match k with
  | 0 => .object "Threewayleaf$Stock"
  | _ => .array (.int)
theorem cn_2 : ∀ a, a < 2 → ∀ b, b < 2 → a ≠ b → (ct_2 a).2.1 ≠ (ct_2 b).2.1 := by decide +kernel
theorem cp_2 : ∀ k, k < 2 → parseFieldDescriptor (ct_2 k).2.2.1 = some (cy_2 k) := by decide +kernel
def ct_3 : u_T := fun k => match k with
  | 0 => ("Threewayleaf$History", "states", "Ljava/util/ArrayList;", true)
  | 1 => ("Threewayleaf$History", "firsts", "[I", true)
  | 2 => ("Threewayleaf$History", "seconds", "[I", true)
  | 3 => ("Threewayleaf$History", "older", "[J", true)
  | _ => ("Threewayleaf$History", "nowhere", "LThreewayleaf$State;", true)
def cy_3 : Nat → FieldType := fun k => match k with
  | 0 => .object "java/util/ArrayList"
  | 1 => .array (.int)
  | 2 => .array (.int)
  | 3 => .array (.long)
  | _ => .object "Threewayleaf$State"
theorem cn_3 : ∀ a, a < 5 → ∀ b, b < 5 → a ≠ b → (ct_3 a).2.1 ≠ (ct_3 b).2.1 := by decide +kernel
theorem cp_3 : ∀ k, k < 5 → parseFieldDescriptor (ct_3 k).2.2.1 = some (cy_3 k) := by decide +kernel
def ct_4 : u_T := fun k => match k with
  | 0 => ("java/util/ArrayList", "elementData", "[Ljava/lang/Object;", false)
  | 1 => ("java/util/ArrayList", "size", "I", false)
  | _ => ("java/util/AbstractList", "modCount", "I", false)
def cy_4 : Nat → FieldType := fun k => match k with
  | 0 => .array (.object "java/lang/Object")
  | 1 => .int
  | _ => .int
theorem cn_4 : ∀ a, a < 3 → ∀ b, b < 3 → a ≠ b → (ct_4 a).2.1 ≠ (ct_4 b).2.1 := by decide +kernel
theorem cp_4 : ∀ k, k < 3 → parseFieldDescriptor (ct_4 k).2.2.1 = some (cy_4 k) := by decide +kernel
def ct_5 : u_T := fun k => match k with
  | 0 => ("Threewayleaf$State", "spots", "[I", true)
  | 1 => ("Threewayleaf$State", "tags", "[I", true)
  | 2 => ("Threewayleaf$State", "aims", "[I", true)
  | 3 => ("Threewayleaf$State", "conflicts", "[I", true)
  | _ => ("Threewayleaf$State", "said", "[Z", true)
def cy_5 : Nat → FieldType := fun k => match k with
  | 0 => .array (.int)
  | 1 => .array (.int)
  | 2 => .array (.int)
  | 3 => .array (.int)
  | _ => .array (.boolean)
theorem cn_5 : ∀ a, a < 5 → ∀ b, b < 5 → a ≠ b → (ct_5 a).2.1 ≠ (ct_5 b).2.1 := by decide +kernel
theorem cp_5 : ∀ k, k < 5 → parseFieldDescriptor (ct_5 k).2.2.1 = some (cy_5 k) := by decide +kernel
def ct_6 : u_T := fun k => match k with
  | 0 => ("Threewayleaf$BaseFinder", "look", "LThreewayleaf$Look;", true)
  | 1 => ("Threewayleaf$BaseFinder", "history", "LThreewayleaf$History;", true)
  | _ => ("Threewayleaf$BaseFinder", "spares", "Ljava/util/ArrayList;", true)
def cy_6 : Nat → FieldType := fun k => match k with
  | 0 => .object "Threewayleaf$Look"
  | 1 => .object "Threewayleaf$History"
  | _ => .object "java/util/ArrayList"
theorem cn_6 : ∀ a, a < 3 → ∀ b, b < 3 → a ≠ b → (ct_6 a).2.1 ≠ (ct_6 b).2.1 := by decide +kernel
theorem cp_6 : ∀ k, k < 3 → parseFieldDescriptor (ct_6 k).2.2.1 = some (cy_6 k) := by decide +kernel
def ct_7 : u_T := fun k => match k with
  | 0 => ("Threewayleaf$Script", "kinds", "[I", true)
  | 1 => ("Threewayleaf$Script", "numbers", "[I", true)
  | _ => ("Threewayleaf$Script", "size", "I", false)
def cy_7 : Nat → FieldType := fun k => match k with
  | 0 => .array (.int)
  | 1 => .array (.int)
  | _ => .int
theorem cn_7 : ∀ a, a < 3 → ∀ b, b < 3 → a ≠ b → (ct_7 a).2.1 ≠ (ct_7 b).2.1 := by decide +kernel
theorem cp_7 : ∀ k, k < 3 → parseFieldDescriptor (ct_7 k).2.2.1 = some (cy_7 k) := by decide +kernel
def ct_8 : u_T := fun k => match k with
  | 0 => ("Threewayleaf$Printer", "stock", "LThreewayleaf$Stock;", true)
  | 1 => ("Threewayleaf$Printer", "look", "LThreewayleaf$Look;", true)
  | _ => ("Threewayleaf$Printer", "depths", "[I", true)
def cy_8 : Nat → FieldType := fun k => match k with
  | 0 => .object "Threewayleaf$Stock"
  | 1 => .object "Threewayleaf$Look"
  | _ => .array (.int)
theorem cn_8 : ∀ a, a < 3 → ∀ b, b < 3 → a ≠ b → (ct_8 a).2.1 ≠ (ct_8 b).2.1 := by decide +kernel
theorem cp_8 : ∀ k, k < 3 → parseFieldDescriptor (ct_8 k).2.2.1 = some (cy_8 k) := by decide +kernel
def ct_9 : u_T := fun k => match k with
  | 0 => ("Threewayleaf$Matcher", "stock", "LThreewayleaf$Stock;", true)
  | 1 => ("Threewayleaf$Matcher", "look", "LThreewayleaf$Look;", true)
  | 2 => ("Threewayleaf$Matcher", "printer", "LThreewayleaf$Printer;", true)
  | 3 => ("Threewayleaf$Matcher", "firstFaces", "[J", true)
  | 4 => ("Threewayleaf$Matcher", "secondFaces", "[J", true)
  | 5 => ("Threewayleaf$Matcher", "isFirstFaced", "[Z", true)
  | 6 => ("Threewayleaf$Matcher", "isSecondFaced", "[Z", true)
  | _ => ("Threewayleaf$Matcher", "partners", "[I", true)
def cy_9 : Nat → FieldType := fun k => match k with
  | 0 => .object "Threewayleaf$Stock"
  | 1 => .object "Threewayleaf$Look"
  | 2 => .object "Threewayleaf$Printer"
  | 3 => .array (.long)
  | 4 => .array (.long)
  | 5 => .array (.boolean)
  | 6 => .array (.boolean)
  | _ => .array (.int)
theorem cn_9 : ∀ a, a < 8 → ∀ b, b < 8 → a ≠ b → (ct_9 a).2.1 ≠ (ct_9 b).2.1 := by decide +kernel
theorem cp_9 : ∀ k, k < 8 → parseFieldDescriptor (ct_9 k).2.2.1 = some (cy_9 k) := by decide +kernel
def ct_10 : u_T := fun k => match k with
  | 0 => ("Threewayleaf$Join", "stock", "LThreewayleaf$Stock;", true)
  | 1 => ("Threewayleaf$Join", "look", "LThreewayleaf$Look;", true)
  | 2 => ("Threewayleaf$Join", "x", "LThreewayleaf$State;", true)
  | 3 => ("Threewayleaf$Join", "y", "LThreewayleaf$State;", true)
  | 4 => ("Threewayleaf$Join", "over", "LThreewayleaf$State;", true)
  | _ => ("Threewayleaf$Join", "out", "LThreewayleaf$State;", true)
def cy_10 : Nat → FieldType := fun k => match k with
  | 0 => .object "Threewayleaf$Stock"
  | 1 => .object "Threewayleaf$Look"
  | 2 => .object "Threewayleaf$State"
  | 3 => .object "Threewayleaf$State"
  | 4 => .object "Threewayleaf$State"
  | _ => .object "Threewayleaf$State"
theorem cn_10 : ∀ a, a < 6 → ∀ b, b < 6 → a ≠ b → (ct_10 a).2.1 ≠ (ct_10 b).2.1 := by decide +kernel
theorem cp_10 : ∀ k, k < 6 → parseFieldDescriptor (ct_10 k).2.2.1 = some (cy_10 k) := by decide +kernel
def ct_11 : u_T := fun _ => ("", "", "", false)
def ct_12 : u_T := fun _ => ("", "", "", false)
def ct_13 : u_T := fun _ => ("", "", "", false)
def ct_14 : u_T := fun _ => ("", "", "", false)
def fx_kl : List vw_C := [("Threewayleaf", ct_0, 12), ("Threewayleaf$Stock", ct_1, 11), ("Threewayleaf$Look", ct_2, 2), ("Threewayleaf$History", ct_3, 5), ("java/util/ArrayList", ct_4, 3), ("Threewayleaf$State", ct_5, 5), ("Threewayleaf$BaseFinder", ct_6, 3), ("Threewayleaf$Script", ct_7, 3), ("Threewayleaf$Printer", ct_8, 3), ("Threewayleaf$Matcher", ct_9, 8), ("Threewayleaf$Join", ct_10, 6), ("java/lang/IndexOutOfBoundsException", ct_11, 0), ("java/lang/IllegalArgumentException", ct_12, 0), ("java/lang/IllegalStateException", ct_13, 0), ("java/util/NoSuchElementException", ct_14, 0)]
theorem cw_0 : ∀ w ∈ u_ws "Threewayleaf" ct_0 12, w ∈ fx_Ts := by
  intro w hw
  obtain ⟨k, hk, rfl⟩ := List.mem_map.mp hw
  have hk := List.mem_range.mp hk
  match k, hk with
  | 0, _ => exact kf_0
  | 1, _ => exact kf_1
  | 2, _ => exact kf_2
  | 3, _ => exact kf_3
  | 4, _ => exact kf_4
  | 5, _ => exact kf_5
  | 6, _ => exact kf_6
  | 7, _ => exact kf_7
  | 8, _ => exact kf_8
  | 9, _ => exact kf_9
  | 10, _ => exact kf_10
  | 11, _ => exact kf_11
  | k + 12, hk => exact absurd hk (by omega)
theorem cd_0 : (fx_dft 0).length = 12 ∧ ∀ j, j < 12 → defaultValue (cy_0 j) = vp_V (fx_dft 0) j := by decide +kernel
theorem cw_1 : ∀ w ∈ u_ws "Threewayleaf$Stock" ct_1 11, w ∈ fx_Ts := by
  intro w hw
  obtain ⟨k, hk, rfl⟩ := List.mem_map.mp hw
  have hk := List.mem_range.mp hk
  match k, hk with
  | 0, _ => exact kf_12
  | 1, _ => exact kf_13
  | 2, _ => exact kf_14
  | 3, _ => exact kf_15
  | 4, _ => exact kf_16
  | 5, _ => exact kf_17
  | 6, _ => exact kf_18
  | 7, _ => exact kf_19
  | 8, _ => exact kf_20
  | 9, _ => exact kf_21
  | 10, _ => exact kf_22
  | k + 11, hk => exact absurd hk (by omega)
theorem cd_1 : (fx_dft 1).length = 11 ∧ ∀ j, j < 11 → defaultValue (cy_1 j) = vp_V (fx_dft 1) j := by decide +kernel
theorem cw_2 : ∀ w ∈ u_ws "Threewayleaf$Look" ct_2 2, w ∈ fx_Ts := by
  intro w hw
  obtain ⟨k, hk, rfl⟩ := List.mem_map.mp hw
  have hk := List.mem_range.mp hk
  match k, hk with
  | 0, _ => exact kf_23
  | 1, _ => exact kf_24
  | k + 2, hk => exact absurd hk (by omega)
theorem cd_2 : (fx_dft 2).length = 2 ∧ ∀ j, j < 2 → defaultValue (cy_2 j) = vp_V (fx_dft 2) j := by decide +kernel
theorem cw_3 : ∀ w ∈ u_ws "Threewayleaf$History" ct_3 5, w ∈ fx_Ts := by
  intro w hw
  obtain ⟨k, hk, rfl⟩ := List.mem_map.mp hw
  have hk := List.mem_range.mp hk
  match k, hk with
  | 0, _ => exact kf_25
  | 1, _ => exact kf_26
  | 2, _ => exact kf_27
  | 3, _ => exact kf_28
  | 4, _ => exact kf_29
  | k + 5, hk => exact absurd hk (by omega)
theorem cd_3 : (fx_dft 3).length = 5 ∧ ∀ j, j < 5 → defaultValue (cy_3 j) = vp_V (fx_dft 3) j := by decide +kernel
theorem cw_4 : ∀ w ∈ u_ws "java/util/ArrayList" ct_4 3, w ∈ fx_Ts := by
  intro w hw
  obtain ⟨k, hk, rfl⟩ := List.mem_map.mp hw
  have hk := List.mem_range.mp hk
  match k, hk with
  | 0, _ => exact kf_30
  | 1, _ => exact kf_31
  | 2, _ => exact kf_32
  | k + 3, hk => exact absurd hk (by omega)
theorem cd_4 : (fx_dft 4).length = 3 ∧ ∀ j, j < 3 → defaultValue (cy_4 j) = vp_V (fx_dft 4) j := by decide +kernel
theorem cw_5 : ∀ w ∈ u_ws "Threewayleaf$State" ct_5 5, w ∈ fx_Ts := by
  intro w hw
  obtain ⟨k, hk, rfl⟩ := List.mem_map.mp hw
  have hk := List.mem_range.mp hk
  match k, hk with
  | 0, _ => exact kf_33
  | 1, _ => exact kf_34
  | 2, _ => exact kf_35
  | 3, _ => exact kf_36
  | 4, _ => exact kf_37
  | k + 5, hk => exact absurd hk (by omega)
theorem cd_5 : (fx_dft 5).length = 5 ∧ ∀ j, j < 5 → defaultValue (cy_5 j) = vp_V (fx_dft 5) j := by decide +kernel
theorem cw_6 : ∀ w ∈ u_ws "Threewayleaf$BaseFinder" ct_6 3, w ∈ fx_Ts := by
  intro w hw
  obtain ⟨k, hk, rfl⟩ := List.mem_map.mp hw
  have hk := List.mem_range.mp hk
  match k, hk with
  | 0, _ => exact kf_38
  | 1, _ => exact kf_39
  | 2, _ => exact kf_40
  | k + 3, hk => exact absurd hk (by omega)
theorem cd_6 : (fx_dft 6).length = 3 ∧ ∀ j, j < 3 → defaultValue (cy_6 j) = vp_V (fx_dft 6) j := by decide +kernel
theorem cw_7 : ∀ w ∈ u_ws "Threewayleaf$Script" ct_7 3, w ∈ fx_Ts := by
  intro w hw
  obtain ⟨k, hk, rfl⟩ := List.mem_map.mp hw
  have hk := List.mem_range.mp hk
  match k, hk with
  | 0, _ => exact kf_41
  | 1, _ => exact kf_42
  | 2, _ => exact kf_43
  | k + 3, hk => exact absurd hk (by omega)
theorem cd_7 : (fx_dft 7).length = 3 ∧ ∀ j, j < 3 → defaultValue (cy_7 j) = vp_V (fx_dft 7) j := by decide +kernel
theorem cw_8 : ∀ w ∈ u_ws "Threewayleaf$Printer" ct_8 3, w ∈ fx_Ts := by
  intro w hw
  obtain ⟨k, hk, rfl⟩ := List.mem_map.mp hw
  have hk := List.mem_range.mp hk
  match k, hk with
  | 0, _ => exact kf_44
  | 1, _ => exact kf_45
  | 2, _ => exact kf_46
  | k + 3, hk => exact absurd hk (by omega)
theorem cd_8 : (fx_dft 8).length = 3 ∧ ∀ j, j < 3 → defaultValue (cy_8 j) = vp_V (fx_dft 8) j := by decide +kernel
theorem cw_9 : ∀ w ∈ u_ws "Threewayleaf$Matcher" ct_9 8, w ∈ fx_Ts := by
  intro w hw
  obtain ⟨k, hk, rfl⟩ := List.mem_map.mp hw
  have hk := List.mem_range.mp hk
  match k, hk with
  | 0, _ => exact kf_47
  | 1, _ => exact kf_48
  | 2, _ => exact kf_49
  | 3, _ => exact kf_50
  | 4, _ => exact kf_51
  | 5, _ => exact kf_52
  | 6, _ => exact kf_53
  | 7, _ => exact kf_54
  | k + 8, hk => exact absurd hk (by omega)
theorem cd_9 : (fx_dft 9).length = 8 ∧ ∀ j, j < 8 → defaultValue (cy_9 j) = vp_V (fx_dft 9) j := by decide +kernel
theorem cw_10 : ∀ w ∈ u_ws "Threewayleaf$Join" ct_10 6, w ∈ fx_Ts := by
  intro w hw
  obtain ⟨k, hk, rfl⟩ := List.mem_map.mp hw
  have hk := List.mem_range.mp hk
  match k, hk with
  | 0, _ => exact kf_55
  | 1, _ => exact kf_56
  | 2, _ => exact kf_57
  | 3, _ => exact kf_58
  | 4, _ => exact kf_59
  | 5, _ => exact kf_60
  | k + 6, hk => exact absurd hk (by omega)
theorem cd_10 : (fx_dft 10).length = 6 ∧ ∀ j, j < 6 → defaultValue (cy_10 j) = vp_V (fx_dft 10) j := by decide +kernel
theorem ob_in : Cond.code Lib.objectInit ⟨#[0xb1]⟩ 1 none ∈ fx_Ts := kf_994
theorem dl_noref : ∀ l ∈ fx_dl, ∀ v ∈ l, (match v with | .ref _ => false | _ => true) = true := by decide +kernel
theorem dft_noref (x : Nat) : ∀ v ∈ fx_dft x, ∀ a, v ≠ .ref a := by
  intro v hv a e
  unfold fx_dft at hv
  rw [List.getD_eq_getElem?_getD] at hv
  cases hl : fx_dl[x]? with
  | none => rw [hl] at hv; cases hv
  | some l =>
    rw [hl] at hv
    have h2 := dl_noref l (List.mem_of_getElem? hl) v hv
    rw [e] at h2
    cases h2
def fx_S (own mname : String) (bytes : ByteArray) (e : Nat × ev_I) : Prop := match ev_kd e.2.1 with
  | 0 => ev_site fx_kl fx_Ts fx_Bs fx_dft own mname e.2
  | 1 => True
  | 2 => if e.2.2.2.2.1 = 7 then es_lnk fx_Ts own e.2 else eh_lnk fx_kl fx_Ts fx_Bs fx_mt own e.2
  | 3 => if e.2.2.2.2.1 = 8 then (∃ index, e.2.1 = .invokestatic index ∧ Cond.methodLink own index arraycopyName ∈ fx_Ts ∧ Cond.native arraycopyName ∈ fx_Ts ∧ Cond.static arraycopyName ∈ fx_Ts ∧ Cond.initialized "java/lang/System" ∈ fx_Ts) else eh_lnk fx_kl fx_Ts fx_Bs fx_mt own e.2
  | 4 => if e.2.2.2.2.1 = 9 then (∃ index, e.2.1 = .invokespecial index ∧ Cond.methodLink own index Lib.objectInit ∈ fx_Ts ∧ Cond.instanceMethod Lib.objectInit ∈ fx_Ts ∧ Cond.code Lib.objectInit ⟨#[0xb1]⟩ 1 none ∈ fx_Ts) else eh_lnk fx_kl fx_Ts fx_Bs fx_mt own e.2
  | _ => if e.2.2.2.2.2 = 1 then (ev_thr fx_kl fx_Ts fx_Bs fx_Ss own bytes e.1 e.2 ∨ eh_thrX fx_kl fx_Ts fx_Bs fx_Ss own bytes e.1 e.2) else ev_site fx_kl fx_Ts fx_Bs fx_dft own mname e.2
theorem lk_v {own : String} {ix l x y z n : Nat} {q : ev_Q} {T : u_T} {N : Nat} (hq : fx_mt[x]? = some q) (h1 : 1 ≤ x) (hh : q.2.2.2.2.1 = []) (hc : fx_kl[y / 16]? = some (q.1.cls, T, N)) (a1 : Cond.instanceMethod q.1 ∈ fx_Ts) (a2 : Cond.selects q.1.cls q.1 q.1 ∈ fx_Ts) (a3 : Cond.initialized q.1.cls ∈ fx_Ts) (a4 : Cond.methodLink own ix q.1 ∈ fx_Ts) (hz : 1 ≤ n + 1) (hp : (parseMethodDescriptor q.1.desc).map (fun d => d.parameters.length) = some n) : eh_lnk fx_kl fx_Ts fx_Bs fx_mt own (.invokevirtual ix, l, x, y, n + 1) := by
  refine ⟨fun q' hq' => ?_, fun q' hq' => ?_⟩
  · cases hq.symm.trans hq'
    exact ⟨h1, Or.inl hh⟩
  · cases hq.symm.trans hq'
    exact ⟨⟨T, N, hc⟩, a1, a2, a3, a4, hz, hp⟩
theorem lk_i {own : String} {ix l x y z n : Nat} {q : ev_Q} (hq : fx_mt[x]? = some q) (h1 : 1 ≤ x) (hh : q.2.2.2.2.1 = []) (hn : q.1.name = "<init>") (hr : q.2.2.2.1 = none) (a1 : Cond.instanceMethod q.1 ∈ fx_Ts) (a3 : Cond.initialized q.1.cls ∈ fx_Ts) (a4 : Cond.methodLink own ix q.1 ∈ fx_Ts ∨ ∃ host, Cond.methodLinkNest own ix q.1 host ∈ fx_Bs) (hz : 1 ≤ n + 1) (hp : (parseMethodDescriptor q.1.desc).map (fun d => d.parameters.length) = some n) : eh_lnk fx_kl fx_Ts fx_Bs fx_mt own (.invokespecial ix, l, x, y, n + 1) := by
  refine ⟨fun q' hq' => ?_, fun q' hq' => ?_⟩
  · cases hq.symm.trans hq'
    exact ⟨h1, Or.inl hh⟩
  · cases hq.symm.trans hq'
    exact ⟨hn, hr, a1, a3, a4, hz, hp⟩
theorem lk_s {own : String} {ix l x y n : Nat} {q : ev_Q} (hq : fx_mt[x]? = some q) (h1 : 1 ≤ x) (hh : q.2.2.2.2.1 = [] ∨ Cond.methodLink own ix q.1 ∈ fx_Ts) (a1 : Cond.static q.1 ∈ fx_Ts) (a3 : Cond.initialized q.1.cls ∈ fx_Ts) (a4 : Cond.methodLink own ix q.1 ∈ fx_Ts ∨ ∃ host, Cond.methodLinkNest own ix q.1 host ∈ fx_Bs) (hp : (parseMethodDescriptor q.1.desc).map (fun d => d.parameters.length) = some n) : eh_lnk fx_kl fx_Ts fx_Bs fx_mt own (.invokestatic ix, l, x, y, n) := by
  refine ⟨fun q' hq' => ?_, fun q' hq' => ?_⟩
  · cases hq.symm.trans hq'
    exact ⟨h1, hh.imp id (fun h => ⟨ix, rfl, h⟩)⟩
  · cases hq.symm.trans hq'
    exact ⟨a1, a3, a4, hp⟩
section FxS
variable {own m : String} {b : ByteArray} {pc ix l x y z : Nat}
theorem s_vir (hy : y ≠ 7) (h : eh_lnk fx_kl fx_Ts fx_Bs fx_mt own (.invokevirtual ix, l, x, y, z)) : fx_S own m b (pc, .invokevirtual ix, l, x, y, z) := Eq.mpr (if_neg hy) h
theorem s_str (hy : y = 7) (h : es_lnk fx_Ts own (.invokevirtual ix, l, x, y, z)) : fx_S own m b (pc, .invokevirtual ix, l, x, y, z) := Eq.mpr (if_pos hy) h
theorem s_ldc (hy : ¬ y = 1) (h : Cond.constant own ix (Int32.ofNat x) ∈ fx_Ts) : fx_S own m b (pc, .ldc ix, l, x, y, z) := Eq.mpr (if_neg hy) h
theorem s_ldt (hy : y = 1) (h : own = es_T.1 ∧ ix = es_T.2.1) : fx_S own m b (pc, .ldc ix, l, x, y, z) := Eq.mpr (if_pos hy) h
theorem s_sta (hy : y ≠ 8) (h : eh_lnk fx_kl fx_Ts fx_Bs fx_mt own (.invokestatic ix, l, x, y, z)) : fx_S own m b (pc, .invokestatic ix, l, x, y, z) := Eq.mpr (if_neg hy) h
theorem s_spe (hy : y ≠ 9) (h : eh_lnk fx_kl fx_Ts fx_Bs fx_mt own (.invokespecial ix, l, x, y, z)) : fx_S own m b (pc, .invokespecial ix, l, x, y, z) := Eq.mpr (if_neg hy) h
theorem s_cpy (hy : y = 8) (h : ∃ index, (Instr.invokestatic ix) = .invokestatic index ∧ Cond.methodLink own index arraycopyName ∈ fx_Ts ∧ Cond.native arraycopyName ∈ fx_Ts ∧ Cond.static arraycopyName ∈ fx_Ts ∧ Cond.initialized "java/lang/System" ∈ fx_Ts) : fx_S own m b (pc, .invokestatic ix, l, x, y, z) := Eq.mpr (if_pos hy) h
theorem s_obj (hy : y = 9) (h : ∃ index, (Instr.invokespecial ix) = .invokespecial index ∧ Cond.methodLink own index Lib.objectInit ∈ fx_Ts ∧ Cond.instanceMethod Lib.objectInit ∈ fx_Ts ∧ Cond.code Lib.objectInit ⟨#[0xb1]⟩ 1 none ∈ fx_Ts) : fx_S own m b (pc, .invokespecial ix, l, x, y, z) := Eq.mpr (if_pos hy) h
theorem s_new (hz : z ≠ 1) (h : ev_site fx_kl fx_Ts fx_Bs fx_dft own m (.new ix, l, x, y, z)) : fx_S own m b (pc, .new ix, l, x, y, z) := Eq.mpr (if_neg hz) h
theorem s_thr (hz : z = 1) (h : ev_thr fx_kl fx_Ts fx_Bs fx_Ss own b pc (.new ix, l, x, y, z) ∨ eh_thrX fx_kl fx_Ts fx_Bs fx_Ss own b pc (.new ix, l, x, y, z)) : fx_S own m b (pc, .new ix, l, x, y, z) := Eq.mpr (if_pos hz) h
theorem cs_in {k x : Nat} {v : Int32} (h : Cond.constant own k v ∈ fx_Ts) (e : v = Int32.ofNat x) : Cond.constant own k (Int32.ofNat x) ∈ fx_Ts := e ▸ h
theorem cl_in {k x : Nat} {v : Int64} (h : Cond.constantLong own k v ∈ fx_Ts) (e : v = Int64.ofNat x) : Cond.constantLong own k (Int64.ofNat x) ∈ fx_Ts := e ▸ h
end FxS
theorem at_in {own X : String} {ic ic' : Nat} {names : List String} (hl : Cond.methodLink own ic (Bundle.initS X) ∈ fx_Ts) (h : ∀ w ∈ vx_atS own ic' X names, w ∈ fx_Ts ∨ w ∈ fx_Bs) : ∀ w ∈ vx_atS own ic X names, w ∈ fx_Ts ∨ w ∈ fx_Bs := by
  intro w hw
  by_cases e : w = Cond.methodLink own ic (Bundle.initS X)
  · rw [e]; exact Or.inl hl
  · refine h w ?_
    unfold vx_atS at hw ⊢
    obtain ⟨h1, h2⟩ := List.mem_filter.mp hw
    refine List.mem_filter.mpr ⟨?_, h2⟩
    unfold Bundle.ownAtoms at h1 ⊢
    rcases List.mem_append.mp h1 with h1 | h1
    · exact List.mem_append_left _ h1
    · refine List.mem_append_right _ ?_
      rcases List.mem_cons.mp h1 with h1 | h1
      · exact absurd h1 e
      · exact List.mem_cons_of_mem _ h1
theorem ns_all : ∀ k ∈ [11, 12, 13, 14], ∀ k' ∈ [11, 12, 13, 14], k' ≠ k → ∀ a ∈ (fx_kl.map (·.1))[k]?, ∀ a' ∈ (fx_kl.map (·.1))[k']?, (a', a) ∈ fx_Ns := by decide +kernel
theorem at_13 : ∀ w ∈ vx_atS "Threewayleaf" 128 "java/lang/IllegalStateException" fx_names, w ∈ fx_Ts ∨ w ∈ fx_Bs := by decide +kernel
theorem at_14 : ∀ w ∈ eh_at "Threewayleaf" 348 "java/util/NoSuchElementException" 13 prog_38_method_4_code fx_names, w ∈ fx_Ts ∨ w ∈ fx_Bs := by decide +kernel
theorem xd_14 : decode prog_38_method_4_code 0 = .ok (.aload_n 0, 1) ∧ decode prog_38_method_4_code 1 = .ok (.aload_n 1, 1) ∧ decode prog_38_method_4_code 2 = .ok (.invokespecial 13, 3) ∧ decode prog_38_method_4_code 5 = .ok (.return_, 1) := ⟨by decide +kernel, by decide +kernel, by decide +kernel, by decide +kernel⟩
theorem at_11 : ∀ w ∈ vx_atS "Threewayleaf" 315 "java/lang/IndexOutOfBoundsException" fx_names, w ∈ fx_Ts ∨ w ∈ fx_Bs := by decide +kernel
theorem at_12 : ∀ w ∈ vx_atS "Threewayleaf" 377 "java/lang/IllegalArgumentException" fx_names, w ∈ fx_Ts ∨ w ∈ fx_Bs := by decide +kernel
set_option maxRecDepth 100000 in
theorem ma_2 : fx_mt[2]? = some mq_2 := rfl
theorem mp_2 : (parseMethodDescriptor mq_2.1.desc).map (fun d => d.parameters.length) = some 12 := by decide +kernel
set_option maxRecDepth 100000 in
theorem ma_6 : fx_mt[6]? = some mq_6 := rfl
theorem mp_6 : (parseMethodDescriptor mq_6.1.desc).map (fun d => d.parameters.length) = some 7 := by decide +kernel
set_option maxRecDepth 100000 in
theorem ma_12 : fx_mt[12]? = some mq_12 := rfl
theorem mp_12 : (parseMethodDescriptor mq_12.1.desc).map (fun d => d.parameters.length) = some 4 := by decide +kernel
set_option maxRecDepth 100000 in
theorem ma_17 : fx_mt[17]? = some mq_17 := rfl
theorem mp_17 : (parseMethodDescriptor mq_17.1.desc).map (fun d => d.parameters.length) = some 3 := by decide +kernel
set_option maxRecDepth 100000 in
theorem ma_11 : fx_mt[11]? = some mq_11 := rfl
theorem mp_11 : (parseMethodDescriptor mq_11.1.desc).map (fun d => d.parameters.length) = some 9 := by decide +kernel
set_option maxRecDepth 100000 in
theorem ma_16 : fx_mt[16]? = some mq_16 := rfl
theorem mp_16 : (parseMethodDescriptor mq_16.1.desc).map (fun d => d.parameters.length) = some 1 := by decide +kernel
set_option maxRecDepth 100000 in
theorem ma_15 : fx_mt[15]? = some mq_15 := rfl
theorem mp_15 : (parseMethodDescriptor mq_15.1.desc).map (fun d => d.parameters.length) = some 1 := by decide +kernel
set_option maxRecDepth 100000 in
theorem ma_14 : fx_mt[14]? = some mq_14 := rfl
theorem mp_14 : (parseMethodDescriptor mq_14.1.desc).map (fun d => d.parameters.length) = some 12 := by decide +kernel
set_option maxRecDepth 100000 in
theorem ma_13 : fx_mt[13]? = some mq_13 := rfl
theorem mp_13 : (parseMethodDescriptor mq_13.1.desc).map (fun d => d.parameters.length) = some 2 := by decide +kernel
set_option maxRecDepth 100000 in
theorem ma_10 : fx_mt[10]? = some mq_10 := rfl
theorem mp_10 : (parseMethodDescriptor mq_10.1.desc).map (fun d => d.parameters.length) = some 6 := by decide +kernel
set_option maxRecDepth 100000 in
theorem ma_9 : fx_mt[9]? = some mq_9 := rfl
theorem mp_9 : (parseMethodDescriptor mq_9.1.desc).map (fun d => d.parameters.length) = some 5 := by decide +kernel
set_option maxRecDepth 100000 in
theorem ma_3 : fx_mt[3]? = some mq_3 := rfl
theorem mp_3 : (parseMethodDescriptor mq_3.1.desc).map (fun d => d.parameters.length) = some 3 := by decide +kernel
set_option maxRecDepth 100000 in
theorem ma_5 : fx_mt[5]? = some mq_5 := rfl
theorem mp_5 : (parseMethodDescriptor mq_5.1.desc).map (fun d => d.parameters.length) = some 13 := by decide +kernel
set_option maxRecDepth 100000 in
theorem ma_8 : fx_mt[8]? = some mq_8 := rfl
theorem mp_8 : (parseMethodDescriptor mq_8.1.desc).map (fun d => d.parameters.length) = some 4 := by decide +kernel
set_option maxRecDepth 100000 in
theorem ma_4 : fx_mt[4]? = some mq_4 := rfl
theorem mp_4 : (parseMethodDescriptor mq_4.1.desc).map (fun d => d.parameters.length) = some 4 := by decide +kernel
set_option maxRecDepth 100000 in
theorem ma_7 : fx_mt[7]? = some mq_7 := rfl
theorem mp_7 : (parseMethodDescriptor mq_7.1.desc).map (fun d => d.parameters.length) = some 3 := by decide +kernel
set_option maxRecDepth 100000 in
theorem ma_1 : fx_mt[1]? = some mq_1 := rfl
theorem mp_1 : (parseMethodDescriptor mq_1.1.desc).map (fun d => d.parameters.length) = some 0 := by decide +kernel
set_option maxRecDepth 100000 in
theorem ma_28 : fx_mt[28]? = some mq_28 := rfl
theorem mp_28 : (parseMethodDescriptor mq_28.1.desc).map (fun d => d.parameters.length) = some 1 := by decide +kernel
set_option maxRecDepth 100000 in
theorem ma_27 : fx_mt[27]? = some mq_27 := rfl
theorem mp_27 : (parseMethodDescriptor mq_27.1.desc).map (fun d => d.parameters.length) = some 3 := by decide +kernel
set_option maxRecDepth 100000 in
theorem ma_25 : fx_mt[25]? = some mq_25 := rfl
theorem mp_25 : (parseMethodDescriptor mq_25.1.desc).map (fun d => d.parameters.length) = some 0 := by decide +kernel
set_option maxRecDepth 100000 in
theorem ma_26 : fx_mt[26]? = some mq_26 := rfl
theorem mp_26 : (parseMethodDescriptor mq_26.1.desc).map (fun d => d.parameters.length) = some 3 := by decide +kernel
set_option maxRecDepth 100000 in
theorem ma_24 : fx_mt[24]? = some mq_24 := rfl
theorem mp_24 : (parseMethodDescriptor mq_24.1.desc).map (fun d => d.parameters.length) = some 3 := by decide +kernel
set_option maxRecDepth 100000 in
theorem ma_23 : fx_mt[23]? = some mq_23 := rfl
theorem mp_23 : (parseMethodDescriptor mq_23.1.desc).map (fun d => d.parameters.length) = some 2 := by decide +kernel
set_option maxRecDepth 100000 in
theorem ma_22 : fx_mt[22]? = some mq_22 := rfl
theorem mp_22 : (parseMethodDescriptor mq_22.1.desc).map (fun d => d.parameters.length) = some 0 := by decide +kernel
set_option maxRecDepth 100000 in
theorem ma_21 : fx_mt[21]? = some mq_21 := rfl
theorem mp_21 : (parseMethodDescriptor mq_21.1.desc).map (fun d => d.parameters.length) = some 2 := by decide +kernel
set_option maxRecDepth 100000 in
theorem ma_20 : fx_mt[20]? = some mq_20 := rfl
theorem mp_20 : (parseMethodDescriptor mq_20.1.desc).map (fun d => d.parameters.length) = some 0 := by decide +kernel
set_option maxRecDepth 100000 in
theorem ma_19 : fx_mt[19]? = some mq_19 := rfl
theorem mp_19 : (parseMethodDescriptor mq_19.1.desc).map (fun d => d.parameters.length) = some 1 := by decide +kernel
set_option maxRecDepth 100000 in
theorem ma_18 : fx_mt[18]? = some mq_18 := rfl
theorem mp_18 : (parseMethodDescriptor mq_18.1.desc).map (fun d => d.parameters.length) = some 0 := by decide +kernel
set_option maxRecDepth 100000 in
theorem ma_37 : fx_mt[37]? = some mq_37 := rfl
theorem mp_37 : (parseMethodDescriptor mq_37.1.desc).map (fun d => d.parameters.length) = some 2 := by decide +kernel
set_option maxRecDepth 100000 in
theorem ma_36 : fx_mt[36]? = some mq_36 := rfl
theorem mp_36 : (parseMethodDescriptor mq_36.1.desc).map (fun d => d.parameters.length) = some 2 := by decide +kernel
set_option maxRecDepth 100000 in
theorem ma_34 : fx_mt[34]? = some mq_34 := rfl
theorem mp_34 : (parseMethodDescriptor mq_34.1.desc).map (fun d => d.parameters.length) = some 6 := by decide +kernel
set_option maxRecDepth 100000 in
theorem ma_35 : fx_mt[35]? = some mq_35 := rfl
theorem mp_35 : (parseMethodDescriptor mq_35.1.desc).map (fun d => d.parameters.length) = some 2 := by decide +kernel
set_option maxRecDepth 100000 in
theorem ma_32 : fx_mt[32]? = some mq_32 := rfl
theorem mp_32 : (parseMethodDescriptor mq_32.1.desc).map (fun d => d.parameters.length) = some 2 := by decide +kernel
set_option maxRecDepth 100000 in
theorem ma_33 : fx_mt[33]? = some mq_33 := rfl
theorem mp_33 : (parseMethodDescriptor mq_33.1.desc).map (fun d => d.parameters.length) = some 2 := by decide +kernel
set_option maxRecDepth 100000 in
theorem ma_31 : fx_mt[31]? = some mq_31 := rfl
theorem mp_31 : (parseMethodDescriptor mq_31.1.desc).map (fun d => d.parameters.length) = some 9 := by decide +kernel
set_option maxRecDepth 100000 in
theorem ma_30 : fx_mt[30]? = some mq_30 := rfl
theorem mp_30 : (parseMethodDescriptor mq_30.1.desc).map (fun d => d.parameters.length) = some 1 := by decide +kernel
set_option maxRecDepth 100000 in
theorem ma_29 : fx_mt[29]? = some mq_29 := rfl
theorem mp_29 : (parseMethodDescriptor mq_29.1.desc).map (fun d => d.parameters.length) = some 0 := by decide +kernel
set_option maxRecDepth 100000 in
theorem ma_41 : fx_mt[41]? = some mq_41 := rfl
theorem mp_41 : (parseMethodDescriptor mq_41.1.desc).map (fun d => d.parameters.length) = some 4 := by decide +kernel
set_option maxRecDepth 100000 in
theorem ma_39 : fx_mt[39]? = some mq_39 := rfl
theorem mp_39 : (parseMethodDescriptor mq_39.1.desc).map (fun d => d.parameters.length) = some 6 := by decide +kernel
set_option maxRecDepth 100000 in
theorem ma_38 : fx_mt[38]? = some mq_38 := rfl
theorem mp_38 : (parseMethodDescriptor mq_38.1.desc).map (fun d => d.parameters.length) = some 6 := by decide +kernel
set_option maxRecDepth 100000 in
theorem ma_40 : fx_mt[40]? = some mq_40 := rfl
theorem mp_40 : (parseMethodDescriptor mq_40.1.desc).map (fun d => d.parameters.length) = some 6 := by decide +kernel
set_option maxRecDepth 100000 in
theorem ma_54 : fx_mt[54]? = some mq_54 := rfl
theorem mp_54 : (parseMethodDescriptor mq_54.1.desc).map (fun d => d.parameters.length) = some 3 := by decide +kernel
set_option maxRecDepth 100000 in
theorem ma_53 : fx_mt[53]? = some mq_53 := rfl
theorem mp_53 : (parseMethodDescriptor mq_53.1.desc).map (fun d => d.parameters.length) = some 2 := by decide +kernel
set_option maxRecDepth 100000 in
theorem ma_52 : fx_mt[52]? = some mq_52 := rfl
theorem mp_52 : (parseMethodDescriptor mq_52.1.desc).map (fun d => d.parameters.length) = some 2 := by decide +kernel
set_option maxRecDepth 100000 in
theorem ma_50 : fx_mt[50]? = some mq_50 := rfl
theorem mp_50 : (parseMethodDescriptor mq_50.1.desc).map (fun d => d.parameters.length) = some 1 := by decide +kernel
set_option maxRecDepth 100000 in
theorem ma_51 : fx_mt[51]? = some mq_51 := rfl
theorem mp_51 : (parseMethodDescriptor mq_51.1.desc).map (fun d => d.parameters.length) = some 1 := by decide +kernel
set_option maxRecDepth 100000 in
theorem ma_49 : fx_mt[49]? = some mq_49 := rfl
theorem mp_49 : (parseMethodDescriptor mq_49.1.desc).map (fun d => d.parameters.length) = some 5 := by decide +kernel
set_option maxRecDepth 100000 in
theorem ma_48 : fx_mt[48]? = some mq_48 := rfl
theorem mp_48 : (parseMethodDescriptor mq_48.1.desc).map (fun d => d.parameters.length) = some 3 := by decide +kernel
set_option maxRecDepth 100000 in
theorem ma_47 : fx_mt[47]? = some mq_47 := rfl
theorem mp_47 : (parseMethodDescriptor mq_47.1.desc).map (fun d => d.parameters.length) = some 4 := by decide +kernel
set_option maxRecDepth 100000 in
theorem ma_46 : fx_mt[46]? = some mq_46 := rfl
theorem mp_46 : (parseMethodDescriptor mq_46.1.desc).map (fun d => d.parameters.length) = some 3 := by decide +kernel
set_option maxRecDepth 100000 in
theorem ma_45 : fx_mt[45]? = some mq_45 := rfl
theorem mp_45 : (parseMethodDescriptor mq_45.1.desc).map (fun d => d.parameters.length) = some 3 := by decide +kernel
set_option maxRecDepth 100000 in
theorem ma_44 : fx_mt[44]? = some mq_44 := rfl
theorem mp_44 : (parseMethodDescriptor mq_44.1.desc).map (fun d => d.parameters.length) = some 5 := by decide +kernel
set_option maxRecDepth 100000 in
theorem ma_43 : fx_mt[43]? = some mq_43 := rfl
theorem mp_43 : (parseMethodDescriptor mq_43.1.desc).map (fun d => d.parameters.length) = some 2 := by decide +kernel
set_option maxRecDepth 100000 in
theorem ma_42 : fx_mt[42]? = some mq_42 := rfl
theorem mp_42 : (parseMethodDescriptor mq_42.1.desc).map (fun d => d.parameters.length) = some 5 := by decide +kernel
set_option maxRecDepth 100000 in
theorem ma_57 : fx_mt[57]? = some mq_57 := rfl
theorem mp_57 : (parseMethodDescriptor mq_57.1.desc).map (fun d => d.parameters.length) = some 0 := by decide +kernel
set_option maxRecDepth 100000 in
theorem ma_55 : fx_mt[55]? = some mq_55 := rfl
theorem mp_55 : (parseMethodDescriptor mq_55.1.desc).map (fun d => d.parameters.length) = some 1 := by decide +kernel
set_option maxRecDepth 100000 in
theorem ma_56 : fx_mt[56]? = some mq_56 := rfl
theorem mp_56 : (parseMethodDescriptor mq_56.1.desc).map (fun d => d.parameters.length) = some 2 := by decide +kernel
set_option maxRecDepth 100000 in
theorem ma_58 : fx_mt[58]? = some mq_58 := rfl
theorem mp_58 : (parseMethodDescriptor mq_58.1.desc).map (fun d => d.parameters.length) = some 6 := by decide +kernel
set_option maxRecDepth 100000 in
theorem ma_60 : fx_mt[60]? = some mq_60 := rfl
theorem mp_60 : (parseMethodDescriptor mq_60.1.desc).map (fun d => d.parameters.length) = some 1 := by decide +kernel
set_option maxRecDepth 100000 in
theorem ma_59 : fx_mt[59]? = some mq_59 := rfl
theorem mp_59 : (parseMethodDescriptor mq_59.1.desc).map (fun d => d.parameters.length) = some 1 := by decide +kernel
set_option maxRecDepth 100000 in
theorem ma_61 : fx_mt[61]? = some mq_61 := rfl
theorem mp_61 : (parseMethodDescriptor mq_61.1.desc).map (fun d => d.parameters.length) = some 1 := by decide +kernel
set_option maxRecDepth 100000 in
theorem ma_62 : fx_mt[62]? = some mq_62 := rfl
theorem mp_62 : (parseMethodDescriptor mq_62.1.desc).map (fun d => d.parameters.length) = some 1 := by decide +kernel
set_option maxRecDepth 100000 in
theorem ma_63 : fx_mt[63]? = some mq_63 := rfl
theorem mp_63 : (parseMethodDescriptor mq_63.1.desc).map (fun d => d.parameters.length) = some 0 := by decide +kernel
set_option maxRecDepth 100000 in
theorem ma_64 : fx_mt[64]? = some mq_64 := rfl
theorem mp_64 : (parseMethodDescriptor mq_64.1.desc).map (fun d => d.parameters.length) = some 2 := by decide +kernel
set_option maxRecDepth 100000 in
theorem ma_65 : fx_mt[65]? = some mq_65 := rfl
theorem mp_65 : (parseMethodDescriptor mq_65.1.desc).map (fun d => d.parameters.length) = some 3 := by decide +kernel
set_option maxRecDepth 100000 in
theorem ma_68 : fx_mt[68]? = some mq_68 := rfl
theorem mp_68 : (parseMethodDescriptor mq_68.1.desc).map (fun d => d.parameters.length) = some 1 := by decide +kernel
set_option maxRecDepth 100000 in
theorem ma_67 : fx_mt[67]? = some mq_67 := rfl
theorem mp_67 : (parseMethodDescriptor mq_67.1.desc).map (fun d => d.parameters.length) = some 1 := by decide +kernel
set_option maxRecDepth 100000 in
theorem ma_66 : fx_mt[66]? = some mq_66 := rfl
theorem mp_66 : (parseMethodDescriptor mq_66.1.desc).map (fun d => d.parameters.length) = some 0 := by decide +kernel
set_option maxRecDepth 100000 in
theorem ma_69 : fx_mt[69]? = some mq_69 := rfl
theorem mp_69 : (parseMethodDescriptor mq_69.1.desc).map (fun d => d.parameters.length) = some 0 := by decide +kernel
set_option maxRecDepth 100000 in
theorem ma_80 : fx_mt[80]? = some mq_80 := rfl
theorem mp_80 : (parseMethodDescriptor mq_80.1.desc).map (fun d => d.parameters.length) = some 3 := by decide +kernel
set_option maxRecDepth 100000 in
theorem ma_79 : fx_mt[79]? = some mq_79 := rfl
theorem mp_79 : (parseMethodDescriptor mq_79.1.desc).map (fun d => d.parameters.length) = some 2 := by decide +kernel
set_option maxRecDepth 100000 in
theorem ma_78 : fx_mt[78]? = some mq_78 := rfl
theorem mp_78 : (parseMethodDescriptor mq_78.1.desc).map (fun d => d.parameters.length) = some 2 := by decide +kernel
set_option maxRecDepth 100000 in
theorem ma_77 : fx_mt[77]? = some mq_77 := rfl
theorem mp_77 : (parseMethodDescriptor mq_77.1.desc).map (fun d => d.parameters.length) = some 2 := by decide +kernel
set_option maxRecDepth 100000 in
theorem ma_75 : fx_mt[75]? = some mq_75 := rfl
theorem mp_75 : (parseMethodDescriptor mq_75.1.desc).map (fun d => d.parameters.length) = some 3 := by decide +kernel
set_option maxRecDepth 100000 in
theorem ma_76 : fx_mt[76]? = some mq_76 := rfl
theorem mp_76 : (parseMethodDescriptor mq_76.1.desc).map (fun d => d.parameters.length) = some 6 := by decide +kernel
set_option maxRecDepth 100000 in
theorem ma_74 : fx_mt[74]? = some mq_74 := rfl
theorem mp_74 : (parseMethodDescriptor mq_74.1.desc).map (fun d => d.parameters.length) = some 2 := by decide +kernel
set_option maxRecDepth 100000 in
theorem ma_73 : fx_mt[73]? = some mq_73 := rfl
theorem mp_73 : (parseMethodDescriptor mq_73.1.desc).map (fun d => d.parameters.length) = some 1 := by decide +kernel
set_option maxRecDepth 100000 in
theorem ma_72 : fx_mt[72]? = some mq_72 := rfl
theorem mp_72 : (parseMethodDescriptor mq_72.1.desc).map (fun d => d.parameters.length) = some 2 := by decide +kernel
set_option maxRecDepth 100000 in
theorem ma_70 : fx_mt[70]? = some mq_70 := rfl
theorem mp_70 : (parseMethodDescriptor mq_70.1.desc).map (fun d => d.parameters.length) = some 1 := by decide +kernel
set_option maxRecDepth 100000 in
theorem ma_71 : fx_mt[71]? = some mq_71 := rfl
theorem mp_71 : (parseMethodDescriptor mq_71.1.desc).map (fun d => d.parameters.length) = some 1 := by decide +kernel
set_option maxRecDepth 100000 in
theorem ma_83 : fx_mt[83]? = some mq_83 := rfl
theorem mp_83 : (parseMethodDescriptor mq_83.1.desc).map (fun d => d.parameters.length) = some 2 := by decide +kernel
set_option maxRecDepth 100000 in
theorem ma_81 : fx_mt[81]? = some mq_81 := rfl
theorem mp_81 : (parseMethodDescriptor mq_81.1.desc).map (fun d => d.parameters.length) = some 1 := by decide +kernel
set_option maxRecDepth 100000 in
theorem ma_82 : fx_mt[82]? = some mq_82 := rfl
theorem mp_82 : (parseMethodDescriptor mq_82.1.desc).map (fun d => d.parameters.length) = some 2 := by decide +kernel
set_option maxRecDepth 100000 in
theorem ma_84 : fx_mt[84]? = some mq_84 := rfl
theorem mp_84 : (parseMethodDescriptor mq_84.1.desc).map (fun d => d.parameters.length) = some 2 := by decide +kernel
set_option maxRecDepth 100000 in
theorem ma_85 : fx_mt[85]? = some mq_85 := rfl
theorem mp_85 : (parseMethodDescriptor mq_85.1.desc).map (fun d => d.parameters.length) = some 1 := by decide +kernel
set_option maxRecDepth 100000 in
theorem ma_86 : fx_mt[86]? = some mq_86 := rfl
theorem mp_86 : (parseMethodDescriptor mq_86.1.desc).map (fun d => d.parameters.length) = some 3 := by decide +kernel
set_option maxRecDepth 100000 in
theorem ma_89 : fx_mt[89]? = some mq_89 := rfl
theorem mp_89 : (parseMethodDescriptor mq_89.1.desc).map (fun d => d.parameters.length) = some 1 := by decide +kernel
set_option maxRecDepth 100000 in
theorem ma_88 : fx_mt[88]? = some mq_88 := rfl
theorem mp_88 : (parseMethodDescriptor mq_88.1.desc).map (fun d => d.parameters.length) = some 1 := by decide +kernel
set_option maxRecDepth 100000 in
theorem ma_87 : fx_mt[87]? = some mq_87 := rfl
theorem mp_87 : (parseMethodDescriptor mq_87.1.desc).map (fun d => d.parameters.length) = some 2 := by decide +kernel
set_option maxRecDepth 100000 in
theorem ma_91 : fx_mt[91]? = some mq_91 := rfl
theorem mp_91 : (parseMethodDescriptor mq_91.1.desc).map (fun d => d.parameters.length) = some 5 := by decide +kernel
set_option maxRecDepth 100000 in
theorem ma_92 : fx_mt[92]? = some mq_92 := rfl
theorem mp_92 : (parseMethodDescriptor mq_92.1.desc).map (fun d => d.parameters.length) = some 1 := by decide +kernel
set_option maxRecDepth 100000 in
theorem ma_90 : fx_mt[90]? = some mq_90 := rfl
theorem mp_90 : (parseMethodDescriptor mq_90.1.desc).map (fun d => d.parameters.length) = some 4 := by decide +kernel
set_option maxRecDepth 100000 in
theorem ma_93 : fx_mt[93]? = some mq_93 := rfl
theorem mp_93 : (parseMethodDescriptor mq_93.1.desc).map (fun d => d.parameters.length) = some 1 := by decide +kernel
set_option maxRecDepth 100000 in
theorem ma_102 : fx_mt[102]? = some mq_102 := rfl
theorem mp_102 : (parseMethodDescriptor mq_102.1.desc).map (fun d => d.parameters.length) = some 0 := by decide +kernel
set_option maxRecDepth 100000 in
theorem ma_103 : fx_mt[103]? = some mq_103 := rfl
theorem mp_103 : (parseMethodDescriptor mq_103.1.desc).map (fun d => d.parameters.length) = some 1 := by decide +kernel
set_option maxRecDepth 100000 in
theorem ma_101 : fx_mt[101]? = some mq_101 := rfl
theorem mp_101 : (parseMethodDescriptor mq_101.1.desc).map (fun d => d.parameters.length) = some 1 := by decide +kernel
set_option maxRecDepth 100000 in
theorem ma_100 : fx_mt[100]? = some mq_100 := rfl
theorem mp_100 : (parseMethodDescriptor mq_100.1.desc).map (fun d => d.parameters.length) = some 2 := by decide +kernel
set_option maxRecDepth 100000 in
theorem ma_99 : fx_mt[99]? = some mq_99 := rfl
theorem mp_99 : (parseMethodDescriptor mq_99.1.desc).map (fun d => d.parameters.length) = some 1 := by decide +kernel
set_option maxRecDepth 100000 in
theorem ma_98 : fx_mt[98]? = some mq_98 := rfl
theorem mp_98 : (parseMethodDescriptor mq_98.1.desc).map (fun d => d.parameters.length) = some 4 := by decide +kernel
set_option maxRecDepth 100000 in
theorem ma_97 : fx_mt[97]? = some mq_97 := rfl
theorem mp_97 : (parseMethodDescriptor mq_97.1.desc).map (fun d => d.parameters.length) = some 0 := by decide +kernel
set_option maxRecDepth 100000 in
theorem ma_96 : fx_mt[96]? = some mq_96 := rfl
theorem mp_96 : (parseMethodDescriptor mq_96.1.desc).map (fun d => d.parameters.length) = some 1 := by decide +kernel
set_option maxRecDepth 100000 in
theorem ma_95 : fx_mt[95]? = some mq_95 := rfl
theorem mp_95 : (parseMethodDescriptor mq_95.1.desc).map (fun d => d.parameters.length) = some 3 := by decide +kernel
set_option maxRecDepth 100000 in
theorem ma_94 : fx_mt[94]? = some mq_94 := rfl
theorem mp_94 : (parseMethodDescriptor mq_94.1.desc).map (fun d => d.parameters.length) = some 2 := by decide +kernel
set_option maxRecDepth 100000 in
theorem ma_105 : fx_mt[105]? = some mq_105 := rfl
theorem mp_105 : (parseMethodDescriptor mq_105.1.desc).map (fun d => d.parameters.length) = some 2 := by decide +kernel
set_option maxRecDepth 100000 in
theorem ma_104 : fx_mt[104]? = some mq_104 := rfl
theorem mp_104 : (parseMethodDescriptor mq_104.1.desc).map (fun d => d.parameters.length) = some 1 := by decide +kernel
set_option maxRecDepth 100000 in
theorem ma_106 : fx_mt[106]? = some mq_106 := rfl
theorem mp_106 : (parseMethodDescriptor mq_106.1.desc).map (fun d => d.parameters.length) = some 4 := by decide +kernel
set_option maxRecDepth 100000 in
theorem ma_107 : fx_mt[107]? = some mq_107 := rfl
theorem mp_107 : (parseMethodDescriptor mq_107.1.desc).map (fun d => d.parameters.length) = some 1 := by decide +kernel
set_option maxRecDepth 100000 in
theorem ma_109 : fx_mt[109]? = some mq_109 := rfl
theorem mp_109 : (parseMethodDescriptor mq_109.1.desc).map (fun d => d.parameters.length) = some 2 := by decide +kernel
set_option maxRecDepth 100000 in
theorem ma_108 : fx_mt[108]? = some mq_108 := rfl
theorem mp_108 : (parseMethodDescriptor mq_108.1.desc).map (fun d => d.parameters.length) = some 1 := by decide +kernel
set_option maxRecDepth 100000 in
theorem ma_113 : fx_mt[113]? = some mq_113 := rfl
theorem mp_113 : (parseMethodDescriptor mq_113.1.desc).map (fun d => d.parameters.length) = some 4 := by decide +kernel
set_option maxRecDepth 100000 in
theorem ma_114 : fx_mt[114]? = some mq_114 := rfl
theorem mp_114 : (parseMethodDescriptor mq_114.1.desc).map (fun d => d.parameters.length) = some 2 := by decide +kernel
set_option maxRecDepth 100000 in
theorem ma_112 : fx_mt[112]? = some mq_112 := rfl
theorem mp_112 : (parseMethodDescriptor mq_112.1.desc).map (fun d => d.parameters.length) = some 3 := by decide +kernel
set_option maxRecDepth 100000 in
theorem ma_111 : fx_mt[111]? = some mq_111 := rfl
theorem mp_111 : (parseMethodDescriptor mq_111.1.desc).map (fun d => d.parameters.length) = some 0 := by decide +kernel
set_option maxRecDepth 100000 in
theorem ma_110 : fx_mt[110]? = some mq_110 := rfl
theorem mp_110 : (parseMethodDescriptor mq_110.1.desc).map (fun d => d.parameters.length) = some 2 := by decide +kernel
set_option maxRecDepth 100000 in
theorem ma_116 : fx_mt[116]? = some mq_116 := rfl
theorem mp_116 : (parseMethodDescriptor mq_116.1.desc).map (fun d => d.parameters.length) = some 1 := by decide +kernel
set_option maxRecDepth 100000 in
theorem ma_115 : fx_mt[115]? = some mq_115 := rfl
theorem mp_115 : (parseMethodDescriptor mq_115.1.desc).map (fun d => d.parameters.length) = some 3 := by decide +kernel
set_option maxRecDepth 100000 in
theorem ma_117 : fx_mt[117]? = some mq_117 := rfl
theorem mp_117 : (parseMethodDescriptor mq_117.1.desc).map (fun d => d.parameters.length) = some 4 := by decide +kernel
set_option maxRecDepth 100000 in
theorem ma_118 : fx_mt[118]? = some mq_118 := rfl
theorem mp_118 : (parseMethodDescriptor mq_118.1.desc).map (fun d => d.parameters.length) = some 0 := by decide +kernel
set_option maxRecDepth 100000 in
theorem ma_119 : fx_mt[119]? = some mq_119 := rfl
theorem mp_119 : (parseMethodDescriptor mq_119.1.desc).map (fun d => d.parameters.length) = some 2 := by decide +kernel
set_option maxRecDepth 100000 in
theorem ma_121 : fx_mt[121]? = some mq_121 := rfl
theorem mp_121 : (parseMethodDescriptor mq_121.1.desc).map (fun d => d.parameters.length) = some 2 := by decide +kernel
set_option maxRecDepth 100000 in
theorem ma_120 : fx_mt[120]? = some mq_120 := rfl
theorem mp_120 : (parseMethodDescriptor mq_120.1.desc).map (fun d => d.parameters.length) = some 1 := by decide +kernel
set_option maxRecDepth 100000 in
theorem ma_122 : fx_mt[122]? = some mq_122 := rfl
theorem mp_122 : (parseMethodDescriptor mq_122.1.desc).map (fun d => d.parameters.length) = some 2 := by decide +kernel
set_option maxRecDepth 100000 in
theorem ma_124 : fx_mt[124]? = some mq_124 := rfl
theorem mp_124 : (parseMethodDescriptor mq_124.1.desc).map (fun d => d.parameters.length) = some 1 := by decide +kernel
set_option maxRecDepth 100000 in
theorem ma_123 : fx_mt[123]? = some mq_123 := rfl
theorem mp_123 : (parseMethodDescriptor mq_123.1.desc).map (fun d => d.parameters.length) = some 0 := by decide +kernel
set_option maxRecDepth 100000 in
theorem ma_125 : fx_mt[125]? = some mq_125 := rfl
theorem mp_125 : (parseMethodDescriptor mq_125.1.desc).map (fun d => d.parameters.length) = some 4 := by decide +kernel
set_option maxRecDepth 100000 in
theorem ma_126 : fx_mt[126]? = some mq_126 := rfl
theorem mp_126 : (parseMethodDescriptor mq_126.1.desc).map (fun d => d.parameters.length) = some 1 := by decide +kernel
set_option maxRecDepth 100000 in
theorem ma_127 : fx_mt[127]? = some mq_127 := rfl
theorem mp_127 : (parseMethodDescriptor mq_127.1.desc).map (fun d => d.parameters.length) = some 1 := by decide +kernel
set_option maxRecDepth 100000 in
theorem ma_128 : fx_mt[128]? = some mq_128 := rfl
theorem mp_128 : (parseMethodDescriptor mq_128.1.desc).map (fun d => d.parameters.length) = some 1 := by decide +kernel
set_option maxRecDepth 100000 in
theorem ma_129 : fx_mt[129]? = some mq_129 := rfl
theorem mp_129 : (parseMethodDescriptor mq_129.1.desc).map (fun d => d.parameters.length) = some 0 := by decide +kernel
set_option maxRecDepth 100000 in
theorem ma_130 : fx_mt[130]? = some mq_130 := rfl
theorem mp_130 : (parseMethodDescriptor mq_130.1.desc).map (fun d => d.parameters.length) = some 3 := by decide +kernel
set_option maxRecDepth 100000 in
theorem ma_131 : fx_mt[131]? = some mq_131 := rfl
theorem mp_131 : (parseMethodDescriptor mq_131.1.desc).map (fun d => d.parameters.length) = some 0 := by decide +kernel
set_option maxRecDepth 100000 in
theorem ma_132 : fx_mt[132]? = some mq_132 := rfl
theorem mp_132 : (parseMethodDescriptor mq_132.1.desc).map (fun d => d.parameters.length) = some 1 := by decide +kernel
set_option maxRecDepth 100000 in
theorem ma_133 : fx_mt[133]? = some mq_133 := rfl
theorem mp_133 : (parseMethodDescriptor mq_133.1.desc).map (fun d => d.parameters.length) = some 1 := by decide +kernel
set_option maxRecDepth 100000 in
theorem ma_134 : fx_mt[134]? = some mq_134 := rfl
theorem mp_134 : (parseMethodDescriptor mq_134.1.desc).map (fun d => d.parameters.length) = some 4 := by decide +kernel
set_option maxRecDepth 100000 in
theorem ma_135 : fx_mt[135]? = some mq_135 := rfl
theorem mp_135 : (parseMethodDescriptor mq_135.1.desc).map (fun d => d.parameters.length) = some 1 := by decide +kernel
set_option maxRecDepth 100000 in
theorem ma_136 : fx_mt[136]? = some mq_136 := rfl
theorem mp_136 : (parseMethodDescriptor mq_136.1.desc).map (fun d => d.parameters.length) = some 0 := by decide +kernel
set_option maxRecDepth 100000 in
theorem ma_137 : fx_mt[137]? = some mq_137 := rfl
theorem mp_137 : (parseMethodDescriptor mq_137.1.desc).map (fun d => d.parameters.length) = some 2 := by decide +kernel
set_option maxRecDepth 100000 in
theorem ma_138 : fx_mt[138]? = some mq_138 := rfl
theorem mp_138 : (parseMethodDescriptor mq_138.1.desc).map (fun d => d.parameters.length) = some 3 := by decide +kernel
set_option maxRecDepth 100000 in
theorem ma_142 : fx_mt[142]? = some mq_142 := rfl
theorem mp_142 : (parseMethodDescriptor mq_142.1.desc).map (fun d => d.parameters.length) = some 0 := by decide +kernel
set_option maxRecDepth 100000 in
theorem ma_141 : fx_mt[141]? = some mq_141 := rfl
theorem mp_141 : (parseMethodDescriptor mq_141.1.desc).map (fun d => d.parameters.length) = some 0 := by decide +kernel
set_option maxRecDepth 100000 in
theorem ma_139 : fx_mt[139]? = some mq_139 := rfl
theorem mp_139 : (parseMethodDescriptor mq_139.1.desc).map (fun d => d.parameters.length) = some 1 := by decide +kernel
set_option maxRecDepth 100000 in
theorem ma_140 : fx_mt[140]? = some mq_140 := rfl
theorem mp_140 : (parseMethodDescriptor mq_140.1.desc).map (fun d => d.parameters.length) = some 1 := by decide +kernel
set_option maxRecDepth 100000 in
theorem ma_146 : fx_mt[146]? = some mq_146 := rfl
theorem mp_146 : (parseMethodDescriptor mq_146.1.desc).map (fun d => d.parameters.length) = some 1 := by decide +kernel
set_option maxRecDepth 100000 in
theorem ma_145 : fx_mt[145]? = some mq_145 := rfl
theorem mp_145 : (parseMethodDescriptor mq_145.1.desc).map (fun d => d.parameters.length) = some 1 := by decide +kernel
set_option maxRecDepth 100000 in
theorem ma_143 : fx_mt[143]? = some mq_143 := rfl
theorem mp_143 : (parseMethodDescriptor mq_143.1.desc).map (fun d => d.parameters.length) = some 1 := by decide +kernel
set_option maxRecDepth 100000 in
theorem ma_144 : fx_mt[144]? = some mq_144 := rfl
theorem mp_144 : (parseMethodDescriptor mq_144.1.desc).map (fun d => d.parameters.length) = some 1 := by decide +kernel
set_option maxRecDepth 100000 in
theorem ma_147 : fx_mt[147]? = some mq_147 := rfl
theorem mp_147 : (parseMethodDescriptor mq_147.1.desc).map (fun d => d.parameters.length) = some 1 := by decide +kernel
set_option maxRecDepth 100000 in
theorem ma_149 : fx_mt[149]? = some mq_149 := rfl
theorem mp_149 : (parseMethodDescriptor mq_149.1.desc).map (fun d => d.parameters.length) = some 2 := by decide +kernel
set_option maxRecDepth 100000 in
theorem ma_148 : fx_mt[148]? = some mq_148 := rfl
theorem mp_148 : (parseMethodDescriptor mq_148.1.desc).map (fun d => d.parameters.length) = some 0 := by decide +kernel
set_option maxRecDepth 100000 in
theorem ma_150 : fx_mt[150]? = some mq_150 := rfl
theorem mp_150 : (parseMethodDescriptor mq_150.1.desc).map (fun d => d.parameters.length) = some 3 := by decide +kernel
set_option maxRecDepth 100000 in
theorem ma_153 : fx_mt[153]? = some mq_153 := rfl
theorem mp_153 : (parseMethodDescriptor mq_153.1.desc).map (fun d => d.parameters.length) = some 2 := by decide +kernel
set_option maxRecDepth 100000 in
theorem ma_152 : fx_mt[152]? = some mq_152 := rfl
theorem mp_152 : (parseMethodDescriptor mq_152.1.desc).map (fun d => d.parameters.length) = some 1 := by decide +kernel
set_option maxRecDepth 100000 in
theorem ma_151 : fx_mt[151]? = some mq_151 := rfl
theorem mp_151 : (parseMethodDescriptor mq_151.1.desc).map (fun d => d.parameters.length) = some 3 := by decide +kernel
set_option maxRecDepth 100000 in
theorem ma_156 : fx_mt[156]? = some mq_156 := rfl
theorem mp_156 : (parseMethodDescriptor mq_156.1.desc).map (fun d => d.parameters.length) = some 1 := by decide +kernel
set_option maxRecDepth 100000 in
theorem ma_155 : fx_mt[155]? = some mq_155 := rfl
theorem mp_155 : (parseMethodDescriptor mq_155.1.desc).map (fun d => d.parameters.length) = some 1 := by decide +kernel
set_option maxRecDepth 100000 in
theorem ma_154 : fx_mt[154]? = some mq_154 := rfl
theorem mp_154 : (parseMethodDescriptor mq_154.1.desc).map (fun d => d.parameters.length) = some 0 := by decide +kernel
set_option maxRecDepth 100000 in
theorem ma_157 : fx_mt[157]? = some mq_157 := rfl
theorem mp_157 : (parseMethodDescriptor mq_157.1.desc).map (fun d => d.parameters.length) = some 1 := by decide +kernel
set_option maxRecDepth 100000 in
theorem ma_160 : fx_mt[160]? = some mq_160 := rfl
theorem mp_160 : (parseMethodDescriptor mq_160.1.desc).map (fun d => d.parameters.length) = some 3 := by decide +kernel
set_option maxRecDepth 100000 in
theorem ma_159 : fx_mt[159]? = some mq_159 := rfl
theorem mp_159 : (parseMethodDescriptor mq_159.1.desc).map (fun d => d.parameters.length) = some 1 := by decide +kernel
set_option maxRecDepth 100000 in
theorem ma_158 : fx_mt[158]? = some mq_158 := rfl
theorem mp_158 : (parseMethodDescriptor mq_158.1.desc).map (fun d => d.parameters.length) = some 4 := by decide +kernel
set_option maxRecDepth 100000 in
theorem ma_161 : fx_mt[161]? = some mq_161 := rfl
theorem mp_161 : (parseMethodDescriptor mq_161.1.desc).map (fun d => d.parameters.length) = some 1 := by decide +kernel
set_option maxRecDepth 100000 in
theorem ma_162 : fx_mt[162]? = some mq_162 := rfl
theorem mp_162 : (parseMethodDescriptor mq_162.1.desc).map (fun d => d.parameters.length) = some 2 := by decide +kernel
set_option maxRecDepth 100000 in
theorem ma_163 : fx_mt[163]? = some mq_163 := rfl
theorem mp_163 : (parseMethodDescriptor mq_163.1.desc).map (fun d => d.parameters.length) = some 2 := by decide +kernel
set_option maxRecDepth 100000 in
theorem ma_164 : fx_mt[164]? = some mq_164 := rfl
theorem mp_164 : (parseMethodDescriptor mq_164.1.desc).map (fun d => d.parameters.length) = some 2 := by decide +kernel
set_option maxRecDepth 100000 in
theorem ma_165 : fx_mt[165]? = some mq_165 := rfl
theorem mp_165 : (parseMethodDescriptor mq_165.1.desc).map (fun d => d.parameters.length) = some 1 := by decide +kernel
set_option maxRecDepth 100000 in
theorem ma_166 : fx_mt[166]? = some mq_166 := rfl
theorem mp_166 : (parseMethodDescriptor mq_166.1.desc).map (fun d => d.parameters.length) = some 0 := by decide +kernel
set_option maxRecDepth 100000 in
theorem ma_167 : fx_mt[167]? = some mq_167 := rfl
theorem mp_167 : (parseMethodDescriptor mq_167.1.desc).map (fun d => d.parameters.length) = some 0 := by decide +kernel
set_option maxRecDepth 100000 in
theorem ma_168 : fx_mt[168]? = some mq_168 := rfl
theorem mp_168 : (parseMethodDescriptor mq_168.1.desc).map (fun d => d.parameters.length) = some 0 := by decide +kernel
set_option maxRecDepth 100000 in
theorem ma_170 : fx_mt[170]? = some mq_170 := rfl
theorem mp_170 : (parseMethodDescriptor mq_170.1.desc).map (fun d => d.parameters.length) = some 3 := by decide +kernel
set_option maxRecDepth 100000 in
theorem ma_169 : fx_mt[169]? = some mq_169 := rfl
theorem mp_169 : (parseMethodDescriptor mq_169.1.desc).map (fun d => d.parameters.length) = some 1 := by decide +kernel
set_option maxRecDepth 100000 in
theorem ma_173 : fx_mt[173]? = some mq_173 := rfl
theorem mp_173 : (parseMethodDescriptor mq_173.1.desc).map (fun d => d.parameters.length) = some 1 := by decide +kernel
set_option maxRecDepth 100000 in
theorem ma_172 : fx_mt[172]? = some mq_172 := rfl
theorem mp_172 : (parseMethodDescriptor mq_172.1.desc).map (fun d => d.parameters.length) = some 2 := by decide +kernel
set_option maxRecDepth 100000 in
theorem ma_171 : fx_mt[171]? = some mq_171 := rfl
theorem mp_171 : (parseMethodDescriptor mq_171.1.desc).map (fun d => d.parameters.length) = some 1 := by decide +kernel
set_option maxRecDepth 100000 in
theorem ma_175 : fx_mt[175]? = some mq_175 := rfl
theorem mp_175 : (parseMethodDescriptor mq_175.1.desc).map (fun d => d.parameters.length) = some 4 := by decide +kernel
set_option maxRecDepth 100000 in
theorem ma_174 : fx_mt[174]? = some mq_174 := rfl
theorem mp_174 : (parseMethodDescriptor mq_174.1.desc).map (fun d => d.parameters.length) = some 2 := by decide +kernel
set_option maxRecDepth 100000 in
theorem ma_176 : fx_mt[176]? = some mq_176 := rfl
theorem mp_176 : (parseMethodDescriptor mq_176.1.desc).map (fun d => d.parameters.length) = some 2 := by decide +kernel
set_option maxRecDepth 100000 in
theorem ma_177 : fx_mt[177]? = some mq_177 := rfl
theorem mp_177 : (parseMethodDescriptor mq_177.1.desc).map (fun d => d.parameters.length) = some 3 := by decide +kernel
set_option maxRecDepth 100000 in
theorem ma_178 : fx_mt[178]? = some mq_178 := rfl
theorem mp_178 : (parseMethodDescriptor mq_178.1.desc).map (fun d => d.parameters.length) = some 1 := by decide +kernel
set_option maxRecDepth 100000 in
theorem ma_179 : fx_mt[179]? = some mq_179 := rfl
theorem mp_179 : (parseMethodDescriptor mq_179.1.desc).map (fun d => d.parameters.length) = some 0 := by decide +kernel
set_option maxRecDepth 100000 in
theorem ma_180 : fx_mt[180]? = some mq_180 := rfl
theorem mp_180 : (parseMethodDescriptor mq_180.1.desc).map (fun d => d.parameters.length) = some 1 := by decide +kernel
set_option maxRecDepth 100000 in
theorem ma_181 : fx_mt[181]? = some mq_181 := rfl
theorem mp_181 : (parseMethodDescriptor mq_181.1.desc).map (fun d => d.parameters.length) = some 1 := by decide +kernel
set_option maxRecDepth 100000 in
theorem ma_183 : fx_mt[183]? = some mq_183 := rfl
theorem mp_183 : (parseMethodDescriptor mq_183.1.desc).map (fun d => d.parameters.length) = some 2 := by decide +kernel
set_option maxRecDepth 100000 in
theorem ma_182 : fx_mt[182]? = some mq_182 := rfl
theorem mp_182 : (parseMethodDescriptor mq_182.1.desc).map (fun d => d.parameters.length) = some 2 := by decide +kernel
set_option maxRecDepth 100000 in
theorem ma_184 : fx_mt[184]? = some mq_184 := rfl
theorem mp_184 : (parseMethodDescriptor mq_184.1.desc).map (fun d => d.parameters.length) = some 2 := by decide +kernel
set_option maxRecDepth 100000 in
theorem ma_185 : fx_mt[185]? = some mq_185 := rfl
theorem mp_185 : (parseMethodDescriptor mq_185.1.desc).map (fun d => d.parameters.length) = some 2 := by decide +kernel
set_option maxRecDepth 100000 in
theorem ma_187 : fx_mt[187]? = some mq_187 := rfl
theorem mp_187 : (parseMethodDescriptor mq_187.1.desc).map (fun d => d.parameters.length) = some 2 := by decide +kernel
set_option maxRecDepth 100000 in
theorem ma_186 : fx_mt[186]? = some mq_186 := rfl
theorem mp_186 : (parseMethodDescriptor mq_186.1.desc).map (fun d => d.parameters.length) = some 3 := by decide +kernel
set_option maxRecDepth 100000 in
theorem ma_188 : fx_mt[188]? = some mq_188 := rfl
theorem mp_188 : (parseMethodDescriptor mq_188.1.desc).map (fun d => d.parameters.length) = some 3 := by decide +kernel
set_option maxRecDepth 100000 in
theorem ma_189 : fx_mt[189]? = some mq_189 := rfl
theorem mp_189 : (parseMethodDescriptor mq_189.1.desc).map (fun d => d.parameters.length) = some 3 := by decide +kernel
set_option maxRecDepth 100000 in
theorem ma_190 : fx_mt[190]? = some mq_190 := rfl
theorem mp_190 : (parseMethodDescriptor mq_190.1.desc).map (fun d => d.parameters.length) = some 2 := by decide +kernel
set_option maxRecDepth 100000 in
theorem ma_191 : fx_mt[191]? = some mq_191 := rfl
theorem mp_191 : (parseMethodDescriptor mq_191.1.desc).map (fun d => d.parameters.length) = some 2 := by decide +kernel
theorem mw_1 : eh_cw mq_1 ∈ fx_Ts := (show eh_cw mq_1 = _ from if_pos rfl) ▸ kf_803
theorem mw_2 : eh_cw mq_2 ∈ fx_Ts := (show eh_cw mq_2 = _ from if_pos rfl) ▸ kf_804
theorem mw_3 : eh_cw mq_3 ∈ fx_Ts := (show eh_cw mq_3 = _ from if_pos rfl) ▸ kf_805
theorem mw_4 : eh_cw mq_4 ∈ fx_Ts := (show eh_cw mq_4 = _ from if_pos rfl) ▸ kf_806
theorem mw_5 : eh_cw mq_5 ∈ fx_Ts := (show eh_cw mq_5 = _ from if_pos rfl) ▸ kf_807
theorem mw_6 : eh_cw mq_6 ∈ fx_Ts := (show eh_cw mq_6 = _ from if_neg (by decide)) ▸ kf_808
theorem mw_7 : eh_cw mq_7 ∈ fx_Ts := (show eh_cw mq_7 = _ from if_pos rfl) ▸ kf_809
theorem mw_8 : eh_cw mq_8 ∈ fx_Ts := (show eh_cw mq_8 = _ from if_pos rfl) ▸ kf_810
theorem mw_9 : eh_cw mq_9 ∈ fx_Ts := (show eh_cw mq_9 = _ from if_pos rfl) ▸ kf_811
theorem mw_10 : eh_cw mq_10 ∈ fx_Ts := (show eh_cw mq_10 = _ from if_pos rfl) ▸ kf_812
theorem mw_11 : eh_cw mq_11 ∈ fx_Ts := (show eh_cw mq_11 = _ from if_pos rfl) ▸ kf_813
theorem mw_12 : eh_cw mq_12 ∈ fx_Ts := (show eh_cw mq_12 = _ from if_pos rfl) ▸ kf_814
theorem mw_13 : eh_cw mq_13 ∈ fx_Ts := (show eh_cw mq_13 = _ from if_pos rfl) ▸ kf_815
theorem mw_14 : eh_cw mq_14 ∈ fx_Ts := (show eh_cw mq_14 = _ from if_pos rfl) ▸ kf_816
theorem mw_15 : eh_cw mq_15 ∈ fx_Ts := (show eh_cw mq_15 = _ from if_pos rfl) ▸ kf_817
theorem mw_16 : eh_cw mq_16 ∈ fx_Ts := (show eh_cw mq_16 = _ from if_pos rfl) ▸ kf_818
theorem mw_17 : eh_cw mq_17 ∈ fx_Ts := (show eh_cw mq_17 = _ from if_pos rfl) ▸ kf_819
theorem mw_18 : eh_cw mq_18 ∈ fx_Ts := (show eh_cw mq_18 = _ from if_pos rfl) ▸ kf_820
theorem mw_19 : eh_cw mq_19 ∈ fx_Ts := (show eh_cw mq_19 = _ from if_pos rfl) ▸ kf_821
theorem mw_20 : eh_cw mq_20 ∈ fx_Ts := (show eh_cw mq_20 = _ from if_pos rfl) ▸ kf_822
theorem mw_21 : eh_cw mq_21 ∈ fx_Ts := (show eh_cw mq_21 = _ from if_pos rfl) ▸ kf_823
theorem mw_22 : eh_cw mq_22 ∈ fx_Ts := (show eh_cw mq_22 = _ from if_pos rfl) ▸ kf_824
theorem mw_23 : eh_cw mq_23 ∈ fx_Ts := (show eh_cw mq_23 = _ from if_pos rfl) ▸ kf_825
theorem mw_24 : eh_cw mq_24 ∈ fx_Ts := (show eh_cw mq_24 = _ from if_pos rfl) ▸ kf_826
theorem mw_25 : eh_cw mq_25 ∈ fx_Ts := (show eh_cw mq_25 = _ from if_pos rfl) ▸ kf_827
theorem mw_26 : eh_cw mq_26 ∈ fx_Ts := (show eh_cw mq_26 = _ from if_pos rfl) ▸ kf_828
theorem mw_27 : eh_cw mq_27 ∈ fx_Ts := (show eh_cw mq_27 = _ from if_pos rfl) ▸ kf_829
theorem mw_28 : eh_cw mq_28 ∈ fx_Ts := (show eh_cw mq_28 = _ from if_pos rfl) ▸ kf_830
theorem mw_29 : eh_cw mq_29 ∈ fx_Ts := (show eh_cw mq_29 = _ from if_pos rfl) ▸ kf_831
theorem mw_30 : eh_cw mq_30 ∈ fx_Ts := (show eh_cw mq_30 = _ from if_pos rfl) ▸ kf_832
theorem mw_31 : eh_cw mq_31 ∈ fx_Ts := (show eh_cw mq_31 = _ from if_pos rfl) ▸ kf_833
theorem mw_32 : eh_cw mq_32 ∈ fx_Ts := (show eh_cw mq_32 = _ from if_pos rfl) ▸ kf_834
theorem mw_33 : eh_cw mq_33 ∈ fx_Ts := (show eh_cw mq_33 = _ from if_pos rfl) ▸ kf_835
theorem mw_34 : eh_cw mq_34 ∈ fx_Ts := (show eh_cw mq_34 = _ from if_pos rfl) ▸ kf_836
theorem mw_35 : eh_cw mq_35 ∈ fx_Ts := (show eh_cw mq_35 = _ from if_pos rfl) ▸ kf_837
theorem mw_36 : eh_cw mq_36 ∈ fx_Ts := (show eh_cw mq_36 = _ from if_pos rfl) ▸ kf_838
theorem mw_37 : eh_cw mq_37 ∈ fx_Ts := (show eh_cw mq_37 = _ from if_pos rfl) ▸ kf_839
theorem mw_38 : eh_cw mq_38 ∈ fx_Ts := (show eh_cw mq_38 = _ from if_pos rfl) ▸ kf_840
theorem mw_39 : eh_cw mq_39 ∈ fx_Ts := (show eh_cw mq_39 = _ from if_pos rfl) ▸ kf_841
theorem mw_40 : eh_cw mq_40 ∈ fx_Ts := (show eh_cw mq_40 = _ from if_pos rfl) ▸ kf_842
theorem mw_41 : eh_cw mq_41 ∈ fx_Ts := (show eh_cw mq_41 = _ from if_pos rfl) ▸ kf_843
theorem mw_42 : eh_cw mq_42 ∈ fx_Ts := (show eh_cw mq_42 = _ from if_pos rfl) ▸ kf_844
theorem mw_43 : eh_cw mq_43 ∈ fx_Ts := (show eh_cw mq_43 = _ from if_pos rfl) ▸ kf_845
theorem mw_44 : eh_cw mq_44 ∈ fx_Ts := (show eh_cw mq_44 = _ from if_pos rfl) ▸ kf_846
theorem mw_45 : eh_cw mq_45 ∈ fx_Ts := (show eh_cw mq_45 = _ from if_pos rfl) ▸ kf_847
theorem mw_46 : eh_cw mq_46 ∈ fx_Ts := (show eh_cw mq_46 = _ from if_pos rfl) ▸ kf_848
theorem mw_47 : eh_cw mq_47 ∈ fx_Ts := (show eh_cw mq_47 = _ from if_pos rfl) ▸ kf_849
theorem mw_48 : eh_cw mq_48 ∈ fx_Ts := (show eh_cw mq_48 = _ from if_pos rfl) ▸ kf_850
theorem mw_49 : eh_cw mq_49 ∈ fx_Ts := (show eh_cw mq_49 = _ from if_pos rfl) ▸ kf_851
theorem mw_50 : eh_cw mq_50 ∈ fx_Ts := (show eh_cw mq_50 = _ from if_pos rfl) ▸ kf_852
theorem mw_51 : eh_cw mq_51 ∈ fx_Ts := (show eh_cw mq_51 = _ from if_pos rfl) ▸ kf_853
theorem mw_52 : eh_cw mq_52 ∈ fx_Ts := (show eh_cw mq_52 = _ from if_pos rfl) ▸ kf_854
theorem mw_53 : eh_cw mq_53 ∈ fx_Ts := (show eh_cw mq_53 = _ from if_pos rfl) ▸ kf_855
theorem mw_54 : eh_cw mq_54 ∈ fx_Ts := (show eh_cw mq_54 = _ from if_pos rfl) ▸ kf_856
theorem mw_55 : eh_cw mq_55 ∈ fx_Ts := (show eh_cw mq_55 = _ from if_pos rfl) ▸ kf_857
theorem mw_56 : eh_cw mq_56 ∈ fx_Ts := (show eh_cw mq_56 = _ from if_pos rfl) ▸ kf_858
theorem mw_57 : eh_cw mq_57 ∈ fx_Ts := (show eh_cw mq_57 = _ from if_pos rfl) ▸ kf_859
theorem mw_58 : eh_cw mq_58 ∈ fx_Ts := (show eh_cw mq_58 = _ from if_pos rfl) ▸ kf_860
theorem mw_59 : eh_cw mq_59 ∈ fx_Ts := (show eh_cw mq_59 = _ from if_pos rfl) ▸ kf_861
theorem mw_60 : eh_cw mq_60 ∈ fx_Ts := (show eh_cw mq_60 = _ from if_pos rfl) ▸ kf_862
theorem mw_61 : eh_cw mq_61 ∈ fx_Ts := (show eh_cw mq_61 = _ from if_pos rfl) ▸ kf_863
theorem mw_62 : eh_cw mq_62 ∈ fx_Ts := (show eh_cw mq_62 = _ from if_pos rfl) ▸ kf_864
theorem mw_63 : eh_cw mq_63 ∈ fx_Ts := (show eh_cw mq_63 = _ from if_pos rfl) ▸ kf_865
theorem mw_64 : eh_cw mq_64 ∈ fx_Ts := (show eh_cw mq_64 = _ from if_pos rfl) ▸ kf_866
theorem mw_65 : eh_cw mq_65 ∈ fx_Ts := (show eh_cw mq_65 = _ from if_pos rfl) ▸ kf_867
theorem mw_66 : eh_cw mq_66 ∈ fx_Ts := (show eh_cw mq_66 = _ from if_pos rfl) ▸ kf_868
theorem mw_67 : eh_cw mq_67 ∈ fx_Ts := (show eh_cw mq_67 = _ from if_pos rfl) ▸ kf_869
theorem mw_68 : eh_cw mq_68 ∈ fx_Ts := (show eh_cw mq_68 = _ from if_pos rfl) ▸ kf_870
theorem mw_69 : eh_cw mq_69 ∈ fx_Ts := (show eh_cw mq_69 = _ from if_pos rfl) ▸ kf_871
theorem mw_70 : eh_cw mq_70 ∈ fx_Ts := (show eh_cw mq_70 = _ from if_pos rfl) ▸ kf_872
theorem mw_71 : eh_cw mq_71 ∈ fx_Ts := (show eh_cw mq_71 = _ from if_pos rfl) ▸ kf_873
theorem mw_72 : eh_cw mq_72 ∈ fx_Ts := (show eh_cw mq_72 = _ from if_pos rfl) ▸ kf_874
theorem mw_73 : eh_cw mq_73 ∈ fx_Ts := (show eh_cw mq_73 = _ from if_pos rfl) ▸ kf_875
theorem mw_74 : eh_cw mq_74 ∈ fx_Ts := (show eh_cw mq_74 = _ from if_pos rfl) ▸ kf_876
theorem mw_75 : eh_cw mq_75 ∈ fx_Ts := (show eh_cw mq_75 = _ from if_pos rfl) ▸ kf_877
theorem mw_76 : eh_cw mq_76 ∈ fx_Ts := (show eh_cw mq_76 = _ from if_pos rfl) ▸ kf_878
theorem mw_77 : eh_cw mq_77 ∈ fx_Ts := (show eh_cw mq_77 = _ from if_pos rfl) ▸ kf_879
theorem mw_78 : eh_cw mq_78 ∈ fx_Ts := (show eh_cw mq_78 = _ from if_pos rfl) ▸ kf_880
theorem mw_79 : eh_cw mq_79 ∈ fx_Ts := (show eh_cw mq_79 = _ from if_pos rfl) ▸ kf_881
theorem mw_80 : eh_cw mq_80 ∈ fx_Ts := (show eh_cw mq_80 = _ from if_pos rfl) ▸ kf_882
theorem mw_81 : eh_cw mq_81 ∈ fx_Ts := (show eh_cw mq_81 = _ from if_pos rfl) ▸ kf_883
theorem mw_82 : eh_cw mq_82 ∈ fx_Ts := (show eh_cw mq_82 = _ from if_pos rfl) ▸ kf_884
theorem mw_83 : eh_cw mq_83 ∈ fx_Ts := (show eh_cw mq_83 = _ from if_pos rfl) ▸ kf_885
theorem mw_84 : eh_cw mq_84 ∈ fx_Ts := (show eh_cw mq_84 = _ from if_pos rfl) ▸ kf_886
theorem mw_85 : eh_cw mq_85 ∈ fx_Ts := (show eh_cw mq_85 = _ from if_pos rfl) ▸ kf_887
theorem mw_86 : eh_cw mq_86 ∈ fx_Ts := (show eh_cw mq_86 = _ from if_pos rfl) ▸ kf_888
theorem mw_87 : eh_cw mq_87 ∈ fx_Ts := (show eh_cw mq_87 = _ from if_pos rfl) ▸ kf_889
theorem mw_88 : eh_cw mq_88 ∈ fx_Ts := (show eh_cw mq_88 = _ from if_pos rfl) ▸ kf_890
theorem mw_89 : eh_cw mq_89 ∈ fx_Ts := (show eh_cw mq_89 = _ from if_pos rfl) ▸ kf_891
theorem mw_90 : eh_cw mq_90 ∈ fx_Ts := (show eh_cw mq_90 = _ from if_pos rfl) ▸ kf_892
theorem mw_91 : eh_cw mq_91 ∈ fx_Ts := (show eh_cw mq_91 = _ from if_pos rfl) ▸ kf_893
theorem mw_92 : eh_cw mq_92 ∈ fx_Ts := (show eh_cw mq_92 = _ from if_pos rfl) ▸ kf_894
theorem mw_93 : eh_cw mq_93 ∈ fx_Ts := (show eh_cw mq_93 = _ from if_pos rfl) ▸ kf_895
theorem mw_94 : eh_cw mq_94 ∈ fx_Ts := (show eh_cw mq_94 = _ from if_pos rfl) ▸ kf_896
theorem mw_95 : eh_cw mq_95 ∈ fx_Ts := (show eh_cw mq_95 = _ from if_pos rfl) ▸ kf_897
theorem mw_96 : eh_cw mq_96 ∈ fx_Ts := (show eh_cw mq_96 = _ from if_pos rfl) ▸ kf_898
theorem mw_97 : eh_cw mq_97 ∈ fx_Ts := (show eh_cw mq_97 = _ from if_pos rfl) ▸ kf_899
theorem mw_98 : eh_cw mq_98 ∈ fx_Ts := (show eh_cw mq_98 = _ from if_pos rfl) ▸ kf_900
theorem mw_99 : eh_cw mq_99 ∈ fx_Ts := (show eh_cw mq_99 = _ from if_pos rfl) ▸ kf_901
theorem mw_100 : eh_cw mq_100 ∈ fx_Ts := (show eh_cw mq_100 = _ from if_pos rfl) ▸ kf_902
theorem mw_101 : eh_cw mq_101 ∈ fx_Ts := (show eh_cw mq_101 = _ from if_pos rfl) ▸ kf_903
theorem mw_102 : eh_cw mq_102 ∈ fx_Ts := (show eh_cw mq_102 = _ from if_pos rfl) ▸ kf_904
theorem mw_103 : eh_cw mq_103 ∈ fx_Ts := (show eh_cw mq_103 = _ from if_pos rfl) ▸ kf_905
theorem mw_104 : eh_cw mq_104 ∈ fx_Ts := (show eh_cw mq_104 = _ from if_pos rfl) ▸ kf_906
theorem mw_105 : eh_cw mq_105 ∈ fx_Ts := (show eh_cw mq_105 = _ from if_pos rfl) ▸ kf_907
theorem mw_106 : eh_cw mq_106 ∈ fx_Ts := (show eh_cw mq_106 = _ from if_pos rfl) ▸ kf_908
theorem mw_107 : eh_cw mq_107 ∈ fx_Ts := (show eh_cw mq_107 = _ from if_pos rfl) ▸ kf_909
theorem mw_108 : eh_cw mq_108 ∈ fx_Ts := (show eh_cw mq_108 = _ from if_pos rfl) ▸ kf_910
theorem mw_109 : eh_cw mq_109 ∈ fx_Ts := (show eh_cw mq_109 = _ from if_pos rfl) ▸ kf_911
theorem mw_110 : eh_cw mq_110 ∈ fx_Ts := (show eh_cw mq_110 = _ from if_pos rfl) ▸ kf_912
theorem mw_111 : eh_cw mq_111 ∈ fx_Ts := (show eh_cw mq_111 = _ from if_pos rfl) ▸ kf_913
theorem mw_112 : eh_cw mq_112 ∈ fx_Ts := (show eh_cw mq_112 = _ from if_pos rfl) ▸ kf_914
theorem mw_113 : eh_cw mq_113 ∈ fx_Ts := (show eh_cw mq_113 = _ from if_pos rfl) ▸ kf_915
theorem mw_114 : eh_cw mq_114 ∈ fx_Ts := (show eh_cw mq_114 = _ from if_pos rfl) ▸ kf_916
theorem mw_115 : eh_cw mq_115 ∈ fx_Ts := (show eh_cw mq_115 = _ from if_pos rfl) ▸ kf_917
theorem mw_116 : eh_cw mq_116 ∈ fx_Ts := (show eh_cw mq_116 = _ from if_pos rfl) ▸ kf_918
theorem mw_117 : eh_cw mq_117 ∈ fx_Ts := (show eh_cw mq_117 = _ from if_pos rfl) ▸ kf_919
theorem mw_118 : eh_cw mq_118 ∈ fx_Ts := (show eh_cw mq_118 = _ from if_pos rfl) ▸ kf_920
theorem mw_119 : eh_cw mq_119 ∈ fx_Ts := (show eh_cw mq_119 = _ from if_pos rfl) ▸ kf_921
theorem mw_120 : eh_cw mq_120 ∈ fx_Ts := (show eh_cw mq_120 = _ from if_pos rfl) ▸ kf_922
theorem mw_121 : eh_cw mq_121 ∈ fx_Ts := (show eh_cw mq_121 = _ from if_pos rfl) ▸ kf_923
theorem mw_122 : eh_cw mq_122 ∈ fx_Ts := (show eh_cw mq_122 = _ from if_pos rfl) ▸ kf_924
theorem mw_123 : eh_cw mq_123 ∈ fx_Ts := (show eh_cw mq_123 = _ from if_pos rfl) ▸ kf_925
theorem mw_124 : eh_cw mq_124 ∈ fx_Ts := (show eh_cw mq_124 = _ from if_pos rfl) ▸ kf_926
theorem mw_125 : eh_cw mq_125 ∈ fx_Ts := (show eh_cw mq_125 = _ from if_pos rfl) ▸ kf_927
theorem mw_126 : eh_cw mq_126 ∈ fx_Ts := (show eh_cw mq_126 = _ from if_pos rfl) ▸ kf_928
theorem mw_127 : eh_cw mq_127 ∈ fx_Ts := (show eh_cw mq_127 = _ from if_pos rfl) ▸ kf_929
theorem mw_128 : eh_cw mq_128 ∈ fx_Ts := (show eh_cw mq_128 = _ from if_pos rfl) ▸ kf_930
theorem mw_129 : eh_cw mq_129 ∈ fx_Ts := (show eh_cw mq_129 = _ from if_pos rfl) ▸ kf_931
theorem mw_130 : eh_cw mq_130 ∈ fx_Ts := (show eh_cw mq_130 = _ from if_pos rfl) ▸ kf_932
theorem mw_131 : eh_cw mq_131 ∈ fx_Ts := (show eh_cw mq_131 = _ from if_pos rfl) ▸ kf_933
theorem mw_132 : eh_cw mq_132 ∈ fx_Ts := (show eh_cw mq_132 = _ from if_pos rfl) ▸ kf_934
theorem mw_133 : eh_cw mq_133 ∈ fx_Ts := (show eh_cw mq_133 = _ from if_pos rfl) ▸ kf_935
theorem mw_134 : eh_cw mq_134 ∈ fx_Ts := (show eh_cw mq_134 = _ from if_pos rfl) ▸ kf_936
theorem mw_135 : eh_cw mq_135 ∈ fx_Ts := (show eh_cw mq_135 = _ from if_pos rfl) ▸ kf_937
theorem mw_136 : eh_cw mq_136 ∈ fx_Ts := (show eh_cw mq_136 = _ from if_pos rfl) ▸ kf_938
theorem mw_137 : eh_cw mq_137 ∈ fx_Ts := (show eh_cw mq_137 = _ from if_pos rfl) ▸ kf_939
theorem mw_138 : eh_cw mq_138 ∈ fx_Ts := (show eh_cw mq_138 = _ from if_pos rfl) ▸ kf_940
theorem mw_139 : eh_cw mq_139 ∈ fx_Ts := (show eh_cw mq_139 = _ from if_pos rfl) ▸ kf_941
theorem mw_140 : eh_cw mq_140 ∈ fx_Ts := (show eh_cw mq_140 = _ from if_pos rfl) ▸ kf_942
theorem mw_141 : eh_cw mq_141 ∈ fx_Ts := (show eh_cw mq_141 = _ from if_pos rfl) ▸ kf_943
theorem mw_142 : eh_cw mq_142 ∈ fx_Ts := (show eh_cw mq_142 = _ from if_pos rfl) ▸ kf_944
theorem mw_143 : eh_cw mq_143 ∈ fx_Ts := (show eh_cw mq_143 = _ from if_pos rfl) ▸ kf_945
theorem mw_144 : eh_cw mq_144 ∈ fx_Ts := (show eh_cw mq_144 = _ from if_pos rfl) ▸ kf_946
theorem mw_145 : eh_cw mq_145 ∈ fx_Ts := (show eh_cw mq_145 = _ from if_pos rfl) ▸ kf_947
theorem mw_146 : eh_cw mq_146 ∈ fx_Ts := (show eh_cw mq_146 = _ from if_pos rfl) ▸ kf_948
theorem mw_147 : eh_cw mq_147 ∈ fx_Ts := (show eh_cw mq_147 = _ from if_pos rfl) ▸ kf_949
theorem mw_148 : eh_cw mq_148 ∈ fx_Ts := (show eh_cw mq_148 = _ from if_pos rfl) ▸ kf_950
theorem mw_149 : eh_cw mq_149 ∈ fx_Ts := (show eh_cw mq_149 = _ from if_pos rfl) ▸ kf_951
theorem mw_150 : eh_cw mq_150 ∈ fx_Ts := (show eh_cw mq_150 = _ from if_pos rfl) ▸ kf_952
theorem mw_151 : eh_cw mq_151 ∈ fx_Ts := (show eh_cw mq_151 = _ from if_pos rfl) ▸ kf_953
theorem mw_152 : eh_cw mq_152 ∈ fx_Ts := (show eh_cw mq_152 = _ from if_pos rfl) ▸ kf_954
theorem mw_153 : eh_cw mq_153 ∈ fx_Ts := (show eh_cw mq_153 = _ from if_pos rfl) ▸ kf_955
theorem mw_154 : eh_cw mq_154 ∈ fx_Ts := (show eh_cw mq_154 = _ from if_pos rfl) ▸ kf_956
theorem mw_155 : eh_cw mq_155 ∈ fx_Ts := (show eh_cw mq_155 = _ from if_pos rfl) ▸ kf_957
theorem mw_156 : eh_cw mq_156 ∈ fx_Ts := (show eh_cw mq_156 = _ from if_pos rfl) ▸ kf_958
theorem mw_157 : eh_cw mq_157 ∈ fx_Ts := (show eh_cw mq_157 = _ from if_pos rfl) ▸ kf_959
theorem mw_158 : eh_cw mq_158 ∈ fx_Ts := (show eh_cw mq_158 = _ from if_pos rfl) ▸ kf_960
theorem mw_159 : eh_cw mq_159 ∈ fx_Ts := (show eh_cw mq_159 = _ from if_pos rfl) ▸ kf_961
theorem mw_160 : eh_cw mq_160 ∈ fx_Ts := (show eh_cw mq_160 = _ from if_pos rfl) ▸ kf_962
theorem mw_161 : eh_cw mq_161 ∈ fx_Ts := (show eh_cw mq_161 = _ from if_pos rfl) ▸ kf_963
theorem mw_162 : eh_cw mq_162 ∈ fx_Ts := (show eh_cw mq_162 = _ from if_pos rfl) ▸ kf_964
theorem mw_163 : eh_cw mq_163 ∈ fx_Ts := (show eh_cw mq_163 = _ from if_pos rfl) ▸ kf_965
theorem mw_164 : eh_cw mq_164 ∈ fx_Ts := (show eh_cw mq_164 = _ from if_pos rfl) ▸ kf_966
theorem mw_165 : eh_cw mq_165 ∈ fx_Ts := (show eh_cw mq_165 = _ from if_pos rfl) ▸ kf_967
theorem mw_166 : eh_cw mq_166 ∈ fx_Ts := (show eh_cw mq_166 = _ from if_pos rfl) ▸ kf_968
theorem mw_167 : eh_cw mq_167 ∈ fx_Ts := (show eh_cw mq_167 = _ from if_pos rfl) ▸ kf_969
theorem mw_168 : eh_cw mq_168 ∈ fx_Ts := (show eh_cw mq_168 = _ from if_pos rfl) ▸ kf_970
theorem mw_169 : eh_cw mq_169 ∈ fx_Ts := (show eh_cw mq_169 = _ from if_pos rfl) ▸ kf_971
theorem mw_170 : eh_cw mq_170 ∈ fx_Ts := (show eh_cw mq_170 = _ from if_pos rfl) ▸ kf_972
theorem mw_171 : eh_cw mq_171 ∈ fx_Ts := (show eh_cw mq_171 = _ from if_pos rfl) ▸ kf_973
theorem mw_172 : eh_cw mq_172 ∈ fx_Ts := (show eh_cw mq_172 = _ from if_pos rfl) ▸ kf_974
theorem mw_173 : eh_cw mq_173 ∈ fx_Ts := (show eh_cw mq_173 = _ from if_pos rfl) ▸ kf_975
theorem mw_174 : eh_cw mq_174 ∈ fx_Ts := (show eh_cw mq_174 = _ from if_pos rfl) ▸ kf_976
theorem mw_175 : eh_cw mq_175 ∈ fx_Ts := (show eh_cw mq_175 = _ from if_pos rfl) ▸ kf_977
theorem mw_176 : eh_cw mq_176 ∈ fx_Ts := (show eh_cw mq_176 = _ from if_pos rfl) ▸ kf_978
theorem mw_177 : eh_cw mq_177 ∈ fx_Ts := (show eh_cw mq_177 = _ from if_pos rfl) ▸ kf_979
theorem mw_178 : eh_cw mq_178 ∈ fx_Ts := (show eh_cw mq_178 = _ from if_pos rfl) ▸ kf_980
theorem mw_179 : eh_cw mq_179 ∈ fx_Ts := (show eh_cw mq_179 = _ from if_pos rfl) ▸ kf_981
theorem mw_180 : eh_cw mq_180 ∈ fx_Ts := (show eh_cw mq_180 = _ from if_pos rfl) ▸ kf_982
theorem mw_181 : eh_cw mq_181 ∈ fx_Ts := (show eh_cw mq_181 = _ from if_pos rfl) ▸ kf_983
theorem mw_182 : eh_cw mq_182 ∈ fx_Ts := (show eh_cw mq_182 = _ from if_pos rfl) ▸ kf_984
theorem mw_183 : eh_cw mq_183 ∈ fx_Ts := (show eh_cw mq_183 = _ from if_pos rfl) ▸ kf_985
theorem mw_184 : eh_cw mq_184 ∈ fx_Ts := (show eh_cw mq_184 = _ from if_pos rfl) ▸ kf_986
theorem mw_185 : eh_cw mq_185 ∈ fx_Ts := (show eh_cw mq_185 = _ from if_pos rfl) ▸ kf_987
theorem mw_186 : eh_cw mq_186 ∈ fx_Ts := (show eh_cw mq_186 = _ from if_pos rfl) ▸ kf_988
theorem mw_187 : eh_cw mq_187 ∈ fx_Ts := (show eh_cw mq_187 = _ from if_pos rfl) ▸ kf_989
theorem mw_188 : eh_cw mq_188 ∈ fx_Ts := (show eh_cw mq_188 = _ from if_pos rfl) ▸ kf_990
theorem mw_189 : eh_cw mq_189 ∈ fx_Ts := (show eh_cw mq_189 = _ from if_pos rfl) ▸ kf_991
theorem mw_190 : eh_cw mq_190 ∈ fx_Ts := (show eh_cw mq_190 = _ from if_pos rfl) ▸ kf_992
theorem mw_191 : eh_cw mq_191 ∈ fx_Ts := (show eh_cw mq_191 = _ from if_pos rfl) ▸ kf_993
theorem es_all : ∀ w ∈ es_ws, w ∈ fx_Ts := (List.forall_mem_cons.mpr ⟨kf_735, (List.forall_mem_cons.mpr ⟨kf_1021, (List.forall_mem_cons.mpr ⟨kf_1020, (List.forall_mem_cons.mpr ⟨kf_733, (List.forall_mem_cons.mpr ⟨kf_734, (List.forall_mem_cons.mpr ⟨kf_979, (List.forall_mem_cons.mpr ⟨kf_1019, (List.forall_mem_cons.mpr ⟨kf_1018, (List.forall_mem_cons.mpr ⟨kf_1017, (List.forall_mem_cons.mpr ⟨kf_1016, (List.forall_mem_cons.mpr ⟨kf_1015, (List.forall_mem_cons.mpr ⟨kf_1014, (List.forall_mem_cons.mpr ⟨kf_1013, (List.forall_mem_cons.mpr ⟨kf_1012, (List.forall_mem_cons.mpr ⟨kf_1011, (List.forall_mem_cons.mpr ⟨kf_1010, (List.forall_mem_cons.mpr ⟨kf_1009, (List.forall_mem_cons.mpr ⟨kf_1008, (List.forall_mem_cons.mpr ⟨kf_1007, (List.forall_mem_cons.mpr ⟨kf_1006, (List.forall_mem_cons.mpr ⟨kf_1005, (List.forall_mem_cons.mpr ⟨kf_1004, (List.forall_mem_cons.mpr ⟨kf_1003, (List.forall_mem_cons.mpr ⟨kf_1002, (List.forall_mem_cons.mpr ⟨kf_1001, (List.forall_mem_cons.mpr ⟨kf_1000, (List.forall_mem_cons.mpr ⟨kf_999, (List.forall_mem_cons.mpr ⟨kf_998, (List.forall_mem_cons.mpr ⟨kf_997, (List.forall_mem_cons.mpr ⟨kf_996, (List.forall_mem_cons.mpr ⟨kf_995, (fun _ h => absurd h List.not_mem_nil)⟩)⟩)⟩)⟩)⟩)⟩)⟩)⟩)⟩)⟩)⟩)⟩)⟩)⟩)⟩)⟩)⟩)⟩)⟩)⟩)⟩)⟩)⟩)⟩)⟩)⟩)⟩)⟩)⟩)⟩)⟩)
