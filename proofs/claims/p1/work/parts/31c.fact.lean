/-! What classes, calls and throws need. -/
def ct_0 : u_T := fun k => match k with
  | 0 => ("Threewayleaf", "stock", "LThreewayleaf$Stock;", true)
  | 1 => ("Threewayleaf", "look", "LThreewayleaf$Look;", true)
  | 2 => ("Threewayleaf", "history", "LThreewayleaf$History;", true)
  | 3 => ("Threewayleaf", "baseFinder", "LThreewayleaf$BaseFinder;", true)
  | 4 => ("Threewayleaf", "script", "LThreewayleaf$Script;", true)
  | 5 => ("Threewayleaf", "printer", "LThreewayleaf$Printer;", true)
  | 6 => ("Threewayleaf", "matcher", "LThreewayleaf$Matcher;", true)
  | 7 => ("Threewayleaf", "desks", "[LThreewayleaf$State;", true)
  | 8 => ("Threewayleaf", "heads", "[I", true)
  | 9 => ("Threewayleaf", "branches", "I", false)
  | 10 => ("Threewayleaf", "trial", "LThreewayleaf$State;", true)
  | _ => ("Threewayleaf", "prints", "[J", true)
def cy_0 : Nat → FieldType := fun k => match k with
  | 0 => .object "Threewayleaf$Stock"
  | 1 => .object "Threewayleaf$Look"
  | 2 => .object "Threewayleaf$History"
  | 3 => .object "Threewayleaf$BaseFinder"
  | 4 => .object "Threewayleaf$Script"
  | 5 => .object "Threewayleaf$Printer"
  | 6 => .object "Threewayleaf$Matcher"
  | 7 => .array (.object "Threewayleaf$State")
  | 8 => .array (.int)
  | 9 => .int
  | 10 => .object "Threewayleaf$State"
  | _ => .array (.long)
theorem cn_0 : ∀ a, a < 12 → ∀ b, b < 12 → a ≠ b → (ct_0 a).2.1 ≠ (ct_0 b).2.1 := by decide +kernel
theorem cp_0 : ∀ k, k < 12 → parseFieldDescriptor (ct_0 k).2.2.1 = some (cy_0 k) := by decide +kernel
def ct_1 : u_T := fun k => match k with
  | 0 => ("Threewayleaf$Stock", "nodes", "I", false)
  | 1 => ("Threewayleaf$Stock", "spots", "I", false)
  | 2 => ("Threewayleaf$Stock", "words", "I", false)
  | 3 => ("Threewayleaf$Stock", "kinds", "[I", true)
  | 4 => ("Threewayleaf$Stock", "holders", "[I", true)
  | 5 => ("Threewayleaf$Stock", "owners", "[I", true)
  | 6 => ("Threewayleaf$Stock", "spotOrder", "[I", true)
  | 7 => ("Threewayleaf$Stock", "leaves", "[I", true)
  | 8 => ("Threewayleaf$Stock", "senses", "[I", true)
  | 9 => ("Threewayleaf$Stock", "writers", "[I", true)
  | _ => ("Threewayleaf$Stock", "wordOrder", "[I", true)
def cy_1 : Nat → FieldType := fun k => match k with
  | 0 => .int
  | 1 => .int
  | 2 => .int
  | 3 => .array (.int)
  | 4 => .array (.int)
  | 5 => .array (.int)
  | 6 => .array (.int)
  | 7 => .array (.int)
  | 8 => .array (.int)
  | 9 => .array (.int)
  | _ => .array (.int)
theorem cn_1 : ∀ a, a < 11 → ∀ b, b < 11 → a ≠ b → (ct_1 a).2.1 ≠ (ct_1 b).2.1 := by decide +kernel
theorem cp_1 : ∀ k, k < 11 → parseFieldDescriptor (ct_1 k).2.2.1 = some (cy_1 k) := by decide +kernel
def ct_2 : u_T := fun k => match k with
  | 0 => ("Threewayleaf$Look", "stock", "LThreewayleaf$Stock;", true)
  | _ => ("Threewayleaf$Look", "tally", "[I", true)
def cy_2 : Nat → FieldType := fun k => match k with
  | 0 => .object "Threewayleaf$Stock"
  | _ => .array (.int)
theorem cn_2 : ∀ a, a < 2 → ∀ b, b < 2 → a ≠ b → (ct_2 a).2.1 ≠ (ct_2 b).2.1 := by decide +kernel
theorem cp_2 : ∀ k, k < 2 → parseFieldDescriptor (ct_2 k).2.2.1 = some (cy_2 k) := by decide +kernel
def ct_3 : u_T := fun k => match k with
  | 0 => ("Threewayleaf$History", "states", "Ljava/util/ArrayList;", true)
  | 1 => ("Threewayleaf$History", "firsts", "[I", true)
  | 2 => ("Threewayleaf$History", "seconds", "[I", true)
  | 3 => ("Threewayleaf$History", "older", "[J", true)
  | _ => ("Threewayleaf$History", "nowhere", "LThreewayleaf$State;", true)
def cy_3 : Nat → FieldType := fun k => match k with
  | 0 => .object "java/util/ArrayList"
  | 1 => .array (.int)
  | 2 => .array (.int)
  | 3 => .array (.long)
  | _ => .object "Threewayleaf$State"
theorem cn_3 : ∀ a, a < 5 → ∀ b, b < 5 → a ≠ b → (ct_3 a).2.1 ≠ (ct_3 b).2.1 := by decide +kernel
theorem cp_3 : ∀ k, k < 5 → parseFieldDescriptor (ct_3 k).2.2.1 = some (cy_3 k) := by decide +kernel
def ct_4 : u_T := fun k => match k with
  | 0 => ("java/util/ArrayList", "elementData", "[Ljava/lang/Object;", false)
  | 1 => ("java/util/ArrayList", "size", "I", false)
  | _ => ("java/util/AbstractList", "modCount", "I", false)
def cy_4 : Nat → FieldType := fun k => match k with
  | 0 => .array (.object "java/lang/Object")
  | 1 => .int
  | _ => .int
theorem cn_4 : ∀ a, a < 3 → ∀ b, b < 3 → a ≠ b → (ct_4 a).2.1 ≠ (ct_4 b).2.1 := by decide +kernel
theorem cp_4 : ∀ k, k < 3 → parseFieldDescriptor (ct_4 k).2.2.1 = some (cy_4 k) := by decide +kernel
def ct_5 : u_T := fun k => match k with
  | 0 => ("Threewayleaf$State", "spots", "[I", true)
  | 1 => ("Threewayleaf$State", "tags", "[I", true)
  | 2 => ("Threewayleaf$State", "aims", "[I", true)
  | 3 => ("Threewayleaf$State", "conflicts", "[I", true)
  | _ => ("Threewayleaf$State", "said", "[Z", true)
def cy_5 : Nat → FieldType := fun k => match k with
  | 0 => .array (.int)
  | 1 => .array (.int)
  | 2 => .array (.int)
  | 3 => .array (.int)
  | _ => .array (.boolean)
theorem cn_5 : ∀ a, a < 5 → ∀ b, b < 5 → a ≠ b → (ct_5 a).2.1 ≠ (ct_5 b).2.1 := by decide +kernel
theorem cp_5 : ∀ k, k < 5 → parseFieldDescriptor (ct_5 k).2.2.1 = some (cy_5 k) := by decide +kernel
def ct_6 : u_T := fun k => match k with
  | 0 => ("Threewayleaf$BaseFinder", "look", "LThreewayleaf$Look;", true)
  | 1 => ("Threewayleaf$BaseFinder", "history", "LThreewayleaf$History;", true)
  | _ => ("Threewayleaf$BaseFinder", "spares", "Ljava/util/ArrayList;", true)
def cy_6 : Nat → FieldType := fun k => match k with
  | 0 => .object "Threewayleaf$Look"
  | 1 => .object "Threewayleaf$History"
  | _ => .object "java/util/ArrayList"
theorem cn_6 : ∀ a, a < 3 → ∀ b, b < 3 → a ≠ b → (ct_6 a).2.1 ≠ (ct_6 b).2.1 := by decide +kernel
theorem cp_6 : ∀ k, k < 3 → parseFieldDescriptor (ct_6 k).2.2.1 = some (cy_6 k) := by decide +kernel
def ct_7 : u_T := fun k => match k with
  | 0 => ("Threewayleaf$Script", "kinds", "[I", true)
  | 1 => ("Threewayleaf$Script", "numbers", "[I", true)
  | _ => ("Threewayleaf$Script", "size", "I", false)
def cy_7 : Nat → FieldType := fun k => match k with
  | 0 => .array (.int)
  | 1 => .array (.int)
  | _ => .int
theorem cn_7 : ∀ a, a < 3 → ∀ b, b < 3 → a ≠ b → (ct_7 a).2.1 ≠ (ct_7 b).2.1 := by decide +kernel
theorem cp_7 : ∀ k, k < 3 → parseFieldDescriptor (ct_7 k).2.2.1 = some (cy_7 k) := by decide +kernel
def ct_8 : u_T := fun k => match k with
  | 0 => ("Threewayleaf$Printer", "stock", "LThreewayleaf$Stock;", true)
  | 1 => ("Threewayleaf$Printer", "look", "LThreewayleaf$Look;", true)
  | _ => ("Threewayleaf$Printer", "depths", "[I", true)
def cy_8 : Nat → FieldType := fun k => match k with
  | 0 => .object "Threewayleaf$Stock"
  | 1 => .object "Threewayleaf$Look"
  | _ => .array (.int)
theorem cn_8 : ∀ a, a < 3 → ∀ b, b < 3 → a ≠ b → (ct_8 a).2.1 ≠ (ct_8 b).2.1 := by decide +kernel
theorem cp_8 : ∀ k, k < 3 → parseFieldDescriptor (ct_8 k).2.2.1 = some (cy_8 k) := by decide +kernel
def ct_9 : u_T := fun k => match k with
  | 0 => ("Threewayleaf$Matcher", "stock", "LThreewayleaf$Stock;", true)
  | 1 => ("Threewayleaf$Matcher", "look", "LThreewayleaf$Look;", true)
  | 2 => ("Threewayleaf$Matcher", "printer", "LThreewayleaf$Printer;", true)
  | 3 => ("Threewayleaf$Matcher", "firstFaces", "[J", true)
  | 4 => ("Threewayleaf$Matcher", "secondFaces", "[J", true)
  | 5 => ("Threewayleaf$Matcher", "isFirstFaced", "[Z", true)
  | 6 => ("Threewayleaf$Matcher", "isSecondFaced", "[Z", true)
  | _ => ("Threewayleaf$Matcher", "partners", "[I", true)
def cy_9 : Nat → FieldType := fun k => match k with
  | 0 => .object "Threewayleaf$Stock"
  | 1 => .object "Threewayleaf$Look"
  | 2 => .object "Threewayleaf$Printer"
  | 3 => .array (.long)
  | 4 => .array (.long)
  | 5 => .array (.boolean)
  | 6 => .array (.boolean)
  | _ => .array (.int)
theorem cn_9 : ∀ a, a < 8 → ∀ b, b < 8 → a ≠ b → (ct_9 a).2.1 ≠ (ct_9 b).2.1 := by decide +kernel
theorem cp_9 : ∀ k, k < 8 → parseFieldDescriptor (ct_9 k).2.2.1 = some (cy_9 k) := by decide +kernel
def ct_10 : u_T := fun k => match k with
  | 0 => ("Threewayleaf$Join", "stock", "LThreewayleaf$Stock;", true)
  | 1 => ("Threewayleaf$Join", "look", "LThreewayleaf$Look;", true)
  | 2 => ("Threewayleaf$Join", "x", "LThreewayleaf$State;", true)
  | 3 => ("Threewayleaf$Join", "y", "LThreewayleaf$State;", true)
  | 4 => ("Threewayleaf$Join", "over", "LThreewayleaf$State;", true)
  | _ => ("Threewayleaf$Join", "out", "LThreewayleaf$State;", true)
def cy_10 : Nat → FieldType := fun k => match k with
  | 0 => .object "Threewayleaf$Stock"
  | 1 => .object "Threewayleaf$Look"
  | 2 => .object "Threewayleaf$State"
  | 3 => .object "Threewayleaf$State"
  | 4 => .object "Threewayleaf$State"
  | _ => .object "Threewayleaf$State"
theorem cn_10 : ∀ a, a < 6 → ∀ b, b < 6 → a ≠ b → (ct_10 a).2.1 ≠ (ct_10 b).2.1 := by decide +kernel
theorem cp_10 : ∀ k, k < 6 → parseFieldDescriptor (ct_10 k).2.2.1 = some (cy_10 k) := by decide +kernel
def ct_11 : u_T := fun k => match k with
  | 0 => ("ThreewayleafModel", "states", "[I", true)
  | 1 => ("ThreewayleafModel", "nodeMany", "I", false)
  | 2 => ("ThreewayleafModel", "kinds", "[I", true)
  | 3 => ("ThreewayleafModel", "spotMany", "I", false)
  | 4 => ("ThreewayleafModel", "spotHolders", "[I", true)
  | 5 => ("ThreewayleafModel", "spotBehind", "[I", true)
  | 6 => ("ThreewayleafModel", "wordMany", "I", false)
  | 7 => ("ThreewayleafModel", "wordLeaves", "[I", true)
  | 8 => ("ThreewayleafModel", "wordBehind", "[I", true)
  | 9 => ("ThreewayleafModel", "senses", "[I", true)
  | 10 => ("ThreewayleafModel", "writers", "[I", true)
  | 11 => ("ThreewayleafModel", "versionMany", "I", false)
  | 12 => ("ThreewayleafModel", "parents", "[I", true)
  | 13 => ("ThreewayleafModel", "older", "[J", true)
  | 14 => ("ThreewayleafModel", "branchMany", "I", false)
  | 15 => ("ThreewayleafModel", "heads", "[I", true)
  | 16 => ("ThreewayleafModel", "keptMany", "I", false)
  | 17 => ("ThreewayleafModel", "keptFor", "[J", true)
  | 18 => ("ThreewayleafModel", "thrown", "I", false)
  | 19 => ("ThreewayleafModel", "order", "[I", true)
  | 20 => ("ThreewayleafModel", "orderMany", "I", false)
  | 21 => ("ThreewayleafModel", "kids", "[I", true)
  | 22 => ("ThreewayleafModel", "kidMany", "I", false)
  | 23 => ("ThreewayleafModel", "said", "[I", true)
  | 24 => ("ThreewayleafModel", "saidMany", "I", false)
  | 25 => ("ThreewayleafModel", "isPassed", "[Z", true)
  | 26 => ("ThreewayleafModel", "areOnRing", "[Z", true)
  | 27 => ("ThreewayleafModel", "asked", "[J", true)
  | 28 => ("ThreewayleafModel", "areGoing", "[Z", true)
  | 29 => ("ThreewayleafModel", "prints", "[J", true)
  | 30 => ("ThreewayleafModel", "isDone", "[Z", true)
  | 31 => ("ThreewayleafModel", "edited", "[I", true)
  | 32 => ("ThreewayleafModel", "editMany", "I", false)
  | 33 => ("ThreewayleafModel", "text", "[I", true)
  | 34 => ("ThreewayleafModel", "textMany", "I", false)
  | 35 => ("ThreewayleafModel", "faces", "[J", true)
  | 36 => ("ThreewayleafModel", "matches", "[I", true)
  | 37 => ("ThreewayleafModel", "areTakenByFace", "[Z", true)
  | 38 => ("ThreewayleafModel", "foundNode", "I", false)
  | _ => ("ThreewayleafModel", "areByFace", "[Z", true)
def cy_11 : Nat → FieldType := fun k => match k with
  | 0 => .array (.int)
  | 1 => .int
  | 2 => .array (.int)
  | 3 => .int
  | 4 => .array (.int)
  | 5 => .array (.int)
  | 6 => .int
  | 7 => .array (.int)
  | 8 => .array (.int)
  | 9 => .array (.int)
  | 10 => .array (.int)
  | 11 => .int
  | 12 => .array (.int)
  | 13 => .array (.long)
  | 14 => .int
  | 15 => .array (.int)
  | 16 => .int
  | 17 => .array (.long)
  | 18 => .int
  | 19 => .array (.int)
  | 20 => .int
  | 21 => .array (.int)
  | 22 => .int
  | 23 => .array (.int)
  | 24 => .int
  | 25 => .array (.boolean)
  | 26 => .array (.boolean)
  | 27 => .array (.long)
  | 28 => .array (.boolean)
  | 29 => .array (.long)
  | 30 => .array (.boolean)
  | 31 => .array (.int)
  | 32 => .int
  | 33 => .array (.int)
  | 34 => .int
  | 35 => .array (.long)
  | 36 => .array (.int)
  | 37 => .array (.boolean)
  | 38 => .int
  | _ => .array (.boolean)
theorem cn_11 : ∀ a, a < 40 → ∀ b, b < 40 → a ≠ b → (ct_11 a).2.1 ≠ (ct_11 b).2.1 := by decide +kernel
theorem cp_11 : ∀ k, k < 40 → parseFieldDescriptor (ct_11 k).2.2.1 = some (cy_11 k) := by decide +kernel
def ct_12 : u_T := fun _ => ("", "", "", false)
def ct_13 : u_T := fun _ => ("", "", "", false)
def ct_14 : u_T := fun _ => ("", "", "", false)
def ct_15 : u_T := fun _ => ("", "", "", false)
def fx_kl : List vw_C := [("Threewayleaf", ct_0, 12), ("Threewayleaf$Stock", ct_1, 11), ("Threewayleaf$Look", ct_2, 2), ("Threewayleaf$History", ct_3, 5), ("java/util/ArrayList", ct_4, 3), ("Threewayleaf$State", ct_5, 5), ("Threewayleaf$BaseFinder", ct_6, 3), ("Threewayleaf$Script", ct_7, 3), ("Threewayleaf$Printer", ct_8, 3), ("Threewayleaf$Matcher", ct_9, 8), ("Threewayleaf$Join", ct_10, 6), ("ThreewayleafModel", ct_11, 40), ("java/lang/IndexOutOfBoundsException", ct_12, 0), ("java/lang/IllegalArgumentException", ct_13, 0), ("java/lang/IllegalStateException", ct_14, 0), ("java/util/NoSuchElementException", ct_15, 0)]
theorem cw_0 : ∀ w ∈ u_ws "Threewayleaf" ct_0 12, w ∈ fx_Ts := by
  intro w hw
  obtain ⟨k, hk, rfl⟩ := List.mem_map.mp hw
  have hk := List.mem_range.mp hk
  match k, hk with
  | 0, _ => exact kf_0
  | 1, _ => exact kf_1
  | 2, _ => exact kf_2
  | 3, _ => exact kf_3
  | 4, _ => exact kf_4
  | 5, _ => exact kf_5
  | 6, _ => exact kf_6
  | 7, _ => exact kf_7
  | 8, _ => exact kf_8
  | 9, _ => exact kf_9
  | 10, _ => exact kf_10
  | 11, _ => exact kf_11
  | k + 12, hk => exact absurd hk (by omega)
theorem cd_0 : (fx_dft 0).length = 12 ∧ ∀ j, j < 12 → defaultValue (cy_0 j) = vp_V (fx_dft 0) j := by decide +kernel
theorem cw_1 : ∀ w ∈ u_ws "Threewayleaf$Stock" ct_1 11, w ∈ fx_Ts := by
  intro w hw
  obtain ⟨k, hk, rfl⟩ := List.mem_map.mp hw
  have hk := List.mem_range.mp hk
  match k, hk with
  | 0, _ => exact kf_12
  | 1, _ => exact kf_13
  | 2, _ => exact kf_14
  | 3, _ => exact kf_15
  | 4, _ => exact kf_16
  | 5, _ => exact kf_17
  | 6, _ => exact kf_18
  | 7, _ => exact kf_19
  | 8, _ => exact kf_20
  | 9, _ => exact kf_21
  | 10, _ => exact kf_22
  | k + 11, hk => exact absurd hk (by omega)
theorem cd_1 : (fx_dft 1).length = 11 ∧ ∀ j, j < 11 → defaultValue (cy_1 j) = vp_V (fx_dft 1) j := by decide +kernel
theorem cw_2 : ∀ w ∈ u_ws "Threewayleaf$Look" ct_2 2, w ∈ fx_Ts := by
  intro w hw
  obtain ⟨k, hk, rfl⟩ := List.mem_map.mp hw
  have hk := List.mem_range.mp hk
  match k, hk with
  | 0, _ => exact kf_23
  | 1, _ => exact kf_24
  | k + 2, hk => exact absurd hk (by omega)
theorem cd_2 : (fx_dft 2).length = 2 ∧ ∀ j, j < 2 → defaultValue (cy_2 j) = vp_V (fx_dft 2) j := by decide +kernel
theorem cw_3 : ∀ w ∈ u_ws "Threewayleaf$History" ct_3 5, w ∈ fx_Ts := by
  intro w hw
  obtain ⟨k, hk, rfl⟩ := List.mem_map.mp hw
  have hk := List.mem_range.mp hk
  match k, hk with
  | 0, _ => exact kf_25
  | 1, _ => exact kf_26
  | 2, _ => exact kf_27
  | 3, _ => exact kf_28
  | 4, _ => exact kf_29
  | k + 5, hk => exact absurd hk (by omega)
theorem cd_3 : (fx_dft 3).length = 5 ∧ ∀ j, j < 5 → defaultValue (cy_3 j) = vp_V (fx_dft 3) j := by decide +kernel
theorem cw_4 : ∀ w ∈ u_ws "java/util/ArrayList" ct_4 3, w ∈ fx_Ts := by
  intro w hw
  obtain ⟨k, hk, rfl⟩ := List.mem_map.mp hw
  have hk := List.mem_range.mp hk
  match k, hk with
  | 0, _ => exact kf_30
  | 1, _ => exact kf_31
  | 2, _ => exact kf_32
  | k + 3, hk => exact absurd hk (by omega)
theorem cd_4 : (fx_dft 4).length = 3 ∧ ∀ j, j < 3 → defaultValue (cy_4 j) = vp_V (fx_dft 4) j := by decide +kernel
theorem cw_5 : ∀ w ∈ u_ws "Threewayleaf$State" ct_5 5, w ∈ fx_Ts := by
  intro w hw
  obtain ⟨k, hk, rfl⟩ := List.mem_map.mp hw
  have hk := List.mem_range.mp hk
  match k, hk with
  | 0, _ => exact kf_33
  | 1, _ => exact kf_34
  | 2, _ => exact kf_35
  | 3, _ => exact kf_36
  | 4, _ => exact kf_37
  | k + 5, hk => exact absurd hk (by omega)
theorem cd_5 : (fx_dft 5).length = 5 ∧ ∀ j, j < 5 → defaultValue (cy_5 j) = vp_V (fx_dft 5) j := by decide +kernel
theorem cw_6 : ∀ w ∈ u_ws "Threewayleaf$BaseFinder" ct_6 3, w ∈ fx_Ts := by
  intro w hw
  obtain ⟨k, hk, rfl⟩ := List.mem_map.mp hw
  have hk := List.mem_range.mp hk
  match k, hk with
  | 0, _ => exact kf_38
  | 1, _ => exact kf_39
  | 2, _ => exact kf_40
  | k + 3, hk => exact absurd hk (by omega)
theorem cd_6 : (fx_dft 6).length = 3 ∧ ∀ j, j < 3 → defaultValue (cy_6 j) = vp_V (fx_dft 6) j := by decide +kernel
theorem cw_7 : ∀ w ∈ u_ws "Threewayleaf$Script" ct_7 3, w ∈ fx_Ts := by
  intro w hw
  obtain ⟨k, hk, rfl⟩ := List.mem_map.mp hw
  have hk := List.mem_range.mp hk
  match k, hk with
  | 0, _ => exact kf_41
  | 1, _ => exact kf_42
  | 2, _ => exact kf_43
  | k + 3, hk => exact absurd hk (by omega)
theorem cd_7 : (fx_dft 7).length = 3 ∧ ∀ j, j < 3 → defaultValue (cy_7 j) = vp_V (fx_dft 7) j := by decide +kernel
theorem cw_8 : ∀ w ∈ u_ws "Threewayleaf$Printer" ct_8 3, w ∈ fx_Ts := by
  intro w hw
  obtain ⟨k, hk, rfl⟩ := List.mem_map.mp hw
  have hk := List.mem_range.mp hk
  match k, hk with
  | 0, _ => exact kf_44
  | 1, _ => exact kf_45
  | 2, _ => exact kf_46
  | k + 3, hk => exact absurd hk (by omega)
theorem cd_8 : (fx_dft 8).length = 3 ∧ ∀ j, j < 3 → defaultValue (cy_8 j) = vp_V (fx_dft 8) j := by decide +kernel
theorem cw_9 : ∀ w ∈ u_ws "Threewayleaf$Matcher" ct_9 8, w ∈ fx_Ts := by
  intro w hw
  obtain ⟨k, hk, rfl⟩ := List.mem_map.mp hw
  have hk := List.mem_range.mp hk
  match k, hk with
  | 0, _ => exact kf_47
  | 1, _ => exact kf_48
  | 2, _ => exact kf_49
  | 3, _ => exact kf_50
  | 4, _ => exact kf_51
  | 5, _ => exact kf_52
  | 6, _ => exact kf_53
  | 7, _ => exact kf_54
  | k + 8, hk => exact absurd hk (by omega)
theorem cd_9 : (fx_dft 9).length = 8 ∧ ∀ j, j < 8 → defaultValue (cy_9 j) = vp_V (fx_dft 9) j := by decide +kernel
theorem cw_10 : ∀ w ∈ u_ws "Threewayleaf$Join" ct_10 6, w ∈ fx_Ts := by
  intro w hw
  obtain ⟨k, hk, rfl⟩ := List.mem_map.mp hw
  have hk := List.mem_range.mp hk
  match k, hk with
  | 0, _ => exact kf_55
  | 1, _ => exact kf_56
  | 2, _ => exact kf_57
  | 3, _ => exact kf_58
  | 4, _ => exact kf_59
  | 5, _ => exact kf_60
  | k + 6, hk => exact absurd hk (by omega)
theorem cd_10 : (fx_dft 10).length = 6 ∧ ∀ j, j < 6 → defaultValue (cy_10 j) = vp_V (fx_dft 10) j := by decide +kernel
theorem cw_11 : ∀ w ∈ u_ws "ThreewayleafModel" ct_11 40, w ∈ fx_Ts := by
  intro w hw
  obtain ⟨k, hk, rfl⟩ := List.mem_map.mp hw
  have hk := List.mem_range.mp hk
  match k, hk with
  | 0, _ => exact kf_61
  | 1, _ => exact kf_62
  | 2, _ => exact kf_63
  | 3, _ => exact kf_64
  | 4, _ => exact kf_65
  | 5, _ => exact kf_66
  | 6, _ => exact kf_67
  | 7, _ => exact kf_68
  | 8, _ => exact kf_69
  | 9, _ => exact kf_70
  | 10, _ => exact kf_71
  | 11, _ => exact kf_72
  | 12, _ => exact kf_73
  | 13, _ => exact kf_74
  | 14, _ => exact kf_75
  | 15, _ => exact kf_76
  | 16, _ => exact kf_77
  | 17, _ => exact kf_78
  | 18, _ => exact kf_79
  | 19, _ => exact kf_80
  | 20, _ => exact kf_81
  | 21, _ => exact kf_82
  | 22, _ => exact kf_83
  | 23, _ => exact kf_84
  | 24, _ => exact kf_85
  | 25, _ => exact kf_86
  | 26, _ => exact kf_87
  | 27, _ => exact kf_88
  | 28, _ => exact kf_89
  | 29, _ => exact kf_90
  | 30, _ => exact kf_91
  | 31, _ => exact kf_92
  | 32, _ => exact kf_93
  | 33, _ => exact kf_94
  | 34, _ => exact kf_95
  | 35, _ => exact kf_96
  | 36, _ => exact kf_97
  | 37, _ => exact kf_98
  | 38, _ => exact kf_99
  | 39, _ => exact kf_100
  | k + 40, hk => exact absurd hk (by omega)
theorem cd_11 : (fx_dft 11).length = 40 ∧ ∀ j, j < 40 → defaultValue (cy_11 j) = vp_V (fx_dft 11) j := by decide +kernel
theorem ob_in : Cond.code Lib.objectInit ⟨#[0xb1]⟩ 1 none ∈ fx_Ts := kf_1405
theorem dl_noref : ∀ l ∈ fx_dl, ∀ v ∈ l, v.1 ≠ 2 := by decide +kernel
theorem dft_noref (x : Nat) : ∀ v ∈ fx_dft x, ∀ a, v ≠ .ref a := by
  intro v hv a e
  obtain ⟨u, hu, rfl⟩ := List.mem_map.mp (show v ∈ (fx_D x).map (fd_v (fun _ => 0)) from hv)
  unfold fx_D at hu
  rw [List.getD_eq_getElem?_getD] at hu
  cases hl : fx_dl[x]? with
  | none => rw [hl] at hu; cases hu
  | some l =>
    rw [hl] at hu
    have h2 := dl_noref l (List.mem_of_getElem? hl) u hu
    unfold fd_v at e
    repeat' split at e
    all_goals first | exact h2 (by assumption) | cases e
def fx_S (own mname : String) (bytes : ByteArray) (e : Nat × ev_I) : Prop := match ev_kd e.2.1 with
  | 0 => ev_site fx_kl fx_Ts fx_Bs fx_dft own mname e.2
  | 1 => True
  | 2 => eh_lnk fx_kl fx_Ts fx_Bs fx_mt own e.2
  | 3 => if e.2.2.2.2.1 = 8 then (∃ index, e.2.1 = .invokestatic index ∧ Cond.methodLink own index arraycopyName ∈ fx_Ts ∧ Cond.native arraycopyName ∈ fx_Ts ∧ Cond.static arraycopyName ∈ fx_Ts ∧ Cond.initialized "java/lang/System" ∈ fx_Ts) else eh_lnk fx_kl fx_Ts fx_Bs fx_mt own e.2
  | 4 => if e.2.2.2.2.1 = 9 then (∃ index, e.2.1 = .invokespecial index ∧ Cond.methodLink own index Lib.objectInit ∈ fx_Ts ∧ Cond.instanceMethod Lib.objectInit ∈ fx_Ts ∧ Cond.code Lib.objectInit ⟨#[0xb1]⟩ 1 none ∈ fx_Ts) else eh_lnk fx_kl fx_Ts fx_Bs fx_mt own e.2
  | _ => if e.2.2.2.2.2 = 1 then (ev_thr fx_kl fx_Ts fx_Bs fx_Ss own bytes e.1 e.2 ∨ eh_thrX fx_kl fx_Ts fx_Bs fx_Ss own bytes e.1 e.2) else ev_site fx_kl fx_Ts fx_Bs fx_dft own mname e.2
theorem lk_v {own : String} {ix l x y z n : Nat} {q : ev_Q} {T : u_T} {N : Nat} (hq : fx_mt[x]? = some q) (h1 : 1 ≤ x) (hh : q.2.2.2.2.1 = []) (hc : fx_kl[y / 16]? = some (q.1.cls, T, N)) (a1 : Cond.instanceMethod q.1 ∈ fx_Ts) (a2 : Cond.selects q.1.cls q.1 q.1 ∈ fx_Ts) (a3 : Cond.initialized q.1.cls ∈ fx_Ts) (a4 : Cond.methodLink own ix q.1 ∈ fx_Ts) (hz : 1 ≤ n + 1) (hp : (parseMethodDescriptor q.1.desc).map (fun d => d.parameters.length) = some n) : eh_lnk fx_kl fx_Ts fx_Bs fx_mt own (.invokevirtual ix, l, x, y, n + 1) := by
  refine ⟨fun q' hq' => ?_, fun q' hq' => ?_⟩
  · cases hq.symm.trans hq'
    exact ⟨h1, Or.inl hh⟩
  · cases hq.symm.trans hq'
    exact ⟨⟨T, N, hc⟩, a1, a2, a3, a4, hz, hp⟩
theorem lk_i {own : String} {ix l x y z n : Nat} {q : ev_Q} (hq : fx_mt[x]? = some q) (h1 : 1 ≤ x) (hh : q.2.2.2.2.1 = []) (hn : q.1.name = "<init>") (hr : q.2.2.2.1 = none) (a1 : Cond.instanceMethod q.1 ∈ fx_Ts) (a3 : Cond.initialized q.1.cls ∈ fx_Ts) (a4 : Cond.methodLink own ix q.1 ∈ fx_Ts ∨ ∃ host, Cond.methodLinkNest own ix q.1 host ∈ fx_Bs) (hz : 1 ≤ n + 1) (hp : (parseMethodDescriptor q.1.desc).map (fun d => d.parameters.length) = some n) : eh_lnk fx_kl fx_Ts fx_Bs fx_mt own (.invokespecial ix, l, x, y, n + 1) := by
  refine ⟨fun q' hq' => ?_, fun q' hq' => ?_⟩
  · cases hq.symm.trans hq'
    exact ⟨h1, Or.inl hh⟩
  · cases hq.symm.trans hq'
    exact ⟨hn, hr, a1, a3, a4, hz, hp⟩
theorem lk_s {own : String} {ix l x y n : Nat} {q : ev_Q} (hq : fx_mt[x]? = some q) (h1 : 1 ≤ x) (hh : q.2.2.2.2.1 = [] ∨ Cond.methodLink own ix q.1 ∈ fx_Ts) (a1 : Cond.static q.1 ∈ fx_Ts) (a3 : Cond.initialized q.1.cls ∈ fx_Ts) (a4 : Cond.methodLink own ix q.1 ∈ fx_Ts ∨ ∃ host, Cond.methodLinkNest own ix q.1 host ∈ fx_Bs) (hp : (parseMethodDescriptor q.1.desc).map (fun d => d.parameters.length) = some n) : eh_lnk fx_kl fx_Ts fx_Bs fx_mt own (.invokestatic ix, l, x, y, n) := by
  refine ⟨fun q' hq' => ?_, fun q' hq' => ?_⟩
  · cases hq.symm.trans hq'
    exact ⟨h1, hh.imp id (fun h => ⟨ix, rfl, h⟩)⟩
  · cases hq.symm.trans hq'
    exact ⟨a1, a3, a4, hp⟩
section FxS
variable {own m : String} {b : ByteArray} {pc ix l x y z : Nat}
theorem s_sta (hy : y ≠ 8) (h : eh_lnk fx_kl fx_Ts fx_Bs fx_mt own (.invokestatic ix, l, x, y, z)) : fx_S own m b (pc, .invokestatic ix, l, x, y, z) := Eq.mpr (if_neg hy) h
theorem s_spe (hy : y ≠ 9) (h : eh_lnk fx_kl fx_Ts fx_Bs fx_mt own (.invokespecial ix, l, x, y, z)) : fx_S own m b (pc, .invokespecial ix, l, x, y, z) := Eq.mpr (if_neg hy) h
theorem s_cpy (hy : y = 8) (h : ∃ index, (Instr.invokestatic ix) = .invokestatic index ∧ Cond.methodLink own index arraycopyName ∈ fx_Ts ∧ Cond.native arraycopyName ∈ fx_Ts ∧ Cond.static arraycopyName ∈ fx_Ts ∧ Cond.initialized "java/lang/System" ∈ fx_Ts) : fx_S own m b (pc, .invokestatic ix, l, x, y, z) := Eq.mpr (if_pos hy) h
theorem s_obj (hy : y = 9) (h : ∃ index, (Instr.invokespecial ix) = .invokespecial index ∧ Cond.methodLink own index Lib.objectInit ∈ fx_Ts ∧ Cond.instanceMethod Lib.objectInit ∈ fx_Ts ∧ Cond.code Lib.objectInit ⟨#[0xb1]⟩ 1 none ∈ fx_Ts) : fx_S own m b (pc, .invokespecial ix, l, x, y, z) := Eq.mpr (if_pos hy) h
theorem s_new (hz : z ≠ 1) (h : ev_site fx_kl fx_Ts fx_Bs fx_dft own m (.new ix, l, x, y, z)) : fx_S own m b (pc, .new ix, l, x, y, z) := Eq.mpr (if_neg hz) h
theorem s_thr (hz : z = 1) (h : ev_thr fx_kl fx_Ts fx_Bs fx_Ss own b pc (.new ix, l, x, y, z) ∨ eh_thrX fx_kl fx_Ts fx_Bs fx_Ss own b pc (.new ix, l, x, y, z)) : fx_S own m b (pc, .new ix, l, x, y, z) := Eq.mpr (if_pos hz) h
theorem cs_in {k x : Nat} {v : Int32} (h : Cond.constant own k v ∈ fx_Ts) (e : v = Int32.ofNat x) : Cond.constant own k (Int32.ofNat x) ∈ fx_Ts := e ▸ h
theorem cl_in {k x : Nat} {v : Int64} (h : Cond.constantLong own k v ∈ fx_Ts) (e : v = Int64.ofNat x) : Cond.constantLong own k (Int64.ofNat x) ∈ fx_Ts := e ▸ h
end FxS
theorem at_in {own X : String} {ic ic' : Nat} {names : List String} (hl : Cond.methodLink own ic (Bundle.initS X) ∈ fx_Ts) (h : ∀ w ∈ vx_atS own ic' X names, w ∈ fx_Ts ∨ w ∈ fx_Bs) : ∀ w ∈ vx_atS own ic X names, w ∈ fx_Ts ∨ w ∈ fx_Bs := by
  intro w hw
  by_cases e : w = Cond.methodLink own ic (Bundle.initS X)
  · rw [e]; exact Or.inl hl
  · refine h w ?_
    unfold vx_atS at hw ⊢
    obtain ⟨h1, h2⟩ := List.mem_filter.mp hw
    refine List.mem_filter.mpr ⟨?_, h2⟩
    unfold Bundle.ownAtoms at h1 ⊢
    rcases List.mem_append.mp h1 with h1 | h1
    · exact List.mem_append_left _ h1
    · refine List.mem_append_right _ ?_
      rcases List.mem_cons.mp h1 with h1 | h1
      · exact absurd h1 e
      · exact List.mem_cons_of_mem _ h1
theorem ns_all : ∀ k ∈ [12, 13, 14, 15], ∀ k' ∈ [12, 13, 14, 15], k' ≠ k → ∀ a ∈ (fx_kl.map (·.1))[k]?, ∀ a' ∈ (fx_kl.map (·.1))[k']?, (a', a) ∈ fx_Ns := by decide +kernel
theorem at_12 : ∀ w ∈ vx_atS "Threewayleaf" 315 "java/lang/IndexOutOfBoundsException" fx_names, w ∈ fx_Ts ∨ w ∈ fx_Bs := by decide +kernel
theorem at_13 : ∀ w ∈ vx_atS "Threewayleaf" 377 "java/lang/IllegalArgumentException" fx_names, w ∈ fx_Ts ∨ w ∈ fx_Bs := by decide +kernel
theorem at_15 : ∀ w ∈ eh_at "Threewayleaf" 348 "java/util/NoSuchElementException" 13 prog_38_method_4_code fx_names, w ∈ fx_Ts ∨ w ∈ fx_Bs := by decide +kernel
theorem xd_15 : decode prog_38_method_4_code 0 = .ok (.aload_n 0, 1) ∧ decode prog_38_method_4_code 1 = .ok (.aload_n 1, 1) ∧ decode prog_38_method_4_code 2 = .ok (.invokespecial 13, 3) ∧ decode prog_38_method_4_code 5 = .ok (.return_, 1) := ⟨by decide +kernel, by decide +kernel, by decide +kernel, by decide +kernel⟩
theorem at_14 : ∀ w ∈ vx_atS "Threewayleaf" 128 "java/lang/IllegalStateException" fx_names, w ∈ fx_Ts ∨ w ∈ fx_Bs := by decide +kernel
set_option maxRecDepth 100000 in
theorem ma_139 : fx_mt[139]? = some mq_139 := rfl
theorem mp_139 : (parseMethodDescriptor mq_139.1.desc).map (fun d => d.parameters.length) = some 2 := by decide +kernel
set_option maxRecDepth 100000 in
theorem ma_32 : fx_mt[32]? = some mq_32 := rfl
theorem mp_32 : (parseMethodDescriptor mq_32.1.desc).map (fun d => d.parameters.length) = some 0 := by decide +kernel
set_option maxRecDepth 100000 in
theorem ma_188 : fx_mt[188]? = some mq_188 := rfl
theorem mp_188 : (parseMethodDescriptor mq_188.1.desc).map (fun d => d.parameters.length) = some 4 := by decide +kernel
set_option maxRecDepth 100000 in
theorem ma_33 : fx_mt[33]? = some mq_33 := rfl
theorem mp_33 : (parseMethodDescriptor mq_33.1.desc).map (fun d => d.parameters.length) = some 3 := by decide +kernel
set_option maxRecDepth 100000 in
theorem ma_96 : fx_mt[96]? = some mq_96 := rfl
theorem mp_96 : (parseMethodDescriptor mq_96.1.desc).map (fun d => d.parameters.length) = some 5 := by decide +kernel
set_option maxRecDepth 100000 in
theorem ma_109 : fx_mt[109]? = some mq_109 := rfl
theorem mp_109 : (parseMethodDescriptor mq_109.1.desc).map (fun d => d.parameters.length) = some 3 := by decide +kernel
set_option maxRecDepth 100000 in
theorem ma_182 : fx_mt[182]? = some mq_182 := rfl
theorem mp_182 : (parseMethodDescriptor mq_182.1.desc).map (fun d => d.parameters.length) = some 5 := by decide +kernel
set_option maxRecDepth 100000 in
theorem ma_158 : fx_mt[158]? = some mq_158 := rfl
theorem mp_158 : (parseMethodDescriptor mq_158.1.desc).map (fun d => d.parameters.length) = some 2 := by decide +kernel
set_option maxRecDepth 100000 in
theorem ma_187 : fx_mt[187]? = some mq_187 := rfl
theorem mp_187 : (parseMethodDescriptor mq_187.1.desc).map (fun d => d.parameters.length) = some 4 := by decide +kernel
set_option maxRecDepth 100000 in
theorem ma_222 : fx_mt[222]? = some mq_222 := rfl
theorem mp_222 : (parseMethodDescriptor mq_222.1.desc).map (fun d => d.parameters.length) = some 2 := by decide +kernel
set_option maxRecDepth 100000 in
theorem ma_231 : fx_mt[231]? = some mq_231 := rfl
theorem mp_231 : (parseMethodDescriptor mq_231.1.desc).map (fun d => d.parameters.length) = some 4 := by decide +kernel
set_option maxRecDepth 100000 in
theorem ma_163 : fx_mt[163]? = some mq_163 := rfl
theorem mp_163 : (parseMethodDescriptor mq_163.1.desc).map (fun d => d.parameters.length) = some 2 := by decide +kernel
set_option maxRecDepth 100000 in
theorem ma_230 : fx_mt[230]? = some mq_230 := rfl
theorem mp_230 : (parseMethodDescriptor mq_230.1.desc).map (fun d => d.parameters.length) = some 4 := by decide +kernel
set_option maxRecDepth 100000 in
theorem ma_195 : fx_mt[195]? = some mq_195 := rfl
theorem mp_195 : (parseMethodDescriptor mq_195.1.desc).map (fun d => d.parameters.length) = some 1 := by decide +kernel
set_option maxRecDepth 100000 in
theorem ma_244 : fx_mt[244]? = some mq_244 := rfl
theorem mp_244 : (parseMethodDescriptor mq_244.1.desc).map (fun d => d.parameters.length) = some 3 := by decide +kernel
set_option maxRecDepth 100000 in
theorem ma_61 : fx_mt[61]? = some mq_61 := rfl
theorem mp_61 : (parseMethodDescriptor mq_61.1.desc).map (fun d => d.parameters.length) = some 4 := by decide +kernel
set_option maxRecDepth 100000 in
theorem ma_111 : fx_mt[111]? = some mq_111 := rfl
theorem mp_111 : (parseMethodDescriptor mq_111.1.desc).map (fun d => d.parameters.length) = some 6 := by decide +kernel
set_option maxRecDepth 100000 in
theorem ma_123 : fx_mt[123]? = some mq_123 := rfl
theorem mp_123 : (parseMethodDescriptor mq_123.1.desc).map (fun d => d.parameters.length) = some 1 := by decide +kernel
set_option maxRecDepth 100000 in
theorem ma_236 : fx_mt[236]? = some mq_236 := rfl
theorem mp_236 : (parseMethodDescriptor mq_236.1.desc).map (fun d => d.parameters.length) = some 3 := by decide +kernel
set_option maxRecDepth 100000 in
theorem ma_72 : fx_mt[72]? = some mq_72 := rfl
theorem mp_72 : (parseMethodDescriptor mq_72.1.desc).map (fun d => d.parameters.length) = some 3 := by decide +kernel
set_option maxRecDepth 100000 in
theorem ma_126 : fx_mt[126]? = some mq_126 := rfl
theorem mp_126 : (parseMethodDescriptor mq_126.1.desc).map (fun d => d.parameters.length) = some 5 := by decide +kernel
set_option maxRecDepth 100000 in
theorem ma_87 : fx_mt[87]? = some mq_87 := rfl
theorem mp_87 : (parseMethodDescriptor mq_87.1.desc).map (fun d => d.parameters.length) = some 2 := by decide +kernel
set_option maxRecDepth 100000 in
theorem ma_122 : fx_mt[122]? = some mq_122 := rfl
theorem mp_122 : (parseMethodDescriptor mq_122.1.desc).map (fun d => d.parameters.length) = some 4 := by decide +kernel
set_option maxRecDepth 100000 in
theorem ma_84 : fx_mt[84]? = some mq_84 := rfl
theorem mp_84 : (parseMethodDescriptor mq_84.1.desc).map (fun d => d.parameters.length) = some 2 := by decide +kernel
set_option maxRecDepth 100000 in
theorem ma_118 : fx_mt[118]? = some mq_118 := rfl
theorem mp_118 : (parseMethodDescriptor mq_118.1.desc).map (fun d => d.parameters.length) = some 4 := by decide +kernel
set_option maxRecDepth 100000 in
theorem ma_85 : fx_mt[85]? = some mq_85 := rfl
theorem mp_85 : (parseMethodDescriptor mq_85.1.desc).map (fun d => d.parameters.length) = some 2 := by decide +kernel
set_option maxRecDepth 100000 in
theorem ma_121 : fx_mt[121]? = some mq_121 := rfl
theorem mp_121 : (parseMethodDescriptor mq_121.1.desc).map (fun d => d.parameters.length) = some 4 := by decide +kernel
set_option maxRecDepth 100000 in
theorem ma_71 : fx_mt[71]? = some mq_71 := rfl
theorem mp_71 : (parseMethodDescriptor mq_71.1.desc).map (fun d => d.parameters.length) = some 3 := by decide +kernel
set_option maxRecDepth 100000 in
theorem ma_117 : fx_mt[117]? = some mq_117 := rfl
theorem mp_117 : (parseMethodDescriptor mq_117.1.desc).map (fun d => d.parameters.length) = some 5 := by decide +kernel
set_option maxRecDepth 100000 in
theorem ma_88 : fx_mt[88]? = some mq_88 := rfl
theorem mp_88 : (parseMethodDescriptor mq_88.1.desc).map (fun d => d.parameters.length) = some 2 := by decide +kernel
set_option maxRecDepth 100000 in
theorem ma_119 : fx_mt[119]? = some mq_119 := rfl
theorem mp_119 : (parseMethodDescriptor mq_119.1.desc).map (fun d => d.parameters.length) = some 4 := by decide +kernel
set_option maxRecDepth 100000 in
theorem ma_89 : fx_mt[89]? = some mq_89 := rfl
theorem mp_89 : (parseMethodDescriptor mq_89.1.desc).map (fun d => d.parameters.length) = some 2 := by decide +kernel
set_option maxRecDepth 100000 in
theorem ma_120 : fx_mt[120]? = some mq_120 := rfl
theorem mp_120 : (parseMethodDescriptor mq_120.1.desc).map (fun d => d.parameters.length) = some 4 := by decide +kernel
set_option maxRecDepth 100000 in
theorem ma_179 : fx_mt[179]? = some mq_179 := rfl
theorem mp_179 : (parseMethodDescriptor mq_179.1.desc).map (fun d => d.parameters.length) = some 1 := by decide +kernel
set_option maxRecDepth 100000 in
theorem ma_253 : fx_mt[253]? = some mq_253 := rfl
theorem mp_253 : (parseMethodDescriptor mq_253.1.desc).map (fun d => d.parameters.length) = some 3 := by decide +kernel
set_option maxRecDepth 100000 in
theorem ma_146 : fx_mt[146]? = some mq_146 := rfl
theorem mp_146 : (parseMethodDescriptor mq_146.1.desc).map (fun d => d.parameters.length) = some 2 := by decide +kernel
set_option maxRecDepth 100000 in
theorem ma_202 : fx_mt[202]? = some mq_202 := rfl
theorem mp_202 : (parseMethodDescriptor mq_202.1.desc).map (fun d => d.parameters.length) = some 4 := by decide +kernel
set_option maxRecDepth 100000 in
theorem ma_199 : fx_mt[199]? = some mq_199 := rfl
theorem mp_199 : (parseMethodDescriptor mq_199.1.desc).map (fun d => d.parameters.length) = some 2 := by decide +kernel
set_option maxRecDepth 100000 in
theorem ma_227 : fx_mt[227]? = some mq_227 := rfl
theorem mp_227 : (parseMethodDescriptor mq_227.1.desc).map (fun d => d.parameters.length) = some 4 := by decide +kernel
set_option maxRecDepth 100000 in
theorem ma_156 : fx_mt[156]? = some mq_156 := rfl
theorem mp_156 : (parseMethodDescriptor mq_156.1.desc).map (fun d => d.parameters.length) = some 2 := by decide +kernel
set_option maxRecDepth 100000 in
theorem ma_216 : fx_mt[216]? = some mq_216 := rfl
theorem mp_216 : (parseMethodDescriptor mq_216.1.desc).map (fun d => d.parameters.length) = some 4 := by decide +kernel
set_option maxRecDepth 100000 in
theorem ma_193 : fx_mt[193]? = some mq_193 := rfl
theorem mp_193 : (parseMethodDescriptor mq_193.1.desc).map (fun d => d.parameters.length) = some 1 := by decide +kernel
set_option maxRecDepth 100000 in
theorem ma_246 : fx_mt[246]? = some mq_246 := rfl
theorem mp_246 : (parseMethodDescriptor mq_246.1.desc).map (fun d => d.parameters.length) = some 3 := by decide +kernel
set_option maxRecDepth 100000 in
theorem ma_197 : fx_mt[197]? = some mq_197 := rfl
theorem mp_197 : (parseMethodDescriptor mq_197.1.desc).map (fun d => d.parameters.length) = some 1 := by decide +kernel
set_option maxRecDepth 100000 in
theorem ma_252 : fx_mt[252]? = some mq_252 := rfl
theorem mp_252 : (parseMethodDescriptor mq_252.1.desc).map (fun d => d.parameters.length) = some 3 := by decide +kernel
set_option maxRecDepth 100000 in
theorem ma_285 : fx_mt[285]? = some mq_285 := rfl
theorem mp_285 : (parseMethodDescriptor mq_285.1.desc).map (fun d => d.parameters.length) = some 0 := by decide +kernel
set_option maxRecDepth 100000 in
theorem ma_283 : fx_mt[283]? = some mq_283 := rfl
theorem mp_283 : (parseMethodDescriptor mq_283.1.desc).map (fun d => d.parameters.length) = some 0 := by decide +kernel
set_option maxRecDepth 100000 in
theorem ma_196 : fx_mt[196]? = some mq_196 := rfl
theorem mp_196 : (parseMethodDescriptor mq_196.1.desc).map (fun d => d.parameters.length) = some 2 := by decide +kernel
set_option maxRecDepth 100000 in
theorem ma_226 : fx_mt[226]? = some mq_226 := rfl
theorem mp_226 : (parseMethodDescriptor mq_226.1.desc).map (fun d => d.parameters.length) = some 4 := by decide +kernel
set_option maxRecDepth 100000 in
theorem ma_206 : fx_mt[206]? = some mq_206 := rfl
theorem mp_206 : (parseMethodDescriptor mq_206.1.desc).map (fun d => d.parameters.length) = some 2 := by decide +kernel
set_option maxRecDepth 100000 in
theorem ma_238 : fx_mt[238]? = some mq_238 := rfl
theorem mp_238 : (parseMethodDescriptor mq_238.1.desc).map (fun d => d.parameters.length) = some 4 := by decide +kernel
set_option maxRecDepth 100000 in
theorem ma_205 : fx_mt[205]? = some mq_205 := rfl
theorem mp_205 : (parseMethodDescriptor mq_205.1.desc).map (fun d => d.parameters.length) = some 2 := by decide +kernel
set_option maxRecDepth 100000 in
theorem ma_237 : fx_mt[237]? = some mq_237 := rfl
theorem mp_237 : (parseMethodDescriptor mq_237.1.desc).map (fun d => d.parameters.length) = some 4 := by decide +kernel
set_option maxRecDepth 100000 in
theorem ma_166 : fx_mt[166]? = some mq_166 := rfl
theorem mp_166 : (parseMethodDescriptor mq_166.1.desc).map (fun d => d.parameters.length) = some 2 := by decide +kernel
set_option maxRecDepth 100000 in
theorem ma_228 : fx_mt[228]? = some mq_228 := rfl
theorem mp_228 : (parseMethodDescriptor mq_228.1.desc).map (fun d => d.parameters.length) = some 4 := by decide +kernel
set_option maxRecDepth 100000 in
theorem ma_251 : fx_mt[251]? = some mq_251 := rfl
theorem mp_251 : (parseMethodDescriptor mq_251.1.desc).map (fun d => d.parameters.length) = some 3 := by decide +kernel
set_option maxRecDepth 100000 in
theorem ma_174 : fx_mt[174]? = some mq_174 := rfl
theorem mp_174 : (parseMethodDescriptor mq_174.1.desc).map (fun d => d.parameters.length) = some 1 := by decide +kernel
set_option maxRecDepth 100000 in
theorem ma_177 : fx_mt[177]? = some mq_177 := rfl
theorem mp_177 : (parseMethodDescriptor mq_177.1.desc).map (fun d => d.parameters.length) = some 1 := by decide +kernel
set_option maxRecDepth 100000 in
theorem ma_254 : fx_mt[254]? = some mq_254 := rfl
theorem mp_254 : (parseMethodDescriptor mq_254.1.desc).map (fun d => d.parameters.length) = some 3 := by decide +kernel
set_option maxRecDepth 100000 in
theorem ma_258 : fx_mt[258]? = some mq_258 := rfl
theorem mp_258 : (parseMethodDescriptor mq_258.1.desc).map (fun d => d.parameters.length) = some 3 := by decide +kernel
set_option maxRecDepth 100000 in
theorem ma_191 : fx_mt[191]? = some mq_191 := rfl
theorem mp_191 : (parseMethodDescriptor mq_191.1.desc).map (fun d => d.parameters.length) = some 1 := by decide +kernel
set_option maxRecDepth 100000 in
theorem ma_75 : fx_mt[75]? = some mq_75 := rfl
theorem mp_75 : (parseMethodDescriptor mq_75.1.desc).map (fun d => d.parameters.length) = some 4 := by decide +kernel
set_option maxRecDepth 100000 in
theorem ma_145 : fx_mt[145]? = some mq_145 := rfl
theorem mp_145 : (parseMethodDescriptor mq_145.1.desc).map (fun d => d.parameters.length) = some 5 := by decide +kernel
set_option maxRecDepth 100000 in
theorem ma_79 : fx_mt[79]? = some mq_79 := rfl
theorem mp_79 : (parseMethodDescriptor mq_79.1.desc).map (fun d => d.parameters.length) = some 3 := by decide +kernel
set_option maxRecDepth 100000 in
theorem ma_153 : fx_mt[153]? = some mq_153 := rfl
theorem mp_153 : (parseMethodDescriptor mq_153.1.desc).map (fun d => d.parameters.length) = some 5 := by decide +kernel
set_option maxRecDepth 100000 in
theorem ma_78 : fx_mt[78]? = some mq_78 := rfl
theorem mp_78 : (parseMethodDescriptor mq_78.1.desc).map (fun d => d.parameters.length) = some 4 := by decide +kernel
set_option maxRecDepth 100000 in
theorem ma_149 : fx_mt[149]? = some mq_149 := rfl
theorem mp_149 : (parseMethodDescriptor mq_149.1.desc).map (fun d => d.parameters.length) = some 6 := by decide +kernel
set_option maxRecDepth 100000 in
theorem ma_54 : fx_mt[54]? = some mq_54 := rfl
theorem mp_54 : (parseMethodDescriptor mq_54.1.desc).map (fun d => d.parameters.length) = some 3 := by decide +kernel
set_option maxRecDepth 100000 in
theorem ma_125 : fx_mt[125]? = some mq_125 := rfl
theorem mp_125 : (parseMethodDescriptor mq_125.1.desc).map (fun d => d.parameters.length) = some 5 := by decide +kernel
set_option maxRecDepth 100000 in
theorem ma_81 : fx_mt[81]? = some mq_81 := rfl
theorem mp_81 : (parseMethodDescriptor mq_81.1.desc).map (fun d => d.parameters.length) = some 3 := by decide +kernel
set_option maxRecDepth 100000 in
theorem ma_150 : fx_mt[150]? = some mq_150 := rfl
theorem mp_150 : (parseMethodDescriptor mq_150.1.desc).map (fun d => d.parameters.length) = some 5 := by decide +kernel
set_option maxRecDepth 100000 in
theorem ma_63 : fx_mt[63]? = some mq_63 := rfl
theorem mp_63 : (parseMethodDescriptor mq_63.1.desc).map (fun d => d.parameters.length) = some 4 := by decide +kernel
set_option maxRecDepth 100000 in
theorem ma_124 : fx_mt[124]? = some mq_124 := rfl
theorem mp_124 : (parseMethodDescriptor mq_124.1.desc).map (fun d => d.parameters.length) = some 5 := by decide +kernel
set_option maxRecDepth 100000 in
theorem ma_86 : fx_mt[86]? = some mq_86 := rfl
theorem mp_86 : (parseMethodDescriptor mq_86.1.desc).map (fun d => d.parameters.length) = some 2 := by decide +kernel
set_option maxRecDepth 100000 in
theorem ma_154 : fx_mt[154]? = some mq_154 := rfl
theorem mp_154 : (parseMethodDescriptor mq_154.1.desc).map (fun d => d.parameters.length) = some 4 := by decide +kernel
set_option maxRecDepth 100000 in
theorem ma_73 : fx_mt[73]? = some mq_73 := rfl
theorem mp_73 : (parseMethodDescriptor mq_73.1.desc).map (fun d => d.parameters.length) = some 5 := by decide +kernel
set_option maxRecDepth 100000 in
theorem ma_147 : fx_mt[147]? = some mq_147 := rfl
theorem mp_147 : (parseMethodDescriptor mq_147.1.desc).map (fun d => d.parameters.length) = some 7 := by decide +kernel
set_option maxRecDepth 100000 in
theorem ma_24 : fx_mt[24]? = some mq_24 := rfl
theorem mp_24 : (parseMethodDescriptor mq_24.1.desc).map (fun d => d.parameters.length) = some 0 := by decide +kernel
set_option maxRecDepth 100000 in
theorem ma_21 : fx_mt[21]? = some mq_21 := rfl
theorem mp_21 : (parseMethodDescriptor mq_21.1.desc).map (fun d => d.parameters.length) = some 0 := by decide +kernel
set_option maxRecDepth 100000 in
theorem ma_6 : fx_mt[6]? = some mq_6 := rfl
theorem mp_6 : (parseMethodDescriptor mq_6.1.desc).map (fun d => d.parameters.length) = some 2 := by decide +kernel
set_option maxRecDepth 100000 in
theorem ma_11 : fx_mt[11]? = some mq_11 := rfl
theorem mp_11 : (parseMethodDescriptor mq_11.1.desc).map (fun d => d.parameters.length) = some 3 := by decide +kernel
set_option maxRecDepth 100000 in
theorem ma_19 : fx_mt[19]? = some mq_19 := rfl
theorem mp_19 : (parseMethodDescriptor mq_19.1.desc).map (fun d => d.parameters.length) = some 2 := by decide +kernel
set_option maxRecDepth 100000 in
theorem ma_1 : fx_mt[1]? = some mq_1 := rfl
theorem mp_1 : (parseMethodDescriptor mq_1.1.desc).map (fun d => d.parameters.length) = some 2 := by decide +kernel
set_option maxRecDepth 100000 in
theorem ma_30 : fx_mt[30]? = some mq_30 := rfl
theorem mp_30 : (parseMethodDescriptor mq_30.1.desc).map (fun d => d.parameters.length) = some 2 := by decide +kernel
set_option maxRecDepth 100000 in
theorem ma_4 : fx_mt[4]? = some mq_4 := rfl
theorem mp_4 : (parseMethodDescriptor mq_4.1.desc).map (fun d => d.parameters.length) = some 1 := by decide +kernel
set_option maxRecDepth 100000 in
theorem ma_9 : fx_mt[9]? = some mq_9 := rfl
theorem mp_9 : (parseMethodDescriptor mq_9.1.desc).map (fun d => d.parameters.length) = some 1 := by decide +kernel
set_option maxRecDepth 100000 in
theorem ma_58 : fx_mt[58]? = some mq_58 := rfl
theorem mp_58 : (parseMethodDescriptor mq_58.1.desc).map (fun d => d.parameters.length) = some 2 := by decide +kernel
set_option maxRecDepth 100000 in
theorem ma_43 : fx_mt[43]? = some mq_43 := rfl
theorem mp_43 : (parseMethodDescriptor mq_43.1.desc).map (fun d => d.parameters.length) = some 2 := by decide +kernel
set_option maxRecDepth 100000 in
theorem ma_92 : fx_mt[92]? = some mq_92 := rfl
theorem mp_92 : (parseMethodDescriptor mq_92.1.desc).map (fun d => d.parameters.length) = some 1 := by decide +kernel
set_option maxRecDepth 100000 in
theorem ma_20 : fx_mt[20]? = some mq_20 := rfl
theorem mp_20 : (parseMethodDescriptor mq_20.1.desc).map (fun d => d.parameters.length) = some 1 := by decide +kernel
set_option maxRecDepth 100000 in
theorem ma_7 : fx_mt[7]? = some mq_7 := rfl
theorem mp_7 : (parseMethodDescriptor mq_7.1.desc).map (fun d => d.parameters.length) = some 4 := by decide +kernel
set_option maxRecDepth 100000 in
theorem ma_38 : fx_mt[38]? = some mq_38 := rfl
theorem mp_38 : (parseMethodDescriptor mq_38.1.desc).map (fun d => d.parameters.length) = some 4 := by decide +kernel
set_option maxRecDepth 100000 in
theorem ma_26 : fx_mt[26]? = some mq_26 := rfl
theorem mp_26 : (parseMethodDescriptor mq_26.1.desc).map (fun d => d.parameters.length) = some 2 := by decide +kernel
set_option maxRecDepth 100000 in
theorem ma_12 : fx_mt[12]? = some mq_12 := rfl
theorem mp_12 : (parseMethodDescriptor mq_12.1.desc).map (fun d => d.parameters.length) = some 3 := by decide +kernel
set_option maxRecDepth 100000 in
theorem ma_74 : fx_mt[74]? = some mq_74 := rfl
theorem mp_74 : (parseMethodDescriptor mq_74.1.desc).map (fun d => d.parameters.length) = some 1 := by decide +kernel
set_option maxRecDepth 100000 in
theorem ma_31 : fx_mt[31]? = some mq_31 := rfl
theorem mp_31 : (parseMethodDescriptor mq_31.1.desc).map (fun d => d.parameters.length) = some 2 := by decide +kernel
set_option maxRecDepth 100000 in
theorem ma_15 : fx_mt[15]? = some mq_15 := rfl
theorem mp_15 : (parseMethodDescriptor mq_15.1.desc).map (fun d => d.parameters.length) = some 1 := by decide +kernel
set_option maxRecDepth 100000 in
theorem ma_27 : fx_mt[27]? = some mq_27 := rfl
theorem mp_27 : (parseMethodDescriptor mq_27.1.desc).map (fun d => d.parameters.length) = some 1 := by decide +kernel
set_option maxRecDepth 100000 in
theorem ma_40 : fx_mt[40]? = some mq_40 := rfl
theorem mp_40 : (parseMethodDescriptor mq_40.1.desc).map (fun d => d.parameters.length) = some 1 := by decide +kernel
set_option maxRecDepth 100000 in
theorem ma_65 : fx_mt[65]? = some mq_65 := rfl
theorem mp_65 : (parseMethodDescriptor mq_65.1.desc).map (fun d => d.parameters.length) = some 1 := by decide +kernel
set_option maxRecDepth 100000 in
theorem ma_29 : fx_mt[29]? = some mq_29 := rfl
theorem mp_29 : (parseMethodDescriptor mq_29.1.desc).map (fun d => d.parameters.length) = some 1 := by decide +kernel
set_option maxRecDepth 100000 in
theorem ma_3 : fx_mt[3]? = some mq_3 := rfl
theorem mp_3 : (parseMethodDescriptor mq_3.1.desc).map (fun d => d.parameters.length) = some 2 := by decide +kernel
set_option maxRecDepth 100000 in
theorem ma_2 : fx_mt[2]? = some mq_2 := rfl
theorem mp_2 : (parseMethodDescriptor mq_2.1.desc).map (fun d => d.parameters.length) = some 1 := by decide +kernel
set_option maxRecDepth 100000 in
theorem ma_18 : fx_mt[18]? = some mq_18 := rfl
theorem mp_18 : (parseMethodDescriptor mq_18.1.desc).map (fun d => d.parameters.length) = some 3 := by decide +kernel
set_option maxRecDepth 100000 in
theorem ma_22 : fx_mt[22]? = some mq_22 := rfl
theorem mp_22 : (parseMethodDescriptor mq_22.1.desc).map (fun d => d.parameters.length) = some 3 := by decide +kernel
set_option maxRecDepth 100000 in
theorem ma_48 : fx_mt[48]? = some mq_48 := rfl
theorem mp_48 : (parseMethodDescriptor mq_48.1.desc).map (fun d => d.parameters.length) = some 1 := by decide +kernel
set_option maxRecDepth 100000 in
theorem ma_60 : fx_mt[60]? = some mq_60 := rfl
theorem mp_60 : (parseMethodDescriptor mq_60.1.desc).map (fun d => d.parameters.length) = some 3 := by decide +kernel
set_option maxRecDepth 100000 in
theorem ma_14 : fx_mt[14]? = some mq_14 := rfl
theorem mp_14 : (parseMethodDescriptor mq_14.1.desc).map (fun d => d.parameters.length) = some 0 := by decide +kernel
set_option maxRecDepth 100000 in
theorem ma_83 : fx_mt[83]? = some mq_83 := rfl
theorem mp_83 : (parseMethodDescriptor mq_83.1.desc).map (fun d => d.parameters.length) = some 3 := by decide +kernel
set_option maxRecDepth 100000 in
theorem ma_64 : fx_mt[64]? = some mq_64 := rfl
theorem mp_64 : (parseMethodDescriptor mq_64.1.desc).map (fun d => d.parameters.length) = some 3 := by decide +kernel
set_option maxRecDepth 100000 in
theorem ma_97 : fx_mt[97]? = some mq_97 := rfl
theorem mp_97 : (parseMethodDescriptor mq_97.1.desc).map (fun d => d.parameters.length) = some 2 := by decide +kernel
set_option maxRecDepth 100000 in
theorem ma_102 : fx_mt[102]? = some mq_102 := rfl
theorem mp_102 : (parseMethodDescriptor mq_102.1.desc).map (fun d => d.parameters.length) = some 0 := by decide +kernel
set_option maxRecDepth 100000 in
theorem ma_94 : fx_mt[94]? = some mq_94 := rfl
theorem mp_94 : (parseMethodDescriptor mq_94.1.desc).map (fun d => d.parameters.length) = some 2 := by decide +kernel
set_option maxRecDepth 100000 in
theorem ma_70 : fx_mt[70]? = some mq_70 := rfl
theorem mp_70 : (parseMethodDescriptor mq_70.1.desc).map (fun d => d.parameters.length) = some 0 := by decide +kernel
set_option maxRecDepth 100000 in
theorem ma_106 : fx_mt[106]? = some mq_106 := rfl
theorem mp_106 : (parseMethodDescriptor mq_106.1.desc).map (fun d => d.parameters.length) = some 1 := by decide +kernel
set_option maxRecDepth 100000 in
theorem ma_55 : fx_mt[55]? = some mq_55 := rfl
theorem mp_55 : (parseMethodDescriptor mq_55.1.desc).map (fun d => d.parameters.length) = some 0 := by decide +kernel
set_option maxRecDepth 100000 in
theorem ma_39 : fx_mt[39]? = some mq_39 := rfl
theorem mp_39 : (parseMethodDescriptor mq_39.1.desc).map (fun d => d.parameters.length) = some 2 := by decide +kernel
set_option maxRecDepth 100000 in
theorem ma_37 : fx_mt[37]? = some mq_37 := rfl
theorem mp_37 : (parseMethodDescriptor mq_37.1.desc).map (fun d => d.parameters.length) = some 0 := by decide +kernel
set_option maxRecDepth 100000 in
theorem ma_49 : fx_mt[49]? = some mq_49 := rfl
theorem mp_49 : (parseMethodDescriptor mq_49.1.desc).map (fun d => d.parameters.length) = some 0 := by decide +kernel
set_option maxRecDepth 100000 in
theorem ma_16 : fx_mt[16]? = some mq_16 := rfl
theorem mp_16 : (parseMethodDescriptor mq_16.1.desc).map (fun d => d.parameters.length) = some 1 := by decide +kernel
set_option maxRecDepth 100000 in
theorem ma_152 : fx_mt[152]? = some mq_152 := rfl
theorem mp_152 : (parseMethodDescriptor mq_152.1.desc).map (fun d => d.parameters.length) = some 1 := by decide +kernel
set_option maxRecDepth 100000 in
theorem ma_23 : fx_mt[23]? = some mq_23 := rfl
theorem mp_23 : (parseMethodDescriptor mq_23.1.desc).map (fun d => d.parameters.length) = some 1 := by decide +kernel
set_option maxRecDepth 100000 in
theorem ma_42 : fx_mt[42]? = some mq_42 := rfl
theorem mp_42 : (parseMethodDescriptor mq_42.1.desc).map (fun d => d.parameters.length) = some 1 := by decide +kernel
set_option maxRecDepth 100000 in
theorem ma_67 : fx_mt[67]? = some mq_67 := rfl
theorem mp_67 : (parseMethodDescriptor mq_67.1.desc).map (fun d => d.parameters.length) = some 2 := by decide +kernel
set_option maxRecDepth 100000 in
theorem ma_34 : fx_mt[34]? = some mq_34 := rfl
theorem mp_34 : (parseMethodDescriptor mq_34.1.desc).map (fun d => d.parameters.length) = some 3 := by decide +kernel
set_option maxRecDepth 100000 in
theorem ma_76 : fx_mt[76]? = some mq_76 := rfl
theorem mp_76 : (parseMethodDescriptor mq_76.1.desc).map (fun d => d.parameters.length) = some 2 := by decide +kernel
set_option maxRecDepth 100000 in
theorem ma_93 : fx_mt[93]? = some mq_93 := rfl
theorem mp_93 : (parseMethodDescriptor mq_93.1.desc).map (fun d => d.parameters.length) = some 2 := by decide +kernel
set_option maxRecDepth 100000 in
theorem ma_68 : fx_mt[68]? = some mq_68 := rfl
theorem mp_68 : (parseMethodDescriptor mq_68.1.desc).map (fun d => d.parameters.length) = some 2 := by decide +kernel
set_option maxRecDepth 100000 in
theorem ma_162 : fx_mt[162]? = some mq_162 := rfl
theorem mp_162 : (parseMethodDescriptor mq_162.1.desc).map (fun d => d.parameters.length) = some 2 := by decide +kernel
set_option maxRecDepth 100000 in
theorem ma_136 : fx_mt[136]? = some mq_136 := rfl
theorem mp_136 : (parseMethodDescriptor mq_136.1.desc).map (fun d => d.parameters.length) = some 3 := by decide +kernel
set_option maxRecDepth 100000 in
theorem ma_138 : fx_mt[138]? = some mq_138 := rfl
theorem mp_138 : (parseMethodDescriptor mq_138.1.desc).map (fun d => d.parameters.length) = some 1 := by decide +kernel
set_option maxRecDepth 100000 in
theorem ma_77 : fx_mt[77]? = some mq_77 := rfl
theorem mp_77 : (parseMethodDescriptor mq_77.1.desc).map (fun d => d.parameters.length) = some 1 := by decide +kernel
set_option maxRecDepth 100000 in
theorem ma_91 : fx_mt[91]? = some mq_91 := rfl
theorem mp_91 : (parseMethodDescriptor mq_91.1.desc).map (fun d => d.parameters.length) = some 1 := by decide +kernel
set_option maxRecDepth 100000 in
theorem ma_35 : fx_mt[35]? = some mq_35 := rfl
theorem mp_35 : (parseMethodDescriptor mq_35.1.desc).map (fun d => d.parameters.length) = some 4 := by decide +kernel
set_option maxRecDepth 100000 in
theorem ma_36 : fx_mt[36]? = some mq_36 := rfl
theorem mp_36 : (parseMethodDescriptor mq_36.1.desc).map (fun d => d.parameters.length) = some 3 := by decide +kernel
set_option maxRecDepth 100000 in
theorem ma_137 : fx_mt[137]? = some mq_137 := rfl
theorem mp_137 : (parseMethodDescriptor mq_137.1.desc).map (fun d => d.parameters.length) = some 2 := by decide +kernel
set_option maxRecDepth 100000 in
theorem ma_157 : fx_mt[157]? = some mq_157 := rfl
theorem mp_157 : (parseMethodDescriptor mq_157.1.desc).map (fun d => d.parameters.length) = some 2 := by decide +kernel
set_option maxRecDepth 100000 in
theorem ma_17 : fx_mt[17]? = some mq_17 := rfl
theorem mp_17 : (parseMethodDescriptor mq_17.1.desc).map (fun d => d.parameters.length) = some 2 := by decide +kernel
set_option maxRecDepth 100000 in
theorem ma_90 : fx_mt[90]? = some mq_90 := rfl
theorem mp_90 : (parseMethodDescriptor mq_90.1.desc).map (fun d => d.parameters.length) = some 1 := by decide +kernel
set_option maxRecDepth 100000 in
theorem ma_105 : fx_mt[105]? = some mq_105 := rfl
theorem mp_105 : (parseMethodDescriptor mq_105.1.desc).map (fun d => d.parameters.length) = some 0 := by decide +kernel
set_option maxRecDepth 100000 in
theorem ma_13 : fx_mt[13]? = some mq_13 := rfl
theorem mp_13 : (parseMethodDescriptor mq_13.1.desc).map (fun d => d.parameters.length) = some 2 := by decide +kernel
set_option maxRecDepth 100000 in
theorem ma_204 : fx_mt[204]? = some mq_204 := rfl
theorem mp_204 : (parseMethodDescriptor mq_204.1.desc).map (fun d => d.parameters.length) = some 1 := by decide +kernel
set_option maxRecDepth 100000 in
theorem ma_135 : fx_mt[135]? = some mq_135 := rfl
theorem mp_135 : (parseMethodDescriptor mq_135.1.desc).map (fun d => d.parameters.length) = some 4 := by decide +kernel
set_option maxRecDepth 100000 in
theorem ma_127 : fx_mt[127]? = some mq_127 := rfl
theorem mp_127 : (parseMethodDescriptor mq_127.1.desc).map (fun d => d.parameters.length) = some 3 := by decide +kernel
set_option maxRecDepth 100000 in
theorem ma_164 : fx_mt[164]? = some mq_164 := rfl
theorem mp_164 : (parseMethodDescriptor mq_164.1.desc).map (fun d => d.parameters.length) = some 3 := by decide +kernel
set_option maxRecDepth 100000 in
theorem ma_134 : fx_mt[134]? = some mq_134 := rfl
theorem mp_134 : (parseMethodDescriptor mq_134.1.desc).map (fun d => d.parameters.length) = some 3 := by decide +kernel
set_option maxRecDepth 100000 in
theorem ma_107 : fx_mt[107]? = some mq_107 := rfl
theorem mp_107 : (parseMethodDescriptor mq_107.1.desc).map (fun d => d.parameters.length) = some 2 := by decide +kernel
set_option maxRecDepth 100000 in
theorem ma_101 : fx_mt[101]? = some mq_101 := rfl
theorem mp_101 : (parseMethodDescriptor mq_101.1.desc).map (fun d => d.parameters.length) = some 0 := by decide +kernel
set_option maxRecDepth 100000 in
theorem ma_233 : fx_mt[233]? = some mq_233 := rfl
theorem mp_233 : (parseMethodDescriptor mq_233.1.desc).map (fun d => d.parameters.length) = some 1 := by decide +kernel
set_option maxRecDepth 100000 in
theorem ma_219 : fx_mt[219]? = some mq_219 := rfl
theorem mp_219 : (parseMethodDescriptor mq_219.1.desc).map (fun d => d.parameters.length) = some 3 := by decide +kernel
set_option maxRecDepth 100000 in
theorem ma_264 : fx_mt[264]? = some mq_264 := rfl
theorem mp_264 : (parseMethodDescriptor mq_264.1.desc).map (fun d => d.parameters.length) = some 1 := by decide +kernel
set_option maxRecDepth 100000 in
theorem ma_277 : fx_mt[277]? = some mq_277 := rfl
theorem mp_277 : (parseMethodDescriptor mq_277.1.desc).map (fun d => d.parameters.length) = some 1 := by decide +kernel
set_option maxRecDepth 100000 in
theorem ma_110 : fx_mt[110]? = some mq_110 := rfl
theorem mp_110 : (parseMethodDescriptor mq_110.1.desc).map (fun d => d.parameters.length) = some 1 := by decide +kernel
set_option maxRecDepth 100000 in
theorem ma_116 : fx_mt[116]? = some mq_116 := rfl
theorem mp_116 : (parseMethodDescriptor mq_116.1.desc).map (fun d => d.parameters.length) = some 0 := by decide +kernel
set_option maxRecDepth 100000 in
theorem ma_160 : fx_mt[160]? = some mq_160 := rfl
theorem mp_160 : (parseMethodDescriptor mq_160.1.desc).map (fun d => d.parameters.length) = some 2 := by decide +kernel
set_option maxRecDepth 100000 in
theorem ma_82 : fx_mt[82]? = some mq_82 := rfl
theorem mp_82 : (parseMethodDescriptor mq_82.1.desc).map (fun d => d.parameters.length) = some 3 := by decide +kernel
set_option maxRecDepth 100000 in
theorem ma_69 : fx_mt[69]? = some mq_69 := rfl
theorem mp_69 : (parseMethodDescriptor mq_69.1.desc).map (fun d => d.parameters.length) = some 1 := by decide +kernel
set_option maxRecDepth 100000 in
theorem ma_169 : fx_mt[169]? = some mq_169 := rfl
theorem mp_169 : (parseMethodDescriptor mq_169.1.desc).map (fun d => d.parameters.length) = some 3 := by decide +kernel
set_option maxRecDepth 100000 in
theorem ma_108 : fx_mt[108]? = some mq_108 := rfl
theorem mp_108 : (parseMethodDescriptor mq_108.1.desc).map (fun d => d.parameters.length) = some 1 := by decide +kernel
set_option maxRecDepth 100000 in
theorem ma_130 : fx_mt[130]? = some mq_130 := rfl
theorem mp_130 : (parseMethodDescriptor mq_130.1.desc).map (fun d => d.parameters.length) = some 0 := by decide +kernel
set_option maxRecDepth 100000 in
theorem ma_100 : fx_mt[100]? = some mq_100 := rfl
theorem mp_100 : (parseMethodDescriptor mq_100.1.desc).map (fun d => d.parameters.length) = some 0 := by decide +kernel
set_option maxRecDepth 100000 in
theorem ma_141 : fx_mt[141]? = some mq_141 := rfl
theorem mp_141 : (parseMethodDescriptor mq_141.1.desc).map (fun d => d.parameters.length) = some 0 := by decide +kernel
set_option maxRecDepth 100000 in
theorem ma_99 : fx_mt[99]? = some mq_99 := rfl
theorem mp_99 : (parseMethodDescriptor mq_99.1.desc).map (fun d => d.parameters.length) = some 1 := by decide +kernel
set_option maxRecDepth 100000 in
theorem ma_112 : fx_mt[112]? = some mq_112 := rfl
theorem mp_112 : (parseMethodDescriptor mq_112.1.desc).map (fun d => d.parameters.length) = some 1 := by decide +kernel
set_option maxRecDepth 100000 in
theorem ma_103 : fx_mt[103]? = some mq_103 := rfl
theorem mp_103 : (parseMethodDescriptor mq_103.1.desc).map (fun d => d.parameters.length) = some 1 := by decide +kernel
set_option maxRecDepth 100000 in
theorem ma_52 : fx_mt[52]? = some mq_52 := rfl
theorem mp_52 : (parseMethodDescriptor mq_52.1.desc).map (fun d => d.parameters.length) = some 2 := by decide +kernel
set_option maxRecDepth 100000 in
theorem ma_133 : fx_mt[133]? = some mq_133 := rfl
theorem mp_133 : (parseMethodDescriptor mq_133.1.desc).map (fun d => d.parameters.length) = some 2 := by decide +kernel
set_option maxRecDepth 100000 in
theorem ma_132 : fx_mt[132]? = some mq_132 := rfl
theorem mp_132 : (parseMethodDescriptor mq_132.1.desc).map (fun d => d.parameters.length) = some 1 := by decide +kernel
set_option maxRecDepth 100000 in
theorem ma_47 : fx_mt[47]? = some mq_47 := rfl
theorem mp_47 : (parseMethodDescriptor mq_47.1.desc).map (fun d => d.parameters.length) = some 2 := by decide +kernel
set_option maxRecDepth 100000 in
theorem ma_95 : fx_mt[95]? = some mq_95 := rfl
theorem mp_95 : (parseMethodDescriptor mq_95.1.desc).map (fun d => d.parameters.length) = some 2 := by decide +kernel
set_option maxRecDepth 100000 in
theorem ma_261 : fx_mt[261]? = some mq_261 := rfl
theorem mp_261 : (parseMethodDescriptor mq_261.1.desc).map (fun d => d.parameters.length) = some 4 := by decide +kernel
set_option maxRecDepth 100000 in
theorem ma_98 : fx_mt[98]? = some mq_98 := rfl
theorem mp_98 : (parseMethodDescriptor mq_98.1.desc).map (fun d => d.parameters.length) = some 1 := by decide +kernel
set_option maxRecDepth 100000 in
theorem ma_131 : fx_mt[131]? = some mq_131 := rfl
theorem mp_131 : (parseMethodDescriptor mq_131.1.desc).map (fun d => d.parameters.length) = some 2 := by decide +kernel
set_option maxRecDepth 100000 in
theorem ma_161 : fx_mt[161]? = some mq_161 := rfl
theorem mp_161 : (parseMethodDescriptor mq_161.1.desc).map (fun d => d.parameters.length) = some 3 := by decide +kernel
set_option maxRecDepth 100000 in
theorem ma_80 : fx_mt[80]? = some mq_80 := rfl
theorem mp_80 : (parseMethodDescriptor mq_80.1.desc).map (fun d => d.parameters.length) = some 1 := by decide +kernel
set_option maxRecDepth 100000 in
theorem ma_200 : fx_mt[200]? = some mq_200 := rfl
theorem mp_200 : (parseMethodDescriptor mq_200.1.desc).map (fun d => d.parameters.length) = some 3 := by decide +kernel
set_option maxRecDepth 100000 in
theorem ma_224 : fx_mt[224]? = some mq_224 := rfl
theorem mp_224 : (parseMethodDescriptor mq_224.1.desc).map (fun d => d.parameters.length) = some 2 := by decide +kernel
set_option maxRecDepth 100000 in
theorem ma_217 : fx_mt[217]? = some mq_217 := rfl
theorem mp_217 : (parseMethodDescriptor mq_217.1.desc).map (fun d => d.parameters.length) = some 2 := by decide +kernel
set_option maxRecDepth 100000 in
theorem ma_220 : fx_mt[220]? = some mq_220 := rfl
theorem mp_220 : (parseMethodDescriptor mq_220.1.desc).map (fun d => d.parameters.length) = some 2 := by decide +kernel
set_option maxRecDepth 100000 in
theorem ma_235 : fx_mt[235]? = some mq_235 := rfl
theorem mp_235 : (parseMethodDescriptor mq_235.1.desc).map (fun d => d.parameters.length) = some 2 := by decide +kernel
set_option maxRecDepth 100000 in
theorem ma_221 : fx_mt[221]? = some mq_221 := rfl
theorem mp_221 : (parseMethodDescriptor mq_221.1.desc).map (fun d => d.parameters.length) = some 2 := by decide +kernel
set_option maxRecDepth 100000 in
theorem ma_159 : fx_mt[159]? = some mq_159 := rfl
theorem mp_159 : (parseMethodDescriptor mq_159.1.desc).map (fun d => d.parameters.length) = some 1 := by decide +kernel
set_option maxRecDepth 100000 in
theorem ma_223 : fx_mt[223]? = some mq_223 := rfl
theorem mp_223 : (parseMethodDescriptor mq_223.1.desc).map (fun d => d.parameters.length) = some 4 := by decide +kernel
set_option maxRecDepth 100000 in
theorem ma_203 : fx_mt[203]? = some mq_203 := rfl
theorem mp_203 : (parseMethodDescriptor mq_203.1.desc).map (fun d => d.parameters.length) = some 3 := by decide +kernel
set_option maxRecDepth 100000 in
theorem ma_269 : fx_mt[269]? = some mq_269 := rfl
theorem mp_269 : (parseMethodDescriptor mq_269.1.desc).map (fun d => d.parameters.length) = some 3 := by decide +kernel
set_option maxRecDepth 100000 in
theorem ma_53 : fx_mt[53]? = some mq_53 := rfl
theorem mp_53 : (parseMethodDescriptor mq_53.1.desc).map (fun d => d.parameters.length) = some 2 := by decide +kernel
set_option maxRecDepth 100000 in
theorem ma_232 : fx_mt[232]? = some mq_232 := rfl
theorem mp_232 : (parseMethodDescriptor mq_232.1.desc).map (fun d => d.parameters.length) = some 3 := by decide +kernel
set_option maxRecDepth 100000 in
theorem ma_189 : fx_mt[189]? = some mq_189 := rfl
theorem mp_189 : (parseMethodDescriptor mq_189.1.desc).map (fun d => d.parameters.length) = some 1 := by decide +kernel
set_option maxRecDepth 100000 in
theorem ma_113 : fx_mt[113]? = some mq_113 := rfl
theorem mp_113 : (parseMethodDescriptor mq_113.1.desc).map (fun d => d.parameters.length) = some 3 := by decide +kernel
set_option maxRecDepth 100000 in
theorem ma_173 : fx_mt[173]? = some mq_173 := rfl
theorem mp_173 : (parseMethodDescriptor mq_173.1.desc).map (fun d => d.parameters.length) = some 0 := by decide +kernel
set_option maxRecDepth 100000 in
theorem ma_201 : fx_mt[201]? = some mq_201 := rfl
theorem mp_201 : (parseMethodDescriptor mq_201.1.desc).map (fun d => d.parameters.length) = some 4 := by decide +kernel
set_option maxRecDepth 100000 in
theorem ma_66 : fx_mt[66]? = some mq_66 := rfl
theorem mp_66 : (parseMethodDescriptor mq_66.1.desc).map (fun d => d.parameters.length) = some 5 := by decide +kernel
set_option maxRecDepth 100000 in
theorem ma_45 : fx_mt[45]? = some mq_45 := rfl
theorem mp_45 : (parseMethodDescriptor mq_45.1.desc).map (fun d => d.parameters.length) = some 2 := by decide +kernel
set_option maxRecDepth 100000 in
theorem ma_268 : fx_mt[268]? = some mq_268 := rfl
theorem mp_268 : (parseMethodDescriptor mq_268.1.desc).map (fun d => d.parameters.length) = some 4 := by decide +kernel
set_option maxRecDepth 100000 in
theorem ma_170 : fx_mt[170]? = some mq_170 := rfl
theorem mp_170 : (parseMethodDescriptor mq_170.1.desc).map (fun d => d.parameters.length) = some 5 := by decide +kernel
set_option maxRecDepth 100000 in
theorem ma_214 : fx_mt[214]? = some mq_214 := rfl
theorem mp_214 : (parseMethodDescriptor mq_214.1.desc).map (fun d => d.parameters.length) = some 4 := by decide +kernel
set_option maxRecDepth 100000 in
theorem ma_213 : fx_mt[213]? = some mq_213 := rfl
theorem mp_213 : (parseMethodDescriptor mq_213.1.desc).map (fun d => d.parameters.length) = some 3 := by decide +kernel
set_option maxRecDepth 100000 in
theorem ma_46 : fx_mt[46]? = some mq_46 := rfl
theorem mp_46 : (parseMethodDescriptor mq_46.1.desc).map (fun d => d.parameters.length) = some 2 := by decide +kernel
set_option maxRecDepth 100000 in
theorem ma_115 : fx_mt[115]? = some mq_115 := rfl
theorem mp_115 : (parseMethodDescriptor mq_115.1.desc).map (fun d => d.parameters.length) = some 2 := by decide +kernel
set_option maxRecDepth 100000 in
theorem ma_129 : fx_mt[129]? = some mq_129 := rfl
theorem mp_129 : (parseMethodDescriptor mq_129.1.desc).map (fun d => d.parameters.length) = some 2 := by decide +kernel
set_option maxRecDepth 100000 in
theorem ma_271 : fx_mt[271]? = some mq_271 := rfl
theorem mp_271 : (parseMethodDescriptor mq_271.1.desc).map (fun d => d.parameters.length) = some 3 := by decide +kernel
set_option maxRecDepth 100000 in
theorem ma_265 : fx_mt[265]? = some mq_265 := rfl
theorem mp_265 : (parseMethodDescriptor mq_265.1.desc).map (fun d => d.parameters.length) = some 2 := by decide +kernel
set_option maxRecDepth 100000 in
theorem ma_143 : fx_mt[143]? = some mq_143 := rfl
theorem mp_143 : (parseMethodDescriptor mq_143.1.desc).map (fun d => d.parameters.length) = some 2 := by decide +kernel
set_option maxRecDepth 100000 in
theorem ma_41 : fx_mt[41]? = some mq_41 := rfl
theorem mp_41 : (parseMethodDescriptor mq_41.1.desc).map (fun d => d.parameters.length) = some 2 := by decide +kernel
set_option maxRecDepth 100000 in
theorem ma_165 : fx_mt[165]? = some mq_165 := rfl
theorem mp_165 : (parseMethodDescriptor mq_165.1.desc).map (fun d => d.parameters.length) = some 2 := by decide +kernel
set_option maxRecDepth 100000 in
theorem ma_240 : fx_mt[240]? = some mq_240 := rfl
theorem mp_240 : (parseMethodDescriptor mq_240.1.desc).map (fun d => d.parameters.length) = some 1 := by decide +kernel
set_option maxRecDepth 100000 in
theorem ma_114 : fx_mt[114]? = some mq_114 := rfl
theorem mp_114 : (parseMethodDescriptor mq_114.1.desc).map (fun d => d.parameters.length) = some 2 := by decide +kernel
set_option maxRecDepth 100000 in
theorem ma_194 : fx_mt[194]? = some mq_194 := rfl
theorem mp_194 : (parseMethodDescriptor mq_194.1.desc).map (fun d => d.parameters.length) = some 2 := by decide +kernel
set_option maxRecDepth 100000 in
theorem ma_210 : fx_mt[210]? = some mq_210 := rfl
theorem mp_210 : (parseMethodDescriptor mq_210.1.desc).map (fun d => d.parameters.length) = some 1 := by decide +kernel
set_option maxRecDepth 100000 in
theorem ma_175 : fx_mt[175]? = some mq_175 := rfl
theorem mp_175 : (parseMethodDescriptor mq_175.1.desc).map (fun d => d.parameters.length) = some 1 := by decide +kernel
set_option maxRecDepth 100000 in
theorem ma_144 : fx_mt[144]? = some mq_144 := rfl
theorem mp_144 : (parseMethodDescriptor mq_144.1.desc).map (fun d => d.parameters.length) = some 2 := by decide +kernel
set_option maxRecDepth 100000 in
theorem ma_209 : fx_mt[209]? = some mq_209 := rfl
theorem mp_209 : (parseMethodDescriptor mq_209.1.desc).map (fun d => d.parameters.length) = some 0 := by decide +kernel
set_option maxRecDepth 100000 in
theorem ma_178 : fx_mt[178]? = some mq_178 := rfl
theorem mp_178 : (parseMethodDescriptor mq_178.1.desc).map (fun d => d.parameters.length) = some 1 := by decide +kernel
set_option maxRecDepth 100000 in
theorem ma_8 : fx_mt[8]? = some mq_8 := rfl
theorem mp_8 : (parseMethodDescriptor mq_8.1.desc).map (fun d => d.parameters.length) = some 2 := by decide +kernel
set_option maxRecDepth 100000 in
theorem ma_186 : fx_mt[186]? = some mq_186 := rfl
theorem mp_186 : (parseMethodDescriptor mq_186.1.desc).map (fun d => d.parameters.length) = some 1 := by decide +kernel
set_option maxRecDepth 100000 in
theorem ma_5 : fx_mt[5]? = some mq_5 := rfl
theorem mp_5 : (parseMethodDescriptor mq_5.1.desc).map (fun d => d.parameters.length) = some 2 := by decide +kernel
set_option maxRecDepth 100000 in
theorem ma_104 : fx_mt[104]? = some mq_104 := rfl
theorem mp_104 : (parseMethodDescriptor mq_104.1.desc).map (fun d => d.parameters.length) = some 1 := by decide +kernel
set_option maxRecDepth 100000 in
theorem ma_266 : fx_mt[266]? = some mq_266 := rfl
theorem mp_266 : (parseMethodDescriptor mq_266.1.desc).map (fun d => d.parameters.length) = some 0 := by decide +kernel
set_option maxRecDepth 100000 in
theorem ma_248 : fx_mt[248]? = some mq_248 := rfl
theorem mp_248 : (parseMethodDescriptor mq_248.1.desc).map (fun d => d.parameters.length) = some 1 := by decide +kernel
set_option maxRecDepth 100000 in
theorem ma_229 : fx_mt[229]? = some mq_229 := rfl
theorem mp_229 : (parseMethodDescriptor mq_229.1.desc).map (fun d => d.parameters.length) = some 1 := by decide +kernel
set_option maxRecDepth 100000 in
theorem ma_267 : fx_mt[267]? = some mq_267 := rfl
theorem mp_267 : (parseMethodDescriptor mq_267.1.desc).map (fun d => d.parameters.length) = some 2 := by decide +kernel
set_option maxRecDepth 100000 in
theorem ma_260 : fx_mt[260]? = some mq_260 := rfl
theorem mp_260 : (parseMethodDescriptor mq_260.1.desc).map (fun d => d.parameters.length) = some 1 := by decide +kernel
set_option maxRecDepth 100000 in
theorem ma_284 : fx_mt[284]? = some mq_284 := rfl
theorem mp_284 : (parseMethodDescriptor mq_284.1.desc).map (fun d => d.parameters.length) = some 4 := by decide +kernel
set_option maxRecDepth 100000 in
theorem ma_281 : fx_mt[281]? = some mq_281 := rfl
theorem mp_281 : (parseMethodDescriptor mq_281.1.desc).map (fun d => d.parameters.length) = some 0 := by decide +kernel
set_option maxRecDepth 100000 in
theorem ma_275 : fx_mt[275]? = some mq_275 := rfl
theorem mp_275 : (parseMethodDescriptor mq_275.1.desc).map (fun d => d.parameters.length) = some 1 := by decide +kernel
set_option maxRecDepth 100000 in
theorem ma_44 : fx_mt[44]? = some mq_44 := rfl
theorem mp_44 : (parseMethodDescriptor mq_44.1.desc).map (fun d => d.parameters.length) = some 3 := by decide +kernel
set_option maxRecDepth 100000 in
theorem ma_62 : fx_mt[62]? = some mq_62 := rfl
theorem mp_62 : (parseMethodDescriptor mq_62.1.desc).map (fun d => d.parameters.length) = some 1 := by decide +kernel
set_option maxRecDepth 100000 in
theorem ma_50 : fx_mt[50]? = some mq_50 := rfl
theorem mp_50 : (parseMethodDescriptor mq_50.1.desc).map (fun d => d.parameters.length) = some 1 := by decide +kernel
set_option maxRecDepth 100000 in
theorem ma_56 : fx_mt[56]? = some mq_56 := rfl
theorem mp_56 : (parseMethodDescriptor mq_56.1.desc).map (fun d => d.parameters.length) = some 1 := by decide +kernel
set_option maxRecDepth 100000 in
theorem ma_57 : fx_mt[57]? = some mq_57 := rfl
theorem mp_57 : (parseMethodDescriptor mq_57.1.desc).map (fun d => d.parameters.length) = some 1 := by decide +kernel
set_option maxRecDepth 100000 in
theorem ma_59 : fx_mt[59]? = some mq_59 := rfl
theorem mp_59 : (parseMethodDescriptor mq_59.1.desc).map (fun d => d.parameters.length) = some 1 := by decide +kernel
set_option maxRecDepth 100000 in
theorem ma_148 : fx_mt[148]? = some mq_148 := rfl
theorem mp_148 : (parseMethodDescriptor mq_148.1.desc).map (fun d => d.parameters.length) = some 1 := by decide +kernel
set_option maxRecDepth 100000 in
theorem ma_198 : fx_mt[198]? = some mq_198 := rfl
theorem mp_198 : (parseMethodDescriptor mq_198.1.desc).map (fun d => d.parameters.length) = some 0 := by decide +kernel
set_option maxRecDepth 100000 in
theorem ma_184 : fx_mt[184]? = some mq_184 := rfl
theorem mp_184 : (parseMethodDescriptor mq_184.1.desc).map (fun d => d.parameters.length) = some 1 := by decide +kernel
set_option maxRecDepth 100000 in
theorem ma_171 : fx_mt[171]? = some mq_171 := rfl
theorem mp_171 : (parseMethodDescriptor mq_171.1.desc).map (fun d => d.parameters.length) = some 5 := by decide +kernel
set_option maxRecDepth 100000 in
theorem ma_250 : fx_mt[250]? = some mq_250 := rfl
theorem mp_250 : (parseMethodDescriptor mq_250.1.desc).map (fun d => d.parameters.length) = some 1 := by decide +kernel
set_option maxRecDepth 100000 in
theorem ma_151 : fx_mt[151]? = some mq_151 := rfl
theorem mp_151 : (parseMethodDescriptor mq_151.1.desc).map (fun d => d.parameters.length) = some 4 := by decide +kernel
set_option maxRecDepth 100000 in
theorem ma_28 : fx_mt[28]? = some mq_28 := rfl
theorem mp_28 : (parseMethodDescriptor mq_28.1.desc).map (fun d => d.parameters.length) = some 0 := by decide +kernel
set_option maxRecDepth 100000 in
theorem ma_176 : fx_mt[176]? = some mq_176 := rfl
theorem mp_176 : (parseMethodDescriptor mq_176.1.desc).map (fun d => d.parameters.length) = some 3 := by decide +kernel
set_option maxRecDepth 100000 in
theorem ma_208 : fx_mt[208]? = some mq_208 := rfl
theorem mp_208 : (parseMethodDescriptor mq_208.1.desc).map (fun d => d.parameters.length) = some 3 := by decide +kernel
set_option maxRecDepth 100000 in
theorem ma_211 : fx_mt[211]? = some mq_211 := rfl
theorem mp_211 : (parseMethodDescriptor mq_211.1.desc).map (fun d => d.parameters.length) = some 2 := by decide +kernel
set_option maxRecDepth 100000 in
theorem ma_212 : fx_mt[212]? = some mq_212 := rfl
theorem mp_212 : (parseMethodDescriptor mq_212.1.desc).map (fun d => d.parameters.length) = some 2 := by decide +kernel
set_option maxRecDepth 100000 in
theorem ma_272 : fx_mt[272]? = some mq_272 := rfl
theorem mp_272 : (parseMethodDescriptor mq_272.1.desc).map (fun d => d.parameters.length) = some 0 := by decide +kernel
set_option maxRecDepth 100000 in
theorem ma_140 : fx_mt[140]? = some mq_140 := rfl
theorem mp_140 : (parseMethodDescriptor mq_140.1.desc).map (fun d => d.parameters.length) = some 4 := by decide +kernel
set_option maxRecDepth 100000 in
theorem ma_167 : fx_mt[167]? = some mq_167 := rfl
theorem mp_167 : (parseMethodDescriptor mq_167.1.desc).map (fun d => d.parameters.length) = some 2 := by decide +kernel
set_option maxRecDepth 100000 in
theorem ma_128 : fx_mt[128]? = some mq_128 := rfl
theorem mp_128 : (parseMethodDescriptor mq_128.1.desc).map (fun d => d.parameters.length) = some 1 := by decide +kernel
set_option maxRecDepth 100000 in
theorem ma_218 : fx_mt[218]? = some mq_218 := rfl
theorem mp_218 : (parseMethodDescriptor mq_218.1.desc).map (fun d => d.parameters.length) = some 4 := by decide +kernel
set_option maxRecDepth 100000 in
theorem ma_241 : fx_mt[241]? = some mq_241 := rfl
theorem mp_241 : (parseMethodDescriptor mq_241.1.desc).map (fun d => d.parameters.length) = some 2 := by decide +kernel
set_option maxRecDepth 100000 in
theorem ma_142 : fx_mt[142]? = some mq_142 := rfl
theorem mp_142 : (parseMethodDescriptor mq_142.1.desc).map (fun d => d.parameters.length) = some 2 := by decide +kernel
set_option maxRecDepth 100000 in
theorem ma_245 : fx_mt[245]? = some mq_245 := rfl
theorem mp_245 : (parseMethodDescriptor mq_245.1.desc).map (fun d => d.parameters.length) = some 0 := by decide +kernel
set_option maxRecDepth 100000 in
theorem ma_10 : fx_mt[10]? = some mq_10 := rfl
theorem mp_10 : (parseMethodDescriptor mq_10.1.desc).map (fun d => d.parameters.length) = some 2 := by decide +kernel
set_option maxRecDepth 100000 in
theorem ma_51 : fx_mt[51]? = some mq_51 := rfl
theorem mp_51 : (parseMethodDescriptor mq_51.1.desc).map (fun d => d.parameters.length) = some 0 := by decide +kernel
set_option maxRecDepth 100000 in
theorem ma_207 : fx_mt[207]? = some mq_207 := rfl
theorem mp_207 : (parseMethodDescriptor mq_207.1.desc).map (fun d => d.parameters.length) = some 2 := by decide +kernel
set_option maxRecDepth 100000 in
theorem ma_257 : fx_mt[257]? = some mq_257 := rfl
theorem mp_257 : (parseMethodDescriptor mq_257.1.desc).map (fun d => d.parameters.length) = some 2 := by decide +kernel
set_option maxRecDepth 100000 in
theorem ma_280 : fx_mt[280]? = some mq_280 := rfl
theorem mp_280 : (parseMethodDescriptor mq_280.1.desc).map (fun d => d.parameters.length) = some 1 := by decide +kernel
set_option maxRecDepth 100000 in
theorem ma_247 : fx_mt[247]? = some mq_247 := rfl
theorem mp_247 : (parseMethodDescriptor mq_247.1.desc).map (fun d => d.parameters.length) = some 2 := by decide +kernel
set_option maxRecDepth 100000 in
theorem ma_249 : fx_mt[249]? = some mq_249 := rfl
theorem mp_249 : (parseMethodDescriptor mq_249.1.desc).map (fun d => d.parameters.length) = some 2 := by decide +kernel
set_option maxRecDepth 100000 in
theorem ma_259 : fx_mt[259]? = some mq_259 := rfl
theorem mp_259 : (parseMethodDescriptor mq_259.1.desc).map (fun d => d.parameters.length) = some 2 := by decide +kernel
set_option maxRecDepth 100000 in
theorem ma_242 : fx_mt[242]? = some mq_242 := rfl
theorem mp_242 : (parseMethodDescriptor mq_242.1.desc).map (fun d => d.parameters.length) = some 2 := by decide +kernel
set_option maxRecDepth 100000 in
theorem ma_172 : fx_mt[172]? = some mq_172 := rfl
theorem mp_172 : (parseMethodDescriptor mq_172.1.desc).map (fun d => d.parameters.length) = some 1 := by decide +kernel
set_option maxRecDepth 100000 in
theorem ma_234 : fx_mt[234]? = some mq_234 := rfl
theorem mp_234 : (parseMethodDescriptor mq_234.1.desc).map (fun d => d.parameters.length) = some 2 := by decide +kernel
set_option maxRecDepth 100000 in
theorem ma_180 : fx_mt[180]? = some mq_180 := rfl
theorem mp_180 : (parseMethodDescriptor mq_180.1.desc).map (fun d => d.parameters.length) = some 2 := by decide +kernel
set_option maxRecDepth 100000 in
theorem ma_181 : fx_mt[181]? = some mq_181 := rfl
theorem mp_181 : (parseMethodDescriptor mq_181.1.desc).map (fun d => d.parameters.length) = some 2 := by decide +kernel
set_option maxRecDepth 100000 in
theorem ma_278 : fx_mt[278]? = some mq_278 := rfl
theorem mp_278 : (parseMethodDescriptor mq_278.1.desc).map (fun d => d.parameters.length) = some 1 := by decide +kernel
set_option maxRecDepth 100000 in
theorem ma_262 : fx_mt[262]? = some mq_262 := rfl
theorem mp_262 : (parseMethodDescriptor mq_262.1.desc).map (fun d => d.parameters.length) = some 2 := by decide +kernel
set_option maxRecDepth 100000 in
theorem ma_263 : fx_mt[263]? = some mq_263 := rfl
theorem mp_263 : (parseMethodDescriptor mq_263.1.desc).map (fun d => d.parameters.length) = some 2 := by decide +kernel
set_option maxRecDepth 100000 in
theorem ma_190 : fx_mt[190]? = some mq_190 := rfl
theorem mp_190 : (parseMethodDescriptor mq_190.1.desc).map (fun d => d.parameters.length) = some 2 := by decide +kernel
set_option maxRecDepth 100000 in
theorem ma_192 : fx_mt[192]? = some mq_192 := rfl
theorem mp_192 : (parseMethodDescriptor mq_192.1.desc).map (fun d => d.parameters.length) = some 1 := by decide +kernel
set_option maxRecDepth 100000 in
theorem ma_255 : fx_mt[255]? = some mq_255 := rfl
theorem mp_255 : (parseMethodDescriptor mq_255.1.desc).map (fun d => d.parameters.length) = some 1 := by decide +kernel
set_option maxRecDepth 100000 in
theorem ma_276 : fx_mt[276]? = some mq_276 := rfl
theorem mp_276 : (parseMethodDescriptor mq_276.1.desc).map (fun d => d.parameters.length) = some 1 := by decide +kernel
set_option maxRecDepth 100000 in
theorem ma_279 : fx_mt[279]? = some mq_279 := rfl
theorem mp_279 : (parseMethodDescriptor mq_279.1.desc).map (fun d => d.parameters.length) = some 1 := by decide +kernel
set_option maxRecDepth 100000 in
theorem ma_256 : fx_mt[256]? = some mq_256 := rfl
theorem mp_256 : (parseMethodDescriptor mq_256.1.desc).map (fun d => d.parameters.length) = some 3 := by decide +kernel
set_option maxRecDepth 100000 in
theorem ma_225 : fx_mt[225]? = some mq_225 := rfl
theorem mp_225 : (parseMethodDescriptor mq_225.1.desc).map (fun d => d.parameters.length) = some 1 := by decide +kernel
set_option maxRecDepth 100000 in
theorem ma_273 : fx_mt[273]? = some mq_273 := rfl
theorem mp_273 : (parseMethodDescriptor mq_273.1.desc).map (fun d => d.parameters.length) = some 1 := by decide +kernel
set_option maxRecDepth 100000 in
theorem ma_274 : fx_mt[274]? = some mq_274 := rfl
theorem mp_274 : (parseMethodDescriptor mq_274.1.desc).map (fun d => d.parameters.length) = some 1 := by decide +kernel
set_option maxRecDepth 100000 in
theorem ma_215 : fx_mt[215]? = some mq_215 := rfl
theorem mp_215 : (parseMethodDescriptor mq_215.1.desc).map (fun d => d.parameters.length) = some 1 := by decide +kernel
set_option maxRecDepth 100000 in
theorem ma_168 : fx_mt[168]? = some mq_168 := rfl
theorem mp_168 : (parseMethodDescriptor mq_168.1.desc).map (fun d => d.parameters.length) = some 1 := by decide +kernel
set_option maxRecDepth 100000 in
theorem ma_270 : fx_mt[270]? = some mq_270 := rfl
theorem mp_270 : (parseMethodDescriptor mq_270.1.desc).map (fun d => d.parameters.length) = some 1 := by decide +kernel
set_option maxRecDepth 100000 in
theorem ma_183 : fx_mt[183]? = some mq_183 := rfl
theorem mp_183 : (parseMethodDescriptor mq_183.1.desc).map (fun d => d.parameters.length) = some 1 := by decide +kernel
set_option maxRecDepth 100000 in
theorem ma_155 : fx_mt[155]? = some mq_155 := rfl
theorem mp_155 : (parseMethodDescriptor mq_155.1.desc).map (fun d => d.parameters.length) = some 4 := by decide +kernel
set_option maxRecDepth 100000 in
theorem ma_239 : fx_mt[239]? = some mq_239 := rfl
theorem mp_239 : (parseMethodDescriptor mq_239.1.desc).map (fun d => d.parameters.length) = some 1 := by decide +kernel
set_option maxRecDepth 100000 in
theorem ma_243 : fx_mt[243]? = some mq_243 := rfl
theorem mp_243 : (parseMethodDescriptor mq_243.1.desc).map (fun d => d.parameters.length) = some 2 := by decide +kernel
set_option maxRecDepth 100000 in
theorem ma_282 : fx_mt[282]? = some mq_282 := rfl
theorem mp_282 : (parseMethodDescriptor mq_282.1.desc).map (fun d => d.parameters.length) = some 0 := by decide +kernel
set_option maxRecDepth 100000 in
theorem ma_185 : fx_mt[185]? = some mq_185 := rfl
theorem mp_185 : (parseMethodDescriptor mq_185.1.desc).map (fun d => d.parameters.length) = some 3 := by decide +kernel
set_option maxRecDepth 100000 in
theorem ma_25 : fx_mt[25]? = some mq_25 := rfl
theorem mp_25 : (parseMethodDescriptor mq_25.1.desc).map (fun d => d.parameters.length) = some 0 := by decide +kernel
theorem mw_1 : eh_cw mq_1 ∈ fx_Ts := (show eh_cw mq_1 = _ from if_pos rfl) ▸ kf_1120
theorem mw_2 : eh_cw mq_2 ∈ fx_Ts := (show eh_cw mq_2 = _ from if_pos rfl) ▸ kf_1121
theorem mw_3 : eh_cw mq_3 ∈ fx_Ts := (show eh_cw mq_3 = _ from if_pos rfl) ▸ kf_1122
theorem mw_4 : eh_cw mq_4 ∈ fx_Ts := (show eh_cw mq_4 = _ from if_pos rfl) ▸ kf_1123
theorem mw_5 : eh_cw mq_5 ∈ fx_Ts := (show eh_cw mq_5 = _ from if_pos rfl) ▸ kf_1124
theorem mw_6 : eh_cw mq_6 ∈ fx_Ts := (show eh_cw mq_6 = _ from if_pos rfl) ▸ kf_1125
theorem mw_7 : eh_cw mq_7 ∈ fx_Ts := (show eh_cw mq_7 = _ from if_pos rfl) ▸ kf_1126
theorem mw_8 : eh_cw mq_8 ∈ fx_Ts := (show eh_cw mq_8 = _ from if_pos rfl) ▸ kf_1127
theorem mw_9 : eh_cw mq_9 ∈ fx_Ts := (show eh_cw mq_9 = _ from if_pos rfl) ▸ kf_1128
theorem mw_10 : eh_cw mq_10 ∈ fx_Ts := (show eh_cw mq_10 = _ from if_pos rfl) ▸ kf_1129
theorem mw_11 : eh_cw mq_11 ∈ fx_Ts := (show eh_cw mq_11 = _ from if_pos rfl) ▸ kf_1130
theorem mw_12 : eh_cw mq_12 ∈ fx_Ts := (show eh_cw mq_12 = _ from if_pos rfl) ▸ kf_1131
theorem mw_13 : eh_cw mq_13 ∈ fx_Ts := (show eh_cw mq_13 = _ from if_pos rfl) ▸ kf_1132
theorem mw_14 : eh_cw mq_14 ∈ fx_Ts := (show eh_cw mq_14 = _ from if_pos rfl) ▸ kf_1133
theorem mw_15 : eh_cw mq_15 ∈ fx_Ts := (show eh_cw mq_15 = _ from if_pos rfl) ▸ kf_1134
theorem mw_16 : eh_cw mq_16 ∈ fx_Ts := (show eh_cw mq_16 = _ from if_pos rfl) ▸ kf_1135
theorem mw_17 : eh_cw mq_17 ∈ fx_Ts := (show eh_cw mq_17 = _ from if_pos rfl) ▸ kf_1136
theorem mw_18 : eh_cw mq_18 ∈ fx_Ts := (show eh_cw mq_18 = _ from if_pos rfl) ▸ kf_1137
theorem mw_19 : eh_cw mq_19 ∈ fx_Ts := (show eh_cw mq_19 = _ from if_pos rfl) ▸ kf_1138
theorem mw_20 : eh_cw mq_20 ∈ fx_Ts := (show eh_cw mq_20 = _ from if_pos rfl) ▸ kf_1139
theorem mw_21 : eh_cw mq_21 ∈ fx_Ts := (show eh_cw mq_21 = _ from if_pos rfl) ▸ kf_1140
theorem mw_22 : eh_cw mq_22 ∈ fx_Ts := (show eh_cw mq_22 = _ from if_pos rfl) ▸ kf_1141
theorem mw_23 : eh_cw mq_23 ∈ fx_Ts := (show eh_cw mq_23 = _ from if_pos rfl) ▸ kf_1142
theorem mw_24 : eh_cw mq_24 ∈ fx_Ts := (show eh_cw mq_24 = _ from if_pos rfl) ▸ kf_1143
theorem mw_25 : eh_cw mq_25 ∈ fx_Ts := (show eh_cw mq_25 = _ from if_pos rfl) ▸ kf_1144
theorem mw_26 : eh_cw mq_26 ∈ fx_Ts := (show eh_cw mq_26 = _ from if_pos rfl) ▸ kf_1145
theorem mw_27 : eh_cw mq_27 ∈ fx_Ts := (show eh_cw mq_27 = _ from if_pos rfl) ▸ kf_1146
theorem mw_28 : eh_cw mq_28 ∈ fx_Ts := (show eh_cw mq_28 = _ from if_pos rfl) ▸ kf_1147
theorem mw_29 : eh_cw mq_29 ∈ fx_Ts := (show eh_cw mq_29 = _ from if_pos rfl) ▸ kf_1148
theorem mw_30 : eh_cw mq_30 ∈ fx_Ts := (show eh_cw mq_30 = _ from if_pos rfl) ▸ kf_1149
theorem mw_31 : eh_cw mq_31 ∈ fx_Ts := (show eh_cw mq_31 = _ from if_pos rfl) ▸ kf_1150
theorem mw_32 : eh_cw mq_32 ∈ fx_Ts := (show eh_cw mq_32 = _ from if_pos rfl) ▸ kf_1151
theorem mw_33 : eh_cw mq_33 ∈ fx_Ts := (show eh_cw mq_33 = _ from if_pos rfl) ▸ kf_1152
theorem mw_34 : eh_cw mq_34 ∈ fx_Ts := (show eh_cw mq_34 = _ from if_pos rfl) ▸ kf_1153
theorem mw_35 : eh_cw mq_35 ∈ fx_Ts := (show eh_cw mq_35 = _ from if_pos rfl) ▸ kf_1154
theorem mw_36 : eh_cw mq_36 ∈ fx_Ts := (show eh_cw mq_36 = _ from if_pos rfl) ▸ kf_1155
theorem mw_37 : eh_cw mq_37 ∈ fx_Ts := (show eh_cw mq_37 = _ from if_pos rfl) ▸ kf_1156
theorem mw_38 : eh_cw mq_38 ∈ fx_Ts := (show eh_cw mq_38 = _ from if_pos rfl) ▸ kf_1157
theorem mw_39 : eh_cw mq_39 ∈ fx_Ts := (show eh_cw mq_39 = _ from if_pos rfl) ▸ kf_1158
theorem mw_40 : eh_cw mq_40 ∈ fx_Ts := (show eh_cw mq_40 = _ from if_pos rfl) ▸ kf_1159
theorem mw_41 : eh_cw mq_41 ∈ fx_Ts := (show eh_cw mq_41 = _ from if_pos rfl) ▸ kf_1160
theorem mw_42 : eh_cw mq_42 ∈ fx_Ts := (show eh_cw mq_42 = _ from if_pos rfl) ▸ kf_1161
theorem mw_43 : eh_cw mq_43 ∈ fx_Ts := (show eh_cw mq_43 = _ from if_pos rfl) ▸ kf_1162
theorem mw_44 : eh_cw mq_44 ∈ fx_Ts := (show eh_cw mq_44 = _ from if_pos rfl) ▸ kf_1163
theorem mw_45 : eh_cw mq_45 ∈ fx_Ts := (show eh_cw mq_45 = _ from if_pos rfl) ▸ kf_1164
theorem mw_46 : eh_cw mq_46 ∈ fx_Ts := (show eh_cw mq_46 = _ from if_pos rfl) ▸ kf_1165
theorem mw_47 : eh_cw mq_47 ∈ fx_Ts := (show eh_cw mq_47 = _ from if_pos rfl) ▸ kf_1166
theorem mw_48 : eh_cw mq_48 ∈ fx_Ts := (show eh_cw mq_48 = _ from if_pos rfl) ▸ kf_1167
theorem mw_49 : eh_cw mq_49 ∈ fx_Ts := (show eh_cw mq_49 = _ from if_pos rfl) ▸ kf_1168
theorem mw_50 : eh_cw mq_50 ∈ fx_Ts := (show eh_cw mq_50 = _ from if_pos rfl) ▸ kf_1169
theorem mw_51 : eh_cw mq_51 ∈ fx_Ts := (show eh_cw mq_51 = _ from if_pos rfl) ▸ kf_1170
theorem mw_52 : eh_cw mq_52 ∈ fx_Ts := (show eh_cw mq_52 = _ from if_pos rfl) ▸ kf_1171
theorem mw_53 : eh_cw mq_53 ∈ fx_Ts := (show eh_cw mq_53 = _ from if_pos rfl) ▸ kf_1172
theorem mw_54 : eh_cw mq_54 ∈ fx_Ts := (show eh_cw mq_54 = _ from if_pos rfl) ▸ kf_1173
theorem mw_55 : eh_cw mq_55 ∈ fx_Ts := (show eh_cw mq_55 = _ from if_pos rfl) ▸ kf_1174
theorem mw_56 : eh_cw mq_56 ∈ fx_Ts := (show eh_cw mq_56 = _ from if_pos rfl) ▸ kf_1175
theorem mw_57 : eh_cw mq_57 ∈ fx_Ts := (show eh_cw mq_57 = _ from if_pos rfl) ▸ kf_1176
theorem mw_58 : eh_cw mq_58 ∈ fx_Ts := (show eh_cw mq_58 = _ from if_pos rfl) ▸ kf_1177
theorem mw_59 : eh_cw mq_59 ∈ fx_Ts := (show eh_cw mq_59 = _ from if_pos rfl) ▸ kf_1178
theorem mw_60 : eh_cw mq_60 ∈ fx_Ts := (show eh_cw mq_60 = _ from if_pos rfl) ▸ kf_1179
theorem mw_61 : eh_cw mq_61 ∈ fx_Ts := (show eh_cw mq_61 = _ from if_pos rfl) ▸ kf_1180
theorem mw_62 : eh_cw mq_62 ∈ fx_Ts := (show eh_cw mq_62 = _ from if_pos rfl) ▸ kf_1181
theorem mw_63 : eh_cw mq_63 ∈ fx_Ts := (show eh_cw mq_63 = _ from if_pos rfl) ▸ kf_1182
theorem mw_64 : eh_cw mq_64 ∈ fx_Ts := (show eh_cw mq_64 = _ from if_pos rfl) ▸ kf_1183
theorem mw_65 : eh_cw mq_65 ∈ fx_Ts := (show eh_cw mq_65 = _ from if_pos rfl) ▸ kf_1184
theorem mw_66 : eh_cw mq_66 ∈ fx_Ts := (show eh_cw mq_66 = _ from if_pos rfl) ▸ kf_1185
theorem mw_67 : eh_cw mq_67 ∈ fx_Ts := (show eh_cw mq_67 = _ from if_pos rfl) ▸ kf_1186
theorem mw_68 : eh_cw mq_68 ∈ fx_Ts := (show eh_cw mq_68 = _ from if_pos rfl) ▸ kf_1187
theorem mw_69 : eh_cw mq_69 ∈ fx_Ts := (show eh_cw mq_69 = _ from if_pos rfl) ▸ kf_1188
theorem mw_70 : eh_cw mq_70 ∈ fx_Ts := (show eh_cw mq_70 = _ from if_pos rfl) ▸ kf_1189
theorem mw_71 : eh_cw mq_71 ∈ fx_Ts := (show eh_cw mq_71 = _ from if_pos rfl) ▸ kf_1190
theorem mw_72 : eh_cw mq_72 ∈ fx_Ts := (show eh_cw mq_72 = _ from if_pos rfl) ▸ kf_1191
theorem mw_73 : eh_cw mq_73 ∈ fx_Ts := (show eh_cw mq_73 = _ from if_pos rfl) ▸ kf_1192
theorem mw_74 : eh_cw mq_74 ∈ fx_Ts := (show eh_cw mq_74 = _ from if_pos rfl) ▸ kf_1193
theorem mw_75 : eh_cw mq_75 ∈ fx_Ts := (show eh_cw mq_75 = _ from if_pos rfl) ▸ kf_1194
theorem mw_76 : eh_cw mq_76 ∈ fx_Ts := (show eh_cw mq_76 = _ from if_pos rfl) ▸ kf_1195
theorem mw_77 : eh_cw mq_77 ∈ fx_Ts := (show eh_cw mq_77 = _ from if_pos rfl) ▸ kf_1196
theorem mw_78 : eh_cw mq_78 ∈ fx_Ts := (show eh_cw mq_78 = _ from if_pos rfl) ▸ kf_1197
theorem mw_79 : eh_cw mq_79 ∈ fx_Ts := (show eh_cw mq_79 = _ from if_pos rfl) ▸ kf_1198
theorem mw_80 : eh_cw mq_80 ∈ fx_Ts := (show eh_cw mq_80 = _ from if_pos rfl) ▸ kf_1199
theorem mw_81 : eh_cw mq_81 ∈ fx_Ts := (show eh_cw mq_81 = _ from if_pos rfl) ▸ kf_1200
theorem mw_82 : eh_cw mq_82 ∈ fx_Ts := (show eh_cw mq_82 = _ from if_pos rfl) ▸ kf_1201
theorem mw_83 : eh_cw mq_83 ∈ fx_Ts := (show eh_cw mq_83 = _ from if_pos rfl) ▸ kf_1202
theorem mw_84 : eh_cw mq_84 ∈ fx_Ts := (show eh_cw mq_84 = _ from if_pos rfl) ▸ kf_1203
theorem mw_85 : eh_cw mq_85 ∈ fx_Ts := (show eh_cw mq_85 = _ from if_pos rfl) ▸ kf_1204
theorem mw_86 : eh_cw mq_86 ∈ fx_Ts := (show eh_cw mq_86 = _ from if_pos rfl) ▸ kf_1205
theorem mw_87 : eh_cw mq_87 ∈ fx_Ts := (show eh_cw mq_87 = _ from if_pos rfl) ▸ kf_1206
theorem mw_88 : eh_cw mq_88 ∈ fx_Ts := (show eh_cw mq_88 = _ from if_pos rfl) ▸ kf_1207
theorem mw_89 : eh_cw mq_89 ∈ fx_Ts := (show eh_cw mq_89 = _ from if_pos rfl) ▸ kf_1208
theorem mw_90 : eh_cw mq_90 ∈ fx_Ts := (show eh_cw mq_90 = _ from if_pos rfl) ▸ kf_1209
theorem mw_91 : eh_cw mq_91 ∈ fx_Ts := (show eh_cw mq_91 = _ from if_pos rfl) ▸ kf_1210
theorem mw_92 : eh_cw mq_92 ∈ fx_Ts := (show eh_cw mq_92 = _ from if_pos rfl) ▸ kf_1211
theorem mw_93 : eh_cw mq_93 ∈ fx_Ts := (show eh_cw mq_93 = _ from if_pos rfl) ▸ kf_1212
theorem mw_94 : eh_cw mq_94 ∈ fx_Ts := (show eh_cw mq_94 = _ from if_pos rfl) ▸ kf_1213
theorem mw_95 : eh_cw mq_95 ∈ fx_Ts := (show eh_cw mq_95 = _ from if_pos rfl) ▸ kf_1214
theorem mw_96 : eh_cw mq_96 ∈ fx_Ts := (show eh_cw mq_96 = _ from if_neg (by decide)) ▸ kf_1215
theorem mw_97 : eh_cw mq_97 ∈ fx_Ts := (show eh_cw mq_97 = _ from if_pos rfl) ▸ kf_1216
theorem mw_98 : eh_cw mq_98 ∈ fx_Ts := (show eh_cw mq_98 = _ from if_pos rfl) ▸ kf_1217
theorem mw_99 : eh_cw mq_99 ∈ fx_Ts := (show eh_cw mq_99 = _ from if_pos rfl) ▸ kf_1218
theorem mw_100 : eh_cw mq_100 ∈ fx_Ts := (show eh_cw mq_100 = _ from if_pos rfl) ▸ kf_1219
theorem mw_101 : eh_cw mq_101 ∈ fx_Ts := (show eh_cw mq_101 = _ from if_pos rfl) ▸ kf_1220
theorem mw_102 : eh_cw mq_102 ∈ fx_Ts := (show eh_cw mq_102 = _ from if_pos rfl) ▸ kf_1221
theorem mw_103 : eh_cw mq_103 ∈ fx_Ts := (show eh_cw mq_103 = _ from if_pos rfl) ▸ kf_1222
theorem mw_104 : eh_cw mq_104 ∈ fx_Ts := (show eh_cw mq_104 = _ from if_pos rfl) ▸ kf_1223
theorem mw_105 : eh_cw mq_105 ∈ fx_Ts := (show eh_cw mq_105 = _ from if_pos rfl) ▸ kf_1224
theorem mw_106 : eh_cw mq_106 ∈ fx_Ts := (show eh_cw mq_106 = _ from if_pos rfl) ▸ kf_1225
theorem mw_107 : eh_cw mq_107 ∈ fx_Ts := (show eh_cw mq_107 = _ from if_pos rfl) ▸ kf_1226
theorem mw_108 : eh_cw mq_108 ∈ fx_Ts := (show eh_cw mq_108 = _ from if_pos rfl) ▸ kf_1227
theorem mw_109 : eh_cw mq_109 ∈ fx_Ts := (show eh_cw mq_109 = _ from if_pos rfl) ▸ kf_1228
theorem mw_110 : eh_cw mq_110 ∈ fx_Ts := (show eh_cw mq_110 = _ from if_pos rfl) ▸ kf_1229
theorem mw_111 : eh_cw mq_111 ∈ fx_Ts := (show eh_cw mq_111 = _ from if_neg (by decide)) ▸ kf_1230
theorem mw_112 : eh_cw mq_112 ∈ fx_Ts := (show eh_cw mq_112 = _ from if_pos rfl) ▸ kf_1231
theorem mw_113 : eh_cw mq_113 ∈ fx_Ts := (show eh_cw mq_113 = _ from if_pos rfl) ▸ kf_1232
theorem mw_114 : eh_cw mq_114 ∈ fx_Ts := (show eh_cw mq_114 = _ from if_pos rfl) ▸ kf_1233
theorem mw_115 : eh_cw mq_115 ∈ fx_Ts := (show eh_cw mq_115 = _ from if_pos rfl) ▸ kf_1234
theorem mw_116 : eh_cw mq_116 ∈ fx_Ts := (show eh_cw mq_116 = _ from if_pos rfl) ▸ kf_1235
theorem mw_117 : eh_cw mq_117 ∈ fx_Ts := (show eh_cw mq_117 = _ from if_neg (by decide)) ▸ kf_1236
theorem mw_118 : eh_cw mq_118 ∈ fx_Ts := (show eh_cw mq_118 = _ from if_neg (by decide)) ▸ kf_1237
theorem mw_119 : eh_cw mq_119 ∈ fx_Ts := (show eh_cw mq_119 = _ from if_neg (by decide)) ▸ kf_1238
theorem mw_120 : eh_cw mq_120 ∈ fx_Ts := (show eh_cw mq_120 = _ from if_neg (by decide)) ▸ kf_1239
theorem mw_121 : eh_cw mq_121 ∈ fx_Ts := (show eh_cw mq_121 = _ from if_neg (by decide)) ▸ kf_1240
theorem mw_122 : eh_cw mq_122 ∈ fx_Ts := (show eh_cw mq_122 = _ from if_neg (by decide)) ▸ kf_1241
theorem mw_123 : eh_cw mq_123 ∈ fx_Ts := (show eh_cw mq_123 = _ from if_pos rfl) ▸ kf_1242
theorem mw_124 : eh_cw mq_124 ∈ fx_Ts := (show eh_cw mq_124 = _ from if_neg (by decide)) ▸ kf_1243
theorem mw_125 : eh_cw mq_125 ∈ fx_Ts := (show eh_cw mq_125 = _ from if_neg (by decide)) ▸ kf_1244
theorem mw_126 : eh_cw mq_126 ∈ fx_Ts := (show eh_cw mq_126 = _ from if_neg (by decide)) ▸ kf_1245
theorem mw_127 : eh_cw mq_127 ∈ fx_Ts := (show eh_cw mq_127 = _ from if_pos rfl) ▸ kf_1246
theorem mw_128 : eh_cw mq_128 ∈ fx_Ts := (show eh_cw mq_128 = _ from if_pos rfl) ▸ kf_1247
theorem mw_129 : eh_cw mq_129 ∈ fx_Ts := (show eh_cw mq_129 = _ from if_pos rfl) ▸ kf_1248
theorem mw_130 : eh_cw mq_130 ∈ fx_Ts := (show eh_cw mq_130 = _ from if_pos rfl) ▸ kf_1249
theorem mw_131 : eh_cw mq_131 ∈ fx_Ts := (show eh_cw mq_131 = _ from if_pos rfl) ▸ kf_1250
theorem mw_132 : eh_cw mq_132 ∈ fx_Ts := (show eh_cw mq_132 = _ from if_pos rfl) ▸ kf_1251
theorem mw_133 : eh_cw mq_133 ∈ fx_Ts := (show eh_cw mq_133 = _ from if_pos rfl) ▸ kf_1252
theorem mw_134 : eh_cw mq_134 ∈ fx_Ts := (show eh_cw mq_134 = _ from if_pos rfl) ▸ kf_1253
theorem mw_135 : eh_cw mq_135 ∈ fx_Ts := (show eh_cw mq_135 = _ from if_pos rfl) ▸ kf_1254
theorem mw_136 : eh_cw mq_136 ∈ fx_Ts := (show eh_cw mq_136 = _ from if_pos rfl) ▸ kf_1255
theorem mw_137 : eh_cw mq_137 ∈ fx_Ts := (show eh_cw mq_137 = _ from if_pos rfl) ▸ kf_1256
theorem mw_138 : eh_cw mq_138 ∈ fx_Ts := (show eh_cw mq_138 = _ from if_pos rfl) ▸ kf_1257
theorem mw_139 : eh_cw mq_139 ∈ fx_Ts := (show eh_cw mq_139 = _ from if_pos rfl) ▸ kf_1258
theorem mw_140 : eh_cw mq_140 ∈ fx_Ts := (show eh_cw mq_140 = _ from if_pos rfl) ▸ kf_1259
theorem mw_141 : eh_cw mq_141 ∈ fx_Ts := (show eh_cw mq_141 = _ from if_pos rfl) ▸ kf_1260
theorem mw_142 : eh_cw mq_142 ∈ fx_Ts := (show eh_cw mq_142 = _ from if_pos rfl) ▸ kf_1261
theorem mw_143 : eh_cw mq_143 ∈ fx_Ts := (show eh_cw mq_143 = _ from if_pos rfl) ▸ kf_1262
theorem mw_144 : eh_cw mq_144 ∈ fx_Ts := (show eh_cw mq_144 = _ from if_pos rfl) ▸ kf_1263
theorem mw_145 : eh_cw mq_145 ∈ fx_Ts := (show eh_cw mq_145 = _ from if_neg (by decide)) ▸ kf_1264
theorem mw_146 : eh_cw mq_146 ∈ fx_Ts := (show eh_cw mq_146 = _ from if_pos rfl) ▸ kf_1265
theorem mw_147 : eh_cw mq_147 ∈ fx_Ts := (show eh_cw mq_147 = _ from if_neg (by decide)) ▸ kf_1266
theorem mw_148 : eh_cw mq_148 ∈ fx_Ts := (show eh_cw mq_148 = _ from if_pos rfl) ▸ kf_1267
theorem mw_149 : eh_cw mq_149 ∈ fx_Ts := (show eh_cw mq_149 = _ from if_neg (by decide)) ▸ kf_1268
theorem mw_150 : eh_cw mq_150 ∈ fx_Ts := (show eh_cw mq_150 = _ from if_neg (by decide)) ▸ kf_1269
theorem mw_151 : eh_cw mq_151 ∈ fx_Ts := (show eh_cw mq_151 = _ from if_pos rfl) ▸ kf_1270
theorem mw_152 : eh_cw mq_152 ∈ fx_Ts := (show eh_cw mq_152 = _ from if_pos rfl) ▸ kf_1271
theorem mw_153 : eh_cw mq_153 ∈ fx_Ts := (show eh_cw mq_153 = _ from if_neg (by decide)) ▸ kf_1272
theorem mw_154 : eh_cw mq_154 ∈ fx_Ts := (show eh_cw mq_154 = _ from if_neg (by decide)) ▸ kf_1273
theorem mw_155 : eh_cw mq_155 ∈ fx_Ts := (show eh_cw mq_155 = _ from if_pos rfl) ▸ kf_1274
theorem mw_156 : eh_cw mq_156 ∈ fx_Ts := (show eh_cw mq_156 = _ from if_pos rfl) ▸ kf_1275
theorem mw_157 : eh_cw mq_157 ∈ fx_Ts := (show eh_cw mq_157 = _ from if_pos rfl) ▸ kf_1276
theorem mw_158 : eh_cw mq_158 ∈ fx_Ts := (show eh_cw mq_158 = _ from if_pos rfl) ▸ kf_1277
theorem mw_159 : eh_cw mq_159 ∈ fx_Ts := (show eh_cw mq_159 = _ from if_pos rfl) ▸ kf_1278
theorem mw_160 : eh_cw mq_160 ∈ fx_Ts := (show eh_cw mq_160 = _ from if_pos rfl) ▸ kf_1279
theorem mw_161 : eh_cw mq_161 ∈ fx_Ts := (show eh_cw mq_161 = _ from if_pos rfl) ▸ kf_1280
theorem mw_162 : eh_cw mq_162 ∈ fx_Ts := (show eh_cw mq_162 = _ from if_pos rfl) ▸ kf_1281
theorem mw_163 : eh_cw mq_163 ∈ fx_Ts := (show eh_cw mq_163 = _ from if_pos rfl) ▸ kf_1282
theorem mw_164 : eh_cw mq_164 ∈ fx_Ts := (show eh_cw mq_164 = _ from if_pos rfl) ▸ kf_1283
theorem mw_165 : eh_cw mq_165 ∈ fx_Ts := (show eh_cw mq_165 = _ from if_pos rfl) ▸ kf_1284
theorem mw_166 : eh_cw mq_166 ∈ fx_Ts := (show eh_cw mq_166 = _ from if_pos rfl) ▸ kf_1285
theorem mw_167 : eh_cw mq_167 ∈ fx_Ts := (show eh_cw mq_167 = _ from if_pos rfl) ▸ kf_1286
theorem mw_168 : eh_cw mq_168 ∈ fx_Ts := (show eh_cw mq_168 = _ from if_pos rfl) ▸ kf_1287
theorem mw_169 : eh_cw mq_169 ∈ fx_Ts := (show eh_cw mq_169 = _ from if_pos rfl) ▸ kf_1288
theorem mw_170 : eh_cw mq_170 ∈ fx_Ts := (show eh_cw mq_170 = _ from if_pos rfl) ▸ kf_1289
theorem mw_171 : eh_cw mq_171 ∈ fx_Ts := (show eh_cw mq_171 = _ from if_pos rfl) ▸ kf_1290
theorem mw_172 : eh_cw mq_172 ∈ fx_Ts := (show eh_cw mq_172 = _ from if_pos rfl) ▸ kf_1291
theorem mw_173 : eh_cw mq_173 ∈ fx_Ts := (show eh_cw mq_173 = _ from if_pos rfl) ▸ kf_1292
theorem mw_174 : eh_cw mq_174 ∈ fx_Ts := (show eh_cw mq_174 = _ from if_pos rfl) ▸ kf_1293
theorem mw_175 : eh_cw mq_175 ∈ fx_Ts := (show eh_cw mq_175 = _ from if_pos rfl) ▸ kf_1294
theorem mw_176 : eh_cw mq_176 ∈ fx_Ts := (show eh_cw mq_176 = _ from if_pos rfl) ▸ kf_1295
theorem mw_177 : eh_cw mq_177 ∈ fx_Ts := (show eh_cw mq_177 = _ from if_pos rfl) ▸ kf_1296
theorem mw_178 : eh_cw mq_178 ∈ fx_Ts := (show eh_cw mq_178 = _ from if_pos rfl) ▸ kf_1297
theorem mw_179 : eh_cw mq_179 ∈ fx_Ts := (show eh_cw mq_179 = _ from if_pos rfl) ▸ kf_1298
theorem mw_180 : eh_cw mq_180 ∈ fx_Ts := (show eh_cw mq_180 = _ from if_pos rfl) ▸ kf_1299
theorem mw_181 : eh_cw mq_181 ∈ fx_Ts := (show eh_cw mq_181 = _ from if_pos rfl) ▸ kf_1300
theorem mw_182 : eh_cw mq_182 ∈ fx_Ts := (show eh_cw mq_182 = _ from if_neg (by decide)) ▸ kf_1301
theorem mw_183 : eh_cw mq_183 ∈ fx_Ts := (show eh_cw mq_183 = _ from if_pos rfl) ▸ kf_1302
theorem mw_184 : eh_cw mq_184 ∈ fx_Ts := (show eh_cw mq_184 = _ from if_pos rfl) ▸ kf_1303
theorem mw_185 : eh_cw mq_185 ∈ fx_Ts := (show eh_cw mq_185 = _ from if_pos rfl) ▸ kf_1304
theorem mw_186 : eh_cw mq_186 ∈ fx_Ts := (show eh_cw mq_186 = _ from if_pos rfl) ▸ kf_1305
theorem mw_187 : eh_cw mq_187 ∈ fx_Ts := (show eh_cw mq_187 = _ from if_neg (by decide)) ▸ kf_1306
theorem mw_188 : eh_cw mq_188 ∈ fx_Ts := (show eh_cw mq_188 = _ from if_neg (by decide)) ▸ kf_1307
theorem mw_189 : eh_cw mq_189 ∈ fx_Ts := (show eh_cw mq_189 = _ from if_pos rfl) ▸ kf_1308
theorem mw_190 : eh_cw mq_190 ∈ fx_Ts := (show eh_cw mq_190 = _ from if_pos rfl) ▸ kf_1309
theorem mw_191 : eh_cw mq_191 ∈ fx_Ts := (show eh_cw mq_191 = _ from if_pos rfl) ▸ kf_1310
theorem mw_192 : eh_cw mq_192 ∈ fx_Ts := (show eh_cw mq_192 = _ from if_pos rfl) ▸ kf_1311
theorem mw_193 : eh_cw mq_193 ∈ fx_Ts := (show eh_cw mq_193 = _ from if_pos rfl) ▸ kf_1312
theorem mw_194 : eh_cw mq_194 ∈ fx_Ts := (show eh_cw mq_194 = _ from if_pos rfl) ▸ kf_1313
theorem mw_195 : eh_cw mq_195 ∈ fx_Ts := (show eh_cw mq_195 = _ from if_pos rfl) ▸ kf_1314
theorem mw_196 : eh_cw mq_196 ∈ fx_Ts := (show eh_cw mq_196 = _ from if_pos rfl) ▸ kf_1315
theorem mw_197 : eh_cw mq_197 ∈ fx_Ts := (show eh_cw mq_197 = _ from if_pos rfl) ▸ kf_1316
theorem mw_198 : eh_cw mq_198 ∈ fx_Ts := (show eh_cw mq_198 = _ from if_pos rfl) ▸ kf_1317
theorem mw_199 : eh_cw mq_199 ∈ fx_Ts := (show eh_cw mq_199 = _ from if_pos rfl) ▸ kf_1318
theorem mw_200 : eh_cw mq_200 ∈ fx_Ts := (show eh_cw mq_200 = _ from if_pos rfl) ▸ kf_1319
theorem mw_201 : eh_cw mq_201 ∈ fx_Ts := (show eh_cw mq_201 = _ from if_pos rfl) ▸ kf_1320
theorem mw_202 : eh_cw mq_202 ∈ fx_Ts := (show eh_cw mq_202 = _ from if_neg (by decide)) ▸ kf_1321
theorem mw_203 : eh_cw mq_203 ∈ fx_Ts := (show eh_cw mq_203 = _ from if_pos rfl) ▸ kf_1322
theorem mw_204 : eh_cw mq_204 ∈ fx_Ts := (show eh_cw mq_204 = _ from if_pos rfl) ▸ kf_1323
theorem mw_205 : eh_cw mq_205 ∈ fx_Ts := (show eh_cw mq_205 = _ from if_pos rfl) ▸ kf_1324
theorem mw_206 : eh_cw mq_206 ∈ fx_Ts := (show eh_cw mq_206 = _ from if_pos rfl) ▸ kf_1325
theorem mw_207 : eh_cw mq_207 ∈ fx_Ts := (show eh_cw mq_207 = _ from if_pos rfl) ▸ kf_1326
theorem mw_208 : eh_cw mq_208 ∈ fx_Ts := (show eh_cw mq_208 = _ from if_pos rfl) ▸ kf_1327
theorem mw_209 : eh_cw mq_209 ∈ fx_Ts := (show eh_cw mq_209 = _ from if_pos rfl) ▸ kf_1328
theorem mw_210 : eh_cw mq_210 ∈ fx_Ts := (show eh_cw mq_210 = _ from if_pos rfl) ▸ kf_1329
theorem mw_211 : eh_cw mq_211 ∈ fx_Ts := (show eh_cw mq_211 = _ from if_pos rfl) ▸ kf_1330
theorem mw_212 : eh_cw mq_212 ∈ fx_Ts := (show eh_cw mq_212 = _ from if_pos rfl) ▸ kf_1331
theorem mw_213 : eh_cw mq_213 ∈ fx_Ts := (show eh_cw mq_213 = _ from if_pos rfl) ▸ kf_1332
theorem mw_214 : eh_cw mq_214 ∈ fx_Ts := (show eh_cw mq_214 = _ from if_pos rfl) ▸ kf_1333
theorem mw_215 : eh_cw mq_215 ∈ fx_Ts := (show eh_cw mq_215 = _ from if_pos rfl) ▸ kf_1334
theorem mw_216 : eh_cw mq_216 ∈ fx_Ts := (show eh_cw mq_216 = _ from if_neg (by decide)) ▸ kf_1335
theorem mw_217 : eh_cw mq_217 ∈ fx_Ts := (show eh_cw mq_217 = _ from if_pos rfl) ▸ kf_1336
theorem mw_218 : eh_cw mq_218 ∈ fx_Ts := (show eh_cw mq_218 = _ from if_pos rfl) ▸ kf_1337
theorem mw_219 : eh_cw mq_219 ∈ fx_Ts := (show eh_cw mq_219 = _ from if_pos rfl) ▸ kf_1338
theorem mw_220 : eh_cw mq_220 ∈ fx_Ts := (show eh_cw mq_220 = _ from if_pos rfl) ▸ kf_1339
theorem mw_221 : eh_cw mq_221 ∈ fx_Ts := (show eh_cw mq_221 = _ from if_pos rfl) ▸ kf_1340
theorem mw_222 : eh_cw mq_222 ∈ fx_Ts := (show eh_cw mq_222 = _ from if_pos rfl) ▸ kf_1341
theorem mw_223 : eh_cw mq_223 ∈ fx_Ts := (show eh_cw mq_223 = _ from if_pos rfl) ▸ kf_1342
theorem mw_224 : eh_cw mq_224 ∈ fx_Ts := (show eh_cw mq_224 = _ from if_pos rfl) ▸ kf_1343
theorem mw_225 : eh_cw mq_225 ∈ fx_Ts := (show eh_cw mq_225 = _ from if_pos rfl) ▸ kf_1344
theorem mw_226 : eh_cw mq_226 ∈ fx_Ts := (show eh_cw mq_226 = _ from if_neg (by decide)) ▸ kf_1345
theorem mw_227 : eh_cw mq_227 ∈ fx_Ts := (show eh_cw mq_227 = _ from if_neg (by decide)) ▸ kf_1346
theorem mw_228 : eh_cw mq_228 ∈ fx_Ts := (show eh_cw mq_228 = _ from if_neg (by decide)) ▸ kf_1347
theorem mw_229 : eh_cw mq_229 ∈ fx_Ts := (show eh_cw mq_229 = _ from if_pos rfl) ▸ kf_1348
theorem mw_230 : eh_cw mq_230 ∈ fx_Ts := (show eh_cw mq_230 = _ from if_neg (by decide)) ▸ kf_1349
theorem mw_231 : eh_cw mq_231 ∈ fx_Ts := (show eh_cw mq_231 = _ from if_neg (by decide)) ▸ kf_1350
theorem mw_232 : eh_cw mq_232 ∈ fx_Ts := (show eh_cw mq_232 = _ from if_pos rfl) ▸ kf_1351
theorem mw_233 : eh_cw mq_233 ∈ fx_Ts := (show eh_cw mq_233 = _ from if_pos rfl) ▸ kf_1352
theorem mw_234 : eh_cw mq_234 ∈ fx_Ts := (show eh_cw mq_234 = _ from if_pos rfl) ▸ kf_1353
theorem mw_235 : eh_cw mq_235 ∈ fx_Ts := (show eh_cw mq_235 = _ from if_pos rfl) ▸ kf_1354
theorem mw_236 : eh_cw mq_236 ∈ fx_Ts := (show eh_cw mq_236 = _ from if_neg (by decide)) ▸ kf_1355
theorem mw_237 : eh_cw mq_237 ∈ fx_Ts := (show eh_cw mq_237 = _ from if_neg (by decide)) ▸ kf_1356
theorem mw_238 : eh_cw mq_238 ∈ fx_Ts := (show eh_cw mq_238 = _ from if_neg (by decide)) ▸ kf_1357
theorem mw_239 : eh_cw mq_239 ∈ fx_Ts := (show eh_cw mq_239 = _ from if_pos rfl) ▸ kf_1358
theorem mw_240 : eh_cw mq_240 ∈ fx_Ts := (show eh_cw mq_240 = _ from if_pos rfl) ▸ kf_1359
theorem mw_241 : eh_cw mq_241 ∈ fx_Ts := (show eh_cw mq_241 = _ from if_pos rfl) ▸ kf_1360
theorem mw_242 : eh_cw mq_242 ∈ fx_Ts := (show eh_cw mq_242 = _ from if_pos rfl) ▸ kf_1361
theorem mw_243 : eh_cw mq_243 ∈ fx_Ts := (show eh_cw mq_243 = _ from if_pos rfl) ▸ kf_1362
theorem mw_244 : eh_cw mq_244 ∈ fx_Ts := (show eh_cw mq_244 = _ from if_neg (by decide)) ▸ kf_1363
theorem mw_245 : eh_cw mq_245 ∈ fx_Ts := (show eh_cw mq_245 = _ from if_pos rfl) ▸ kf_1364
theorem mw_246 : eh_cw mq_246 ∈ fx_Ts := (show eh_cw mq_246 = _ from if_neg (by decide)) ▸ kf_1365
theorem mw_247 : eh_cw mq_247 ∈ fx_Ts := (show eh_cw mq_247 = _ from if_pos rfl) ▸ kf_1366
theorem mw_248 : eh_cw mq_248 ∈ fx_Ts := (show eh_cw mq_248 = _ from if_pos rfl) ▸ kf_1367
theorem mw_249 : eh_cw mq_249 ∈ fx_Ts := (show eh_cw mq_249 = _ from if_pos rfl) ▸ kf_1368
theorem mw_250 : eh_cw mq_250 ∈ fx_Ts := (show eh_cw mq_250 = _ from if_pos rfl) ▸ kf_1369
theorem mw_251 : eh_cw mq_251 ∈ fx_Ts := (show eh_cw mq_251 = _ from if_neg (by decide)) ▸ kf_1370
theorem mw_252 : eh_cw mq_252 ∈ fx_Ts := (show eh_cw mq_252 = _ from if_neg (by decide)) ▸ kf_1371
theorem mw_253 : eh_cw mq_253 ∈ fx_Ts := (show eh_cw mq_253 = _ from if_neg (by decide)) ▸ kf_1372
theorem mw_254 : eh_cw mq_254 ∈ fx_Ts := (show eh_cw mq_254 = _ from if_neg (by decide)) ▸ kf_1373
theorem mw_255 : eh_cw mq_255 ∈ fx_Ts := (show eh_cw mq_255 = _ from if_pos rfl) ▸ kf_1374
theorem mw_256 : eh_cw mq_256 ∈ fx_Ts := (show eh_cw mq_256 = _ from if_pos rfl) ▸ kf_1375
theorem mw_257 : eh_cw mq_257 ∈ fx_Ts := (show eh_cw mq_257 = _ from if_pos rfl) ▸ kf_1376
theorem mw_258 : eh_cw mq_258 ∈ fx_Ts := (show eh_cw mq_258 = _ from if_neg (by decide)) ▸ kf_1377
theorem mw_259 : eh_cw mq_259 ∈ fx_Ts := (show eh_cw mq_259 = _ from if_pos rfl) ▸ kf_1378
theorem mw_260 : eh_cw mq_260 ∈ fx_Ts := (show eh_cw mq_260 = _ from if_pos rfl) ▸ kf_1379
theorem mw_261 : eh_cw mq_261 ∈ fx_Ts := (show eh_cw mq_261 = _ from if_pos rfl) ▸ kf_1380
theorem mw_262 : eh_cw mq_262 ∈ fx_Ts := (show eh_cw mq_262 = _ from if_pos rfl) ▸ kf_1381
theorem mw_263 : eh_cw mq_263 ∈ fx_Ts := (show eh_cw mq_263 = _ from if_pos rfl) ▸ kf_1382
theorem mw_264 : eh_cw mq_264 ∈ fx_Ts := (show eh_cw mq_264 = _ from if_pos rfl) ▸ kf_1383
theorem mw_265 : eh_cw mq_265 ∈ fx_Ts := (show eh_cw mq_265 = _ from if_pos rfl) ▸ kf_1384
theorem mw_266 : eh_cw mq_266 ∈ fx_Ts := (show eh_cw mq_266 = _ from if_pos rfl) ▸ kf_1385
theorem mw_267 : eh_cw mq_267 ∈ fx_Ts := (show eh_cw mq_267 = _ from if_pos rfl) ▸ kf_1386
theorem mw_268 : eh_cw mq_268 ∈ fx_Ts := (show eh_cw mq_268 = _ from if_pos rfl) ▸ kf_1387
theorem mw_269 : eh_cw mq_269 ∈ fx_Ts := (show eh_cw mq_269 = _ from if_pos rfl) ▸ kf_1388
theorem mw_270 : eh_cw mq_270 ∈ fx_Ts := (show eh_cw mq_270 = _ from if_pos rfl) ▸ kf_1389
theorem mw_271 : eh_cw mq_271 ∈ fx_Ts := (show eh_cw mq_271 = _ from if_pos rfl) ▸ kf_1390
theorem mw_272 : eh_cw mq_272 ∈ fx_Ts := (show eh_cw mq_272 = _ from if_pos rfl) ▸ kf_1391
theorem mw_273 : eh_cw mq_273 ∈ fx_Ts := (show eh_cw mq_273 = _ from if_pos rfl) ▸ kf_1392
theorem mw_274 : eh_cw mq_274 ∈ fx_Ts := (show eh_cw mq_274 = _ from if_pos rfl) ▸ kf_1393
theorem mw_275 : eh_cw mq_275 ∈ fx_Ts := (show eh_cw mq_275 = _ from if_pos rfl) ▸ kf_1394
theorem mw_276 : eh_cw mq_276 ∈ fx_Ts := (show eh_cw mq_276 = _ from if_pos rfl) ▸ kf_1395
theorem mw_277 : eh_cw mq_277 ∈ fx_Ts := (show eh_cw mq_277 = _ from if_pos rfl) ▸ kf_1396
theorem mw_278 : eh_cw mq_278 ∈ fx_Ts := (show eh_cw mq_278 = _ from if_pos rfl) ▸ kf_1397
theorem mw_279 : eh_cw mq_279 ∈ fx_Ts := (show eh_cw mq_279 = _ from if_pos rfl) ▸ kf_1398
theorem mw_280 : eh_cw mq_280 ∈ fx_Ts := (show eh_cw mq_280 = _ from if_pos rfl) ▸ kf_1399
theorem mw_281 : eh_cw mq_281 ∈ fx_Ts := (show eh_cw mq_281 = _ from if_pos rfl) ▸ kf_1400
theorem mw_282 : eh_cw mq_282 ∈ fx_Ts := (show eh_cw mq_282 = _ from if_pos rfl) ▸ kf_1401
theorem mw_283 : eh_cw mq_283 ∈ fx_Ts := (show eh_cw mq_283 = _ from if_pos rfl) ▸ kf_1402
theorem mw_284 : eh_cw mq_284 ∈ fx_Ts := (show eh_cw mq_284 = _ from if_pos rfl) ▸ kf_1403
theorem mw_285 : eh_cw mq_285 ∈ fx_Ts := (show eh_cw mq_285 = _ from if_pos rfl) ▸ kf_1404
