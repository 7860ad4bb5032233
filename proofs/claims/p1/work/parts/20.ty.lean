/-! Types of an executor that the kernel can run. -/
abbrev fx_V : Type := Nat × Nat
abbrev fx_A : Type := Std.Format
abbrev fx_C : Type := Nat × Nat × Nat × fx_A × List fx_V
def fx_T (d : Nat) : Type := Nat.rec (motive := fun _ => Type) fx_C (fun _ T => T × T) d
abbrev fx_R : Type := List (Nat × Nat)
abbrev fx_H : Type := fx_T 7 × Nat × Nat × fx_R
abbrev fx_O : Type := Nat × fx_V
abbrev fx_K : Type := fx_O → fx_H → Bool
abbrev fx_Q : Type := ev_Q × List ev_M
/-- a frame: how deep calls may go, which method, its tables, what goes on behind it -/
abbrev fx_X : Type := Nat × Nat × fx_Q × fx_K
abbrev fx_F : Type := fx_X → Nat → ev_M → List fx_V → List fx_V → fx_H → Bool
abbrev fx_W : Type := fx_F → fx_X → Nat → ev_M → (Nat × Nat × Nat × Nat) → List fx_V → List fx_V → fx_H → Bool
