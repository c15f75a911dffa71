/-! ===== plans ===== -/
def absd (x : Int32) : Int32 := if 0 ≤ x then x else 0 - x
def plF (ω : Nat → Int32) (nj : Nat) (fu : Int32) : Int32 := if absd (ω (nj - 1) - fu) < absd (ω 0 - fu) then 1 else 0
def plA (ω : Nat → Int32) (nj : Nat) (fu : Int32) (x : Nat) : Int32 := if plF ω nj fu = 0 then ω x else ω (nj - 1 - x)
theorem plF_n (ω : Nat → Int32) (nj : Nat) (fu : Int32) : narrow .boolean (.int (plF ω nj fu)) = .int (plF ω nj fu) := by
  unfold plF
  split <;> rfl
