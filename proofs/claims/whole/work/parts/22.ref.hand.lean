/-! The reference: its small sums. -/
theorem in_ok {n : Nat} {y : Int32} (hn : n < 2 ^ 31) : (0 ≤ y ∧ y ≤ nI n - 1) ↔ okI n y := by
  have h0 : (0 : Int32).toInt = 0 := rfl
  have h1 : (nI n - 1).toInt = (n : Int) - 1 := by
    rw [Int32.toInt_sub, nI_toInt hn]
    have : (1 : Int32).toInt = 1 := rfl
    rw [this]
    exact Int.bmod_eq_of_le (by omega) (by omega)
  unfold okI
  rw [Int32.le_iff_toInt_le, Int32.le_iff_toInt_le, Int32.le_iff_toInt_le, Int32.lt_iff_toInt_lt, h0, h1, nI_toInt hn]
  omega
theorem in_i {n : Nat} {y h : Int32} (hn : n < 2 ^ 31) (e : h = nI n - 1) : (if 0 ≤ y ∧ y ≤ h then (1 : Int32) else 0) = if okI n y then 1 else 0 := by
  rw [e]
  by_cases z : okI n y
  · rw [if_pos z, if_pos ((in_ok hn).mpr z)]
  · rw [if_neg z, if_neg (fun q => z ((in_ok hn).mp q))]
theorem zb_if {q : Prop} [Decidable q] : narrow .boolean (.int (if q then (1 : Int32) else 0)) = .int (if q then 1 else 0) := by
  by_cases z : q
  · rw [if_pos z]; rfl
  · rw [if_neg z]; rfl
def rIn (κ : Nat → Nat) (σ : Nat → Nat → Int32) (b k i : Nat) : Int32 := if i < nmd k then rkX κ σ b i else 0
/-- a wire leads to a block or to nothing -/
def okW (κ : Nat → Nat) (σ : Nat → Nat → Int32) (b i : Nat) : Prop := σ 9 (3 * b + i) = -1 ∨ okI (κ 0) (σ 9 (3 * b + i))
theorem outV_no {n : Nat} {σ : Nat → Nat → Int32} : outV n σ (-1) = 0 := if_neg (fun z => z.1 (by decide))
