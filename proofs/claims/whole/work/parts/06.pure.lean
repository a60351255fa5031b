/-! The system as numbers: what each thing does to the memory. -/
/-- a number of 0 .. N - 1 -/
abbrev okI (N : Nat) (x : Int32) : Prop := ¬ x < 0 ∧ ¬ nI N ≤ x
theorem ix_of {n : Nat} {x : Int32} (hn : n < 2 ^ 31) (h1 : ¬ x < 0) (h2 : ¬ nI n ≤ x) : ∃ j : Nat, j < n ∧ x = nI j := by
  rcases pk_ix x hn with h | h | h
  · exact absurd h h1
  · exact absurd h h2
  · exact h
theorem okI_at {n j : Nat} (hj : j < n) (hn : n < 2 ^ 31) : okI n (nI j) := ⟨nI_pos (Nat.lt_trans hj hn), nI_ge hj hn⟩
theorem ix_nb {n : Nat} {x : Int32} (hn : n < 2 ^ 31) (h : nI n ≤ x) : ¬ x < 0 := by
  intro z
  rw [Int32.lt_iff_toInt_lt] at z
  rw [Int32.le_iff_toInt_le, nI_toInt hn] at h
  have : (0 : Int32).toInt = 0 := rfl
  omega
theorem nmd_le (k : Nat) : nmd k ≤ 3 := by
  by_cases h : k < 26
  · have h2 : ∀ k : Fin 26, nmd k.val ≤ 3 := by decide
    exact h2 ⟨k, h⟩
  · unfold nmd
    rw [List.getD_eq_getElem?_getD, List.getElem?_eq_none (by simp only [List.length_cons, List.length_nil]; omega)]
    decide
/-- a block says a value: in hand the hand's -/
def say (σ : Nat → Nat → Int32) (b : Nat) (v : Int32) : Nat → Nat → Int32 := wr σ 4 b (if σ 7 b = 0 then v else σ 8 b)
/-- what a wire brings -/
def outV (n : Nat) (σ : Nat → Nat → Int32) (w : Int32) : Int32 := if okI n w then σ 4 w.toNatClampNeg else 0
theorem outV_at {n j : Nat} {σ : Nat → Nat → Int32} (hj : j < n) (hn : n < 2 ^ 31) : outV n σ (nI j) = σ 4 j := by
  unfold outV
  rw [if_pos (okI_at hj hn), nI_clamp (Nat.lt_trans hj hn)]
/-- a wire that a kind names is wanting -/
def lack (σ : Nat → Nat → Int32) (k b : Nat) : Prop := ∃ i : Nat, i < nmd k ∧ σ 9 (3 * b + i) = -1
/-- RAMP -/
def f_ramp (p o a : Int32) : Int32 :=
  if (if 0 < a.toInt64 - o.toInt64 then a.toInt64 - o.toInt64 else -(a.toInt64 - o.toInt64)) ≤ (if p < 0 then (0 : Int32) else p).toInt64 then a else if 0 < a.toInt64 - o.toInt64 then o + (if p < 0 then 0 else p) else o - (if p < 0 then 0 else p)
/-- COUNT, LATCH, PULSE: the first value behind it -/
def f_count (f s a b : Int32) : Int32 := if b ≠ 0 then 0 else if a ≠ 0 ∧ s = 0 then f + 1 else f
def f_latch (f a b : Int32) : Int32 := if a ≠ 0 then 1 else if b ≠ 0 then 0 else f
def f_pulse0 (p f s a : Int32) : Int32 := if a ≠ 0 ∧ s = 0 then p else f
def f_clock (p q m : Int32) : Prop := if q < p then p ≤ m ∨ m < q else p ≤ m ∧ m < q
def f_limit (p q a : Int32) : Int32 := if a < p then p else if q < a then q else a
def f_sum (f a b : Int32) : Int32 := if b ≠ 0 then 0 else f + a
def f_since (p f a : Int32) : Int32 := if p < (if a ≠ 0 then f + 1 else 0) then p else (if a ≠ 0 then f + 1 else 0)
