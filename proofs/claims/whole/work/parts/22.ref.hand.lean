/-! The reference: its small sums. -/
theorem in_ok {n : Nat} {y : Int32} (hn : n < 2 ^ 31) : (0 ≤ y ∧ y ≤ nI n - 1) ↔ okI n y := by
  have h0 : (0 : Int32).toInt = 0 := rfl
  have h1 : (nI n - 1).toInt = (n : Int) - 1 := by
    rw [Int32.toInt_sub, nI_toInt hn]
    have : (1 : Int32).toInt = 1 := rfl
    rw [this]
    exact Int.bmod_eq_of_le (by omega) (by omega)
  unfold okI
  rw [Int32.le_iff_toInt_le, Int32.le_iff_toInt_le, Int32.le_iff_toInt_le, Int32.lt_iff_toInt_lt, h0, h1, nI_toInt hn]
  omega
theorem in_i {n : Nat} {y h : Int32} (hn : n < 2 ^ 31) (e : h = nI n - 1) : (if 0 ≤ y ∧ y ≤ h then (1 : Int32) else 0) = if okI n y then 1 else 0 := by
  rw [e]
  by_cases z : okI n y
  · rw [if_pos z, if_pos ((in_ok hn).mpr z)]
  · rw [if_neg z, if_neg (fun q => z ((in_ok hn).mp q))]
theorem zb_if {q : Prop} [Decidable q] : narrow .boolean (.int (if q then (1 : Int32) else 0)) = .int (if q then 1 else 0) := by
  by_cases z : q
  · rw [if_pos z]; rfl
  · rw [if_neg z]; rfl
def rIn (κ : Nat → Nat) (σ : Nat → Nat → Int32) (b k i : Nat) : Int32 := if i < nmd k then rkX κ σ b i else 0
/-- a wire leads to a block or to nothing -/
def okW (κ : Nat → Nat) (σ : Nat → Nat → Int32) (b i : Nat) : Prop := σ 9 (3 * b + i) = -1 ∨ okI (κ 0) (σ 9 (3 * b + i))
theorem outV_no {n : Nat} {σ : Nat → Nat → Int32} : outV n σ (-1) = 0 := if_neg (fun z => z.1 (by decide))

theorem rmp_d {a o : Int32} : (a.toInt64 - o.toInt64).toInt = a.toInt - o.toInt := by
  have h1 := a.toInt_lt
  have h2 := a.le_toInt
  have h3 := o.toInt_lt
  have h4 := o.le_toInt
  rw [Int64.toInt_sub, Int32.toInt_toInt64, Int32.toInt_toInt64]
  exact Int.bmod_eq_of_le (by omega) (by omega)
theorem rmp_s {p : Int32} : 0 ≤ (if p < 0 then (0 : Int32) else p).toInt := by
  have h0 : (0 : Int32).toInt = 0 := rfl
  by_cases h : p < 0
  · rw [if_pos h, h0]; omega
  · rw [if_neg h]
    rw [Int32.lt_iff_toInt_lt, h0] at h
    omega
theorem rmp_n {x : Int64} (h : -(2 ^ 40) ≤ x.toInt ∧ x.toInt ≤ 2 ^ 40) : (-x).toInt = -x.toInt := by
  rw [Int64.toInt_neg]
  exact Int.bmod_eq_of_le (by omega) (by omega)
theorem f_ramp_in {p o a : Int32} {s : Int64} (hs : s = (if p < 0 then (0 : Int32) else p).toInt64) (h1 : ¬ a.toInt64 - o.toInt64 < -s) (h2 : ¬ s < a.toInt64 - o.toInt64) : f_ramp p o a = a := by
  have k1 := a.toInt_lt
  have k2 := a.le_toInt
  have k3 := o.toInt_lt
  have k4 := o.le_toInt
  have hd := rmp_d (a := a) (o := o)
  have hp := rmp_s (p := p)
  have hq := (if p < 0 then (0 : Int32) else p).toInt_lt
  have e : s.toInt = (if p < 0 then (0 : Int32) else p).toInt := by rw [hs, Int32.toInt_toInt64]
  have hn : (-s).toInt = -s.toInt := rmp_n (by omega)
  have hm : (-(a.toInt64 - o.toInt64)).toInt = -(a.toInt64 - o.toInt64).toInt := rmp_n (by omega)
  unfold f_ramp
  rw [← hs]
  rw [if_pos]
  rw [Int64.lt_iff_toInt_lt] at h1 h2
  by_cases z : 0 < a.toInt64 - o.toInt64
  · rw [if_pos z, Int64.le_iff_toInt_le]
    omega
  · rw [if_neg z, Int64.le_iff_toInt_le]
    omega
theorem rmp_out {p o a : Int32} {s : Int64} (hs : s = (if p < 0 then (0 : Int32) else p).toInt64) (h : a.toInt64 - o.toInt64 < -s ∨ s < a.toInt64 - o.toInt64) : ¬ (if 0 < a.toInt64 - o.toInt64 then a.toInt64 - o.toInt64 else -(a.toInt64 - o.toInt64)) ≤ s := by
  have k1 := a.toInt_lt
  have k2 := a.le_toInt
  have k3 := o.toInt_lt
  have k4 := o.le_toInt
  have hd := rmp_d (a := a) (o := o)
  have hp := rmp_s (p := p)
  have hq := (if p < 0 then (0 : Int32) else p).toInt_lt
  have e : s.toInt = (if p < 0 then (0 : Int32) else p).toInt := by rw [hs, Int32.toInt_toInt64]
  have hn : (-s).toInt = -s.toInt := rmp_n (by omega)
  have hm : (-(a.toInt64 - o.toInt64)).toInt = -(a.toInt64 - o.toInt64).toInt := rmp_n (by omega)
  have h0 : (0 : Int64).toInt = 0 := rfl
  rw [Int64.lt_iff_toInt_lt, Int64.lt_iff_toInt_lt] at h
  by_cases z : 0 < a.toInt64 - o.toInt64
  · rw [if_pos z, Int64.le_iff_toInt_le]
    rw [Int64.lt_iff_toInt_lt] at z
    omega
  · rw [if_neg z, Int64.le_iff_toInt_le]
    rw [Int64.lt_iff_toInt_lt] at z
    omega
theorem f_ramp_up {p o a : Int32} {s : Int64} (hs : s = (if p < 0 then (0 : Int32) else p).toInt64) (h : a.toInt64 - o.toInt64 < -s ∨ s < a.toInt64 - o.toInt64) (h0 : 0 < a.toInt64 - o.toInt64) : f_ramp p o a = (o.toInt64 + s).toInt32 := by
  unfold f_ramp
  rw [← hs, if_neg (rmp_out hs h), if_pos h0, Int64.toInt32_add, Int32.toInt32_toInt64, hs, Int32.toInt32_toInt64]
theorem f_ramp_dn {p o a : Int32} {s : Int64} (hs : s = (if p < 0 then (0 : Int32) else p).toInt64) (h : a.toInt64 - o.toInt64 < -s ∨ s < a.toInt64 - o.toInt64) (h0 : ¬ 0 < a.toInt64 - o.toInt64) : f_ramp p o a = (o.toInt64 - s).toInt32 := by
  unfold f_ramp
  rw [← hs, if_neg (rmp_out hs h), if_neg h0, Int64.toInt32_sub, Int32.toInt32_toInt64, hs, Int32.toInt32_toInt64]

theorem note_comm {σ : Nat → Nat → Int32} {m k : Nat} {a v t n q : Int32} : wr (wr (wr (wr (wr σ 22 0 a) 22 k v) 23 m t) 24 m n) 25 m q = wr (wr (wr (wr (wr σ 23 m t) 24 m n) 25 m q) 22 0 a) 22 k v := by
  rw [wr_comm (f := 22) (g := 23) (σ := wr σ 22 0 a) (by decide), wr_comm (f := 22) (g := 23) (σ := σ) (by decide)]
  rw [wr_comm (f := 22) (g := 24) (σ := wr (wr σ 23 m t) 22 0 a) (by decide), wr_comm (f := 22) (g := 24) (σ := wr σ 23 m t) (by decide)]
  rw [wr_comm (f := 22) (g := 25) (σ := wr (wr (wr σ 23 m t) 24 m n) 22 0 a) (by decide), wr_comm (f := 22) (g := 25) (σ := wr (wr σ 23 m t) 24 m n) (by decide)]
