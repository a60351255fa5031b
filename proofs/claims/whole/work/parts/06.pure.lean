/-! The system as numbers: what each thing does to the memory. -/
/-- a number of 0 .. N - 1 -/
abbrev okI (N : Nat) (x : Int32) : Prop := ¬ x < 0 ∧ ¬ nI N ≤ x
theorem ix_of {n : Nat} {x : Int32} (hn : n < 2 ^ 31) (h1 : ¬ x < 0) (h2 : ¬ nI n ≤ x) : ∃ j : Nat, j < n ∧ x = nI j := by
  rcases pk_ix x hn with h | h | h
  · exact absurd h h1
  · exact absurd h h2
  · exact h
theorem okI_at {n j : Nat} (hj : j < n) (hn : n < 2 ^ 31) : okI n (nI j) := ⟨nI_pos (Nat.lt_trans hj hn), nI_ge hj hn⟩
theorem ix_nb {n : Nat} {x : Int32} (hn : n < 2 ^ 31) (h : nI n ≤ x) : ¬ x < 0 := by
  intro z
  rw [Int32.lt_iff_toInt_lt] at z
  rw [Int32.le_iff_toInt_le, nI_toInt hn] at h
  have : (0 : Int32).toInt = 0 := rfl
  omega
theorem nmd_le (k : Nat) : nmd k ≤ 3 := by
  by_cases h : k < 26
  · have h2 : ∀ k : Fin 26, nmd k.val ≤ 3 := by decide
    exact h2 ⟨k, h⟩
  · unfold nmd
    rw [List.getD_eq_getElem?_getD, List.getElem?_eq_none (by simp only [List.length_cons, List.length_nil]; omega)]
    decide
/-- a block says a value: in hand the hand's -/
def say (σ : Nat → Nat → Int32) (b : Nat) (v : Int32) : Nat → Nat → Int32 := wr σ 4 b (if σ 7 b = 0 then v else σ 8 b)
/-- what a wire brings -/
def outV (n : Nat) (σ : Nat → Nat → Int32) (w : Int32) : Int32 := if okI n w then σ 4 w.toNatClampNeg else 0
theorem outV_at {n j : Nat} {σ : Nat → Nat → Int32} (hj : j < n) (hn : n < 2 ^ 31) : outV n σ (nI j) = σ 4 j := by
  unfold outV
  rw [if_pos (okI_at hj hn), nI_clamp (Nat.lt_trans hj hn)]
/-- a wire that a kind names is wanting -/
def lack (σ : Nat → Nat → Int32) (k b : Nat) : Bool := (List.range (nmd k)).any fun i => decide (σ 9 (3 * b + i) = -1)
theorem lack_t {σ : Nat → Nat → Int32} {k b i : Nat} (hi : i < nmd k) (h : σ 9 (3 * b + i) = -1) : lack σ k b = true := List.any_eq_true.mpr ⟨i, List.mem_range.mpr hi, decide_eq_true h⟩
theorem lack_f {σ : Nat → Nat → Int32} {k b : Nat} (h : ∀ i, i < nmd k → ¬ σ 9 (3 * b + i) = -1) : lack σ k b = false := by
  cases hl : lack σ k b with
  | false => rfl
  | true =>
    obtain ⟨i, hi, h2⟩ := List.any_eq_true.mp hl
    exact absurd (of_decide_eq_true h2) (h i (List.mem_range.mp hi))
/-- RAMP -/
def f_ramp (p o a : Int32) : Int32 :=
  if (if 0 < a.toInt64 - o.toInt64 then a.toInt64 - o.toInt64 else -(a.toInt64 - o.toInt64)) ≤ (if p < 0 then (0 : Int32) else p).toInt64 then a else if 0 < a.toInt64 - o.toInt64 then o + (if p < 0 then 0 else p) else o - (if p < 0 then 0 else p)
/-- COUNT, LATCH, PULSE, SUM, SINCE: the first value behind it -/
def f_count (f s a b : Int32) : Int32 := if b = 0 then (if a = 0 then f else if s = 0 then f + 1 else f) else 0
def f_latch (f a b : Int32) : Int32 := if a = 0 then (if b = 0 then f else 0) else 1
def f_pulse0 (p f s a : Int32) : Int32 := if a = 0 then f else if s = 0 then p else f
def f_clock (p q m : Int32) : Bool := if p ≤ q then decide (p ≤ m ∧ m < q) else decide (p ≤ m ∨ m < q)
def f_limit (p q a : Int32) : Int32 := if a < p then p else if q < a then q else a
def f_sum (f a b : Int32) : Int32 := if b = 0 then f + a else 0
def f_since (p f a : Int32) : Int32 := if p < (if a = 0 then 0 else f + 1) then p else (if a = 0 then 0 else f + 1)
/-- what the kinds with numbers, rows or states of their own say, and their state behind it -/
def f_own (σ : Nat → Nat → Int32) (k b : Nat) (x y tm : Int32) : Int32 := match k with
  | 1 => σ 1 b
  | 15 => σ 10 (8 * b + x.toNatClampNeg)
  | 16 => σ 5 b
  | 17 => f_ramp (σ 1 b) (σ 4 b) x
  | 18 => f_count (σ 5 b) (σ 6 b) x y
  | 19 => f_latch (σ 5 b) x y
  | 20 => if f_clock (σ 1 b) (σ 2 b) tm then 1 else 0
  | 21 => if 0 < f_pulse0 (σ 1 b) (σ 5 b) (σ 6 b) x then 1 else 0
  | 22 => f_limit (σ 1 b) (σ 2 b) x
  | 23 => if y = 0 then x else σ 4 b
  | 24 => f_sum (σ 5 b) x y
  | 25 => f_since (σ 1 b) (σ 5 b) x
  | _ => 0
def f_fst (σ : Nat → Nat → Int32) (k b : Nat) (x y : Int32) : Int32 := match k with
  | 18 => f_count (σ 5 b) (σ 6 b) x y
  | 19 => f_latch (σ 5 b) x y
  | 21 => if 0 < f_pulse0 (σ 1 b) (σ 5 b) (σ 6 b) x then f_pulse0 (σ 1 b) (σ 5 b) (σ 6 b) x - 1 else f_pulse0 (σ 1 b) (σ 5 b) (σ 6 b) x
  | 24 => f_sum (σ 5 b) x y
  | 25 => f_since (σ 1 b) (σ 5 b) x
  | _ => σ 5 b
def f_snd (σ : Nat → Nat → Int32) (k b : Nat) (x : Int32) : Int32 := match k with
  | 18 => x
  | 21 => x
  | _ => σ 6 b
def ownS (σ : Nat → Nat → Int32) (k b : Nat) (x y : Int32) : Nat → Nat → Int32 := wr (wr σ 5 b (f_fst σ k b x y)) 6 b (f_snd σ k b x)
/-- what the kinds of inputs alone say -/
def f_comb (k : Nat) (x y z : Int32) : Int32 := match k with
  | 2 => x + y
  | 3 => x - y
  | 4 => x * y
  | 5 => if y = 0 then 0 else x / y
  | 6 => x - y * (if y = 0 then 0 else x / y)
  | 7 => if y < x then y else x
  | 8 => if x < y then y else x
  | 9 => if x < y then 1 else 0
  | 10 => if x = y then 1 else 0
  | 11 => if x = 0 then 0 else if y = 0 then 0 else 1
  | 12 => if x = 0 then (if y = 0 then 0 else 1) else 1
  | 13 => if x = 0 then 1 else 0
  | 14 => if x = 0 then z else y
  | _ => 0
/-- how a block fails: 0 not at all -/
def f_fail (σ : Nat → Nat → Int32) (k b : Nat) (x y : Int32) : Nat :=
  if k ≠ 16 ∧ lack σ k b = true then 3 else if k = 0 then (if okI 10 (σ 1 b) then 0 else 2) else if k = 15 then (if okI 8 x then 0 else 2) else if k = 5 ∨ k = 6 then (if y = 0 then 1 else 0) else 0
theorem wr_wr {σ : Nat → Nat → Int32} {f i : Nat} {v w : Int32} : wr (wr σ f i v) f i w = wr σ f i w := by
  funext g j
  by_cases hg : g = f <;> by_cases hj : j = i <;> simp [wr, hg, hj]
theorem wr_id {σ : Nat → Nat → Int32} {f i : Nat} : wr σ f i (σ f i) = σ := wr_same rfl
theorem wr_comm {σ : Nat → Nat → Int32} {f i g j : Nat} {v w : Int32} (h : f ≠ g) : wr (wr σ f i v) g j w = wr (wr σ g j w) f i v := by
  funext a c
  by_cases h1 : a = f
  · by_cases h2 : a = g
    · exact absurd (h1.symm.trans h2) h
    · simp [wr, h1, h]
  · by_cases h2 : a = g <;> simp [wr, h1, h2, Ne.symm h]
theorem wr_65 {σ : Nat → Nat → Int32} {i j : Nat} {v w : Int32} : wr (wr σ 6 i v) 5 j w = wr (wr σ 5 j w) 6 i v := wr_comm (by decide)
theorem wr_id6 {σ : Nat → Nat → Int32} {i j : Nat} {v : Int32} : wr (wr σ 5 i v) 6 j (σ 6 j) = wr σ 5 i v := wr_same (wr_f (by decide))
/-- a failure is told -/
def noteK (κ : Nat → Nat) : Nat → Nat := va_up κ 2 (κ 2 + 1)
def noteX (κ : Nat → Nat) (σ : Nat → Nat → Int32) (tk nb : Int32) (k : Nat) : Nat → Nat → Int32 :=
  wr (wr (wr (wr σ 23 (κ 2 % 32) tk) 24 (κ 2 % 32) nb) 25 (κ 2 % 32) (nI k)) 22 0 (σ 22 0 + 1)
def noteS (κ : Nat → Nat) (σ : Nat → Nat → Int32) (tk nb : Int32) (k : Nat) : Nat → Nat → Int32 := wr (noteX κ σ tk nb k) 22 k (noteX κ σ tk nb k 22 k + 1)
/-- a block fails -/
def failS (κ : Nat → Nat) (σ : Nat → Nat → Int32) (b k : Nat) : Nat → Nat → Int32 := say (noteS κ σ (nI (κ 3)) (nI b) k) b (σ 3 b)
theorem lk_f {q : Bool} (h : (if q = true then (1 : Int32) else 0) = 0) : q = false := by
  cases q
  · rfl
  · exact absurd h (by decide)
theorem lk_t {q : Bool} (h : ¬ (if q = true then (1 : Int32) else 0) = 0) : q = true := by
  cases q
  · exact absurd rfl h
  · rfl
theorem lp_f {q : Prop} [Decidable q] (h : (if q then (1 : Int32) else 0) = 0) : ¬ q := by
  intro hq
  rw [if_pos hq] at h
  exact absurd h (by decide)
theorem lp_t {q : Prop} [Decidable q] (h : ¬ (if q then (1 : Int32) else 0) = 0) : q := by
  by_cases hq : q
  · exact hq
  · rw [if_neg hq] at h
    exact absurd rfl h
/-- the place of the k-th latest failure -/
theorem f_mod : ∀ a : Fin 32, ∀ k : Fin 32, (fun x : Int32 => if 0 ≤ x ^^^ 32 then x - x / 32 * 32 else if x - x / 32 * 32 = 0 then x - x / 32 * 32 else x - x / 32 * 32 + 32) (nI a.val - 1 - nI k.val) = nI ((a.val + 31 - k.val) % 32) := by decide +kernel
/-- a method of a class that has natives, but none in its place -/
theorem Met.ofWF {l : Launch} {y : MethodName} {ws ws' : List Cond} {rm : Room} {Pc : Array Value → State → Prop} {Qc : Array Value → State → Outcome → State → Prop} {mc ms : Nat} {free : Addr → Prop} {cc : ByteArray} {maxL : Nat} {ret : Option FieldType}
    (hy : plainFor y = true) (hw : ws = Cond.code y cc maxL ret :: ws')
    (body : ∀ p e s m args below meth c s₁, BodyLoose p l y (headSpec ws rm) cc maxL ret e s m args below meth c s₁ → c.maxLocals = maxL → Pc args s →
      W p l e (headSpec ws rm).room s m args below meth c s.heap [] 0 0 (MQ below Qc args s mc ms free) (entryFrame m args maxL)) : Met l y ws rm Pc Qc mc ms free := by
  refine MetFree.of_bodySF (code := cc) (maxLocals := maxL) (ret := ret) hy ?_ ?_
  · intro args s m h hn
    obtain ⟨meth, c, h1, h2, h3, h4, h5, h6, -, -⟩ := Cond.code_spec hn (atoms_spec (ws := ws) h _ (by rw [hw]; exact List.mem_cons_self))
    exact ⟨meth, c, h1, h2, h3, h4, h5, h6⟩
  · intro p e s m args below meth c s₁ B hml hP _
    have hh0 : s₁.heap = s.heap := by rw [B.state]; rfl
    obtain ⟨t, a1, o, b1, b2, b3⟩ := body p e s m args below meth c s₁ B hml hP s₁ hh0 (Stand.of_body B)
    exact ⟨t, o, a1, b1, b2, ⟨b3.1, b3.2⟩⟩
