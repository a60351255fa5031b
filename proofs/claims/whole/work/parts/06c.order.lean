/-! The order: the least that may come, again and again; behind these those that cannot come. -/
def bI (b : Bool) : Int32 := if b = true then 1 else 0
theorem bI_0 {b : Bool} (h : bI b = 0) : b = false := lk_f h
theorem bI_1 {b : Bool} (h : ¬ bI b = 0) : b = true := lk_t h
theorem nI_nm1 {a : Nat} (h : a < 2 ^ 31) : ¬ nI a = -1 := by
  intro z
  have h1 := nI_pos h
  rw [z] at h1
  exact h1 (by decide)
def mayC (n : Nat) (σ : Nat → Nat → Int32) (pl : Nat → Bool) (b : Nat) : Bool :=
  decide (kd σ b = 16) || (List.range (nmd (kd σ b))).all fun i => !(decide (okI n (σ 9 (3 * b + i)))) || pl (σ 9 (3 * b + i)).toNatClampNeg
theorem mayC_d {n : Nat} {σ : Nat → Nat → Int32} {pl : Nat → Bool} {b : Nat} (h : kd σ b = 16) : mayC n σ pl b = true := by
  unfold mayC
  rw [decide_eq_true h, Bool.true_or]
theorem mayC_t {n : Nat} {σ : Nat → Nat → Int32} {pl : Nat → Bool} {b k : Nat} (hk : kd σ b = k) (h : ∀ i, i < nmd k → okI n (σ 9 (3 * b + i)) → pl (σ 9 (3 * b + i)).toNatClampNeg = true) : mayC n σ pl b = true := by
  subst hk
  unfold mayC
  rw [Bool.or_eq_true]
  refine Or.inr (List.all_eq_true.mpr fun i hi => ?_)
  by_cases ho : okI n (σ 9 (3 * b + i))
  · rw [h i (List.mem_range.mp hi) ho, Bool.or_true]
  · rw [decide_eq_false ho]; rfl
theorem mayC_f {n : Nat} {σ : Nat → Nat → Int32} {pl : Nat → Bool} {b k i : Nat} (hk : kd σ b = k) (h16 : k ≠ 16) (hi : i < nmd k) (ho : okI n (σ 9 (3 * b + i))) (hp : pl (σ 9 (3 * b + i)).toNatClampNeg = false) : mayC n σ pl b = false := by
  subst hk
  cases hm : mayC n σ pl b with
  | false => rfl
  | true =>
    unfold mayC at hm
    rw [decide_eq_false h16, Bool.false_or] at hm
    have h1 := List.all_eq_true.mp hm i (List.mem_range.mpr hi)
    rw [decide_eq_true ho, hp] at h1
    exact absurd h1 (by decide)
def cand (n : Nat) (σ : Nat → Nat → Int32) (pl : Nat → Bool) (b : Nat) : Bool := !(pl b) && mayC n σ pl b
theorem cand_p {n : Nat} {σ : Nat → Nat → Int32} {pl : Nat → Bool} {b : Nat} (h : pl b = true) : cand n σ pl b = false := by
  unfold cand
  rw [h]; rfl
theorem cand_m {n : Nat} {σ : Nat → Nat → Int32} {pl : Nat → Bool} {b : Nat} (h : pl b = false) : cand n σ pl b = mayC n σ pl b := by
  unfold cand
  rw [h]; rfl
/-- the first that has it, else n -/
def lst (q : Nat → Bool) : Nat → Nat
  | 0 => 0
  | n + 1 => if lst q n < n then lst q n else if q n = true then n else n + 1
theorem lst_le (q : Nat → Bool) : ∀ n, lst q n ≤ n
  | 0 => Nat.le_refl 0
  | n + 1 => by
    have h := lst_le q n
    unfold lst
    split
    · omega
    · split <;> omega
theorem lst_no (q : Nat → Bool) : ∀ n j, j < lst q n → q j = false
  | 0, j, h => absurd h (Nat.not_lt_zero j)
  | n + 1, j, h => by
    have h0 := lst_no q n
    have h1 := lst_le q n
    unfold lst at h
    split at h
    · exact h0 j h
    · split at h
      · exact h0 j (by omega)
      · by_cases hj : j < n
        · exact h0 j (by omega)
        · have e : j = n := by omega
          subst e
          cases hq : q j
          · rfl
          · exact absurd hq (by assumption)
theorem lst_yes (q : Nat → Bool) : ∀ n, lst q n < n → q (lst q n) = true
  | 0, h => absurd h (Nat.not_lt_zero _)
  | n + 1, h => by
    have h0 := lst_yes q n
    unfold lst at h ⊢
    split
    · rename_i h1
      exact h0 h1
    · rename_i h1
      rw [if_neg h1] at h
      split
      · assumption
      · rename_i h2
        rw [if_neg h2] at h
        omega
theorem lst_eq {q : Nat → Bool} {n i : Nat} (hi : i < n) (hq : q i = true) (hno : ∀ j, j < i → q j = false) : lst q n = i := by
  rcases Nat.lt_trichotomy (lst q n) i with h | h | h
  · have h1 := lst_yes q n (by omega)
    rw [hno _ h] at h1
    exact absurd h1 (by decide)
  · exact h
  · have h1 := lst_no q n i h
    rw [hq] at h1
    exact absurd h1 (by decide)
theorem lst_all {q : Nat → Bool} {n : Nat} (hno : ∀ j, j < n → q j = false) : lst q n = n := by
  rcases Nat.lt_or_ge (lst q n) n with h | h
  · have h1 := lst_yes q n h
    rw [hno _ h] at h1
    exact absurd h1 (by decide)
  · have := lst_le q n
    omega
/-- how many have it -/
def cn (q : Nat → Bool) : Nat → Nat
  | 0 => 0
  | n + 1 => cn q n + (if q n = true then 1 else 0)
theorem cn_le (q : Nat → Bool) : ∀ n, cn q n ≤ n
  | 0 => Nat.le_refl 0
  | n + 1 => by
    have h := cn_le q n
    unfold cn
    split <;> omega
theorem cn_none : ∀ n, cn (fun _ => false) n = 0
  | 0 => rfl
  | n + 1 => by unfold cn; rw [cn_none n]; rfl
theorem cn_out {q : Nat → Bool} {i : Nat} : ∀ n, n ≤ i → cn (fun j => if j = i then true else q j) n = cn q n
  | 0, _ => rfl
  | n + 1, h => by
    unfold cn
    rw [cn_out n (by omega), if_neg (show ¬ n = i by omega)]
theorem cn_up {q : Nat → Bool} {i : Nat} (hq : q i = false) : ∀ n, i < n → cn (fun j => if j = i then true else q j) n = cn q n + 1
  | 0, h => absurd h (Nat.not_lt_zero i)
  | n + 1, h => by
    unfold cn
    by_cases e : i = n
    · subst e
      rw [cn_out i (Nat.le_refl i), if_pos rfl, hq]
      rfl
    · rw [cn_up hq n (by omega), if_neg (show ¬ n = i by omega)]
      omega
theorem cn_all {q : Nat → Bool} : ∀ n, cn q n = n → ∀ i, i < n → q i = true
  | 0, _, i, h => absurd h (Nat.not_lt_zero i)
  | n + 1, h, i, hi => by
    have h1 := cn_le q n
    unfold cn at h
    by_cases hn : q n = true
    · rw [if_pos hn] at h
      by_cases e : i = n
      · subst e; exact hn
      · exact cn_all n (by omega) i (by omega)
    · rw [if_neg hn] at h
      omega
/-- k steps of laying: who is placed, the line, how many have come -/
def layS (n : Nat) (σ : Nat → Nat → Int32) : Nat → (Nat → Bool) × (Nat → Nat) × Nat
  | 0 => (fun _ => false, fun _ => 0, 0)
  | k + 1 => if (layS n σ k).2.2 = k ∧ lst (cand n σ (layS n σ k).1) n < n then
      (fun j => if j = lst (cand n σ (layS n σ k).1) n then true else (layS n σ k).1 j, fun j => if j = k then lst (cand n σ (layS n σ k).1) n else (layS n σ k).2.1 j, k + 1)
    else layS n σ k
theorem lay_go {n : Nat} {σ : Nat → Nat → Int32} {k : Nat} (h : (layS n σ k).2.2 = k) (h2 : lst (cand n σ (layS n σ k).1) n < n) : layS n σ (k + 1) = (fun j => if j = lst (cand n σ (layS n σ k).1) n then true else (layS n σ k).1 j, fun j => if j = k then lst (cand n σ (layS n σ k).1) n else (layS n σ k).2.1 j, k + 1) := if_pos ⟨h, h2⟩
theorem lay_le (n : Nat) (σ : Nat → Nat → Int32) : ∀ k, (layS n σ k).2.2 ≤ k
  | 0 => Nat.le_refl 0
  | k + 1 => by
    have h := lay_le n σ k
    unfold layS
    split
    · exact Nat.le_refl _
    · omega
theorem lay_cn (n : Nat) (σ : Nat → Nat → Int32) : ∀ k, cn (layS n σ k).1 n = (layS n σ k).2.2
  | 0 => cn_none n
  | k + 1 => by
    have h := lay_cn n σ k
    unfold layS
    split
    · rename_i h1
      have h2 := lst_yes _ _ h1.2
      have h3 : (layS n σ k).1 (lst (cand n σ (layS n σ k).1) n) = false := by
        cases hp : (layS n σ k).1 (lst (cand n σ (layS n σ k).1) n) with
        | false => rfl
        | true => rw [cand_p hp] at h2; exact absurd h2 (by decide)
      show cn (fun j => if j = lst (cand n σ (layS n σ k).1) n then true else (layS n σ k).1 j) n = k + 1
      rw [cn_up h3 n h1.2, h, h1.1]
    · exact h
theorem lay_line (n : Nat) (σ : Nat → Nat → Int32) : ∀ k j, j < (layS n σ k).2.2 → (layS n σ k).2.1 j < n
  | 0, j, h => absurd h (Nat.not_lt_zero j)
  | k + 1, j, h => by
    have h0 := lay_line n σ k
    unfold layS at h ⊢
    split
    · rename_i h1
      rw [if_pos h1] at h
      show (if j = k then _ else _) < n
      split
      · exact h1.2
      · exact h0 j (by rw [h1.1]; have : j < k + 1 := h; omega)
    · rename_i h1
      rw [if_neg h1] at h
      exact h0 j h
theorem lay_stuck {n : Nat} {σ : Nat → Nat → Int32} {c : Nat} (hl : ¬ lst (cand n σ (layS n σ c).1) n < n) : ∀ d, layS n σ (c + d) = layS n σ c
  | 0 => rfl
  | d + 1 => by
    have h := lay_stuck hl d
    have e : layS n σ ((c + d) + 1) = layS n σ (c + d) := if_neg (fun z => hl (by rw [h] at z; exact z.2))
    exact e.trans h
theorem lay_full {n : Nat} {σ : Nat → Nat → Int32} {k : Nat} (h : (layS n σ k).2.2 = n) : ¬ lst (cand n σ (layS n σ k).1) n < n := by
  have h1 := cn_all n ((lay_cn n σ k).trans h)
  rw [lst_all (fun j hj => cand_p (h1 j hj))]
  exact Nat.lt_irrefl n
/-- how many come before there is a ring -/
def comeF (n : Nat) (σ : Nat → Nat → Int32) : Nat := (layS n σ n).2.2
def plF (n : Nat) (σ : Nat → Nat → Int32) : Nat → Bool := (layS n σ n).1
theorem come_le (n : Nat) (σ : Nat → Nat → Int32) : comeF n σ ≤ n := lay_le n σ n
/-- behind these the others, by their numbers -/
def restS (n : Nat) (σ : Nat → Nat → Int32) : Nat → (Nat → Nat) × Nat
  | 0 => ((layS n σ n).2.1, comeF n σ)
  | i + 1 => if plF n σ i = true then restS n σ i else (fun j => if j = (restS n σ i).2 then i else (restS n σ i).1 j, (restS n σ i).2 + 1)
theorem rest_y {n : Nat} {σ : Nat → Nat → Int32} {i : Nat} (h : plF n σ i = true) : restS n σ (i + 1) = restS n σ i := if_pos h
theorem rest_n {n : Nat} {σ : Nat → Nat → Int32} {i : Nat} (h : plF n σ i = false) : restS n σ (i + 1) = (fun j => if j = (restS n σ i).2 then i else (restS n σ i).1 j, (restS n σ i).2 + 1) := if_neg (by rw [h]; decide)
theorem rest_cn (n : Nat) (σ : Nat → Nat → Int32) : ∀ i, (restS n σ i).2 + cn (plF n σ) i = comeF n σ + i
  | 0 => rfl
  | i + 1 => by
    have h := rest_cn n σ i
    cases hp : plF n σ i with
    | true => rw [rest_y hp]; unfold cn; rw [if_pos hp]; omega
    | false => rw [rest_n hp]; unfold cn; rw [if_neg (by rw [hp]; decide)]; show (restS n σ i).2 + 1 + _ = _; omega
theorem rest_mono (n : Nat) (σ : Nat → Nat → Int32) (i : Nat) : ∀ d, (restS n σ i).2 ≤ (restS n σ (i + d)).2
  | 0 => Nat.le_refl _
  | d + 1 => by
    have h := rest_mono n σ i d
    cases hp : plF n σ (i + d) with
    | true => rw [show i + (d + 1) = (i + d) + 1 from rfl, rest_y hp]; exact h
    | false => rw [show i + (d + 1) = (i + d) + 1 from rfl, rest_n hp]; show _ ≤ (restS n σ (i + d)).2 + 1; omega
theorem rest_end (n : Nat) (σ : Nat → Nat → Int32) : (restS n σ n).2 = n := by
  have h := rest_cn n σ n
  have h2 : cn (plF n σ) n = comeF n σ := lay_cn n σ n
  omega
theorem rest_le {n : Nat} {σ : Nat → Nat → Int32} {i : Nat} (h : i ≤ n) : (restS n σ i).2 ≤ n := by
  have h1 := rest_mono n σ i (n - i)
  rw [show i + (n - i) = n by omega, rest_end] at h1
  exact h1
theorem rest_lt {n : Nat} {σ : Nat → Nat → Int32} {i : Nat} (h : i < n) (hp : plF n σ i = false) : (restS n σ i).2 < n := by
  have h1 := rest_le (n := n) (σ := σ) (i := i + 1) h
  rw [rest_n hp] at h1
  exact h1
theorem rest_stop {n : Nat} {σ : Nat → Nat → Int32} {i : Nat} (h : (restS n σ i).2 = n) : ∀ d, i + d ≤ n → restS n σ (i + d) = restS n σ i
  | 0, _ => rfl
  | d + 1, hd => by
    have h1 := rest_stop h d (by omega)
    cases hp : plF n σ (i + d) with
    | true => rw [show i + (d + 1) = (i + d) + 1 from rfl, rest_y hp, h1]
    | false =>
      have h2 := rest_lt (show i + d < n by omega) hp
      rw [h1, h] at h2
      exact absurd h2 (Nat.lt_irrefl n)
theorem rest_line (n : Nat) (σ : Nat → Nat → Int32) : ∀ i, i ≤ n → ∀ j, j < (restS n σ i).2 → (restS n σ i).1 j < n
  | 0, _, j, h => lay_line n σ n j h
  | i + 1, hi, j, h => by
    have h0 := rest_line n σ i (by omega)
    cases hp : plF n σ i with
    | true => rw [rest_y hp] at h ⊢; exact h0 j h
    | false =>
      rw [rest_n hp] at h ⊢
      show (if j = _ then _ else _) < n
      split
      · omega
      · exact h0 j (by have : j < (restS n σ i).2 + 1 := h; omega)
def lineF (n : Nat) (σ : Nat → Nat → Int32) : Nat → Nat := (restS n σ n).1
theorem line_lt {n : Nat} {σ : Nat → Nat → Int32} {j : Nat} (h : j < n) : lineF n σ j < n := rest_line n σ n (Nat.le_refl n) j (by rw [rest_end]; exact h)
