/-! The reference's reckoning. -/
theorem wr22 {σ : Nat → Nat → Int32} {v : Int32} {f j : Nat} (h : f ≠ 2 ∨ j ≠ 2) : wr σ 2 2 v f j = σ f j := by
  unfold wr
  by_cases h1 : f = 2
  · rw [if_pos h1]
    by_cases h2 : j = 2
    · exact absurd h2 (h.resolve_left (fun z => z h1))
    · rw [if_neg h2]
  · rw [if_neg h1]
def lkN (σ : Nat → Nat → Int32) (b : Nat) : Nat → Nat
  | 0 => 0
  | i + 1 => if σ 9 (3 * b + i) = -1 then 3 else lkN σ b i
theorem lkN_3 {σ : Nat → Nat → Int32} {b i : Nat} (h : ∃ j, j < i ∧ σ 9 (3 * b + j) = -1) : lkN σ b i = 3 := by
  induction i with
  | zero => obtain ⟨j, hj, -⟩ := h; exact absurd hj (Nat.not_lt_zero j)
  | succ i ih =>
    unfold lkN
    by_cases e : σ 9 (3 * b + i) = -1
    · rw [if_pos e]
    · rw [if_neg e]
      obtain ⟨j, hj, h2⟩ := h
      exact ih ⟨j, by
        have : ¬ j = i := fun z => e (by rw [← z]; exact h2)
        omega, h2⟩
theorem lkN_0 {σ : Nat → Nat → Int32} {b i : Nat} (h : ∀ j, j < i → ¬ σ 9 (3 * b + j) = -1) : lkN σ b i = 0 := by
  induction i with
  | zero => rfl
  | succ i ih =>
    unfold lkN
    rw [if_neg (h i (Nat.lt_succ_self i))]
    exact ih (fun j hj => h j (by omega))
theorem lkN_y {σ : Nat → Nat → Int32} {b i : Nat} (h : σ 9 (3 * b + i) = -1) : lkN σ b (i + 1) = 3 := if_pos h
theorem lkN_n {σ : Nat → Nat → Int32} {b i : Nat} (h : ¬ σ 9 (3 * b + i) = -1) : lkN σ b (i + 1) = lkN σ b i := if_neg h
theorem lkN_le {σ : Nat → Nat → Int32} {b : Nat} : ∀ i, lkN σ b i ≤ 3
  | 0 => Nat.zero_le 3
  | i + 1 => by
    unfold lkN
    split
    · exact Nat.le_refl 3
    · exact lkN_le i
def lkF (σ : Nat → Nat → Int32) (k b : Nat) : Nat := if k ≠ 16 ∧ lack σ k b = true then 3 else 0
theorem lkF_16 {σ : Nat → Nat → Int32} {b : Nat} : lkN σ b 0 = lkF σ 16 b := by
  unfold lkF
  rw [if_neg (fun z => z.1 rfl)]; rfl
theorem lkF_e {σ : Nat → Nat → Int32} {k b i : Nat} (h : ¬ k = 16) (hi : i = nmd k) : lkN σ b i = lkF σ k b := by
  subst hi
  unfold lkF
  by_cases hl : lack σ k b = true
  · rw [if_pos ⟨h, hl⟩]
    obtain ⟨j, hj, h2⟩ := List.any_eq_true.mp hl
    exact lkN_3 ⟨j, List.mem_range.mp hj, of_decide_eq_true h2⟩
  · rw [if_neg (fun z => hl z.2)]
    exact lkN_0 (fun j hj z => hl (lack_t hj z))
theorem plW_le {σ : Nat → Nat → Int32} {k b : Nat} {x y : Int32} : plW σ k b x y ≤ 3 := by
  unfold plW
  repeat' split
  all_goals omega
theorem rkF_3 {κ : Nat → Nat} {σ : Nat → Nat → Int32} {k b : Nat} (h : k ≠ 16 ∧ lack σ k b = true) : rkF κ σ b k = 3 := if_pos h
theorem say_y {σ : Nat → Nat → Int32} {b : Nat} {v : Int32} (h : σ 7 b = 0) : wr σ 4 b v = say σ b v := by
  unfold say
  rw [if_pos h]
theorem say_n {σ : Nat → Nat → Int32} {b : Nat} {v : Int32} (h : ¬ σ 7 b = 0) : wr σ 4 b (σ 8 b) = say σ b v := by
  unfold say
  rw [if_neg h]
theorem rkF_p {κ : Nat → Nat} {σ : Nat → Nat → Int32} {k b : Nat} (hk : k < 16) (h : ¬ (k ≠ 16 ∧ lack σ k b = true)) : rkF κ σ b k = plW σ k b (rIn κ σ b k 0) (rIn κ σ b k 1) := by
  unfold rkF f_fail plW
  rw [if_neg h]
  rcases (show k = 0 ∨ k = 1 ∨ k = 2 ∨ k = 3 ∨ k = 4 ∨ k = 5 ∨ k = 6 ∨ k = 7 ∨ k = 8 ∨ k = 9 ∨ k = 10 ∨ k = 11 ∨ k = 12 ∨ k = 13 ∨ k = 14 ∨ k = 15 by omega) with rfl | rfl | rfl | rfl | rfl | rfl | rfl | rfl | rfl | rfl | rfl | rfl | rfl | rfl | rfl | rfl
  · simp [(show rIn κ σ b 0 0 = 0 from if_neg (by decide)), (show rIn κ σ b 0 1 = 0 from if_neg (by decide)), (show rIn κ σ b 0 2 = 0 from if_neg (by decide))]
  · simp [(show rIn κ σ b 1 0 = 0 from if_neg (by decide)), (show rIn κ σ b 1 1 = 0 from if_neg (by decide)), (show rIn κ σ b 1 2 = 0 from if_neg (by decide))]
  · simp [(show rIn κ σ b 2 0 = rkX κ σ b 0 from if_pos (by decide)), (show rIn κ σ b 2 1 = rkX κ σ b 1 from if_pos (by decide)), (show rIn κ σ b 2 2 = 0 from if_neg (by decide))]
  · simp [(show rIn κ σ b 3 0 = rkX κ σ b 0 from if_pos (by decide)), (show rIn κ σ b 3 1 = rkX κ σ b 1 from if_pos (by decide)), (show rIn κ σ b 3 2 = 0 from if_neg (by decide))]
  · simp [(show rIn κ σ b 4 0 = rkX κ σ b 0 from if_pos (by decide)), (show rIn κ σ b 4 1 = rkX κ σ b 1 from if_pos (by decide)), (show rIn κ σ b 4 2 = 0 from if_neg (by decide))]
  · simp [(show rIn κ σ b 5 0 = rkX κ σ b 0 from if_pos (by decide)), (show rIn κ σ b 5 1 = rkX κ σ b 1 from if_pos (by decide)), (show rIn κ σ b 5 2 = 0 from if_neg (by decide))]
  · simp [(show rIn κ σ b 6 0 = rkX κ σ b 0 from if_pos (by decide)), (show rIn κ σ b 6 1 = rkX κ σ b 1 from if_pos (by decide)), (show rIn κ σ b 6 2 = 0 from if_neg (by decide))]
  · simp [(show rIn κ σ b 7 0 = rkX κ σ b 0 from if_pos (by decide)), (show rIn κ σ b 7 1 = rkX κ σ b 1 from if_pos (by decide)), (show rIn κ σ b 7 2 = 0 from if_neg (by decide))]
  · simp [(show rIn κ σ b 8 0 = rkX κ σ b 0 from if_pos (by decide)), (show rIn κ σ b 8 1 = rkX κ σ b 1 from if_pos (by decide)), (show rIn κ σ b 8 2 = 0 from if_neg (by decide))]
  · simp [(show rIn κ σ b 9 0 = rkX κ σ b 0 from if_pos (by decide)), (show rIn κ σ b 9 1 = rkX κ σ b 1 from if_pos (by decide)), (show rIn κ σ b 9 2 = 0 from if_neg (by decide))]
  · simp [(show rIn κ σ b 10 0 = rkX κ σ b 0 from if_pos (by decide)), (show rIn κ σ b 10 1 = rkX κ σ b 1 from if_pos (by decide)), (show rIn κ σ b 10 2 = 0 from if_neg (by decide))]
  · simp [(show rIn κ σ b 11 0 = rkX κ σ b 0 from if_pos (by decide)), (show rIn κ σ b 11 1 = rkX κ σ b 1 from if_pos (by decide)), (show rIn κ σ b 11 2 = 0 from if_neg (by decide))]
  · simp [(show rIn κ σ b 12 0 = rkX κ σ b 0 from if_pos (by decide)), (show rIn κ σ b 12 1 = rkX κ σ b 1 from if_pos (by decide)), (show rIn κ σ b 12 2 = 0 from if_neg (by decide))]
  · simp [(show rIn κ σ b 13 0 = rkX κ σ b 0 from if_pos (by decide)), (show rIn κ σ b 13 1 = 0 from if_neg (by decide)), (show rIn κ σ b 13 2 = 0 from if_neg (by decide))]
  · simp [(show rIn κ σ b 14 0 = rkX κ σ b 0 from if_pos (by decide)), (show rIn κ σ b 14 1 = rkX κ σ b 1 from if_pos (by decide)), (show rIn κ σ b 14 2 = rkX κ σ b 2 from if_pos (by decide))]
  · simp [(show rIn κ σ b 15 0 = rkX κ σ b 0 from if_pos (by decide)), (show rIn κ σ b 15 1 = 0 from if_neg (by decide)), (show rIn κ σ b 15 2 = 0 from if_neg (by decide))]
theorem rkF_s {κ : Nat → Nat} {σ : Nat → Nat → Int32} {k b : Nat} (hk : 16 ≤ k) (h : ¬ (k ≠ 16 ∧ lack σ k b = true)) : rkF κ σ b k = 0 := by
  unfold rkF f_fail
  rw [if_neg h, if_neg (by omega), if_neg (by omega), if_neg (by omega)]
theorem rkV_p {κ : Nat → Nat} {σ : Nat → Nat → Int32} {k b : Nat} (hk : k < 16) (h : plW σ k b (rIn κ σ b k 0) (rIn κ σ b k 1) = 0) : plV σ k b (rIn κ σ b k 0) (rIn κ σ b k 1) (rIn κ σ b k 2) = rkV κ σ b k := by
  unfold rkV plV
  unfold plW at h
  rcases (show k = 0 ∨ k = 1 ∨ k = 2 ∨ k = 3 ∨ k = 4 ∨ k = 5 ∨ k = 6 ∨ k = 7 ∨ k = 8 ∨ k = 9 ∨ k = 10 ∨ k = 11 ∨ k = 12 ∨ k = 13 ∨ k = 14 ∨ k = 15 by omega) with rfl | rfl | rfl | rfl | rfl | rfl | rfl | rfl | rfl | rfl | rfl | rfl | rfl | rfl | rfl | rfl
  · by_cases z : okI 10 (σ 1 b)
    · simp [z]
    · simp [z] at h
  · simp [f_comb, f_own, (show rIn κ σ b 1 0 = 0 from if_neg (by decide)), (show rIn κ σ b 1 1 = 0 from if_neg (by decide)), (show rIn κ σ b 1 2 = 0 from if_neg (by decide))]
  · simp [f_comb, f_own, (show rIn κ σ b 2 0 = rkX κ σ b 0 from if_pos (by decide)), (show rIn κ σ b 2 1 = rkX κ σ b 1 from if_pos (by decide)), (show rIn κ σ b 2 2 = 0 from if_neg (by decide))]
  · simp [f_comb, f_own, (show rIn κ σ b 3 0 = rkX κ σ b 0 from if_pos (by decide)), (show rIn κ σ b 3 1 = rkX κ σ b 1 from if_pos (by decide)), (show rIn κ σ b 3 2 = 0 from if_neg (by decide))]
  · simp [f_comb, f_own, (show rIn κ σ b 4 0 = rkX κ σ b 0 from if_pos (by decide)), (show rIn κ σ b 4 1 = rkX κ σ b 1 from if_pos (by decide)), (show rIn κ σ b 4 2 = 0 from if_neg (by decide))]
  · simp [f_comb, f_own, (show rIn κ σ b 5 0 = rkX κ σ b 0 from if_pos (by decide)), (show rIn κ σ b 5 1 = rkX κ σ b 1 from if_pos (by decide)), (show rIn κ σ b 5 2 = 0 from if_neg (by decide))]
  · simp [f_comb, f_own, (show rIn κ σ b 6 0 = rkX κ σ b 0 from if_pos (by decide)), (show rIn κ σ b 6 1 = rkX κ σ b 1 from if_pos (by decide)), (show rIn κ σ b 6 2 = 0 from if_neg (by decide))]
  · simp [f_comb, f_own, (show rIn κ σ b 7 0 = rkX κ σ b 0 from if_pos (by decide)), (show rIn κ σ b 7 1 = rkX κ σ b 1 from if_pos (by decide)), (show rIn κ σ b 7 2 = 0 from if_neg (by decide))]
  · simp [f_comb, f_own, (show rIn κ σ b 8 0 = rkX κ σ b 0 from if_pos (by decide)), (show rIn κ σ b 8 1 = rkX κ σ b 1 from if_pos (by decide)), (show rIn κ σ b 8 2 = 0 from if_neg (by decide))]
  · simp [f_comb, f_own, (show rIn κ σ b 9 0 = rkX κ σ b 0 from if_pos (by decide)), (show rIn κ σ b 9 1 = rkX κ σ b 1 from if_pos (by decide)), (show rIn κ σ b 9 2 = 0 from if_neg (by decide))]
  · simp [f_comb, f_own, (show rIn κ σ b 10 0 = rkX κ σ b 0 from if_pos (by decide)), (show rIn κ σ b 10 1 = rkX κ σ b 1 from if_pos (by decide)), (show rIn κ σ b 10 2 = 0 from if_neg (by decide))]
  · simp [f_comb, f_own, (show rIn κ σ b 11 0 = rkX κ σ b 0 from if_pos (by decide)), (show rIn κ σ b 11 1 = rkX κ σ b 1 from if_pos (by decide)), (show rIn κ σ b 11 2 = 0 from if_neg (by decide))]
  · simp [f_comb, f_own, (show rIn κ σ b 12 0 = rkX κ σ b 0 from if_pos (by decide)), (show rIn κ σ b 12 1 = rkX κ σ b 1 from if_pos (by decide)), (show rIn κ σ b 12 2 = 0 from if_neg (by decide))]
  · simp [f_comb, f_own, (show rIn κ σ b 13 0 = rkX κ σ b 0 from if_pos (by decide)), (show rIn κ σ b 13 1 = 0 from if_neg (by decide)), (show rIn κ σ b 13 2 = 0 from if_neg (by decide))]
  · simp [f_comb, f_own, (show rIn κ σ b 14 0 = rkX κ σ b 0 from if_pos (by decide)), (show rIn κ σ b 14 1 = rkX κ σ b 1 from if_pos (by decide)), (show rIn κ σ b 14 2 = rkX κ σ b 2 from if_pos (by decide))]
  · by_cases z : okI 8 (rIn κ σ b 15 0)
    · rw [if_neg (by decide), if_neg (by decide), if_pos rfl, if_pos z, if_neg (by decide), if_neg (by decide), show rIn κ σ b 15 0 = rkX κ σ b 0 from if_pos (by decide)]; rfl
    · simp [z] at h
theorem own_p {κ : Nat → Nat} {σ : Nat → Nat → Int32} {k b : Nat} (hk : 16 ≤ k) (hk2 : k < 26) : ownS σ k b (rIn κ σ b k 0) (rIn κ σ b k 1) = ownS σ k b (rkX κ σ b 0) (rkX κ σ b 1) := by
  rcases (show k = 16 ∨ k = 17 ∨ k = 18 ∨ k = 19 ∨ k = 20 ∨ k = 21 ∨ k = 22 ∨ k = 23 ∨ k = 24 ∨ k = 25 by omega) with rfl | rfl | rfl | rfl | rfl | rfl | rfl | rfl | rfl | rfl
  · simp [ownS, f_fst, f_snd, (show rIn κ σ b 16 0 = rkX κ σ b 0 from if_pos (by decide)), (show rIn κ σ b 16 1 = 0 from if_neg (by decide)), (show rIn κ σ b 16 2 = 0 from if_neg (by decide))]
  · simp [ownS, f_fst, f_snd, (show rIn κ σ b 17 0 = rkX κ σ b 0 from if_pos (by decide)), (show rIn κ σ b 17 1 = 0 from if_neg (by decide)), (show rIn κ σ b 17 2 = 0 from if_neg (by decide))]
  · simp [ownS, f_fst, f_snd, (show rIn κ σ b 18 0 = rkX κ σ b 0 from if_pos (by decide)), (show rIn κ σ b 18 1 = rkX κ σ b 1 from if_pos (by decide)), (show rIn κ σ b 18 2 = 0 from if_neg (by decide))]
  · simp [ownS, f_fst, f_snd, (show rIn κ σ b 19 0 = rkX κ σ b 0 from if_pos (by decide)), (show rIn κ σ b 19 1 = rkX κ σ b 1 from if_pos (by decide)), (show rIn κ σ b 19 2 = 0 from if_neg (by decide))]
  · simp [ownS, f_fst, f_snd, (show rIn κ σ b 20 0 = 0 from if_neg (by decide)), (show rIn κ σ b 20 1 = 0 from if_neg (by decide)), (show rIn κ σ b 20 2 = 0 from if_neg (by decide))]
  · simp [ownS, f_fst, f_snd, (show rIn κ σ b 21 0 = rkX κ σ b 0 from if_pos (by decide)), (show rIn κ σ b 21 1 = 0 from if_neg (by decide)), (show rIn κ σ b 21 2 = 0 from if_neg (by decide))]
  · simp [ownS, f_fst, f_snd, (show rIn κ σ b 22 0 = rkX κ σ b 0 from if_pos (by decide)), (show rIn κ σ b 22 1 = 0 from if_neg (by decide)), (show rIn κ σ b 22 2 = 0 from if_neg (by decide))]
  · simp [ownS, f_fst, f_snd, (show rIn κ σ b 23 0 = rkX κ σ b 0 from if_pos (by decide)), (show rIn κ σ b 23 1 = rkX κ σ b 1 from if_pos (by decide)), (show rIn κ σ b 23 2 = 0 from if_neg (by decide))]
  · simp [ownS, f_fst, f_snd, (show rIn κ σ b 24 0 = rkX κ σ b 0 from if_pos (by decide)), (show rIn κ σ b 24 1 = rkX κ σ b 1 from if_pos (by decide)), (show rIn κ σ b 24 2 = 0 from if_neg (by decide))]
  · simp [ownS, f_fst, f_snd, (show rIn κ σ b 25 0 = rkX κ σ b 0 from if_pos (by decide)), (show rIn κ σ b 25 1 = 0 from if_neg (by decide)), (show rIn κ σ b 25 2 = 0 from if_neg (by decide))]
theorem own_v {κ : Nat → Nat} {σ : Nat → Nat → Int32} {k b : Nat} (hk : 16 ≤ k) (hk2 : k < 26) : f_own σ k b (rIn κ σ b k 0) (rIn κ σ b k 1) (nI (κ 3 % 1440)) = rkV κ σ b k := by
  unfold rkV
  rw [if_neg (by omega), if_neg (by omega)]
  rcases (show k = 16 ∨ k = 17 ∨ k = 18 ∨ k = 19 ∨ k = 20 ∨ k = 21 ∨ k = 22 ∨ k = 23 ∨ k = 24 ∨ k = 25 by omega) with rfl | rfl | rfl | rfl | rfl | rfl | rfl | rfl | rfl | rfl
  · simp [f_own, (show rIn κ σ b 16 0 = rkX κ σ b 0 from if_pos (by decide)), (show rIn κ σ b 16 1 = 0 from if_neg (by decide)), (show rIn κ σ b 16 2 = 0 from if_neg (by decide))]
  · simp [f_own, (show rIn κ σ b 17 0 = rkX κ σ b 0 from if_pos (by decide)), (show rIn κ σ b 17 1 = 0 from if_neg (by decide)), (show rIn κ σ b 17 2 = 0 from if_neg (by decide))]
  · simp [f_own, (show rIn κ σ b 18 0 = rkX κ σ b 0 from if_pos (by decide)), (show rIn κ σ b 18 1 = rkX κ σ b 1 from if_pos (by decide)), (show rIn κ σ b 18 2 = 0 from if_neg (by decide))]
  · simp [f_own, (show rIn κ σ b 19 0 = rkX κ σ b 0 from if_pos (by decide)), (show rIn κ σ b 19 1 = rkX κ σ b 1 from if_pos (by decide)), (show rIn κ σ b 19 2 = 0 from if_neg (by decide))]
  · simp [f_own, (show rIn κ σ b 20 0 = 0 from if_neg (by decide)), (show rIn κ σ b 20 1 = 0 from if_neg (by decide)), (show rIn κ σ b 20 2 = 0 from if_neg (by decide))]
  · simp [f_own, (show rIn κ σ b 21 0 = rkX κ σ b 0 from if_pos (by decide)), (show rIn κ σ b 21 1 = 0 from if_neg (by decide)), (show rIn κ σ b 21 2 = 0 from if_neg (by decide))]
  · simp [f_own, (show rIn κ σ b 22 0 = rkX κ σ b 0 from if_pos (by decide)), (show rIn κ σ b 22 1 = 0 from if_neg (by decide)), (show rIn κ σ b 22 2 = 0 from if_neg (by decide))]
  · simp [f_own, (show rIn κ σ b 23 0 = rkX κ σ b 0 from if_pos (by decide)), (show rIn κ σ b 23 1 = rkX κ σ b 1 from if_pos (by decide)), (show rIn κ σ b 23 2 = 0 from if_neg (by decide))]
  · simp [f_own, (show rIn κ σ b 24 0 = rkX κ σ b 0 from if_pos (by decide)), (show rIn κ σ b 24 1 = rkX κ σ b 1 from if_pos (by decide)), (show rIn κ σ b 24 2 = 0 from if_neg (by decide))]
  · simp [f_own, (show rIn κ σ b 25 0 = rkX κ σ b 0 from if_pos (by decide)), (show rIn κ σ b 25 1 = 0 from if_neg (by decide)), (show rIn κ σ b 25 2 = 0 from if_neg (by decide))]
theorem reck_f {κ : Nat → Nat} {σ : Nat → Nat → Int32} {k b q : Nat} (h : rkF κ σ b k = q) (hq : ¬ q = 0) : reckonK κ σ b k = noteK κ ∧ reckonS κ σ b k = say (noteS κ σ (nI (κ 3)) (nI b) q) b (σ 3 b) := by
  unfold reckonK reckonS
  rw [h, if_neg hq, if_neg hq]
  exact ⟨rfl, rfl⟩
theorem reck_p {κ : Nat → Nat} {σ : Nat → Nat → Int32} {k b : Nat} (hk : k < 16) (h : ¬ (k ≠ 16 ∧ lack σ k b = true)) (h0 : plW σ k b (rIn κ σ b k 0) (rIn κ σ b k 1) = 0) : reckonK κ σ b k = κ ∧ reckonS κ σ b k = say σ b (plV σ k b (rIn κ σ b k 0) (rIn κ σ b k 1) (rIn κ σ b k 2)) := by
  unfold reckonK reckonS
  rw [(rkF_p hk h).trans h0, if_pos rfl, if_pos rfl, ownS_id (by omega), rkV_p hk h0]
  exact ⟨rfl, rfl⟩
theorem reck_s {κ : Nat → Nat} {σ : Nat → Nat → Int32} {k b : Nat} (hk : 16 ≤ k) (hk2 : k < 26) (h : ¬ (k ≠ 16 ∧ lack σ k b = true)) : reckonK κ σ b k = κ ∧ reckonS κ σ b k = say (ownS σ k b (rIn κ σ b k 0) (rIn κ σ b k 1)) b (f_own σ k b (rIn κ σ b k 0) (rIn κ σ b k 1) (nI (κ 3 % 1440))) := by
  unfold reckonK reckonS
  rw [rkF_s hk h, if_pos rfl, if_pos rfl, own_p hk hk2, own_v hk hk2]
  exact ⟨rfl, rfl⟩
