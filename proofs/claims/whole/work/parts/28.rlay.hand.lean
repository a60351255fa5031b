/-! The reference's order. -/
def okJ (n : Nat) (σ : Nat → Nat → Int32) (pl : Nat → Bool) (b j : Nat) : Prop := okI n (σ 9 (3 * b + j)) → pl (σ 9 (3 * b + j)).toNatClampNeg = true
def mqS (n : Nat) (σ : Nat → Nat → Int32) (pl : Nat → Bool) (b i : Nat) (x : Int32) : Prop := (x = 1 ∧ ∀ j, j < i → okJ n σ pl b j) ∨ (x = 0 ∧ ∃ j, j < i ∧ ¬ okJ n σ pl b j)
theorem mq_0 {n : Nat} {σ : Nat → Nat → Int32} {pl : Nat → Bool} {b : Nat} : mqS n σ pl b 0 1 := Or.inl ⟨rfl, fun _ h => absurd h (Nat.not_lt_zero _)⟩
theorem mq_z {n : Nat} {σ : Nat → Nat → Int32} {pl : Nat → Bool} {b i : Nat} {x : Int32} (h : mqS n σ pl b i x) (hx : x = 0) : mqS n σ pl b (i + 1) 0 := by
  rcases h with ⟨h1, -⟩ | ⟨-, j, h1, h2⟩
  · exact absurd (h1.symm.trans hx) (by decide)
  · exact Or.inr ⟨rfl, j, by omega, h2⟩
theorem mq_n {n : Nat} {σ : Nat → Nat → Int32} {pl : Nat → Bool} {b i : Nat} (h : ¬ okJ n σ pl b i) : mqS n σ pl b (i + 1) 0 := Or.inr ⟨rfl, i, by omega, h⟩
theorem mq_y {n : Nat} {σ : Nat → Nat → Int32} {pl : Nat → Bool} {b i : Nat} {x : Int32} (h : mqS n σ pl b i x) (hx : ¬ x = 0) (hj : okJ n σ pl b i) : mqS n σ pl b (i + 1) 1 := by
  rcases h with ⟨-, h1⟩ | ⟨h1, -⟩
  · refine Or.inl ⟨rfl, fun j h2 => ?_⟩
    by_cases e : j = i
    · rw [e]; exact hj
    · exact h1 j (by omega)
  · exact absurd h1 hx
theorem okJ_none {n : Nat} {σ : Nat → Nat → Int32} {pl : Nat → Bool} {b i : Nat} (h : σ 9 (3 * b + i) = -1) : okJ n σ pl b i := fun z => by
  rw [h] at z
  exact absurd (by decide) z.1
theorem mq_end {n : Nat} {σ : Nat → Nat → Int32} {pl : Nat → Bool} {b k i : Nat} {x : Int32} (hk : kd σ b = k) (h16 : ¬ k = 16) (h : mqS n σ pl b i x) (hi : i = nmd k) : x = bI (mayC n σ pl b) := by
  subst hi
  rcases h with ⟨h1, h2⟩ | ⟨h1, j, h2, h3⟩
  · rw [h1, mayC_t hk h2]; rfl
  · have h4 : okI n (σ 9 (3 * b + j)) := Classical.byContradiction fun z => h3 (fun y => absurd y z)
    have h5 : pl (σ 9 (3 * b + j)).toNatClampNeg = false := by
      cases hp : pl (σ 9 (3 * b + j)).toNatClampNeg with
      | false => rfl
      | true => exact absurd (fun _ => hp) h3
    rw [h1, mayC_f hk h16 h2 h4 h5]; rfl
theorem mq_16 {n : Nat} {σ : Nat → Nat → Int32} {pl : Nat → Bool} {b : Nat} {x : Int32} (hk : kd σ b = 16) (h : mqS n σ pl b 0 x) : x = bI (mayC n σ pl b) := by
  rcases h with ⟨h1, -⟩ | ⟨-, j, h2, -⟩
  · rw [h1, mayC_d hk]; rfl
  · exact absurd h2 (Nat.not_lt_zero _)
/-- the least behind i, looked for from the end -/
def dsS (q : Nat → Bool) (n i d : Nat) : Prop := i ≤ d ∧ d ≤ n ∧ (∀ j, i ≤ j → j < d → q j = false) ∧ (d < n → q d = true)
theorem ds_n {q : Nat → Bool} {n : Nat} : dsS q n n n := ⟨Nat.le_refl _, Nat.le_refl _, fun j h1 h2 => absurd h1 (by omega), fun h => absurd h (Nat.lt_irrefl _)⟩
theorem ds_y {q : Nat → Bool} {n i d : Nat} (h : dsS q n (i + 1) d) (hq : q i = true) : dsS q n i i := ⟨Nat.le_refl _, by have := h.1; have := h.2.1; omega, fun j h1 h2 => absurd h1 (by omega), fun _ => hq⟩
theorem ds_o {q : Nat → Bool} {n i d : Nat} (h : dsS q n (i + 1) d) (hq : q i = false) : dsS q n i d := by
  obtain ⟨h1, h2, h3, h4⟩ := h
  refine ⟨by omega, h2, fun j a1 a2 => ?_, h4⟩
  by_cases e : j = i
  · rw [e]; exact hq
  · exact h3 j (by omega) a2
theorem ds_end {q : Nat → Bool} {n d : Nat} (h : dsS q n 0 d) : d = lst q n := by
  obtain ⟨-, h2, h3, h4⟩ := h
  by_cases e : d < n
  · exact (lst_eq e (h4 e) (fun j hj => h3 j (Nat.zero_le _) hj)).symm
  · have e2 : d = n := by omega
    rw [e2]
    exact (lst_all (fun j hj => h3 j (Nat.zero_le _) (by omega))).symm
theorem dec_lt {i : Nat} (h : i < 2 ^ 31) : (nI i - 1 < 0) ↔ i = 0 := by
  have h0 : (0 : Int32).toInt = 0 := rfl
  have h1 : (nI i - 1).toInt = (i : Int) - 1 := by
    rw [Int32.toInt_sub, nI_toInt h]
    have : (1 : Int32).toInt = 1 := rfl
    rw [this]
    exact Int.bmod_eq_of_le (by omega) (by omega)
  rw [Int32.lt_iff_toInt_lt, h0, h1]
  omega
theorem dec_eq (x : Int32) : x + (-1) = x - 1 := (Int32.sub_eq_add_neg x 1).symm
