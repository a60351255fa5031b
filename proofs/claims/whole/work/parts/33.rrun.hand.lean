/-! Bounds along a run. -/
theorem note_2 {κ : Nat → Nat} : noteK κ 2 = κ 2 + 1 := va_up_self _ _ _
theorem reckon_2 (M : MM) (b : Nat) : (reckonM b M).1 2 ≤ M.1 2 + 1 := by
  show reckonK M.1 M.2 b (kd M.2 b) 2 ≤ _
  unfold reckonK
  split
  · omega
  · rw [note_2]; exact Nat.le_refl _
theorem take_2 (M : MM) (b : Nat) : (takeM b M).1 2 ≤ M.1 2 + 1 := by
  unfold takeM
  split
  · show takeK M.1 M.2 b 2 ≤ _
    unfold takeK
    split
    · rw [note_2]; exact Nat.le_refl _
    · omega
  · omega
theorem it_2 {f : Nat → MM → MM} (hf : ∀ i M, (f i M).1 2 ≤ M.1 2 + 1) (n : Nat) (M : MM) : (itM f n M).1 2 ≤ M.1 2 + n := by
  induction n with
  | zero => exact Nat.le_refl _
  | succ n ih =>
    have h := hf n (itM f n M)
    show (f n (itM f n M)).1 2 ≤ _
    omega
theorem time_2 (M : MM) : (timeM M).1 2 = M.1 2 := va_up_ne M.1 (M.1 3 + 1) (show (2 : Nat) ≠ 3 by decide)
theorem tick_2 (n : Nat) (ln : Nat → Nat) (M : MM) : (tickM n ln M).1 2 ≤ M.1 2 + 2 * n := by
  have h1 := it_2 (f := takeM) (fun i M => take_2 M i) n (itM (fun i => reckonM (ln i)) n (timeM M))
  have h2 := it_2 (f := fun i => reckonM (ln i)) (fun i M => reckon_2 M (ln i)) n (timeM M)
  rw [time_2] at h2
  show (itM takeM n (itM (fun i => reckonM (ln i)) n (timeM M))).1 2 ≤ _
  omega
theorem run_2 (n : Nat) (ln : Nat → Nat) (M : MM) : ∀ k, (runM n ln k M).1 2 ≤ M.1 2 + 2 * n * k
  | 0 => Nat.le_refl _
  | k + 1 => by
    have h := run_2 n ln M k
    have h2 := tick_2 n ln (runM n ln k M)
    show (tickM n ln (runM n ln k M)).1 2 ≤ _
    rw [Nat.mul_succ]
    omega
theorem run_280 {n : Nat} (hn : n ≤ 40) (ln : Nat → Nat) (M : MM) (k : Nat) : (runM n ln k M).1 2 ≤ M.1 2 + 80 * k := by
  have h := run_2 n ln M k
  have h2 : 2 * n * k ≤ 80 * k := Nat.mul_le_mul_right k (by omega)
  omega
theorem okW_later {M M2 : MM} (h : later M M2) {b i : Nat} (hw : okW M.1 M.2 b i) : okW M2.1 M2.2 b i := by
  unfold okW at hw ⊢
  rw [h.2 9 _ (by unfold quiet; omega), h.1 0 (by decide) (by decide)]
  exact hw
def runR (κ : Nat → Nat) (σ : Nat → Nat → Int32) (y0 : Int32) : MM := if cRun κ σ y0 = 0 then runM (κ 0) (lineF (κ 0) σ) y0.toNatClampNeg (κ, σ) else (κ, σ)
