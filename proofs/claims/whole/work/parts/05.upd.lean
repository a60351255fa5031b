/-! What a store does to the pictures. -/
section UPDC
variable {cI cZ cB cS : ClassId} {κ : Nat → Nat} {σ sc : Nat → Nat → Int32} {ad : Nat → Nat → Nat}
/-- a number of a block -/
theorem cU11 {f b : Nat} (hf : f < 9) (v : Int32) (t i : Nat) (h : ¬ (t = 11 ∧ i = b)) : cEn cI cZ cB cS κ (wr σ f b v) sc ad t i = cEn cI cZ cB cS κ σ sc ad t i := by
  have w : ∀ g j : Nat, 9 ≤ g → wr σ f b v g j = σ g j := fun g j hg => wr_f (by omega)
  have w20 := fun j => w 20 j (by omega)
  have w22 := fun j => w 22 j (by omega)
  have w23 := fun j => w 23 j (by omega)
  have w24 := fun j => w 24 j (by omega)
  have w25 := fun j => w 25 j (by omega)
  have w9 := fun j => w 9 j (by omega)
  have w10 := fun j => w 10 j (by omega)
  have w30 := fun j => w 30 j (by omega)
  have w31 := fun j => w 31 j (by omega)
  have w32 := fun j => w 32 j (by omega)
  have w33 := fun j => w 33 j (by omega)
  unfold cEn
  split
  all_goals (try rfl)
  all_goals (try simp only [w20, w22, w23, w24, w25, w9, w10, w30, w31, w32, w33])
  have hi : i ≠ b := fun z => h ⟨rfl, z⟩
  have w2 : ∀ g : Nat, wr σ f b v g i = σ g i := fun g => by
    by_cases hg : g = f
    · subst hg; exact wr_i hi
    · exact wr_f hg
  simp only [w2]
/-- a wire -/
theorem cU12 {k b : Nat} (hk : k < 3) (v : Int32) (t i : Nat) (h : ¬ (t = 12 ∧ i = b)) : cEn cI cZ cB cS κ (wr σ 9 (3 * b + k) v) sc ad t i = cEn cI cZ cB cS κ σ sc ad t i := by
  unfold cEn
  split
  all_goals (try rfl)
  have hi : i ≠ b := fun z => h ⟨rfl, z⟩
  congr 4
  funext k2
  by_cases h2 : k2 < 3
  · rw [if_pos h2, if_pos h2, wr_i (by omega)]
  · rw [if_neg h2, if_neg h2]
theorem cU12s {k b : Nat} (hk : k < 3) (v : Int32) : cEn cI cZ cB cS κ (wr σ 9 (3 * b + k) v) sc ad 12 b = .inl (cI, 3, .inl (upd (fun k => if k < 3 then σ 9 (3 * b + k) else 0) k v)) := by
  refine congrArg (fun f : Nat → Int32 => (Sum.inl (cI, (3, Sum.inl f)) : va_E)) (funext fun k2 => ?_)
  by_cases h2 : k2 = k
  · subst h2; rw [if_pos hk, wr_s, pk_us]
  · rw [pk_un h2]
    by_cases h3 : k2 < 3
    · rw [if_pos h3, if_pos h3, wr_i (by omega)]
    · rw [if_neg h3, if_neg h3]
/-- a number of a row -/
theorem cU13 {k b : Nat} (hk : k < 8) (v : Int32) (t i : Nat) (h : ¬ (t = 13 ∧ i = b)) : cEn cI cZ cB cS κ (wr σ 10 (8 * b + k) v) sc ad t i = cEn cI cZ cB cS κ σ sc ad t i := by
  unfold cEn
  split
  all_goals (try rfl)
  have hi : i ≠ b := fun z => h ⟨rfl, z⟩
  congr 4
  funext k2
  by_cases h2 : k2 < 8
  · rw [if_pos h2, if_pos h2, wr_i (by omega)]
  · rw [if_neg h2, if_neg h2]
theorem cU13s {k b : Nat} (hk : k < 8) (v : Int32) : cEn cI cZ cB cS κ (wr σ 10 (8 * b + k) v) sc ad 13 b = .inl (cI, 8, .inl (upd (fun k => if k < 8 then σ 10 (8 * b + k) else 0) k v)) := by
  refine congrArg (fun f : Nat → Int32 => (Sum.inl (cI, (8, Sum.inl f)) : va_E)) (funext fun k2 => ?_)
  by_cases h2 : k2 = k
  · subst h2; rw [if_pos hk, wr_s, pk_us]
  · rw [pk_un h2]
    by_cases h3 : k2 < 8
    · rw [if_pos h3, if_pos h3, wr_i (by omega)]
    · rw [if_neg h3, if_neg h3]
/-- rows of the object and of Failures -/
theorem cU2 {j : Nat} (v : Int32) (t i : Nat) (h : ¬ (t = 2 ∧ i = 0)) (hi : i < cDm κ t) : cEn cI cZ cB cS κ (wr σ 20 j v) sc ad t i = cEn cI cZ cB cS κ σ sc ad t i := by
  unfold cEn
  split
  all_goals (try rfl)
  exact absurd ⟨rfl, by simpa [cDm] using hi⟩ h
theorem cU6 {j : Nat} (v : Int32) (t i : Nat) (h : ¬ (t = 6 ∧ i = 0)) (hi : i < cDm κ t) : cEn cI cZ cB cS κ (wr σ 22 j v) sc ad t i = cEn cI cZ cB cS κ σ sc ad t i := by
  unfold cEn
  split
  all_goals (try rfl)
  exact absurd ⟨rfl, by simpa [cDm] using hi⟩ h
theorem cU7 {j : Nat} (v : Int32) (t i : Nat) (h : ¬ (t = 7 ∧ i = 0)) (hi : i < cDm κ t) : cEn cI cZ cB cS κ (wr σ 23 j v) sc ad t i = cEn cI cZ cB cS κ σ sc ad t i := by
  unfold cEn
  split
  all_goals (try rfl)
  exact absurd ⟨rfl, by simpa [cDm] using hi⟩ h
theorem cU8 {j : Nat} (v : Int32) (t i : Nat) (h : ¬ (t = 8 ∧ i = 0)) (hi : i < cDm κ t) : cEn cI cZ cB cS κ (wr σ 24 j v) sc ad t i = cEn cI cZ cB cS κ σ sc ad t i := by
  unfold cEn
  split
  all_goals (try rfl)
  exact absurd ⟨rfl, by simpa [cDm] using hi⟩ h
theorem cU9 {j : Nat} (v : Int32) (t i : Nat) (h : ¬ (t = 9 ∧ i = 0)) (hi : i < cDm κ t) : cEn cI cZ cB cS κ (wr σ 25 j v) sc ad t i = cEn cI cZ cB cS κ σ sc ad t i := by
  unfold cEn
  split
  all_goals (try rfl)
  exact absurd ⟨rfl, by simpa [cDm] using hi⟩ h
/-- the scratch rows -/
theorem cU3 {j : Nat} (v : Int32) (t i : Nat) (h : ¬ (t = 3 ∧ i = 0)) (hi : i < cDm κ t) : cEn cI cZ cB cS κ σ (wr sc 0 j v) ad t i = cEn cI cZ cB cS κ σ sc ad t i := by
  unfold cEn
  split
  all_goals (try rfl)
  exact absurd ⟨rfl, by simpa [cDm] using hi⟩ h
theorem cU4 {j : Nat} (v : Int32) (t i : Nat) (h : ¬ (t = 4 ∧ i = 0)) (hi : i < cDm κ t) : cEn cI cZ cB cS κ σ (wr sc 1 j v) ad t i = cEn cI cZ cB cS κ σ sc ad t i := by
  unfold cEn
  split
  all_goals (try rfl)
  exact absurd ⟨rfl, by simpa [cDm] using hi⟩ h
/-- the counters: time, failures -/
theorem cU0t (T : Nat) (t i : Nat) (h : ¬ (t = 0 ∧ i = 0)) (hi : i < cDm κ t) : cEn cI cZ cB cS (va_up κ 3 T) σ sc ad t i = cEn cI cZ cB cS κ σ sc ad t i := by
  have w : ∀ k : Nat, k ≠ 3 → va_up κ 3 T k = κ k := fun k hk => va_up_ne _ _ hk
  have w10 : ∀ k : Nat, va_up κ 3 T (10 + k) = κ (10 + k) := fun k => w _ (by omega)
  unfold cEn
  split
  all_goals (try rfl)
  · exact absurd ⟨rfl, by simpa [cDm] using hi⟩ h
  · simp only [w10]
theorem cU5f (T : Nat) (t i : Nat) (h : ¬ (t = 5 ∧ i = 0)) (hi : i < cDm κ t) : cEn cI cZ cB cS (va_up κ 2 T) σ sc ad t i = cEn cI cZ cB cS κ σ sc ad t i := by
  have w : ∀ k : Nat, k ≠ 2 → va_up κ 2 T k = κ k := fun k hk => va_up_ne _ _ hk
  have w10 : ∀ k : Nat, va_up κ 2 T (10 + k) = κ (10 + k) := fun k => w _ (by omega)
  unfold cEn
  split
  all_goals (try rfl)
  · exact absurd ⟨rfl, by simpa [cDm] using hi⟩ h
  · simp only [w10]
theorem cDm_up {κ : Nat → Nat} {k T : Nat} (h0 : k ≠ 0) (h1 : k ≠ 1) : cDm (va_up κ k T) = cDm κ := by
  funext t
  unfold cDm
  rw [va_up_ne _ _ (Ne.symm h0), va_up_ne _ _ (Ne.symm h1)]
theorem cU11s_0 {b : Nat} (v : Int32) : cEn cI cZ cB cS κ (wr σ 0 b v) sc ad 11 b = .inr (0, [.int v, .int (σ 1 b), .int (σ 2 b), .int (σ 3 b), .int (σ 4 b), .int (σ 5 b), .int (σ 6 b), .int (σ 7 b), .int (σ 8 b), .ref (ad 12 b), .ref (ad 13 b)]) := by simp [cEn, wr]
theorem cU11s_1 {b : Nat} (v : Int32) : cEn cI cZ cB cS κ (wr σ 1 b v) sc ad 11 b = .inr (0, [.int (σ 0 b), .int v, .int (σ 2 b), .int (σ 3 b), .int (σ 4 b), .int (σ 5 b), .int (σ 6 b), .int (σ 7 b), .int (σ 8 b), .ref (ad 12 b), .ref (ad 13 b)]) := by simp [cEn, wr]
theorem cU11s_2 {b : Nat} (v : Int32) : cEn cI cZ cB cS κ (wr σ 2 b v) sc ad 11 b = .inr (0, [.int (σ 0 b), .int (σ 1 b), .int v, .int (σ 3 b), .int (σ 4 b), .int (σ 5 b), .int (σ 6 b), .int (σ 7 b), .int (σ 8 b), .ref (ad 12 b), .ref (ad 13 b)]) := by simp [cEn, wr]
theorem cU11s_3 {b : Nat} (v : Int32) : cEn cI cZ cB cS κ (wr σ 3 b v) sc ad 11 b = .inr (0, [.int (σ 0 b), .int (σ 1 b), .int (σ 2 b), .int v, .int (σ 4 b), .int (σ 5 b), .int (σ 6 b), .int (σ 7 b), .int (σ 8 b), .ref (ad 12 b), .ref (ad 13 b)]) := by simp [cEn, wr]
theorem cU11s_4 {b : Nat} (v : Int32) : cEn cI cZ cB cS κ (wr σ 4 b v) sc ad 11 b = .inr (0, [.int (σ 0 b), .int (σ 1 b), .int (σ 2 b), .int (σ 3 b), .int v, .int (σ 5 b), .int (σ 6 b), .int (σ 7 b), .int (σ 8 b), .ref (ad 12 b), .ref (ad 13 b)]) := by simp [cEn, wr]
theorem cU11s_5 {b : Nat} (v : Int32) : cEn cI cZ cB cS κ (wr σ 5 b v) sc ad 11 b = .inr (0, [.int (σ 0 b), .int (σ 1 b), .int (σ 2 b), .int (σ 3 b), .int (σ 4 b), .int v, .int (σ 6 b), .int (σ 7 b), .int (σ 8 b), .ref (ad 12 b), .ref (ad 13 b)]) := by simp [cEn, wr]
theorem cU11s_6 {b : Nat} (v : Int32) : cEn cI cZ cB cS κ (wr σ 6 b v) sc ad 11 b = .inr (0, [.int (σ 0 b), .int (σ 1 b), .int (σ 2 b), .int (σ 3 b), .int (σ 4 b), .int (σ 5 b), .int v, .int (σ 7 b), .int (σ 8 b), .ref (ad 12 b), .ref (ad 13 b)]) := by simp [cEn, wr]
theorem cU11s_7 {b : Nat} (v : Int32) : cEn cI cZ cB cS κ (wr σ 7 b v) sc ad 11 b = .inr (0, [.int (σ 0 b), .int (σ 1 b), .int (σ 2 b), .int (σ 3 b), .int (σ 4 b), .int (σ 5 b), .int (σ 6 b), .int v, .int (σ 8 b), .ref (ad 12 b), .ref (ad 13 b)]) := by simp [cEn, wr]
theorem cU11s_8 {b : Nat} (v : Int32) : cEn cI cZ cB cS κ (wr σ 8 b v) sc ad 11 b = .inr (0, [.int (σ 0 b), .int (σ 1 b), .int (σ 2 b), .int (σ 3 b), .int (σ 4 b), .int (σ 5 b), .int (σ 6 b), .int (σ 7 b), .int v, .ref (ad 12 b), .ref (ad 13 b)]) := by simp [cEn, wr]
theorem cUs_2 {j : Nat} {v : Int32} : cEn cI cZ cB cS κ (wr σ 20 j v) sc ad 2 0 = .inl (cI, 10, .inl (upd (fun j => σ 20 j) j v)) := congrArg (fun f : Nat → Int32 => (Sum.inl (cI, (10, Sum.inl f)) : va_E)) (wr_row (σ := σ) (f := 20) (i := j) (v := v))
theorem cUs_6 {j : Nat} {v : Int32} : cEn cI cZ cB cS κ (wr σ 22 j v) sc ad 6 0 = .inl (cI, 4, .inl (upd (fun j => σ 22 j) j v)) := congrArg (fun f : Nat → Int32 => (Sum.inl (cI, (4, Sum.inl f)) : va_E)) (wr_row (σ := σ) (f := 22) (i := j) (v := v))
theorem cUs_7 {j : Nat} {v : Int32} : cEn cI cZ cB cS κ (wr σ 23 j v) sc ad 7 0 = .inl (cI, 32, .inl (upd (fun j => σ 23 j) j v)) := congrArg (fun f : Nat → Int32 => (Sum.inl (cI, (32, Sum.inl f)) : va_E)) (wr_row (σ := σ) (f := 23) (i := j) (v := v))
theorem cUs_8 {j : Nat} {v : Int32} : cEn cI cZ cB cS κ (wr σ 24 j v) sc ad 8 0 = .inl (cI, 32, .inl (upd (fun j => σ 24 j) j v)) := congrArg (fun f : Nat → Int32 => (Sum.inl (cI, (32, Sum.inl f)) : va_E)) (wr_row (σ := σ) (f := 24) (i := j) (v := v))
theorem cUs_9 {j : Nat} {v : Int32} : cEn cI cZ cB cS κ (wr σ 25 j v) sc ad 9 0 = .inl (cI, 32, .inl (upd (fun j => σ 25 j) j v)) := congrArg (fun f : Nat → Int32 => (Sum.inl (cI, (32, Sum.inl f)) : va_E)) (wr_row (σ := σ) (f := 25) (i := j) (v := v))
theorem cUs_3 {j : Nat} {v : Int32} : cEn cI cZ cB cS κ σ (wr sc 0 j v) ad 3 0 = .inl (cI, 40, .inl (upd (fun j => sc 0 j) j v)) := congrArg (fun f : Nat → Int32 => (Sum.inl (cI, (40, Sum.inl f)) : va_E)) (wr_row (σ := sc) (f := 0) (i := j) (v := v))
theorem cUs_4 {j : Nat} {v : Int32} : cEn cI cZ cB cS κ σ (wr sc 1 j v) ad 4 0 = .inl (cZ, 40, .inl (upd (fun j => sc 1 j) j v)) := congrArg (fun f : Nat → Int32 => (Sum.inl (cZ, (40, Sum.inl f)) : va_E)) (wr_row (σ := sc) (f := 1) (i := j) (v := v))
theorem cDf {κ : Nat → Nat} {t : Nat} (h : t < 11) : 0 < cDm κ t := by unfold cDm; rw [if_pos h]; decide
theorem cDb {κ : Nat → Nat} {t b : Nat} (h : b < κ 0) (h1 : 11 ≤ t) (h2 : t < 14) : b < cDm κ t := by unfold cDm; rw [if_neg (by omega), if_pos h2]; exact h
theorem cDs {κ : Nat → Nat} {t b : Nat} (h : b < κ 1) (h1 : 14 ≤ t) (h2 : t < 19) : b < cDm κ t := by unfold cDm; rw [if_neg (by omega), if_neg (by omega), if_pos h2]; exact h
end UPDC
section UPDR
variable {cI cZ : ClassId} {κ : Nat → Nat} {σ sc : Nat → Nat → Int32} {ad : Nat → Nat → Nat}
theorem rDf {t : Nat} (h : t = 0 ∨ (2 ≤ t ∧ t < 14) ∨ t = 15 ∨ t = 17 ∨ t = 18 ∨ t = 20 ∨ t = 22 ∨ t = 23) : 0 < rDm t := by unfold rDm; rw [if_pos h]; decide
theorem rD0 {t i : Nat} (h : i < rDm t) : i = 0 := by
  unfold rDm at h
  split at h <;> omega
theorem rU0 (j : Nat) (v : Int32) (t i : Nat) (h : ¬ (t = 0 ∧ i = 0)) (hi : i < rDm t) : rEn cI cZ κ σ (wr sc 2 j v) ad t i = rEn cI cZ κ σ sc ad t i := by
  unfold rEn
  split
  all_goals (try rfl)
  exact absurd ⟨rfl, rD0 hi⟩ h
theorem rU0k {k : Nat} (hk : k < 4) (T : Nat) (t i : Nat) (h : ¬ (t = 0 ∧ i = 0)) (hi : i < rDm t) : rEn cI cZ (va_up κ k T) σ sc ad t i = rEn cI cZ κ σ sc ad t i := by
  have w10 : ∀ j : Nat, va_up κ k T (10 + j) = κ (10 + j) := fun j => va_up_ne _ _ (by omega)
  unfold rEn
  split
  all_goals (try rfl)
  · exact absurd ⟨rfl, rD0 hi⟩ h
  · simp only [w10]
theorem rU0s_0 (v : Int32) : rEn cI cZ κ σ (wr sc 2 0 v) ad 0 0 = .inr (4, [.int v, .int (nI (κ 0)), .ref (ad 2 0), .ref (ad 3 0), .ref (ad 4 0), .ref (ad 5 0), .ref (ad 6 0), .ref (ad 7 0), .ref (ad 8 0), .ref (ad 9 0), .ref (ad 10 0), .ref (ad 11 0), .ref (ad 12 0), .ref (ad 13 0), .int (nI (κ 3)), .ref (ad 15 0), .int (sc 2 1), .ref (ad 17 0), .ref (ad 18 0), .int (nI (κ 2)), .ref (ad 20 0), .int (nI (κ 1)), .ref (ad 22 0), .ref (ad 23 0), .int (sc 2 2)]) := by simp [rEn, wr]
theorem rU0s_16 (v : Int32) : rEn cI cZ κ σ (wr sc 2 1 v) ad 0 0 = .inr (4, [.int (sc 2 0), .int (nI (κ 0)), .ref (ad 2 0), .ref (ad 3 0), .ref (ad 4 0), .ref (ad 5 0), .ref (ad 6 0), .ref (ad 7 0), .ref (ad 8 0), .ref (ad 9 0), .ref (ad 10 0), .ref (ad 11 0), .ref (ad 12 0), .ref (ad 13 0), .int (nI (κ 3)), .ref (ad 15 0), .int v, .ref (ad 17 0), .ref (ad 18 0), .int (nI (κ 2)), .ref (ad 20 0), .int (nI (κ 1)), .ref (ad 22 0), .ref (ad 23 0), .int (sc 2 2)]) := by simp [rEn, wr]
theorem rU0s_24 (v : Int32) : rEn cI cZ κ σ (wr sc 2 2 v) ad 0 0 = .inr (4, [.int (sc 2 0), .int (nI (κ 0)), .ref (ad 2 0), .ref (ad 3 0), .ref (ad 4 0), .ref (ad 5 0), .ref (ad 6 0), .ref (ad 7 0), .ref (ad 8 0), .ref (ad 9 0), .ref (ad 10 0), .ref (ad 11 0), .ref (ad 12 0), .ref (ad 13 0), .int (nI (κ 3)), .ref (ad 15 0), .int (sc 2 1), .ref (ad 17 0), .ref (ad 18 0), .int (nI (κ 2)), .ref (ad 20 0), .int (nI (κ 1)), .ref (ad 22 0), .ref (ad 23 0), .int v]) := by simp [rEn, wr]
theorem rU0k_1 (T : Nat) : rEn cI cZ (va_up κ 0 T) σ sc ad 0 0 = .inr (4, [.int (sc 2 0), .int (nI T), .ref (ad 2 0), .ref (ad 3 0), .ref (ad 4 0), .ref (ad 5 0), .ref (ad 6 0), .ref (ad 7 0), .ref (ad 8 0), .ref (ad 9 0), .ref (ad 10 0), .ref (ad 11 0), .ref (ad 12 0), .ref (ad 13 0), .int (nI (κ 3)), .ref (ad 15 0), .int (sc 2 1), .ref (ad 17 0), .ref (ad 18 0), .int (nI (κ 2)), .ref (ad 20 0), .int (nI (κ 1)), .ref (ad 22 0), .ref (ad 23 0), .int (sc 2 2)]) := by simp [rEn, va_up]
theorem rU0k_14 (T : Nat) : rEn cI cZ (va_up κ 3 T) σ sc ad 0 0 = .inr (4, [.int (sc 2 0), .int (nI (κ 0)), .ref (ad 2 0), .ref (ad 3 0), .ref (ad 4 0), .ref (ad 5 0), .ref (ad 6 0), .ref (ad 7 0), .ref (ad 8 0), .ref (ad 9 0), .ref (ad 10 0), .ref (ad 11 0), .ref (ad 12 0), .ref (ad 13 0), .int (nI T), .ref (ad 15 0), .int (sc 2 1), .ref (ad 17 0), .ref (ad 18 0), .int (nI (κ 2)), .ref (ad 20 0), .int (nI (κ 1)), .ref (ad 22 0), .ref (ad 23 0), .int (sc 2 2)]) := by simp [rEn, va_up]
theorem rU0k_19 (T : Nat) : rEn cI cZ (va_up κ 2 T) σ sc ad 0 0 = .inr (4, [.int (sc 2 0), .int (nI (κ 0)), .ref (ad 2 0), .ref (ad 3 0), .ref (ad 4 0), .ref (ad 5 0), .ref (ad 6 0), .ref (ad 7 0), .ref (ad 8 0), .ref (ad 9 0), .ref (ad 10 0), .ref (ad 11 0), .ref (ad 12 0), .ref (ad 13 0), .int (nI (κ 3)), .ref (ad 15 0), .int (sc 2 1), .ref (ad 17 0), .ref (ad 18 0), .int (nI T), .ref (ad 20 0), .int (nI (κ 1)), .ref (ad 22 0), .ref (ad 23 0), .int (sc 2 2)]) := by simp [rEn, va_up]
theorem rU0k_21 (T : Nat) : rEn cI cZ (va_up κ 1 T) σ sc ad 0 0 = .inr (4, [.int (sc 2 0), .int (nI (κ 0)), .ref (ad 2 0), .ref (ad 3 0), .ref (ad 4 0), .ref (ad 5 0), .ref (ad 6 0), .ref (ad 7 0), .ref (ad 8 0), .ref (ad 9 0), .ref (ad 10 0), .ref (ad 11 0), .ref (ad 12 0), .ref (ad 13 0), .int (nI (κ 3)), .ref (ad 15 0), .int (sc 2 1), .ref (ad 17 0), .ref (ad 18 0), .int (nI (κ 2)), .ref (ad 20 0), .int (nI T), .ref (ad 22 0), .ref (ad 23 0), .int (sc 2 2)]) := by simp [rEn, va_up]
theorem rUs_2 {j : Nat} {v : Int32} : rEn cI cZ κ (wr σ 0 j v) sc ad 2 0 = .inl (cI, 40, .inl (upd (fun j => σ 0 j) j v)) := congrArg (fun f : Nat → Int32 => (Sum.inl (cI, (40, Sum.inl f)) : va_E)) (wr_row (σ := σ) (f := 0) (i := j) (v := v))
theorem rU2 {j : Nat} (v : Int32) (t i : Nat) (h : ¬ (t = 2 ∧ i = 0)) (hi : i < rDm t) : rEn cI cZ κ (wr σ 0 j v) sc ad t i = rEn cI cZ κ σ sc ad t i := by
  unfold rEn
  split
  all_goals (try rfl)
  all_goals (first | exact absurd ⟨rfl, rD0 hi⟩ h | (congr 4; funext k2; exact wr_f (by omega)))
theorem rUs_3 {j : Nat} {v : Int32} : rEn cI cZ κ (wr σ 1 j v) sc ad 3 0 = .inl (cI, 40, .inl (upd (fun j => σ 1 j) j v)) := congrArg (fun f : Nat → Int32 => (Sum.inl (cI, (40, Sum.inl f)) : va_E)) (wr_row (σ := σ) (f := 1) (i := j) (v := v))
theorem rU3 {j : Nat} (v : Int32) (t i : Nat) (h : ¬ (t = 3 ∧ i = 0)) (hi : i < rDm t) : rEn cI cZ κ (wr σ 1 j v) sc ad t i = rEn cI cZ κ σ sc ad t i := by
  unfold rEn
  split
  all_goals (try rfl)
  all_goals (first | exact absurd ⟨rfl, rD0 hi⟩ h | (congr 4; funext k2; exact wr_f (by omega)))
theorem rUs_4 {j : Nat} {v : Int32} : rEn cI cZ κ (wr σ 2 j v) sc ad 4 0 = .inl (cI, 40, .inl (upd (fun j => σ 2 j) j v)) := congrArg (fun f : Nat → Int32 => (Sum.inl (cI, (40, Sum.inl f)) : va_E)) (wr_row (σ := σ) (f := 2) (i := j) (v := v))
theorem rU4 {j : Nat} (v : Int32) (t i : Nat) (h : ¬ (t = 4 ∧ i = 0)) (hi : i < rDm t) : rEn cI cZ κ (wr σ 2 j v) sc ad t i = rEn cI cZ κ σ sc ad t i := by
  unfold rEn
  split
  all_goals (try rfl)
  all_goals (first | exact absurd ⟨rfl, rD0 hi⟩ h | (congr 4; funext k2; exact wr_f (by omega)))
theorem rUs_5 {j : Nat} {v : Int32} : rEn cI cZ κ (wr σ 3 j v) sc ad 5 0 = .inl (cI, 40, .inl (upd (fun j => σ 3 j) j v)) := congrArg (fun f : Nat → Int32 => (Sum.inl (cI, (40, Sum.inl f)) : va_E)) (wr_row (σ := σ) (f := 3) (i := j) (v := v))
theorem rU5 {j : Nat} (v : Int32) (t i : Nat) (h : ¬ (t = 5 ∧ i = 0)) (hi : i < rDm t) : rEn cI cZ κ (wr σ 3 j v) sc ad t i = rEn cI cZ κ σ sc ad t i := by
  unfold rEn
  split
  all_goals (try rfl)
  all_goals (first | exact absurd ⟨rfl, rD0 hi⟩ h | (congr 4; funext k2; exact wr_f (by omega)))
theorem rUs_6 {j : Nat} {v : Int32} : rEn cI cZ κ (wr σ 9 j v) sc ad 6 0 = .inl (cI, 120, .inl (upd (fun j => σ 9 j) j v)) := congrArg (fun f : Nat → Int32 => (Sum.inl (cI, (120, Sum.inl f)) : va_E)) (wr_row (σ := σ) (f := 9) (i := j) (v := v))
theorem rU6 {j : Nat} (v : Int32) (t i : Nat) (h : ¬ (t = 6 ∧ i = 0)) (hi : i < rDm t) : rEn cI cZ κ (wr σ 9 j v) sc ad t i = rEn cI cZ κ σ sc ad t i := by
  unfold rEn
  split
  all_goals (try rfl)
  all_goals (first | exact absurd ⟨rfl, rD0 hi⟩ h | (congr 4; funext k2; exact wr_f (by omega)))
theorem rUs_7 {j : Nat} {v : Int32} : rEn cI cZ κ (wr σ 4 j v) sc ad 7 0 = .inl (cI, 40, .inl (upd (fun j => σ 4 j) j v)) := congrArg (fun f : Nat → Int32 => (Sum.inl (cI, (40, Sum.inl f)) : va_E)) (wr_row (σ := σ) (f := 4) (i := j) (v := v))
theorem rU7 {j : Nat} (v : Int32) (t i : Nat) (h : ¬ (t = 7 ∧ i = 0)) (hi : i < rDm t) : rEn cI cZ κ (wr σ 4 j v) sc ad t i = rEn cI cZ κ σ sc ad t i := by
  unfold rEn
  split
  all_goals (try rfl)
  all_goals (first | exact absurd ⟨rfl, rD0 hi⟩ h | (congr 4; funext k2; exact wr_f (by omega)))
theorem rUs_8 {j : Nat} {v : Int32} : rEn cI cZ κ (wr σ 5 j v) sc ad 8 0 = .inl (cI, 40, .inl (upd (fun j => σ 5 j) j v)) := congrArg (fun f : Nat → Int32 => (Sum.inl (cI, (40, Sum.inl f)) : va_E)) (wr_row (σ := σ) (f := 5) (i := j) (v := v))
theorem rU8 {j : Nat} (v : Int32) (t i : Nat) (h : ¬ (t = 8 ∧ i = 0)) (hi : i < rDm t) : rEn cI cZ κ (wr σ 5 j v) sc ad t i = rEn cI cZ κ σ sc ad t i := by
  unfold rEn
  split
  all_goals (try rfl)
  all_goals (first | exact absurd ⟨rfl, rD0 hi⟩ h | (congr 4; funext k2; exact wr_f (by omega)))
theorem rUs_9 {j : Nat} {v : Int32} : rEn cI cZ κ (wr σ 6 j v) sc ad 9 0 = .inl (cI, 40, .inl (upd (fun j => σ 6 j) j v)) := congrArg (fun f : Nat → Int32 => (Sum.inl (cI, (40, Sum.inl f)) : va_E)) (wr_row (σ := σ) (f := 6) (i := j) (v := v))
theorem rU9 {j : Nat} (v : Int32) (t i : Nat) (h : ¬ (t = 9 ∧ i = 0)) (hi : i < rDm t) : rEn cI cZ κ (wr σ 6 j v) sc ad t i = rEn cI cZ κ σ sc ad t i := by
  unfold rEn
  split
  all_goals (try rfl)
  all_goals (first | exact absurd ⟨rfl, rD0 hi⟩ h | (congr 4; funext k2; exact wr_f (by omega)))
theorem rUs_10 {j : Nat} {v : Int32} : rEn cI cZ κ (wr σ 10 j v) sc ad 10 0 = .inl (cI, 320, .inl (upd (fun j => σ 10 j) j v)) := congrArg (fun f : Nat → Int32 => (Sum.inl (cI, (320, Sum.inl f)) : va_E)) (wr_row (σ := σ) (f := 10) (i := j) (v := v))
theorem rU10 {j : Nat} (v : Int32) (t i : Nat) (h : ¬ (t = 10 ∧ i = 0)) (hi : i < rDm t) : rEn cI cZ κ (wr σ 10 j v) sc ad t i = rEn cI cZ κ σ sc ad t i := by
  unfold rEn
  split
  all_goals (try rfl)
  all_goals (first | exact absurd ⟨rfl, rD0 hi⟩ h | (congr 4; funext k2; exact wr_f (by omega)))
theorem rUs_11 {j : Nat} {v : Int32} : rEn cI cZ κ (wr σ 7 j v) sc ad 11 0 = .inl (cZ, 40, .inl (upd (fun j => σ 7 j) j v)) := congrArg (fun f : Nat → Int32 => (Sum.inl (cZ, (40, Sum.inl f)) : va_E)) (wr_row (σ := σ) (f := 7) (i := j) (v := v))
theorem rU11 {j : Nat} (v : Int32) (t i : Nat) (h : ¬ (t = 11 ∧ i = 0)) (hi : i < rDm t) : rEn cI cZ κ (wr σ 7 j v) sc ad t i = rEn cI cZ κ σ sc ad t i := by
  unfold rEn
  split
  all_goals (try rfl)
  all_goals (first | exact absurd ⟨rfl, rD0 hi⟩ h | (congr 4; funext k2; exact wr_f (by omega)))
theorem rUs_12 {j : Nat} {v : Int32} : rEn cI cZ κ (wr σ 8 j v) sc ad 12 0 = .inl (cI, 40, .inl (upd (fun j => σ 8 j) j v)) := congrArg (fun f : Nat → Int32 => (Sum.inl (cI, (40, Sum.inl f)) : va_E)) (wr_row (σ := σ) (f := 8) (i := j) (v := v))
theorem rU12 {j : Nat} (v : Int32) (t i : Nat) (h : ¬ (t = 12 ∧ i = 0)) (hi : i < rDm t) : rEn cI cZ κ (wr σ 8 j v) sc ad t i = rEn cI cZ κ σ sc ad t i := by
  unfold rEn
  split
  all_goals (try rfl)
  all_goals (first | exact absurd ⟨rfl, rD0 hi⟩ h | (congr 4; funext k2; exact wr_f (by omega)))
theorem rUs_13 {j : Nat} {v : Int32} : rEn cI cZ κ (wr σ 20 j v) sc ad 13 0 = .inl (cI, 10, .inl (upd (fun j => σ 20 j) j v)) := congrArg (fun f : Nat → Int32 => (Sum.inl (cI, (10, Sum.inl f)) : va_E)) (wr_row (σ := σ) (f := 20) (i := j) (v := v))
theorem rU13 {j : Nat} (v : Int32) (t i : Nat) (h : ¬ (t = 13 ∧ i = 0)) (hi : i < rDm t) : rEn cI cZ κ (wr σ 20 j v) sc ad t i = rEn cI cZ κ σ sc ad t i := by
  unfold rEn
  split
  all_goals (try rfl)
  all_goals (first | exact absurd ⟨rfl, rD0 hi⟩ h | (congr 4; funext k2; exact wr_f (by omega)))
theorem rUs_15 {j : Nat} {v : Int32} : rEn cI cZ κ σ (wr sc 0 j v) ad 15 0 = .inl (cI, 40, .inl (upd (fun j => sc 0 j) j v)) := congrArg (fun f : Nat → Int32 => (Sum.inl (cI, (40, Sum.inl f)) : va_E)) (wr_row (σ := sc) (f := 0) (i := j) (v := v))
theorem rU15 {j : Nat} (v : Int32) (t i : Nat) (h : ¬ (t = 15 ∧ i = 0)) (hi : i < rDm t) : rEn cI cZ κ σ (wr sc 0 j v) ad t i = rEn cI cZ κ σ sc ad t i := by
  unfold rEn
  split
  all_goals (try rfl)
  exact absurd ⟨rfl, rD0 hi⟩ h
theorem rUs_17 {j : Nat} {v : Int32} : rEn cI cZ κ σ (wr sc 1 j v) ad 17 0 = .inl (cZ, 40, .inl (upd (fun j => sc 1 j) j v)) := congrArg (fun f : Nat → Int32 => (Sum.inl (cZ, (40, Sum.inl f)) : va_E)) (wr_row (σ := sc) (f := 1) (i := j) (v := v))
theorem rU17 {j : Nat} (v : Int32) (t i : Nat) (h : ¬ (t = 17 ∧ i = 0)) (hi : i < rDm t) : rEn cI cZ κ σ (wr sc 1 j v) ad t i = rEn cI cZ κ σ sc ad t i := by
  unfold rEn
  split
  all_goals (try rfl)
  exact absurd ⟨rfl, rD0 hi⟩ h
theorem rUs_18 {j : Nat} {v : Int32} : rEn cI cZ κ (wr σ 22 j v) sc ad 18 0 = .inl (cI, 4, .inl (upd (fun j => σ 22 j) j v)) := congrArg (fun f : Nat → Int32 => (Sum.inl (cI, (4, Sum.inl f)) : va_E)) (wr_row (σ := σ) (f := 22) (i := j) (v := v))
theorem rU18 {j : Nat} (v : Int32) (t i : Nat) (h : ¬ (t = 18 ∧ i = 0)) (hi : i < rDm t) : rEn cI cZ κ (wr σ 22 j v) sc ad t i = rEn cI cZ κ σ sc ad t i := by
  unfold rEn
  split
  all_goals (try rfl)
  all_goals (first | exact absurd ⟨rfl, rD0 hi⟩ h | (congr 4; funext k2; exact wr_f (by omega)))
/-- the latest failures -/
theorem rUs_20 {j w : Nat} (hw : w < 3) {v : Int32} : rEn cI cZ κ (wr σ (23 + w) j v) sc ad 20 0 = .inl (cI, 96, .inl (upd (fun j => σ (23 + j % 3) (j / 3)) (3 * j + w) v)) := by
  refine congrArg (fun f : Nat → Int32 => (Sum.inl (cI, (96, Sum.inl f)) : va_E)) (funext fun k2 => ?_)
  by_cases h2 : k2 = 3 * j + w
  · subst h2
    rw [pk_us, show (3 * j + w) % 3 = w by omega, show (3 * j + w) / 3 = j by omega, wr_s]
  · rw [pk_un h2]
    by_cases h3 : k2 % 3 = w
    · rw [h3, wr_i (by omega)]
    · rw [wr_f (by omega)]
theorem rU20 {j w : Nat} (hw : w < 3) (v : Int32) (t i : Nat) (h : ¬ (t = 20 ∧ i = 0)) (hi : i < rDm t) : rEn cI cZ κ (wr σ (23 + w) j v) sc ad t i = rEn cI cZ κ σ sc ad t i := by
  have w0 : ∀ g k2 : Nat, g < 23 ∨ 26 ≤ g → wr σ (23 + w) j v g k2 = σ g k2 := fun g k2 hg => wr_f (by omega)
  unfold rEn
  split
  all_goals (try rfl)
  all_goals (first | exact absurd ⟨rfl, rD0 hi⟩ h | (congr 4; funext k2; exact w0 _ _ (by omega)))
/-- the savings -/
theorem rUs_23 {j w : Nat} (hw : w < 4) {v : Int32} : rEn cI cZ κ (wr σ (30 + w) j v) sc ad 23 0 = .inl (cI, 800, .inl (upd (fun j => σ (30 + j % 4) (j / 4)) (4 * j + w) v)) := by
  refine congrArg (fun f : Nat → Int32 => (Sum.inl (cI, (800, Sum.inl f)) : va_E)) (funext fun k2 => ?_)
  by_cases h2 : k2 = 4 * j + w
  · subst h2
    rw [pk_us, show (4 * j + w) % 4 = w by omega, show (4 * j + w) / 4 = j by omega, wr_s]
  · rw [pk_un h2]
    by_cases h3 : k2 % 4 = w
    · rw [h3, wr_i (by omega)]
    · rw [wr_f (by omega)]
theorem rU23 {j w : Nat} (hw : w < 4) (v : Int32) (t i : Nat) (h : ¬ (t = 23 ∧ i = 0)) (hi : i < rDm t) : rEn cI cZ κ (wr σ (30 + w) j v) sc ad t i = rEn cI cZ κ σ sc ad t i := by
  have w0 : ∀ g k2 : Nat, g < 30 → wr σ (30 + w) j v g k2 = σ g k2 := fun g k2 hg => wr_f (by omega)
  unfold rEn
  split
  all_goals (try rfl)
  all_goals (first | (congr 4; funext k2; exact w0 _ _ (by omega)) | (refine absurd ⟨?_, rD0 hi⟩ h; unfold rDm at hi; split at hi <;> (simp only [imp_false] at *; omega)))
theorem rUs_22 {j T : Nat} : rEn cI cZ (va_up κ (10 + j) T) σ sc ad 22 0 = .inl (cI, 5, .inl (upd (fun j => nI (κ (10 + j))) j (nI T))) := by
  refine congrArg (fun f : Nat → Int32 => (Sum.inl (cI, (5, Sum.inl f)) : va_E)) (funext fun k2 => ?_)
  by_cases h2 : k2 = j
  · subst h2
    rw [pk_us, va_up_self]
  · rw [pk_un h2, va_up_ne _ _ (by omega)]
theorem rU22 {j : Nat} (T : Nat) (t i : Nat) (h : ¬ (t = 22 ∧ i = 0)) (hi : i < rDm t) : rEn cI cZ (va_up κ (10 + j) T) σ sc ad t i = rEn cI cZ κ σ sc ad t i := by
  have w : ∀ k : Nat, k < 10 → va_up κ (10 + j) T k = κ k := fun k hk => va_up_ne _ _ (by omega)
  unfold rEn
  split
  all_goals (try rfl)
  · rw [w 0 (by decide), w 1 (by decide), w 2 (by decide), w 3 (by decide)]
  · exact absurd ⟨rfl, rD0 hi⟩ h
end UPDR
