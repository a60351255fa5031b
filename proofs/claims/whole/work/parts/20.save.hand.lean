/-! A saving. -/
section SVG
variable {D : va_G} {A : Nat → Prop} {dm : Nat → Nat} {en en2 : Nat → Nat → va_E} {ad : Nat → Nat → Nat} {cI cZ cB cS : ClassId} {κ : Nat → Nat} {σ sc : Nat → Nat → Int32}
theorem ovr2 {k t i : Nat} {X : va_E} (h : ∀ t' i' : Nat, i' < dm t' → ¬ (t' = t ∧ i' = i) → en2 t' i' = en t' i') : ∀ t' i' : Nat, i' < dm t' → ¬ (t' = t ∧ i' = i) → ovr k X en2 t' i' = ovr k X en t' i' := by
  intro t' i' h1 h2
  unfold ovr
  rw [h t' i' h1 h2]
theorem cU14s {i T : Nat} : cEn cI cZ cB cS (va_up κ (10 + i) T) σ sc ad 14 i = .inr (2, [.int (nI T), .ref (ad 15 i), .ref (ad 16 i), .ref (ad 17 i), .ref (ad 18 i)]) := by
  simp only [cEn, va_up_self]
theorem cU14 {i T : Nat} : ∀ t' i' : Nat, i' < cDm κ t' → ¬ (t' = 14 ∧ i' = i) → cEn cI cZ cB cS (va_up κ (10 + i) T) σ sc ad t' i' = cEn cI cZ cB cS κ σ sc ad t' i' := by
  intro t' i' hi hne
  have h19 : t' < 19 := by
    unfold cDm at hi
    repeat' split at hi
    all_goals omega
  have h0 : va_up κ (10 + i) T 0 = κ 0 := va_up_ne _ _ (by omega)
  have h1 : va_up κ (10 + i) T 1 = κ 1 := va_up_ne _ _ (by omega)
  have h2 : va_up κ (10 + i) T 2 = κ 2 := va_up_ne _ _ (by omega)
  have h3 : va_up κ (10 + i) T 3 = κ 3 := va_up_ne _ _ (by omega)
  rcases (show t' = 0 ∨ t' = 1 ∨ t' = 2 ∨ t' = 3 ∨ t' = 4 ∨ t' = 5 ∨ t' = 6 ∨ t' = 7 ∨ t' = 8 ∨ t' = 9 ∨ t' = 10 ∨ t' = 11 ∨ t' = 12 ∨ t' = 13 ∨ t' = 14 ∨ t' = 15 ∨ t' = 16 ∨ t' = 17 ∨ t' = 18 by omega) with rfl | rfl | rfl | rfl | rfl | rfl | rfl | rfl | rfl | rfl | rfl | rfl | rfl | rfl | rfl | rfl | rfl | rfl | rfl
  · simp only [cEn, h0, h1, h3]
  · simp only [cEn, h0]
  · rfl
  · rfl
  · rfl
  · simp only [cEn, h2]
  · rfl
  · rfl
  · rfl
  · rfl
  · simp only [cEn, h1]
  · rfl
  · rfl
  · rfl
  · have hn : ¬ i' = i := fun z => hne ⟨rfl, z⟩
    simp only [cEn, va_up_ne κ T (show 10 + i' ≠ 10 + i by omega)]
  · rfl
  · rfl
  · rfl
  · rfl
theorem cU15 {k b : Nat} (hk : k < 40) (v : Int32) (t i : Nat) (hc : i < cDm κ t) (h : ¬ (t = 15 ∧ i = b)) : cEn cI cZ cB cS κ (wr σ 30 (40 * b + k) v) sc ad t i = cEn cI cZ cB cS κ σ sc ad t i := by
  unfold cEn
  split
  all_goals (try rfl)
  have hi : i ≠ b := fun z => h ⟨rfl, z⟩
  congr 4
  funext k2
  by_cases h2 : k2 < 40
  · rw [if_pos h2, if_pos h2, wr_i (by omega)]
  · rw [if_neg h2, if_neg h2]
theorem cU15s {k b : Nat} (hk : k < 40) (v : Int32) : cEn cI cZ cB cS κ (wr σ 30 (40 * b + k) v) sc ad 15 b = .inl (cI, 40, .inl (upd (fun k => if k < 40 then σ 30 (40 * b + k) else 0) k v)) := by
  refine congrArg (fun f : Nat → Int32 => (Sum.inl (cI, (40, Sum.inl f)) : va_E)) (funext fun k2 => ?_)
  by_cases h2 : k2 = k
  · subst h2; rw [if_pos hk, wr_s, pk_us]
  · rw [pk_un h2]
    by_cases h3 : k2 < 40
    · rw [if_pos h3, if_pos h3, wr_i (by omega)]
    · rw [if_neg h3, if_neg h3]
theorem cU16 {k b : Nat} (hk : k < 40) (v : Int32) (t i : Nat) (hc : i < cDm κ t) (h : ¬ (t = 16 ∧ i = b)) : cEn cI cZ cB cS κ (wr σ 31 (40 * b + k) v) sc ad t i = cEn cI cZ cB cS κ σ sc ad t i := by
  unfold cEn
  split
  all_goals (try rfl)
  have hi : i ≠ b := fun z => h ⟨rfl, z⟩
  congr 4
  funext k2
  by_cases h2 : k2 < 40
  · rw [if_pos h2, if_pos h2, wr_i (by omega)]
  · rw [if_neg h2, if_neg h2]
theorem cU16s {k b : Nat} (hk : k < 40) (v : Int32) : cEn cI cZ cB cS κ (wr σ 31 (40 * b + k) v) sc ad 16 b = .inl (cI, 40, .inl (upd (fun k => if k < 40 then σ 31 (40 * b + k) else 0) k v)) := by
  refine congrArg (fun f : Nat → Int32 => (Sum.inl (cI, (40, Sum.inl f)) : va_E)) (funext fun k2 => ?_)
  by_cases h2 : k2 = k
  · subst h2; rw [if_pos hk, wr_s, pk_us]
  · rw [pk_un h2]
    by_cases h3 : k2 < 40
    · rw [if_pos h3, if_pos h3, wr_i (by omega)]
    · rw [if_neg h3, if_neg h3]
theorem cU17 {k b : Nat} (hk : k < 40) (v : Int32) (t i : Nat) (hc : i < cDm κ t) (h : ¬ (t = 17 ∧ i = b)) : cEn cI cZ cB cS κ (wr σ 32 (40 * b + k) v) sc ad t i = cEn cI cZ cB cS κ σ sc ad t i := by
  unfold cEn
  split
  all_goals (try rfl)
  have hi : i ≠ b := fun z => h ⟨rfl, z⟩
  congr 4
  funext k2
  by_cases h2 : k2 < 40
  · rw [if_pos h2, if_pos h2, wr_i (by omega)]
  · rw [if_neg h2, if_neg h2]
theorem cU17s {k b : Nat} (hk : k < 40) (v : Int32) : cEn cI cZ cB cS κ (wr σ 32 (40 * b + k) v) sc ad 17 b = .inl (cI, 40, .inl (upd (fun k => if k < 40 then σ 32 (40 * b + k) else 0) k v)) := by
  refine congrArg (fun f : Nat → Int32 => (Sum.inl (cI, (40, Sum.inl f)) : va_E)) (funext fun k2 => ?_)
  by_cases h2 : k2 = k
  · subst h2; rw [if_pos hk, wr_s, pk_us]
  · rw [pk_un h2]
    by_cases h3 : k2 < 40
    · rw [if_pos h3, if_pos h3, wr_i (by omega)]
    · rw [if_neg h3, if_neg h3]
theorem cU18 {k b : Nat} (hk : k < 40) (v : Int32) (t i : Nat) (hc : i < cDm κ t) (h : ¬ (t = 18 ∧ i = b)) : cEn cI cZ cB cS κ (wr σ 33 (40 * b + k) v) sc ad t i = cEn cI cZ cB cS κ σ sc ad t i := by
  have h19 : t < 19 := by
    unfold cDm at hc
    repeat' split at hc
    all_goals omega
  by_cases h18 : t = 18
  · subst h18
    have hi : i ≠ b := fun z => h ⟨rfl, z⟩
    show Sum.inl (cI, 40, Sum.inl _) = Sum.inl (cI, 40, Sum.inl _)
    congr 4
    funext k2
    by_cases h2 : k2 < 40
    · rw [if_pos h2, if_pos h2, wr_i (by omega)]
    · rw [if_neg h2, if_neg h2]
  · rcases (show t = 0 ∨ t = 1 ∨ t = 2 ∨ t = 3 ∨ t = 4 ∨ t = 5 ∨ t = 6 ∨ t = 7 ∨ t = 8 ∨ t = 9 ∨ t = 10 ∨ t = 11 ∨ t = 12 ∨ t = 13 ∨ t = 14 ∨ t = 15 ∨ t = 16 ∨ t = 17 by omega) with rfl | rfl | rfl | rfl | rfl | rfl | rfl | rfl | rfl | rfl | rfl | rfl | rfl | rfl | rfl | rfl | rfl | rfl <;> rfl
theorem cU18s {k b : Nat} (hk : k < 40) (v : Int32) : cEn cI cZ cB cS κ (wr σ 33 (40 * b + k) v) sc ad 18 b = .inl (cI, 40, .inl (upd (fun k => if k < 40 then σ 33 (40 * b + k) else 0) k v)) := by
  refine congrArg (fun f : Nat → Int32 => (Sum.inl (cI, (40, Sum.inl f)) : va_E)) (funext fun k2 => ?_)
  by_cases h2 : k2 = k
  · subst h2; rw [if_pos hk, wr_s, pk_us]
  · rw [pk_un h2]
    by_cases h3 : k2 < 40
    · rw [if_pos h3, if_pos h3, wr_i (by omega)]
    · rw [if_neg h3, if_neg h3]
def keepS (σ : Nat → Nat → Int32) (sv i : Nat) : Nat → Nat → Int32 := wr (wr (wr (wr σ 30 (40 * sv + i) (σ 0 i)) 31 (40 * sv + i) (σ 4 i)) 32 (40 * sv + i) (σ 5 i)) 33 (40 * sv + i) (σ 6 i)
def svS (σ : Nat → Nat → Int32) (sv : Nat) : Nat → Nat → Nat → Int32
  | 0 => σ
  | i + 1 => keepS (svS σ sv i) sv i
def svK (κ : Nat → Nat) (i : Nat) : Nat → Nat := va_up (va_up κ 1 (κ 1 + 1)) (10 + κ 1) i
theorem svK_s {i : Nat} : svK κ i (10 + κ 1) = i := va_up_self _ _ _
theorem svK_1 {i : Nat} : svK κ i 1 = κ 1 + 1 := (va_up_ne _ _ (by omega)).trans (va_up_self _ _ _)
theorem svK_k {i k : Nat} (h : k ≠ 1) (h2 : k ≠ 10 + κ 1) : svK κ i k = κ k := (va_up_ne _ _ h2).trans (va_up_ne _ _ h)
theorem svK_z (h : κ (10 + κ 1) = 0) : svK κ 0 = va_up κ 1 (κ 1 + 1) := by
  funext j
  unfold svK
  by_cases hj : j = 10 + κ 1
  · subst hj
    rw [va_up_self, va_up_ne _ _ (by omega), h]
  · rw [va_up_ne _ _ hj]
theorem svK_up {i j : Nat} : va_up (svK κ i) (10 + κ 1) j = svK κ j := by
  funext k
  unfold svK
  by_cases hk : k = 10 + κ 1
  · subst hk
    rw [va_up_self, va_up_self]
  · rw [va_up_ne _ _ hk, va_up_ne _ _ hk, va_up_ne _ _ hk]
theorem svK_dm {i j : Nat} : cDm (svK κ i) = cDm (svK κ j) := by
  exact (cDm_up (κ := va_up κ 1 (κ 1 + 1)) (k := 10 + κ 1) (T := i) (by omega) (by omega)).trans (cDm_up (κ := va_up κ 1 (κ 1 + 1)) (k := 10 + κ 1) (T := j) (by omega) (by omega)).symm
theorem svK_dm0 {i : Nat} : cDm (svK κ i) = cDm (va_up κ 1 (κ 1 + 1)) := by
  exact cDm_up (κ := va_up κ 1 (κ 1 + 1)) (k := 10 + κ 1) (T := i) (by omega) (by omega)
/-- the savings' array holds the new one -/
theorem cSaved {H : Heap} {κe : Nat → Nat} {b b1 b2 b3 b4 : Nat} (h1 : κe 1 = κ 1 + 1) (hP : gw_P D vwCl A (cDm κe) (ovr 10 (.inl (cS, qf (va_up (fun j => if j < κ 1 then some (ad 14 j) else none) (κ 1) (some (adS ad (κ 1) b b1 b2 b3 b4 14 (κ 1)))) 5)) (ovr 10 (cEn cI cZ cB cS κ σ sc ad 10 0) (ovr 0 (cEn cI cZ cB cS κ σ sc (adS ad (κ 1) b b1 b2 b3 b4) 0 0) en))) (adS ad (κ 1) b b1 b2 b3 b4) H) (he : ∀ i, en 10 i = .inl (cS, qf (fun j => if j < κe 1 then some (adS ad (κ 1) b b1 b2 b3 b4 14 j) else none) 5)) :
    gw_P D vwCl A (cDm κe) (ovr 0 (cEn cI cZ cB cS κ σ sc (adS ad (κ 1) b b1 b2 b3 b4) 0 0) en) (adS ad (κ 1) b b1 b2 b3 b4) H := by
  refine hP.eqv (fun t i hi => ?_)
  by_cases h10 : t = 10
  · subst h10
    rw [ovr_s, ovr_n (by decide), he, h1]
    congr 6
    funext j
    unfold va_up
    by_cases hj : j = κ 1
    · subst hj
      rw [if_pos (Nat.lt_succ_self _), if_pos rfl]
    · rw [if_neg hj, adS_o (Or.inl hj)]
      by_cases hj2 : j < κ 1
      · simp [hj2, show j < κ 1 + 1 by omega]
      · simp [hj2, show ¬ j < κ 1 + 1 by omega]
  · rw [ovr_n h10, ovr_n h10]
end SVG
