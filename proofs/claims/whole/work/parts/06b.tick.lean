/-! A tick: a memory is (counters, numbers). -/
abbrev MM : Type := (Nat → Nat) × (Nat → Nat → Int32)
def itM {α : Type} (f : Nat → α → α) : Nat → α → α
  | 0, x => x
  | n + 1, x => f n (itM f n x)
def kd (σ : Nat → Nat → Int32) (b : Nat) : Nat := (σ 0 b).toNatClampNeg
theorem kd_of {σ : Nat → Nat → Int32} {b k : Nat} (h : σ 0 b = nI k) (hk : k < 26) : kd σ b = k := by
  unfold kd
  rw [h, nI_clamp (by omega)]
abbrev rkX (κ : Nat → Nat) (σ : Nat → Nat → Int32) (b i : Nat) : Int32 := outV (κ 0) σ (σ 9 (3 * b + i))
def rkF (κ : Nat → Nat) (σ : Nat → Nat → Int32) (b k : Nat) : Nat := f_fail σ k b (rkX κ σ b 0) (rkX κ σ b 1)
def rkV (κ : Nat → Nat) (σ : Nat → Nat → Int32) (b k : Nat) : Int32 :=
  if k = 0 then σ 20 (σ 1 b).toNatClampNeg else if 2 ≤ k ∧ k < 15 then f_comb k (rkX κ σ b 0) (rkX κ σ b 1) (rkX κ σ b 2) else f_own σ k b (rkX κ σ b 0) (rkX κ σ b 1) (nI (κ 3 % 1440))
def reckonK (κ : Nat → Nat) (σ : Nat → Nat → Int32) (b k : Nat) : Nat → Nat := if rkF κ σ b k = 0 then κ else noteK κ
def reckonS (κ : Nat → Nat) (σ : Nat → Nat → Int32) (b k : Nat) : Nat → Nat → Int32 :=
  if rkF κ σ b k = 0 then say (ownS σ k b (rkX κ σ b 0) (rkX κ σ b 1)) b (rkV κ σ b k) else failS κ σ b (rkF κ σ b k)
def reckonM (b : Nat) (M : MM) : MM := (reckonK M.1 M.2 b (kd M.2 b), reckonS M.1 M.2 b (kd M.2 b))
theorem reckonM_k {b k : Nat} {M : MM} (h : kd M.2 b = k) : reckonM b M = (reckonK M.1 M.2 b k, reckonS M.1 M.2 b k) := by
  subst h
  rfl
def takeK (κ : Nat → Nat) (σ : Nat → Nat → Int32) (b : Nat) : Nat → Nat := if σ 9 (3 * b + 0) = -1 then noteK κ else κ
def takeS (κ : Nat → Nat) (σ : Nat → Nat → Int32) (b : Nat) : Nat → Nat → Int32 := if σ 9 (3 * b + 0) = -1 then failS κ σ b 3 else wr σ 5 b (rkX κ σ b 0)
def takeM (b : Nat) (M : MM) : MM := if kd M.2 b = 16 then (takeK M.1 M.2 b, takeS M.1 M.2 b) else M
theorem takeM_y {b : Nat} {M : MM} (h : kd M.2 b = 16) : takeM b M = (takeK M.1 M.2 b, takeS M.1 M.2 b) := if_pos h
theorem takeM_n {b : Nat} {M : MM} (h : ¬ kd M.2 b = 16) : takeM b M = M := if_neg h
def timeM (M : MM) : MM := (va_up M.1 3 (M.1 3 + 1), M.2)
def tickM (n : Nat) (ln : Nat → Nat) (M : MM) : MM := itM takeM n (itM (fun i => reckonM (ln i)) n (timeM M))
def runM (n : Nat) (ln : Nat → Nat) (k : Nat) (M : MM) : MM := itM (fun _ => tickM n ln) k M
theorem f_fail_le (σ : Nat → Nat → Int32) (k b : Nat) (x y : Int32) : f_fail σ k b x y ≤ 3 := by
  unfold f_fail
  repeat' split
  all_goals omega
theorem f_fail15 {σ : Nat → Nat → Int32} {b : Nat} {x y : Int32} (h : f_fail σ 15 b x y = 0) : okI 8 x := by
  unfold f_fail at h
  by_cases h1 : (15 : Nat) ≠ 16 ∧ lack σ 15 b = true
  · rw [if_pos h1] at h; omega
  · rw [if_neg h1, if_neg (by decide), if_pos rfl] at h
    by_cases h2 : okI 8 x
    · exact h2
    · rw [if_neg h2] at h; omega
theorem f_fail0 {σ : Nat → Nat → Int32} {b : Nat} {x y : Int32} (h : f_fail σ 0 b x y = 0) : okI 10 (σ 1 b) := by
  unfold f_fail at h
  by_cases h1 : (0 : Nat) ≠ 16 ∧ lack σ 0 b = true
  · rw [if_pos h1] at h; omega
  · rw [if_neg h1, if_pos rfl] at h
    by_cases h2 : okI 10 (σ 1 b)
    · exact h2
    · rw [if_neg h2] at h; omega
theorem ownS_id {σ : Nat → Nat → Int32} {k b : Nat} {x y : Int32} (h : k < 18) : ownS σ k b x y = σ := by
  have h1 : f_fst σ k b x y = σ 5 b := by
    unfold f_fst
    split <;> first | omega | rfl
  have h2 : f_snd σ k b x = σ 6 b := by
    unfold f_snd
    split <;> first | omega | rfl
  unfold ownS
  rw [h1, h2, wr_id, wr_id]
/-- what a tick's parts leave alone -/
def quiet (f : Nat) : Prop := f < 4 ∨ f = 7 ∨ f = 8 ∨ f = 9 ∨ f = 10 ∨ f = 20 ∨ 30 ≤ f
theorem say_q {σ : Nat → Nat → Int32} {b f j : Nat} {v : Int32} (h : f ≠ 4) : say σ b v f j = σ f j := wr_f h
theorem noteS_q {κ : Nat → Nat} {σ : Nat → Nat → Int32} {x y : Int32} {k f j : Nat} (h : f < 22 ∨ 25 < f) : noteS κ σ x y k f j = σ f j := by
  unfold noteS
  rw [wr_f (by omega)]
  unfold noteX
  rw [wr_f (by omega), wr_f (by omega), wr_f (by omega), wr_f (by omega)]
theorem failS_q {κ : Nat → Nat} {σ : Nat → Nat → Int32} {b k f j : Nat} (h : quiet f) : failS κ σ b k f j = σ f j := by
  unfold quiet at h
  unfold failS
  rw [say_q (by omega), noteS_q (by omega)]
theorem ownS_q {σ : Nat → Nat → Int32} {b k f j : Nat} {x y : Int32} (h : quiet f) : ownS σ k b x y f j = σ f j := by
  unfold quiet at h
  unfold ownS
  rw [wr_f (by omega), wr_f (by omega)]
theorem reckonS_q {κ : Nat → Nat} {σ : Nat → Nat → Int32} {b k f j : Nat} (h : quiet f) : reckonS κ σ b k f j = σ f j := by
  unfold reckonS
  split
  · rw [say_q (by unfold quiet at h; omega), ownS_q h]
  · exact failS_q h
theorem takeS_q {κ : Nat → Nat} {σ : Nat → Nat → Int32} {b f j : Nat} (h : quiet f) : takeS κ σ b f j = σ f j := by
  unfold takeS
  split
  · exact failS_q h
  · exact wr_f (by unfold quiet at h; omega)
theorem noteK_k {κ : Nat → Nat} {k : Nat} (h : k ≠ 2) : noteK κ k = κ k := va_up_ne _ _ h
theorem reckonK_k {κ : Nat → Nat} {σ : Nat → Nat → Int32} {b k j : Nat} (h : j ≠ 2) : reckonK κ σ b k j = κ j := by
  unfold reckonK
  split
  · rfl
  · exact noteK_k h
theorem takeK_k {κ : Nat → Nat} {σ : Nat → Nat → Int32} {b j : Nat} (h : j ≠ 2) : takeK κ σ b j = κ j := by
  unfold takeK
  split
  · exact noteK_k h
  · rfl
/-- M2 comes out of M by parts of ticks -/
def later (M M2 : MM) : Prop := (∀ k, k ≠ 2 → k ≠ 3 → M2.1 k = M.1 k) ∧ (∀ f j, quiet f → M2.2 f j = M.2 f j)
theorem later.rf (M : MM) : later M M := ⟨fun _ _ _ => rfl, fun _ _ _ => rfl⟩
theorem later.tr {M M2 M3 : MM} (h : later M M2) (h2 : later M2 M3) : later M M3 := ⟨fun k a b => (h2.1 k a b).trans (h.1 k a b), fun f j q => (h2.2 f j q).trans (h.2 f j q)⟩
theorem later.reckon (M : MM) (b : Nat) : later M (reckonM b M) := ⟨fun _ h _ => reckonK_k h, fun _ _ h => reckonS_q h⟩
theorem later.take (M : MM) (b : Nat) : later M (takeM b M) := by
  unfold takeM
  split
  · exact ⟨fun _ h _ => takeK_k h, fun _ _ h => takeS_q h⟩
  · exact later.rf M
theorem later.time (M : MM) : later M (timeM M) := ⟨fun _ _ h => va_up_ne _ _ h, fun _ _ _ => rfl⟩
theorem later.it {f : Nat → MM → MM} (hf : ∀ i M, later M (f i M)) (n : Nat) (M : MM) : later M (itM f n M) := by
  induction n with
  | zero => exact later.rf M
  | succ n ih => exact ih.tr (hf n _)
theorem later.tick (n : Nat) (ln : Nat → Nat) (M : MM) : later M (tickM n ln M) := ((later.time M).tr (later.it (fun i M => later.reckon M (ln i)) n _)).tr (later.it (fun i M => later.take M i) n _)
theorem later.run (n : Nat) (ln : Nat → Nat) (k : Nat) (M : MM) : later M (runM n ln k M) := later.it (fun _ M => later.tick n ln M) k M
theorem later.dm {M M2 : MM} (h : later M M2) : cDm M2.1 = cDm M.1 := by
  funext t
  unfold cDm
  rw [h.1 0 (by decide) (by decide), h.1 1 (by decide) (by decide)]
theorem time_reckon (M : MM) (b : Nat) : (reckonM b M).1 3 = M.1 3 := reckonK_k (by decide)
theorem time_take (M : MM) (b : Nat) : (takeM b M).1 3 = M.1 3 := by
  unfold takeM
  split
  · exact takeK_k (by decide)
  · rfl
theorem time_it {f : Nat → MM → MM} (hf : ∀ i M, (f i M).1 3 = M.1 3) (n : Nat) (M : MM) : (itM f n M).1 3 = M.1 3 := by
  induction n with
  | zero => rfl
  | succ n ih => exact (hf n _).trans ih
theorem time_tick (n : Nat) (ln : Nat → Nat) (M : MM) : (tickM n ln M).1 3 = M.1 3 + 1 := by
  unfold tickM
  rw [time_it (fun i M => time_take M i), time_it (fun i M => time_reckon M (ln i))]
  show va_up M.1 3 (M.1 3 + 1) 3 = _
  exact va_up_self _ _ _
theorem time_run (n : Nat) (ln : Nat → Nat) (k : Nat) (M : MM) : (runM n ln k M).1 3 = M.1 3 + k := by
  induction k with
  | zero => rfl
  | succ k ih => exact (time_tick n ln _).trans (by rw [show (itM (fun _ => tickM n ln) k M) = runM n ln k M from rfl, ih]; omega)
/-- the kinds are kinds -/
def kok (n : Nat) (σ : Nat → Nat → Int32) : Prop := ∀ i, i < n → ∃ k : Nat, k < 26 ∧ σ 0 i = nI k
theorem later.kok {M M2 : MM} (h : later M M2) {n : Nat} (hk : kok n M.2) : kok n M2.2 := fun i hi => by
  obtain ⟨k, h1, h2⟩ := hk i hi
  exact ⟨k, h1, (h.2 0 i (Or.inl (by decide))).trans h2⟩
