/-! What holds of the memory between two calls. -/
theorem wr_e {σ : Nat → Nat → Int32} {f i g j : Nat} {v : Int32} : wr σ f i v g j = if g = f ∧ j = i then v else σ g j := by
  unfold wr
  by_cases h1 : g = f <;> by_cases h2 : j = i <;> simp [h1, h2]
def gInv (κ : Nat → Nat) (σ : Nat → Nat → Int32) : Prop :=
  κ 0 ≤ 40 ∧ κ 1 ≤ 5 ∧ κ 3 ≤ 3000 ∧ κ 2 ≤ 80 * κ 3 ∧ kok (κ 0) σ ∧ σ 22 0 = nI (κ 2) ∧
  (∀ i, i < κ 0 → narrow .boolean (.int (σ 7 i)) = .int (σ 7 i)) ∧
  (∀ b, b < κ 0 → ∀ i, i < 3 → okW κ σ b i) ∧
  (∀ f j, 1 ≤ f → f ≤ 8 → κ 0 ≤ j → σ f j = 0) ∧ (∀ j, 8 * κ 0 ≤ j → σ 10 j = 0) ∧
  (∀ f j, 30 ≤ f → f < 34 → 40 * κ 1 ≤ j → σ f j = 0) ∧ (∀ j, κ 1 ≤ j → κ (10 + j) = 0) ∧ (∀ j, j < κ 1 → κ (10 + j) ≤ κ 0)
theorem gInv.zero : gInv (fun _ => 0) (fun _ _ => 0) := by
  refine ⟨by decide, by decide, by decide, by decide, fun i hi => absurd hi (Nat.not_lt_zero i), rfl, fun i hi => absurd hi (Nat.not_lt_zero i), fun b hb => absurd hb (Nat.not_lt_zero b), fun _ _ _ _ _ => rfl, fun _ _ => rfl, fun _ _ _ _ _ => rfl, fun _ _ => rfl, fun j hj => absurd hj (Nat.not_lt_zero j)⟩
theorem gInv.put {κ : Nat → Nat} {σ : Nat → Nat → Int32} (h : gInv κ σ) {f j : Nat} {v : Int32} (h0 : f = 0 → ∃ k : Nat, k < 26 ∧ v = nI k) (h18 : 1 ≤ f → f ≤ 8 → j < κ 0) (h7 : f = 7 → narrow .boolean (.int v) = .int v) (h9 : f = 9 → v = -1 ∨ okI (κ 0) v) (h10 : f = 10 → j < 8 * κ 0) (h22 : f ≠ 22) (h30 : f < 30) : gInv κ (wr σ f j v) := by
  obtain ⟨a0, a1, a3, a2, ak, a22, a7, a9, a18, a10, a30, ac, as⟩ := h
  refine ⟨a0, a1, a3, a2, fun i hi => ?_, ?_, fun i hi => ?_, fun b hb i hi => ?_, fun g q g1 g8 hq => ?_, fun q hq => ?_, fun g q g1 g2 hq => ?_, ac, as⟩
  · rw [wr_e]
    split
    · rename_i q
      exact h0 q.1.symm
    · exact ak i hi
  · rw [wr_e, if_neg (fun q => h22 q.1.symm)]
    exact a22
  · rw [wr_e]
    split
    · rename_i q
      exact h7 q.1.symm
    · exact a7 i hi
  · unfold okW
    rw [wr_e]
    split
    · rename_i q
      exact h9 q.1.symm
    · exact a9 b hb i hi
  · rw [wr_e, if_neg (fun z => by have := h18 (by omega) (by omega); omega)]
    exact a18 g q g1 g8 hq
  · rw [wr_e, if_neg (fun z => by have := h10 z.1.symm; omega)]
    exact a10 q hq
  · rw [wr_e, if_neg (fun z => by omega)]
    exact a30 g q g1 g2 hq
theorem okI_up {n : Nat} {x : Int32} (hn : n + 1 < 2 ^ 31) (h : okI n x) : okI (n + 1) x := by
  obtain ⟨j, hj, rfl⟩ := ix_of (n := n) (by omega) h.1 h.2
  exact okI_at (by omega) hn
theorem okI_nI {x : Int32} (h : okI 26 x) : ∃ k : Nat, k < 26 ∧ x = nI k := ix_of (by decide) h.1 h.2
theorem okI_lt {n : Nat} {x : Int32} (hn : n < 2 ^ 31) (h : okI n x) : x.toNatClampNeg < n := by
  obtain ⟨j, hj, rfl⟩ := ix_of (n := n) hn h.1 h.2
  rw [nI_clamp (by omega)]
  exact hj
theorem gInv.sb {κ : Nat → Nat} {σ : Nat → Nat → Int32} (h : gInv κ σ) {y0 : Int32} (hy : okI 26 y0) : gInv κ (sBlock κ σ y0) := by
  unfold sBlock
  refine (((h.put (f := 0) ?_ ?_ ?_ ?_ ?_ ?_ ?_).put (f := 9) ?_ ?_ ?_ ?_ ?_ ?_ ?_).put (f := 9) ?_ ?_ ?_ ?_ ?_ ?_ ?_).put (f := 9) ?_ ?_ ?_ ?_ ?_ ?_ ?_
  all_goals first | exact fun _ => okI_nI hy | exact fun _ => Or.inl rfl | omega
theorem gInv.block {κ : Nat → Nat} {σ : Nat → Nat → Int32} (h : gInv κ σ) {y0 : Int32} (hc : κ 0 < 40) (hy : okI 26 y0) : gInv (va_up κ 0 (κ 0 + 1)) (sBlock κ σ y0) := by
  have e0 : va_up κ 0 (κ 0 + 1) 0 = κ 0 + 1 := va_up_self _ _ _
  have ek : ∀ k : Nat, k ≠ 0 → va_up κ 0 (κ 0 + 1) k = κ k := fun k hk => va_up_ne _ _ hk
  obtain ⟨a0, a1, a3, a2, ak, a22, a7, a9, a18, a10, a30, ac, as⟩ := h.sb hy
  unfold gInv
  rw [e0, ek 1 (by decide), ek 2 (by decide), ek 3 (by decide)]
  refine ⟨by omega, a1, a3, a2, fun i hi => ?_, a22, fun i hi => ?_, fun b hb i hi => ?_, fun f j h1 h2 h3 => a18 f j h1 h2 (by omega), fun j hj => a10 j (by omega), a30, fun j hj => by rw [ek _ (by omega)]; exact ac j hj, fun j hj => by rw [ek _ (by omega)]; have := as j hj; omega⟩
  · by_cases hz : i = κ 0
    · subst hz
      obtain ⟨k, h1, h2⟩ := okI_nI hy
      refine ⟨k, h1, ?_⟩
      unfold sBlock
      rw [wr_f (by decide), wr_f (by decide), wr_f (by decide), wr_s, h2]
    · exact ak i (by omega)
  · by_cases hz : i = κ 0
    · subst hz
      rw [a18 7 (κ 0) (by decide) (by decide) (Nat.le_refl _)]
      rfl
    · exact a7 i (by omega)
  · unfold okW
    rw [e0]
    by_cases hz : b = κ 0
    · subst hz
      refine Or.inl ?_
      unfold sBlock
      rw [wr_e, wr_e, wr_e]
      rcases (show i = 0 ∨ i = 1 ∨ i = 2 by omega) with rfl | rfl | rfl
      · rw [if_neg (by omega), if_neg (by omega), if_pos ⟨rfl, rfl⟩]
      · rw [if_neg (by omega), if_pos ⟨rfl, rfl⟩]
      · rw [if_pos ⟨rfl, rfl⟩]
    · rcases a9 b (by omega) i hi with q | q
      · exact Or.inl q
      · exact Or.inr (okI_up (by omega) q)
theorem svS_q {σ : Nat → Nat → Int32} {sv f j : Nat} (h : f < 30 ∨ 34 ≤ f) : ∀ i, svS σ sv i f j = σ f j
  | 0 => rfl
  | i + 1 => by
    show keepS (svS σ sv i) sv i f j = _
    unfold keepS
    rw [wr_f (by omega), wr_f (by omega), wr_f (by omega), wr_f (by omega)]
    exact svS_q h i
theorem svS_b {σ : Nat → Nat → Int32} {sv f j : Nat} (h : 40 * sv + 40 ≤ j) : ∀ i, i ≤ 40 → svS σ sv i f j = σ f j
  | 0, _ => rfl
  | i + 1, hi => by
    show keepS (svS σ sv i) sv i f j = _
    unfold keepS
    rw [wr_e, if_neg (by omega), wr_e, if_neg (by omega), wr_e, if_neg (by omega), wr_e, if_neg (by omega)]
    exact svS_b h i (by omega)
theorem gInv.save {κ : Nat → Nat} {σ : Nat → Nat → Int32} (h : gInv κ σ) (hc : κ 1 < 5) : gInv (svK κ (κ 0)) (svS σ (κ 1) (κ 0)) := by
  obtain ⟨a0, a1, a3, a2, ak, a22, a7, a9, a18, a10, a30, ac, as⟩ := h
  have k0 : svK κ (κ 0) 0 = κ 0 := svK_k (by decide) (by omega)
  have k1 : svK κ (κ 0) 1 = κ 1 + 1 := svK_1
  have k2 : svK κ (κ 0) 2 = κ 2 := svK_k (by decide) (by omega)
  have k3 : svK κ (κ 0) 3 = κ 3 := svK_k (by decide) (by omega)
  have q : ∀ f j : Nat, f < 30 → svS σ (κ 1) (κ 0) f j = σ f j := fun f j hf => svS_q (Or.inl hf) _
  unfold gInv
  rw [k0, k1, k2, k3]
  refine ⟨a0, by omega, a3, a2, fun i hi => ?_, ?_, fun i hi => ?_, fun b hb i hi => ?_, fun f j h1 h2 h3 => by rw [q _ _ (by omega)]; exact a18 f j h1 h2 h3, fun j hj => by rw [q _ _ (by omega)]; exact a10 j hj, fun f j h1 h2 h3 => by rw [svS_b (by omega) _ a0]; exact a30 f j h1 h2 (by omega), fun j hj => ?_, fun j hj => ?_⟩
  · rw [q _ _ (by omega)]
    exact ak i hi
  · rw [q _ _ (by omega)]
    exact a22
  · rw [q _ _ (by omega)]
    exact a7 i hi
  · unfold okW
    rw [q _ _ (by omega), k0]
    exact a9 b hb i hi
  · rw [svK_k (by omega) (by omega)]
    exact ac j (by omega)
  · by_cases hz : j = κ 1
    · subst hz
      rw [svK_s]
      exact Nat.le_refl _
    · rw [svK_k (by omega) (by omega)]
      exact as j (by omega)
theorem gInv.hit {κ : Nat → Nat} {σ : Nat → Nat → Int32} {sv i : Nat} (h : gInv κ σ) (hi : i < κ 0) : gInv κ (hitS σ sv i) := by
  unfold hitS
  refine ((h.put (f := 4) ?_ ?_ ?_ ?_ ?_ ?_ ?_).put (f := 5) ?_ ?_ ?_ ?_ ?_ ?_ ?_).put (f := 6) ?_ ?_ ?_ ?_ ?_ ?_ ?_
  all_goals omega
theorem gInv.back {κ : Nat → Nat} {σ : Nat → Nat → Int32} {sv : Nat} (h : gInv κ σ) : ∀ i, i ≤ κ 0 → gInv κ (backI κ σ sv i).1
  | 0, _ => h
  | i + 1, hi => by
    have h1 := gInv.back (sv := sv) h i (by omega)
    cases hh : hitR κ (backI κ σ sv i).1 sv i with
    | true => rw [back_y hh]; exact h1.hit (by omega)
    | false => rw [back_n hh]; exact h1
theorem gInv.bec {κ : Nat → Nat} {σ : Nat → Nat → Int32} {j : Nat} {y1 : Int32} (h : gInv κ σ) (hj : j < κ 0) (hy : okI 26 y1) : gInv κ (becS σ j y1) := by
  unfold becS
  refine (((h.put (f := 0) ?_ ?_ ?_ ?_ ?_ ?_ ?_).put (f := 4) ?_ ?_ ?_ ?_ ?_ ?_ ?_).put (f := 5) ?_ ?_ ?_ ?_ ?_ ?_ ?_).put (f := 6) ?_ ?_ ?_ ?_ ?_ ?_ ?_
  all_goals first | exact fun _ => okI_nI hy | omega
/-- how the parts of a tick keep the count of failures and the numbers beyond the blocks -/
def tkP (n : Nat) (M : MM) : Prop := M.2 22 0 = nI (M.1 2) ∧ ∀ f j, 4 ≤ f → f ≤ 6 → n ≤ j → M.2 f j = 0
theorem note_22 {κ : Nat → Nat} {σ : Nat → Nat → Int32} {x y : Int32} {k : Nat} (hk : k ≠ 0) (h : σ 22 0 = nI (κ 2)) : noteS κ σ x y k 22 0 = nI (noteK κ 2) := by
  unfold noteS
  rw [wr_i (Ne.symm hk)]
  unfold noteX
  rw [wr_s, h, note_2]
  exact nI_1 _
theorem note_46 {κ : Nat → Nat} {σ : Nat → Nat → Int32} {x y : Int32} {k f j : Nat} (h : f < 22) : noteS κ σ x y k f j = σ f j := noteS_q (Or.inl h)
theorem tkP.fail {n b k : Nat} {κ : Nat → Nat} {σ : Nat → Nat → Int32} (h : tkP n (κ, σ)) (hb : b < n) (hk : k ≠ 0) : tkP n (noteK κ, failS κ σ b k) := by
  unfold failS
  refine ⟨?_, fun f j h1 h2 h3 => ?_⟩
  · show say (noteS κ σ (nI (κ 3)) (nI b) k) b (σ 3 b) 22 0 = nI (noteK κ 2)
    rw [say_q (by decide)]
    exact note_22 hk h.1
  · show say (noteS κ σ (nI (κ 3)) (nI b) k) b (σ 3 b) f j = 0
    unfold say
    rw [wr_e, if_neg (by omega), note_46 (by omega)]
    exact h.2 f j h1 h2 h3
theorem own_22 {σ : Nat → Nat → Int32} {k b : Nat} {x y v : Int32} : say (ownS σ k b x y) b v 22 0 = σ 22 0 := by
  rw [say_q (by decide)]
  unfold ownS
  rw [wr_f (by decide), wr_f (by decide)]
theorem own_46 {σ : Nat → Nat → Int32} {k b f j : Nat} {x y v : Int32} (h : ¬ j = b) : say (ownS σ k b x y) b v f j = σ f j := by
  unfold say ownS
  rw [wr_e, if_neg (by omega), wr_e, if_neg (by omega), wr_e, if_neg (by omega)]
theorem tkP.own {n k b : Nat} {κ : Nat → Nat} {σ : Nat → Nat → Int32} {x y v : Int32} (h : tkP n (κ, σ)) (hb : b < n) : tkP n (κ, say (ownS σ k b x y) b v) := by
  refine ⟨?_, fun f j h1 h2 h3 => ?_⟩
  · show say (ownS σ k b x y) b v 22 0 = nI (κ 2)
    rw [own_22]
    exact h.1
  · show say (ownS σ k b x y) b v f j = 0
    rw [own_46 (by omega)]
    exact h.2 f j h1 h2 h3
theorem tkP.w5 {n b : Nat} {κ : Nat → Nat} {σ : Nat → Nat → Int32} {v : Int32} (h : tkP n (κ, σ)) (hb : b < n) : tkP n (κ, wr σ 5 b v) := by
  refine ⟨?_, fun f j h1 h2 h3 => ?_⟩
  · show wr σ 5 b v 22 0 = nI (κ 2)
    rw [wr_f (by decide)]
    exact h.1
  · show wr σ 5 b v f j = 0
    rw [wr_e, if_neg (by omega)]
    exact h.2 f j h1 h2 h3
theorem tkP.reckon {n b : Nat} {M : MM} (h : tkP n M) (hb : b < n) : tkP n (reckonM b M) := by
  unfold reckonM reckonK reckonS
  by_cases hz : rkF M.1 M.2 b (kd M.2 b) = 0
  · rw [if_pos hz, if_pos hz]
    exact tkP.own h hb
  · rw [if_neg hz, if_neg hz]
    exact tkP.fail h hb hz
theorem tkP.take {n b : Nat} {M : MM} (h : tkP n M) (hb : b < n) : tkP n (takeM b M) := by
  unfold takeM takeK takeS
  split
  · by_cases hw : M.2 9 (3 * b + 0) = -1
    · rw [if_pos hw, if_pos hw]
      exact tkP.fail h hb (by decide)
    · rw [if_neg hw, if_neg hw]
      exact tkP.w5 h hb
  · exact h
theorem tkP.it {n : Nat} {f : Nat → MM → MM} (hf : ∀ i M, i < n → tkP n M → tkP n (f i M)) {M : MM} (h : tkP n M) : ∀ k, k ≤ n → tkP n (itM f k M)
  | 0, _ => h
  | k + 1, hk => hf k _ (by omega) (tkP.it hf h k (by omega))
theorem tkP.time {n : Nat} {M : MM} (h : tkP n M) : tkP n (timeM M) := ⟨by show M.2 22 0 = nI ((timeM M).1 2); rw [time_2]; exact h.1, h.2⟩
theorem tkP.tick {n : Nat} {ln : Nat → Nat} (hl : ∀ i, i < n → ln i < n) {M : MM} (h : tkP n M) : tkP n (tickM n ln M) :=
  tkP.it (fun i M hi hM => tkP.take hM hi) (tkP.it (f := fun i => reckonM (ln i)) (fun i M hi hM => tkP.reckon hM (hl i hi)) (tkP.time h) n (Nat.le_refl n)) n (Nat.le_refl n)
theorem tkP.run {n : Nat} {ln : Nat → Nat} (hl : ∀ i, i < n → ln i < n) {M : MM} (h : tkP n M) : ∀ k, tkP n (runM n ln k M)
  | 0 => h
  | k + 1 => tkP.tick hl (tkP.run hl h k)
theorem run_n {κ : Nat → Nat} {σ : Nat → Nat → Int32} {y0 : Int32} (h3 : κ 3 ≤ 3000) (h : cRun κ σ y0 = 0) : κ 3 + y0.toNatClampNeg ≤ 3000 := by
  unfold cRun at h
  by_cases h1 : 1 ≤ y0 ∧ y0 ≤ 500
  · rw [if_pos h1] at h
    by_cases h2 : comeF (κ 0) σ < κ 0 ∨ 3000 < κ 3 + y0.toNatClampNeg
    · rw [if_pos h2] at h
      omega
    · omega
  · rw [if_neg h1] at h
    omega
theorem gInv.run {κ : Nat → Nat} {σ : Nat → Nat → Int32} {y0 : Int32} (h : gInv κ σ) : gInv (runR κ σ y0).1 (runR κ σ y0).2 := by
  unfold runR
  by_cases hc : cRun κ σ y0 = 0
  · rw [if_pos hc]
    have hn := run_n h.2.2.1 hc
    generalize y0.toNatClampNeg = n at hn
    have L := later.run (κ 0) (lineF (κ 0) σ) n (κ, σ)
    have t3 := time_run (κ 0) (lineF (κ 0) σ) n (κ, σ)
    have t2 := run_280 h.1 (lineF (κ 0) σ) (κ, σ) n
    have P : tkP (κ 0) (runM (κ 0) (lineF (κ 0) σ) n (κ, σ)) := tkP.run (fun i hi => line_lt hi) ⟨h.2.2.2.2.2.1, fun f j h1 h2 h3 => h.2.2.2.2.2.2.2.2.1 f j (by omega) (by omega) h3⟩ n
    generalize runM (κ 0) (lineF (κ 0) σ) n (κ, σ) = M at L t3 t2 P ⊢
    obtain ⟨a0, a1, a3, a2, ak, a22, a7, a9, a18, a10, a30, ac, as⟩ := h
    have k0 : M.1 0 = κ 0 := L.1 0 (by decide) (by decide)
    have k1 : M.1 1 = κ 1 := L.1 1 (by decide) (by decide)
    have t3 : M.1 3 = κ 3 + n := t3
    have t2 : M.1 2 ≤ κ 2 + 80 * n := t2
    unfold gInv
    rw [k0, k1]
    refine ⟨a0, a1, by omega, by omega, L.kok ak, P.1, fun i hi => ?_, fun b hb i hi => okW_later L (a9 b hb i hi), fun f j h1 h2 h3 => ?_, fun j hj => ?_, fun f j h1 h2 h3 => ?_, fun j hj => ?_, fun j hj => ?_⟩
    · rw [L.2 7 i (by unfold quiet; omega)]
      exact a7 i hi
    · by_cases hz : 4 ≤ f ∧ f ≤ 6
      · exact P.2 f j hz.1 hz.2 h3
      · rw [L.2 f j (by unfold quiet; omega)]
        exact a18 f j h1 h2 h3
    · rw [L.2 10 j (by unfold quiet; omega)]
      exact a10 j hj
    · rw [L.2 f j (by unfold quiet; omega)]
      exact a30 f j h1 h2 h3
    · rw [L.1 _ (by omega) (by omega)]
      exact ac j hj
    · rw [L.1 _ (by omega) (by omega)]
      exact as j hj
  · rw [if_neg hc]
    exact h
