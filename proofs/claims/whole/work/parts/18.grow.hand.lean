/-! Cells join the world. -/
section GRW
variable {p : Program} {l : Launch} {e : Env} {R : Room} {s : State} {m : MethodId} {args : Array Value} {below : List Frame} {meth : Method} {c : Code} {H : Heap} {locs : List Loc} {cells slots : Nat} {Q : State → Prop}
variable {cc : ByteArray} {pc : Nat} {ls : Array Slot} {rest : List Value} {D : va_G} {cl : List vw_C} {A : Nat → Prop} {tys : List (ClassId × FieldType)} {H0 : Heap} {dm dm2 : Nat → Nat} {en en2 : Nat → Nat → va_E} {ad ad2 : Nat → Nat → Nat} {cI cZ cB cS : ClassId} {κ : Nat → Nat} {σ sc : Nat → Nat → Int32}
/-- a tag's cells as they are not pictured -/
def ovr (k : Nat) (X : va_E) (en : Nat → Nat → va_E) : Nat → Nat → va_E := fun t i => if t = k then X else en t i
theorem ovr_s {k i : Nat} {X : va_E} : ovr k X en k i = X := if_pos rfl
theorem ovr_n {k t i : Nat} {X : va_E} (h : ¬ t = k) : ovr k X en t i = en t i := if_neg h
theorem gw_aast (hexec : p.tables.exec = Jvm.exec) (hb : c.code = cc) (hK : va_K D cl tys s) (hP : gw_P D cl A dm en ad H) (hS : va_S A H0 H locs) (t : Nat) (hd1 : dm t = 1) (t0 : Nat) {cA : ClassId} {r : vw_C} {n v ci : Nat} {vs : List Value} {f : Nat → Option Nat} (he : en t 0 = .inl (cA, n, .inr (.inr (.inr (.inr f))))) (ht : tys[t0]? = some (cA, .object r.1)) (hv : va_at D cl (v, .inr (ci, vs)) H) (hc : cl[ci]? = some r) (j : Nat) {x : Int32} (hx : x = nI j) (hj : j < n) (hn : n < 2 ^ 31) (hdg : decode cc pc = .ok (.aastore, 1))
    (kk : ∀ (H1 : Heap) (locs1 : List Loc), gw_P D cl A dm (ovr t (.inl (cA, n, .inr (.inr (.inr (.inr (va_up f j (some v))))))) en) ad H1 → (∀ q : Nat, q ≠ ad t 0 → H1[q]? = H[q]?) → va_S A H0 H1 locs1 → W p l e R s m args below meth c H1 locs1 cells slots Q (F0 m (pc + 1) ls rest)) : W p l e R s m args below meth c H locs cells slots Q (F0 m pc ls (.ref v :: .int x :: .ref (ad t 0) :: rest)) := by
  subst hx
  have hi : 0 < dm t := by omega
  have hin : vp_in (nI j) n := vp_in_nI hj hn
  have hcl : (nI j).toNatClampNeg = j := nI_clamp (Nat.lt_trans hj hn)
  have hlt : (nI j).toNatClampNeg < n := Nat.not_le.mp fun q => hin (Or.inr q)
  have h0 : ¬ nI j < 0 := fun q => hin (Or.inl q)
  obtain ⟨r', hr', cellV, g1, g2, g3, -⟩ := hv
  have hcls := (hK.1 ci r hc).2
  obtain ⟨kA, comp, k1, k2, k3, -⟩ := (hK.2 t0 _ ht).2
  have hcomp : comp = D.1 ci := Option.some.inj (k3.symm.trans hcls.1)
  subst hcomp
  obtain ⟨kC, hkC, -⟩ := hcls.2
  have hP1 := hP.one hi he
  refine W.aast hexec hb (hP1 0 _ rfl) (fun q h => by cases h) (fun h => by cases h) k1 k2 rfl hkC ⟨h0, by show _ < (arrV _ _ _).slots.size; rw [arrV_size]; exact hlt⟩ g1 (fun q h => by rw [g3] at h; cases h) (by rw [g2]; exact hkC) (by rw [g2]; exact va_assign hcls) rfl rfl hdg fun H1 e1 z oq => ?_
  refine kk H1 _ (hP.upd hi (fun t' i' hi' hne => ovr_n (fun q => hne ⟨q, by subst q; omega⟩)) ?_ oq) oq (hS.put z oq (hP.2.1 t 0 hi))
  rw [ovr_s]
  show H1[ad t 0]? = some (vp_cell _ _)
  rw [e1, hcl]
  rw [vp_cell_q, vp_cell_q, arrV_store]
  congr 2
  funext q
  by_cases hq : q = j
  · subst hq
    simp [updV, va_up, va_rf]
  · simp [updV, va_up, hq]
theorem gw_grow (hP : gw_P D cl A dm en ad H) {b : Nat} (nw : Nat → Nat → Prop) (h2 : ∀ t i : Nat, i < dm2 t → (i < dm t ∧ ad2 t i = ad t i ∧ en2 t i = en t i) ∨ (nw t i ∧ b ≤ ad2 t i ∧ va_at D cl (ad2 t i, en2 t i) H)) (hlt : ∀ t i : Nat, i < dm t → ad t i < b) (hbA : ∀ q : Nat, b ≤ q → A q)
    (hinj : ∀ t i u j : Nat, nw t i → nw u j → ad2 t i = ad2 u j → t = u ∧ i = j) : gw_P D cl A dm2 en2 ad2 H := by
  refine ⟨fun t i hi => ?_, fun t i hi => ?_, fun t i u j hi hj hq => ?_⟩
  · rcases h2 t i hi with ⟨h, e1, e2⟩ | ⟨-, -, h⟩
    · rw [e1, e2]; exact hP.1 t i h
    · exact h
  · rcases h2 t i hi with ⟨h, e1, -⟩ | ⟨-, h, -⟩
    · rw [e1]; exact hP.2.1 t i h
    · exact hbA _ h
  · rcases h2 t i hi with ⟨h, e1, -⟩ | ⟨n1, h, -⟩ <;> rcases h2 u j hj with ⟨h', e2, -⟩ | ⟨n2, h', -⟩
    · exact hP.2.2 t i u j h h' (by rw [← e1, ← e2]; exact hq)
    · have := hlt t i h
      rw [e1] at hq
      omega
    · have := hlt u j h'
      rw [e2] at hq
      omega
    · exact hinj t i u j n1 n2 hq
def adB (ad : Nat → Nat → Nat) (n b b1 b2 : Nat) : Nat → Nat → Nat := fun t i => if t = 11 ∧ i = n then b else if t = 12 ∧ i = n then b1 else if t = 13 ∧ i = n then b2 else ad t i
theorem adB_o {n b b1 b2 t i : Nat} (h : ¬ i = n ∨ t < 11 ∨ 13 < t) : adB ad n b b1 b2 t i = ad t i := by
  unfold adB
  rw [if_neg (by omega), if_neg (by omega), if_neg (by omega)]
theorem adB_11 {n b b1 b2 : Nat} : adB ad n b b1 b2 11 n = b := if_pos ⟨rfl, rfl⟩
theorem adB_12 {n b b1 b2 : Nat} : adB ad n b b1 b2 12 n = b1 := by simp [adB]
theorem adB_13 {n b b1 b2 : Nat} : adB ad n b b1 b2 13 n = b2 := by simp [adB]
theorem sBlock_o {y0 : Int32} {f j : Nat} (h : (f = 0 → ¬ j = κ 0) ∧ (f = 9 → j < 3 * κ 0)) : sBlock κ σ y0 f j = σ f j := by
  unfold sBlock
  simp only [wr]
  by_cases h9 : f = 9
  · have := h.2 h9
    subst h9
    simp [show ¬ j = 3 * κ 0 + 2 by omega, show ¬ j = 3 * κ 0 + 1 by omega, show ¬ j = 3 * κ 0 by omega]
  · by_cases h0 : f = 0
    · subst h0; simp [h.1 rfl]
    · simp [h9, h0]
theorem sBlock_0 {y0 : Int32} : sBlock κ σ y0 0 (κ 0) = y0 := by simp [sBlock, wr]
theorem sBlock_9 {y0 : Int32} {k : Nat} (hk : k < 3) : sBlock κ σ y0 9 (3 * κ 0 + k) = -1 := by
  rcases (show k = 0 ∨ k = 1 ∨ k = 2 by omega) with rfl | rfl | rfl <;> simp [sBlock, wr]
abbrev blk0 (b b1 b2 : Nat) (cI : ClassId) (y0 : Int32) : va_W := [(b, .inr (0, [.int y0, .int 0, .int 0, .int 0, .int 0, .int 0, .int 0, .int 0, .int 0, .ref b1, .ref b2])), (b1, .inl (cI, 3, .inl (upd (upd (upd (fun _ => 0) (Int32.toNatClampNeg 0) (-1)) (Int32.toNatClampNeg 1) (-1)) (Int32.toNatClampNeg 2) (-1)))), (b2, .inl (cI, 8, .inl (fun _ => 0)))]
theorem cGrowB {b b1 b2 : Nat} {y0 : Int32} (hz8 : ∀ f, 1 ≤ f → f ≤ 8 → σ f (κ 0) = 0) (hz10 : ∀ k, k < 8 → σ 10 (8 * κ 0 + k) = 0)
    (hP : gw_P D vwCl A (cDm κ) (ovr 1 (.inl (cB, qf (va_up (fun j => if j < κ 0 then some (ad 11 j) else none) (κ 0) (some b)) 40)) (cEn cI cZ cB cS κ σ sc ad)) ad H)
    (hN : va_P D vwCl (blk0 b b1 b2 cI y0) H) (hD : va_D (fun q => b ≤ q) (blk0 b b1 b2 cI y0)) (hlt : ∀ t i : Nat, i < cDm κ t → ad t i < b) (hbA : ∀ q : Nat, b ≤ q → A q) :
    gw_P D vwCl A (cDm (va_up κ 0 (κ 0 + 1))) (ovr 0 (cEn cI cZ cB cS κ σ sc (adB ad (κ 0) b b1 b2) 0 0) (cEn cI cZ cB cS (va_up κ 0 (κ 0 + 1)) (sBlock κ σ y0) sc (adB ad (κ 0) b b1 b2))) (adB ad (κ 0) b b1 b2) H := by
  refine gw_grow hP (fun t i => i = κ 0 ∧ 11 ≤ t ∧ t < 14) (b := b) (fun t i hi => ?_) hlt hbA (fun t i u j n1 n2 hq => ?_)
  · by_cases hnew : i = κ 0 ∧ 11 ≤ t ∧ t < 14
    · refine Or.inr ⟨hnew, ?_⟩
      obtain ⟨rfl, h11, h14⟩ := hnew
      rcases (show t = 11 ∨ t = 12 ∨ t = 13 by omega) with rfl | rfl | rfl
      · rw [ovr_n (by decide), adB_11]
        refine ⟨Nat.le_refl b, ?_⟩
        have h := hN 0 _ rfl
        have e : cEn cI cZ cB cS (va_up κ 0 (κ 0 + 1)) (sBlock κ σ y0) sc (adB ad (κ 0) b b1 b2) 11 (κ 0) = .inr (0, [.int y0, .int 0, .int 0, .int 0, .int 0, .int 0, .int 0, .int 0, .int 0, .ref b1, .ref b2]) := by
          show Sum.inr (0, _) = _
          rw [sBlock_0, adB_12, adB_13]
          rw [sBlock_o (by omega), sBlock_o (by omega), sBlock_o (by omega), sBlock_o (by omega), sBlock_o (by omega), sBlock_o (by omega), sBlock_o (by omega), sBlock_o (by omega)]
          rw [hz8 1 (by decide) (by decide), hz8 2 (by decide) (by decide), hz8 3 (by decide) (by decide), hz8 4 (by decide) (by decide), hz8 5 (by decide) (by decide), hz8 6 (by decide) (by decide), hz8 7 (by decide) (by decide), hz8 8 (by decide) (by decide)]
        rw [e]
        exact h
      · rw [ovr_n (by decide), adB_12]
        refine ⟨hD.2 1 _ rfl, ?_⟩
        have h := hN 1 _ rfl
        have e : cEn cI cZ cB cS (va_up κ 0 (κ 0 + 1)) (sBlock κ σ y0) sc (adB ad (κ 0) b b1 b2) 12 (κ 0) = .inl (cI, 3, .inl (upd (upd (upd (fun _ => 0) (Int32.toNatClampNeg 0) (-1)) (Int32.toNatClampNeg 1) (-1)) (Int32.toNatClampNeg 2) (-1))) := by
          show Sum.inl (cI, 3, Sum.inl _) = _
          congr 4
          funext k
          by_cases hk : k < 3
          · rw [if_pos hk, sBlock_9 hk]
            rcases (show k = 0 ∨ k = 1 ∨ k = 2 by omega) with rfl | rfl | rfl <;> rfl
          · rw [if_neg hk]
            have z0 : Int32.toNatClampNeg 0 = 0 := by decide
            have z1 : Int32.toNatClampNeg 1 = 1 := by decide
            have z2 : Int32.toNatClampNeg 2 = 2 := by decide
            rw [z0, z1, z2]
            simp [upd, show ¬ k = 0 by omega, show ¬ k = 1 by omega, show ¬ k = 2 by omega]
        rw [e]
        exact h
      · rw [ovr_n (by decide), adB_13]
        refine ⟨hD.2 2 _ rfl, ?_⟩
        have h := hN 2 _ rfl
        have e : cEn cI cZ cB cS (va_up κ 0 (κ 0 + 1)) (sBlock κ σ y0) sc (adB ad (κ 0) b b1 b2) 13 (κ 0) = .inl (cI, 8, .inl (fun _ => 0)) := by
          show Sum.inl (cI, 8, Sum.inl _) = _
          congr 4
          funext k
          by_cases hk : k < 8
          · rw [if_pos hk, sBlock_o (by omega), hz10 k hk]
          · rw [if_neg hk]
        rw [e]
        exact h
    · refine Or.inl ?_
      have hi2 : i < cDm κ t := by
        unfold cDm at hi ⊢
        rw [va_up_ne κ _ (show (1 : Nat) ≠ 0 by decide), va_up_self] at hi
        split at hi
        · rename_i h; rw [if_pos h]; exact hi
        · rename_i h
          rw [if_neg h]
          split at hi
          · rename_i h2; rw [if_pos h2]; omega
          · rename_i h2; rw [if_neg h2]; exact hi
      have ho : ¬ i = κ 0 ∨ t < 11 ∨ 13 < t := by omega
      refine ⟨hi2, adB_o ho, ?_⟩
      have h19 : t < 19 := by
        unfold cDm at hi2
        repeat' split at hi2
        all_goals omega
      have hκ : va_up κ 0 (κ 0 + 1) 1 = κ 1 := va_up_ne _ _ (by decide)
      have hA0 : ∀ t9 i9 : Nat, (¬ i9 = κ 0 ∨ t9 < 11 ∨ 13 < t9) → adB ad (κ 0) b b1 b2 t9 i9 = ad t9 i9 := fun _ _ h => adB_o h
      have hs : ∀ f j : Nat, ((f = 0 → ¬ j = κ 0) ∧ (f = 9 → j < 3 * κ 0)) → sBlock κ σ y0 f j = σ f j := fun _ _ h => sBlock_o h
      have hA1 : ∀ t9 : Nat, 13 < t9 → ∀ i9 : Nat, adB ad (κ 0) b b1 b2 t9 i9 = ad t9 i9 := fun _ h i9 => adB_o (Or.inr (Or.inr h))
      have hf : ∀ f : Nat, f ≠ 0 → f ≠ 9 → ∀ j : Nat, sBlock κ σ y0 f j = σ f j := fun f n0 n9 j => sBlock_o ⟨fun z => absurd z n0, fun z => absurd z n9⟩
      by_cases h0 : t = 0
      · subst h0
        rw [ovr_s, ovr_n (by decide)]
        rfl
      rw [ovr_n h0]
      by_cases h1 : t = 1
      · subst h1
        rw [ovr_s]
        show Sum.inl (cB, qf _ 40) = Sum.inl (cB, qf _ 40)
        congr 6
        funext j
        show (if j < κ 0 + 1 then some (adB ad (κ 0) b b1 b2 11 j) else none) = va_up _ (κ 0) (some b) j
        unfold va_up
        by_cases hj : j = κ 0
        · subst hj
          rw [if_pos rfl, if_pos (Nat.lt_succ_self _), adB_11]
        · rw [if_neg hj, hA0 11 j (Or.inl hj)]
          by_cases hj2 : j < κ 0
          · simp [hj2, show j < κ 0 + 1 by omega]
          · simp [hj2, show ¬ j < κ 0 + 1 by omega]
      rw [ovr_n h1]
      have hi3 : 11 ≤ t → t < 14 → i < κ 0 := by
        intro h5 h6
        unfold cDm at hi2
        rw [if_neg (by omega), if_pos h6] at hi2
        exact hi2
      rcases (show t = 2 ∨ t = 3 ∨ t = 4 ∨ t = 5 ∨ t = 6 ∨ t = 7 ∨ t = 8 ∨ t = 9 ∨ t = 10 ∨ t = 11 ∨ t = 12 ∨ t = 13 ∨ t = 14 ∨ t = 15 ∨ t = 16 ∨ t = 17 ∨ t = 18 by omega) with rfl | rfl | rfl | rfl | rfl | rfl | rfl | rfl | rfl | rfl | rfl | rfl | rfl | rfl | rfl | rfl | rfl
      · simp only [cEn, hf 20 (by decide) (by decide)]
      · rfl
      · rfl
      · simp only [cEn, hA0 6 _ (by omega), hA0 7 _ (by omega), hA0 8 _ (by omega), hA0 9 _ (by omega)]; rfl
      · simp only [cEn, hf 22 (by decide) (by decide)]
      · simp only [cEn, hf 23 (by decide) (by decide)]
      · simp only [cEn, hf 24 (by decide) (by decide)]
      · simp only [cEn, hf 25 (by decide) (by decide)]
      · simp only [cEn, hκ, hA1 14 (by decide)]
      · have hb := hi3 (by decide) (by decide)
        simp only [cEn, hs 0 i (by omega), hs 1 i (by omega), hs 2 i (by omega), hs 3 i (by omega), hs 4 i (by omega), hs 5 i (by omega), hs 6 i (by omega), hs 7 i (by omega), hs 8 i (by omega), hA0 12 i (by omega), hA0 13 i (by omega)]
      · have hb := hi3 (by decide) (by decide)
        show Sum.inl (cI, 3, Sum.inl _) = Sum.inl (cI, 3, Sum.inl _)
        congr 4
        funext k
        by_cases hk : k < 3
        · rw [if_pos hk, if_pos hk, hs 9 _ (by omega)]
        · rw [if_neg hk, if_neg hk]
      · simp only [cEn, hf 10 (by decide) (by decide)]
      · simp only [cEn, hA1 15 (by decide), hA1 16 (by decide), hA1 17 (by decide), hA1 18 (by decide)]
        rw [va_up_ne _ _ (show 10 + i ≠ 0 by omega)]
      · simp only [cEn, hf 30 (by decide) (by decide)]
      · simp only [cEn, hf 31 (by decide) (by decide)]
      · simp only [cEn, hf 32 (by decide) (by decide)]
      · simp only [cEn, hf 33 (by decide) (by decide)]
  · obtain ⟨rfl, h1, h2⟩ := n1
    obtain ⟨rfl, h3, h4⟩ := n2
    refine ⟨?_, rfl⟩
    have d01 : ¬ b = b1 := fun z => absurd (hD.1 0 1 _ _ rfl rfl z) (by decide)
    have d02 : ¬ b = b2 := fun z => absurd (hD.1 0 2 _ _ rfl rfl z) (by decide)
    have d12 : ¬ b1 = b2 := fun z => absurd (hD.1 1 2 _ _ rfl rfl z) (by decide)
    rcases (show t = 11 ∨ t = 12 ∨ t = 13 by omega) with rfl | rfl | rfl <;> rcases (show u = 11 ∨ u = 12 ∨ u = 13 by omega) with rfl | rfl | rfl <;> simp only [adB_11, adB_12, adB_13] at hq <;> first | rfl | exact absurd hq (by omega)
/-- a saving's cells join -/
def adS (ad : Nat → Nat → Nat) (n b b1 b2 b3 b4 : Nat) : Nat → Nat → Nat := fun t i => if t = 14 ∧ i = n then b else if t = 15 ∧ i = n then b1 else if t = 16 ∧ i = n then b2 else if t = 17 ∧ i = n then b3 else if t = 18 ∧ i = n then b4 else ad t i
theorem adS_o {n b b1 b2 b3 b4 t i : Nat} (h : ¬ i = n ∨ t < 14) : adS ad n b b1 b2 b3 b4 t i = ad t i := by
  unfold adS
  by_cases h18 : t < 19
  · rw [if_neg (by omega), if_neg (by omega), if_neg (by omega), if_neg (by omega), if_neg (by omega)]
  · rw [if_neg (by omega), if_neg (by omega), if_neg (by omega), if_neg (by omega), if_neg (by omega)]
theorem adS_14 {n b b1 b2 b3 b4 : Nat} : adS ad n b b1 b2 b3 b4 14 n = b := if_pos ⟨rfl, rfl⟩
theorem adS_15 {n b b1 b2 b3 b4 : Nat} : adS ad n b b1 b2 b3 b4 15 n = b1 := by simp [adS]
theorem adS_16 {n b b1 b2 b3 b4 : Nat} : adS ad n b b1 b2 b3 b4 16 n = b2 := by simp [adS]
theorem adS_17 {n b b1 b2 b3 b4 : Nat} : adS ad n b b1 b2 b3 b4 17 n = b3 := by simp [adS]
theorem adS_18 {n b b1 b2 b3 b4 : Nat} : adS ad n b b1 b2 b3 b4 18 n = b4 := by simp [adS]
abbrev sav0 (b b1 b2 b3 b4 : Nat) (cI : ClassId) : va_W := [(b, .inr (2, [.int 0, .ref b1, .ref b2, .ref b3, .ref b4])), (b1, .inl (cI, 40, .inl (fun _ => 0))), (b2, .inl (cI, 40, .inl (fun _ => 0))), (b3, .inl (cI, 40, .inl (fun _ => 0))), (b4, .inl (cI, 40, .inl (fun _ => 0)))]
theorem cGrowS {b b1 b2 b3 b4 : Nat} (hz : ∀ f k, 30 ≤ f → f < 34 → k < 40 → σ f (40 * κ 1 + k) = 0) (hz0 : κ (10 + κ 1) = 0)
    (hP : gw_P D vwCl A (cDm κ) (cEn cI cZ cB cS κ σ sc ad) ad H)
    (hN : va_P D vwCl (sav0 b b1 b2 b3 b4 cI) H) (hD : va_D (fun q => b ≤ q) (sav0 b b1 b2 b3 b4 cI)) (hlt : ∀ t i : Nat, i < cDm κ t → ad t i < b) (hbA : ∀ q : Nat, b ≤ q → A q) :
    gw_P D vwCl A (cDm (va_up κ 1 (κ 1 + 1))) (ovr 10 (cEn cI cZ cB cS κ σ sc ad 10 0) (ovr 0 (cEn cI cZ cB cS κ σ sc (adS ad (κ 1) b b1 b2 b3 b4) 0 0) (cEn cI cZ cB cS (va_up κ 1 (κ 1 + 1)) σ sc (adS ad (κ 1) b b1 b2 b3 b4)))) (adS ad (κ 1) b b1 b2 b3 b4) H := by
  refine gw_grow hP (fun t i => i = κ 1 ∧ 14 ≤ t ∧ t < 19) (b := b) (fun t i hi => ?_) hlt hbA (fun t i u j n1 n2 hq => ?_)
  · by_cases hnew : i = κ 1 ∧ 14 ≤ t ∧ t < 19
    · refine Or.inr ⟨hnew, ?_⟩
      obtain ⟨rfl, h11, h14⟩ := hnew
      rcases (show t = 14 ∨ t = 15 ∨ t = 16 ∨ t = 17 ∨ t = 18 by omega) with rfl | rfl | rfl | rfl | rfl
      · rw [ovr_n (by decide), ovr_n (by decide), adS_14]
        refine ⟨Nat.le_refl b, ?_⟩
        have h := hN 0 _ rfl
        have e : cEn cI cZ cB cS (va_up κ 1 (κ 1 + 1)) σ sc (adS ad (κ 1) b b1 b2 b3 b4) 14 (κ 1) = .inr (2, [.int 0, .ref b1, .ref b2, .ref b3, .ref b4]) := by
          simp only [cEn]
          rw [adS_15, adS_16, adS_17, adS_18, va_up_ne _ _ (show 10 + κ 1 ≠ 1 by omega), hz0]
          rfl
        rw [e]
        exact h
      all_goals rw [ovr_n (by decide), ovr_n (by decide)]
      · rw [adS_15]
        refine ⟨hD.2 1 _ rfl, ?_⟩
        have h := hN 1 _ rfl
        have e : cEn cI cZ cB cS (va_up κ 1 (κ 1 + 1)) σ sc (adS ad (κ 1) b b1 b2 b3 b4) 15 (κ 1) = .inl (cI, 40, .inl (fun _ => 0)) := by
          show Sum.inl (cI, 40, Sum.inl _) = _
          congr 4
          funext k
          by_cases hk : k < 40
          · rw [if_pos hk, hz 30 k (by decide) (by decide) hk]
          · rw [if_neg hk]
        rw [e]
        exact h
      · rw [adS_16]
        refine ⟨hD.2 2 _ rfl, ?_⟩
        have h := hN 2 _ rfl
        have e : cEn cI cZ cB cS (va_up κ 1 (κ 1 + 1)) σ sc (adS ad (κ 1) b b1 b2 b3 b4) 16 (κ 1) = .inl (cI, 40, .inl (fun _ => 0)) := by
          show Sum.inl (cI, 40, Sum.inl _) = _
          congr 4
          funext k
          by_cases hk : k < 40
          · rw [if_pos hk, hz 31 k (by decide) (by decide) hk]
          · rw [if_neg hk]
        rw [e]
        exact h
      · rw [adS_17]
        refine ⟨hD.2 3 _ rfl, ?_⟩
        have h := hN 3 _ rfl
        have e : cEn cI cZ cB cS (va_up κ 1 (κ 1 + 1)) σ sc (adS ad (κ 1) b b1 b2 b3 b4) 17 (κ 1) = .inl (cI, 40, .inl (fun _ => 0)) := by
          show Sum.inl (cI, 40, Sum.inl _) = _
          congr 4
          funext k
          by_cases hk : k < 40
          · rw [if_pos hk, hz 32 k (by decide) (by decide) hk]
          · rw [if_neg hk]
        rw [e]
        exact h
      · rw [adS_18]
        refine ⟨hD.2 4 _ rfl, ?_⟩
        have h := hN 4 _ rfl
        have e : cEn cI cZ cB cS (va_up κ 1 (κ 1 + 1)) σ sc (adS ad (κ 1) b b1 b2 b3 b4) 18 (κ 1) = .inl (cI, 40, .inl (fun _ => 0)) := by
          show Sum.inl (cI, 40, Sum.inl _) = _
          congr 4
          funext k
          by_cases hk : k < 40
          · rw [if_pos hk, hz 33 k (by decide) (by decide) hk]
          · rw [if_neg hk]
        rw [e]
        exact h
    · refine Or.inl ?_
      have hi2 : i < cDm κ t := by
        unfold cDm at hi ⊢
        rw [va_up_ne κ _ (show (0 : Nat) ≠ 1 by decide), va_up_self] at hi
        split at hi
        · rename_i h; rw [if_pos h]; exact hi
        · rename_i h
          rw [if_neg h]
          split at hi
          · rename_i h2; rw [if_pos h2]; exact hi
          · rename_i h2
            rw [if_neg h2]
            split at hi
            · rename_i h3; rw [if_pos h3]; omega
            · rename_i h3; rw [if_neg h3]; exact hi
      have ho : ¬ i = κ 1 ∨ t < 14 := by
        by_cases h3 : t < 19
        · omega
        · unfold cDm at hi2
          rw [if_neg (by omega), if_neg (by omega), if_neg h3] at hi2
          omega
      refine ⟨hi2, adS_o ho, ?_⟩
      have h19 : t < 19 := by
        unfold cDm at hi2
        repeat' split at hi2
        all_goals omega
      have hκ : ∀ j : Nat, ¬ j = 1 → va_up κ 1 (κ 1 + 1) j = κ j := fun j h => va_up_ne _ _ h
      have hA1 : ∀ t9 : Nat, t9 < 14 → ∀ i9 : Nat, adS ad (κ 1) b b1 b2 b3 b4 t9 i9 = ad t9 i9 := fun _ h i9 => adS_o (Or.inr h)
      by_cases h10 : t = 10
      · subst h10
        rw [ovr_s]
        rfl
      rw [ovr_n h10]
      by_cases h0 : t = 0
      · subst h0
        rw [ovr_s]
        rfl
      rw [ovr_n h0]
      rcases (show t = 1 ∨ t = 2 ∨ t = 3 ∨ t = 4 ∨ t = 5 ∨ t = 6 ∨ t = 7 ∨ t = 8 ∨ t = 9 ∨ t = 11 ∨ t = 12 ∨ t = 13 ∨ t = 14 ∨ t = 15 ∨ t = 16 ∨ t = 17 ∨ t = 18 by omega) with rfl | rfl | rfl | rfl | rfl | rfl | rfl | rfl | rfl | rfl | rfl | rfl | rfl | rfl | rfl | rfl | rfl
      · simp only [cEn, hκ 0 (by decide), hA1 11 (by decide)]
      · rfl
      · rfl
      · rfl
      · simp only [cEn, hκ 2 (by decide), hA1 6 (by decide), hA1 7 (by decide), hA1 8 (by decide), hA1 9 (by decide)]
      · rfl
      · rfl
      · rfl
      · rfl
      · simp only [cEn, hA1 12 (by decide), hA1 13 (by decide)]
      · rfl
      · rfl
      · have hn : ¬ i = κ 1 := by omega
        simp only [cEn, hκ (10 + i) (by omega)]
        rw [adS_o (Or.inl hn), adS_o (Or.inl hn), adS_o (Or.inl hn), adS_o (Or.inl hn)]
      · rfl
      · rfl
      · rfl
      · rfl
  · obtain ⟨rfl, h1, h2⟩ := n1
    obtain ⟨rfl, h3, h4⟩ := n2
    refine ⟨?_, rfl⟩
    have d01 : ¬ b = b1 := fun z => absurd (hD.1 0 1 _ _ rfl rfl z) (by decide)
    have d02 : ¬ b = b2 := fun z => absurd (hD.1 0 2 _ _ rfl rfl z) (by decide)
    have d03 : ¬ b = b3 := fun z => absurd (hD.1 0 3 _ _ rfl rfl z) (by decide)
    have d04 : ¬ b = b4 := fun z => absurd (hD.1 0 4 _ _ rfl rfl z) (by decide)
    have d12 : ¬ b1 = b2 := fun z => absurd (hD.1 1 2 _ _ rfl rfl z) (by decide)
    have d13 : ¬ b1 = b3 := fun z => absurd (hD.1 1 3 _ _ rfl rfl z) (by decide)
    have d14 : ¬ b1 = b4 := fun z => absurd (hD.1 1 4 _ _ rfl rfl z) (by decide)
    have d23 : ¬ b2 = b3 := fun z => absurd (hD.1 2 3 _ _ rfl rfl z) (by decide)
    have d24 : ¬ b2 = b4 := fun z => absurd (hD.1 2 4 _ _ rfl rfl z) (by decide)
    have d34 : ¬ b3 = b4 := fun z => absurd (hD.1 3 4 _ _ rfl rfl z) (by decide)
    rcases (show t = 14 ∨ t = 15 ∨ t = 16 ∨ t = 17 ∨ t = 18 by omega) with rfl | rfl | rfl | rfl | rfl <;> rcases (show u = 14 ∨ u = 15 ∨ u = 16 ∨ u = 17 ∨ u = 18 by omega) with rfl | rfl | rfl | rfl | rfl <;> simp only [adS_14, adS_15, adS_16, adS_17, adS_18] at hq <;> first | rfl | exact absurd hq (by omega)
end GRW
