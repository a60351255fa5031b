/-! A call keeps what holds of the memory. -/
theorem c0_of {q : Prop} [Decidable q] (h : (if q then (0 : Nat) else 1) = 0) : q := by
  by_cases z : q
  · exact z
  · rw [if_neg z] at h
    omega
section GIC
variable {κ : Nat → Nat} {σ : Nat → Nat → Int32}
theorem gInv.oBlock (h : gInv κ σ) (y0 : Int32) : gInv (if cBlock κ y0 = 0 then va_up κ 0 (κ 0 + 1) else κ) (if cBlock κ y0 = 0 then sBlock κ σ y0 else σ) := by
  by_cases hc : cBlock κ y0 = 0
  · rw [if_pos hc, if_pos hc]
    unfold cBlock at hc
    by_cases h1 : okI 26 y0
    · rw [if_pos h1] at hc
      by_cases h2 : κ 0 = 40
      · rw [if_pos h2] at hc
        omega
      · exact h.block (by have := h.1; omega) h1
    · rw [if_neg h1] at hc
      omega
  · rw [if_neg hc, if_neg hc]
    exact h
theorem gInv.oWire (h : gInv κ σ) (y0 y1 y2 : Int32) : gInv κ (if cWire κ y0 y1 y2 = 0 then wr σ 9 (3 * y0.toNatClampNeg + y1.toNatClampNeg) y2 else σ) := by
  by_cases hc : cWire κ y0 y1 y2 = 0
  · rw [if_pos hc]
    have q := c0_of hc
    exact h.put (by omega) (by omega) (by omega) (fun _ => q.2.2) (by omega) (by omega) (by omega)
  · rw [if_neg hc]
    exact h
theorem gInv.oNumbers (h : gInv κ σ) (y0 y1 y2 : Int32) : gInv κ (if cOne (κ 0) y0 = 0 then wr (wr σ 1 y0.toNatClampNeg y1) 2 y0.toNatClampNeg y2 else σ) := by
  by_cases hc : cOne (κ 0) y0 = 0
  · rw [if_pos hc]
    have hj := okI_lt (by have := h.1; omega) (c0_of hc)
    exact (h.put (f := 1) (by omega) (fun _ _ => hj) (by omega) (by omega) (by omega) (by omega) (by omega)).put (by omega) (fun _ _ => hj) (by omega) (by omega) (by omega) (by omega) (by omega)
  · rw [if_neg hc]
    exact h
theorem row_ok {y0 y1 : Int32} (h : cRow κ σ y0 y1 = 0) : okI (κ 0) y0 ∧ okI 8 y1 := by
  unfold cRow at h
  by_cases z : okI (κ 0) y0 ∧ okI 8 y1
  · exact z
  · rw [if_neg z] at h
    omega
theorem gInv.oRow (h : gInv κ σ) (y0 y1 y2 : Int32) : gInv κ (if cRow κ σ y0 y1 = 0 then wr σ 10 (8 * y0.toNatClampNeg + y1.toNatClampNeg) y2 else σ) := by
  by_cases hc : cRow κ σ y0 y1 = 0
  · rw [if_pos hc]
    have q := row_ok hc
    have hj := okI_lt (by have := h.1; omega) q.1
    have hi := okI_lt (by decide) q.2
    exact h.put (by omega) (by omega) (by omega) (by omega) (fun _ => by omega) (by omega) (by omega)
  · rw [if_neg hc]
    exact h
theorem gInv.oSafe (h : gInv κ σ) (y0 y1 : Int32) : gInv κ (if cOne (κ 0) y0 = 0 then wr σ 3 y0.toNatClampNeg y1 else σ) := by
  by_cases hc : cOne (κ 0) y0 = 0
  · rw [if_pos hc]
    have hj := okI_lt (by have := h.1; omega) (c0_of hc)
    exact h.put (by omega) (fun _ _ => hj) (by omega) (by omega) (by omega) (by omega) (by omega)
  · rw [if_neg hc]
    exact h
theorem gInv.oPoint (h : gInv κ σ) (y0 y1 : Int32) : gInv κ (if cOne 10 y0 = 0 then wr σ 20 y0.toNatClampNeg y1 else σ) := by
  by_cases hc : cOne 10 y0 = 0
  · rw [if_pos hc]
    exact h.put (by omega) (by omega) (by omega) (by omega) (by omega) (by omega) (by omega)
  · rw [if_neg hc]
    exact h
theorem gInv.oHand (h : gInv κ σ) (y0 y1 y2 : Int32) (hz : narrow .boolean (.int y1) = .int y1) : gInv κ (if cOne (κ 0) y0 = 0 then wr (wr σ 7 y0.toNatClampNeg y1) 8 y0.toNatClampNeg y2 else σ) := by
  by_cases hc : cOne (κ 0) y0 = 0
  · rw [if_pos hc]
    have hj := okI_lt (by have := h.1; omega) (c0_of hc)
    exact (h.put (f := 7) (by omega) (fun _ _ => hj) (fun _ => hz) (by omega) (by omega) (by omega) (by omega)).put (by omega) (fun _ _ => hj) (by omega) (by omega) (by omega) (by omega) (by omega)
  · rw [if_neg hc]
    exact h
theorem gInv.oSave (h : gInv κ σ) : gInv (if cSave κ = 0 then svK κ (κ 0) else κ) (if cSave κ = 0 then svS σ (κ 1) (κ 0) else σ) := by
  by_cases hc : cSave κ = 0
  · rw [if_pos hc, if_pos hc]
    unfold cSave at hc
    by_cases z : κ 1 = 5
    · rw [if_pos z] at hc
      omega
    · exact h.save (by have := h.2.1; omega)
  · rw [if_neg hc, if_neg hc]
    exact h
theorem gInv.oBack (h : gInv κ σ) (y0 : Int32) : gInv κ (if cOne (κ 1) y0 = 0 then (backI κ σ y0.toNatClampNeg (κ 0)).1 else σ) := by
  by_cases hc : cOne (κ 1) y0 = 0
  · rw [if_pos hc]
    exact h.back (κ 0) (Nat.le_refl _)
  · rw [if_neg hc]
    exact h
theorem gInv.oBecome (h : gInv κ σ) (y0 y1 : Int32) : gInv κ (if cTwo (κ 0) 26 y0 y1 = 0 then becS σ y0.toNatClampNeg y1 else σ) := by
  by_cases hc : cTwo (κ 0) 26 y0 y1 = 0
  · rw [if_pos hc]
    have q := c0_of hc
    exact h.bec (okI_lt (by have := h.1; omega) q.1) q.2
  · rw [if_neg hc]
    exact h
end GIC
theorem nI_z {n : Nat} (hn : n < 2 ^ 31) (h : nI n = 0) : n = 0 := (nI_eq (a := n) (b := 0) hn (by decide)).mp h
theorem cBlock_le (κ : Nat → Nat) (y0 : Int32) : cBlock κ y0 < 2 ^ 31 := by unfold cBlock; split <;> (try split) <;> omega
theorem cWire_le (κ : Nat → Nat) (y0 y1 y2 : Int32) : cWire κ y0 y1 y2 < 2 ^ 31 := by unfold cWire; split <;> omega
theorem cOne_le (n : Nat) (y0 : Int32) : cOne n y0 < 2 ^ 31 := by unfold cOne; split <;> omega
theorem cTwo_le (n k : Nat) (y0 y1 : Int32) : cTwo n k y0 y1 < 2 ^ 31 := by unfold cTwo; split <;> omega
theorem cRow_le (κ : Nat → Nat) (σ : Nat → Nat → Int32) (y0 y1 : Int32) : cRow κ σ y0 y1 < 2 ^ 31 := by unfold cRow; split <;> (try split) <;> omega
theorem cRun_le (κ : Nat → Nat) (σ : Nat → Nat → Int32) (y0 : Int32) : cRun κ σ y0 < 2 ^ 31 := by unfold cRun; split <;> (try split) <;> omega
theorem cFact_le (κ : Nat → Nat) (y0 y1 : Int32) : cFact κ y0 y1 < 2 ^ 31 := by unfold cFact; split <;> omega
theorem cSave_le (κ : Nat → Nat) : cSave κ < 2 ^ 31 := by unfold cSave; split <;> omega
theorem lcmp_0 {x y : Int64} (h : x = y) : lg_cmp x y = 0 := by
  subst h
  unfold lg_cmp
  rw [if_neg (fun h => Int64.lt_irrefl h), if_pos rfl]
section GLD
variable {p : Program} {l : Launch} {e : Env} {R : Room} {s : State} {m : MethodId} {args : Array Value} {below : List Frame} {meth : Method} {c : Code} {H : Heap} {locs : List Loc} {cells slots : Nat} {Q : State → Prop}
variable {cc : ByteArray} {pc : Nat} {ls : Array Slot} {rest : List Value} {D : va_G} {cl : List vw_C} {cL : ClassId}
theorem gl_lald (hexec : p.tables.exec = Jvm.exec) (hb : c.code = cc) (hK : va_K D cl [(cL, .long)] s) {o : Nat} {f : Nat → Int64} (hat : va_at D cl (o, oRow cL f) H) (hdg : decode cc pc = .ok (.laload, 1))
    (kk : W p l e R s m args below meth c H locs cells slots Q (F0 m (pc + 1) ls (.long (f 0) :: rest))) : W p l e R s m args below meth c H locs cells slots Q (F0 m pc ls (.int 0 :: .ref o :: rest)) := by
  have hP : va_P D cl [(o, oRow cL f)] H := by
    intro k q hk
    match k, hk with
    | 0, hk => cases hk; exact hat
    | k + 1, hk => cases hk
  exact va_lald hexec hb hK hP 0 0 rfl rfl (vp_in_nI (show 0 < 1 by decide) (by decide)) hdg kk
end GLD
theorem LW.r0 {D : va_G} {cI cZ cB cS cL : ClassId} {s : State} {o : Nat} {rad : Nat → Nat → Nat} {κ κ2 : Nat → Nat} {σ σ2 sc u : Nat → Nat → Int32} {ad : Nat → Nat → Nat} {f : Nat → Int64} {H : Heap} {locs : List Loc} (h : LW D cI cZ cB cS cL s o rad κ σ κ2 σ2 sc u ad f H locs) (q : Nat) (hq : lR rad H.size q) : lA0 s q := by
  rcases hq with ⟨t, i, hi, rfl⟩ | hq
  · exact h.2.1.2.1 t i hi
  · exact Nat.le_trans h.2.2.2.1 hq
