set_option maxHeartbeats 4000000 in
set_option maxRecDepth 100000 in
theorem k_X3_asNumber {l : Launch} {D : va_G} {cI cZ cB cS : ClassId} {A : Nat → Prop} (dm : Nat → Nat) (en : Nat → Nat → va_E) (ad : Nat → Nat → Nat) (y0 : Int32) : Met l yX3_asNumber wsX3_asNumber ({ frames := 0, cells := 0, slots := 0, locals := 0 } : Room) (gPc D cI cZ cB cS A dm en ad [.int y0]) (va_Qi (fun (r : Int32) (_ : Unit) => r = if y0 = 0 then 0 else 1) (fun _ t => gw_P D vwCl A dm en ad t.heap) A) 0 0 A := by
  refine Met.ofW (cc := cX3_asNumber) (maxL := 1) (ret := (some .int)) (by decide) rfl ?_
  intro p e s m args below meth c s₁ B hml hv
  obtain ⟨rfl, hP, hE, hA⟩ := hv
  have hx := B.exec
  have hb := B.bytes
  have hr := B.returns
  have hts := atoms_spec (ws := wsX3_asNumber) B.pre
  have hown : s.vm.findClass RX3 = some m.cls := findClass_of_methodNamed B.named
  have hlocks := B.notSynchronized
  have hK := hE.1
  have hS : va_S A s.heap s.heap [] := va_S.rf
  have hl := lv_entry ([.int y0]) (n := 1) (Nat.le_of_ble_eq_true rfl)
  rw [lg_entry_eq]
  generalize (lg_sl ([.int y0]) ++ List.replicate (1 - (lg_sl ([.int y0])).length) Slot.unset).toArray = ls at hl ⊢
  have hl : lv_has ls 1 [(0, .int y0)] := hl
  refine lv_iload_n hx hb dX3_asNumber_0 rfl (lv_at hl 0 rfl) ?_
  refine lv_if_eq (tgt := 8) hx hb dX3_asNumber_1 (by decide) (fun c_1 => ?_) (fun c_1 => ?_)
  · refine lv_iconst (v := 0) hx hb dX3_asNumber_8 (by decide) ?_
    exact W.iret (v := 0) hx hb hr (fun t ht hW => ⟨⟨0, (), rfl, (by simp [c_1]), by rw [← ht] at hP; exact hP⟩, hS.F ht⟩) hS.2.2 dX3_asNumber_9
  · refine lv_iconst (v := 1) hx hb dX3_asNumber_4 (by decide) ?_
    refine lv_goto (tgt := 9) hx hb dX3_asNumber_5 (by decide) ?_
    exact W.iret (v := 1) hx hb hr (fun t ht hW => ⟨⟨1, (), rfl, (by simp [c_1]), by rw [← ht] at hP; exact hP⟩, hS.F ht⟩) hS.2.2 dX3_asNumber_9

set_option maxHeartbeats 4000000 in
set_option maxRecDepth 100000 in
theorem k_X3_isPoint {l : Launch} {D : va_G} {cI cZ cB cS : ClassId} {A : Nat → Prop} (dm : Nat → Nat) (en : Nat → Nat → va_E) (ad : Nat → Nat → Nat) (y0 : Int32) : Met l yX3_isPoint wsX3_isPoint ({ frames := 0, cells := 0, slots := 0, locals := 0 } : Room) (gPc D cI cZ cB cS A dm en ad [.int y0]) (va_Qi (fun (r : Int32) (_ : Unit) => r = if okI 10 y0 then 1 else 0) (fun _ t => gw_P D vwCl A dm en ad t.heap) A) 0 0 A := by
  refine Met.ofW (cc := cX3_isPoint) (maxL := 1) (ret := (some .boolean)) (by decide) rfl ?_
  intro p e s m args below meth c s₁ B hml hv
  obtain ⟨rfl, hP, hE, hA⟩ := hv
  have hx := B.exec
  have hb := B.bytes
  have hr := B.returns
  have hts := atoms_spec (ws := wsX3_isPoint) B.pre
  have hown : s.vm.findClass RX3 = some m.cls := findClass_of_methodNamed B.named
  have hlocks := B.notSynchronized
  have hK := hE.1
  have hS : va_S A s.heap s.heap [] := va_S.rf
  have hl := lv_entry ([.int y0]) (n := 1) (Nat.le_of_ble_eq_true rfl)
  rw [lg_entry_eq]
  generalize (lg_sl ([.int y0]) ++ List.replicate (1 - (lg_sl ([.int y0])).length) Slot.unset).toArray = ls at hl ⊢
  have hl : lv_has ls 1 [(0, .int y0)] := hl
  refine lv_iload_n hx hb dX3_isPoint_0 rfl (lv_at hl 0 rfl) ?_
  refine lv_if_lt (tgt := 14) hx hb dX3_isPoint_1 (by decide) (fun c_1 => ?_) (fun c_1 => ?_)
  · refine lv_iconst (v := 0) hx hb dX3_isPoint_14 (by decide) ?_
    exact W.zret (v := 0) (ty := .boolean) hx hb hr rfl (fun t ht hW => ⟨⟨0, (), rfl, (by rw [if_neg]; exact fun z => z.1 c_1), by rw [← ht] at hP; exact hP⟩, hS.F ht⟩) hS.2.2 dX3_isPoint_15
  · refine lv_iload_n hx hb dX3_isPoint_4 rfl (lv_at hl 0 rfl) ?_
    refine lv_bipush (v := 10) hx hb dX3_isPoint_5 (by decide) ?_
    refine lv_icmp_ge (tgt := 14) hx hb dX3_isPoint_7 (by decide) (fun c_2 => ?_) (fun c_2 => ?_)
    · refine lv_iconst (v := 0) hx hb dX3_isPoint_14 (by decide) ?_
      exact W.zret (v := 0) (ty := .boolean) hx hb hr rfl (fun t ht hW => ⟨⟨0, (), rfl, (by rw [if_neg]; exact fun z => z.2 c_2), by rw [← ht] at hP; exact hP⟩, hS.F ht⟩) hS.2.2 dX3_isPoint_15
    · refine lv_iconst (v := 1) hx hb dX3_isPoint_10 (by decide) ?_
      refine lv_goto (tgt := 15) hx hb dX3_isPoint_11 (by decide) ?_
      exact W.zret (v := 1) (ty := .boolean) hx hb hr rfl (fun t ht hW => ⟨⟨1, (), rfl, (by rw [if_pos]; exact ⟨c_1, fun z => c_2 z⟩), by rw [← ht] at hP; exact hP⟩, hS.F ht⟩) hS.2.2 dX3_isPoint_15

set_option maxHeartbeats 4000000 in
set_option maxRecDepth 100000 in
theorem k_X3_isPlaceInRow {l : Launch} {D : va_G} {cI cZ cB cS : ClassId} {A : Nat → Prop} (dm : Nat → Nat) (en : Nat → Nat → va_E) (ad : Nat → Nat → Nat) (y0 : Int32) : Met l yX3_isPlaceInRow wsX3_isPlaceInRow ({ frames := 0, cells := 0, slots := 0, locals := 0 } : Room) (gPc D cI cZ cB cS A dm en ad [.int y0]) (va_Qi (fun (r : Int32) (_ : Unit) => r = if okI 8 y0 then 1 else 0) (fun _ t => gw_P D vwCl A dm en ad t.heap) A) 0 0 A := by
  refine Met.ofW (cc := cX3_isPlaceInRow) (maxL := 1) (ret := (some .boolean)) (by decide) rfl ?_
  intro p e s m args below meth c s₁ B hml hv
  obtain ⟨rfl, hP, hE, hA⟩ := hv
  have hx := B.exec
  have hb := B.bytes
  have hr := B.returns
  have hts := atoms_spec (ws := wsX3_isPlaceInRow) B.pre
  have hown : s.vm.findClass RX3 = some m.cls := findClass_of_methodNamed B.named
  have hlocks := B.notSynchronized
  have hK := hE.1
  have hS : va_S A s.heap s.heap [] := va_S.rf
  have hl := lv_entry ([.int y0]) (n := 1) (Nat.le_of_ble_eq_true rfl)
  rw [lg_entry_eq]
  generalize (lg_sl ([.int y0]) ++ List.replicate (1 - (lg_sl ([.int y0])).length) Slot.unset).toArray = ls at hl ⊢
  have hl : lv_has ls 1 [(0, .int y0)] := hl
  refine lv_iload_n hx hb dX3_isPlaceInRow_0 rfl (lv_at hl 0 rfl) ?_
  refine lv_if_lt (tgt := 14) hx hb dX3_isPlaceInRow_1 (by decide) (fun c_1 => ?_) (fun c_1 => ?_)
  · refine lv_iconst (v := 0) hx hb dX3_isPlaceInRow_14 (by decide) ?_
    exact W.zret (v := 0) (ty := .boolean) hx hb hr rfl (fun t ht hW => ⟨⟨0, (), rfl, (by rw [if_neg]; exact fun z => z.1 c_1), by rw [← ht] at hP; exact hP⟩, hS.F ht⟩) hS.2.2 dX3_isPlaceInRow_15
  · refine lv_iload_n hx hb dX3_isPlaceInRow_4 rfl (lv_at hl 0 rfl) ?_
    refine lv_bipush (v := 8) hx hb dX3_isPlaceInRow_5 (by decide) ?_
    refine lv_icmp_ge (tgt := 14) hx hb dX3_isPlaceInRow_7 (by decide) (fun c_2 => ?_) (fun c_2 => ?_)
    · refine lv_iconst (v := 0) hx hb dX3_isPlaceInRow_14 (by decide) ?_
      exact W.zret (v := 0) (ty := .boolean) hx hb hr rfl (fun t ht hW => ⟨⟨0, (), rfl, (by rw [if_neg]; exact fun z => z.2 c_2), by rw [← ht] at hP; exact hP⟩, hS.F ht⟩) hS.2.2 dX3_isPlaceInRow_15
    · refine lv_iconst (v := 1) hx hb dX3_isPlaceInRow_10 (by decide) ?_
      refine lv_goto (tgt := 15) hx hb dX3_isPlaceInRow_11 (by decide) ?_
      exact W.zret (v := 1) (ty := .boolean) hx hb hr rfl (fun t ht hW => ⟨⟨1, (), rfl, (by rw [if_pos]; exact ⟨c_1, fun z => c_2 z⟩), by rw [← ht] at hP; exact hP⟩, hS.F ht⟩) hS.2.2 dX3_isPlaceInRow_15

set_option maxHeartbeats 4000000 in
set_option maxRecDepth 100000 in
theorem k_X3_quotient {l : Launch} {D : va_G} {cI cZ cB cS : ClassId} {A : Nat → Prop} (dm : Nat → Nat) (en : Nat → Nat → va_E) (ad : Nat → Nat → Nat) (y0 y1 : Int32) : Met l yX3_quotient wsX3_quotient ({ frames := 0, cells := 0, slots := 0, locals := 0 } : Room) (gPc D cI cZ cB cS A dm en ad [.int y0, .int y1]) (va_Qi (fun (r : Int32) (_ : Unit) => r = if y1 = 0 then 0 else y0 / y1) (fun _ t => gw_P D vwCl A dm en ad t.heap) A) 0 0 A := by
  refine Met.ofW (cc := cX3_quotient) (maxL := 2) (ret := (some .int)) (by decide) rfl ?_
  intro p e s m args below meth c s₁ B hml hv
  obtain ⟨rfl, hP, hE, hA⟩ := hv
  have hx := B.exec
  have hb := B.bytes
  have hr := B.returns
  have hts := atoms_spec (ws := wsX3_quotient) B.pre
  have hown : s.vm.findClass RX3 = some m.cls := findClass_of_methodNamed B.named
  have hlocks := B.notSynchronized
  have hK := hE.1
  have hS : va_S A s.heap s.heap [] := va_S.rf
  have hl := lv_entry ([.int y0, .int y1]) (n := 2) (Nat.le_of_ble_eq_true rfl)
  rw [lg_entry_eq]
  generalize (lg_sl ([.int y0, .int y1]) ++ List.replicate (2 - (lg_sl ([.int y0, .int y1])).length) Slot.unset).toArray = ls at hl ⊢
  have hl : lv_has ls 2 [(0, .int y0), (1, .int y1)] := hl
  refine lv_iload_n hx hb dX3_quotient_0 rfl (lv_at hl 1 rfl) ?_
  refine lv_if_ne (tgt := 8) hx hb dX3_quotient_1 (by decide) (fun c_1 => ?_) (fun c_1 => ?_)
  · refine lv_iload_n hx hb dX3_quotient_8 rfl (lv_at hl 0 rfl) ?_
    refine lv_iload_n hx hb dX3_quotient_9 rfl (lv_at hl 1 rfl) ?_
    refine lv_idiv hx hb dX3_quotient_10 c_1 ?_
    exact W.iret (v := (y0 / y1)) hx hb hr (fun t ht hW => ⟨⟨((y0 / y1)), (), rfl, (by simp [c_1]), by rw [← ht] at hP; exact hP⟩, hS.F ht⟩) hS.2.2 dX3_quotient_11
  · refine lv_iconst (v := 0) hx hb dX3_quotient_4 (by decide) ?_
    refine lv_goto (tgt := 11) hx hb dX3_quotient_5 (by decide) ?_
    exact W.iret (v := 0) hx hb hr (fun t ht hW => ⟨⟨0, (), rfl, (by simp [c_1]), by rw [← ht] at hP; exact hP⟩, hS.F ht⟩) hS.2.2 dX3_quotient_11

theorem iL_X0_namedInputs_X0 : ∀ w ∈ u_ws RX0 TX0 11, w ∈ wsX0_namedInputs := by decide +kernel
set_option maxHeartbeats 4000000 in
set_option maxRecDepth 100000 in
theorem k_X0_namedInputs {l : Launch} {D : va_G} {cI cZ cB cS : ClassId} {A : Nat → Prop} (κ : Nat → Nat) (σ sc : Nat → Nat → Int32) (ad : Nat → Nat → Nat) (b k : Nat) (hb0 : b < κ 0) (hk0 : k < 26) (ek : σ 0 b = nI k) : Met l yX0_namedInputs wsX0_namedInputs ({ frames := 0, cells := 0, slots := 0, locals := 0 } : Room) (gPc D cI cZ cB cS A (cDm κ) (cEn cI cZ cB cS κ σ sc ad) ad [.ref (ad 11 b)]) (va_Qi (fun (r : Int32) (_ : Unit) => r = nI (nmd k)) (fun _ t => gw_P D vwCl A (cDm κ) (cEn cI cZ cB cS κ σ sc ad) ad t.heap) A) 0 0 A := by
  refine Met.ofW (cc := cX0_namedInputs) (maxL := 1) (ret := (some .int)) (by decide) rfl ?_
  intro p e s m args below meth c s₁ B hml hv
  obtain ⟨rfl, hP, hE, hA⟩ := hv
  have hx := B.exec
  have hb := B.bytes
  have hr := B.returns
  have hts := atoms_spec (ws := wsX0_namedInputs) B.pre
  have hown : s.vm.findClass RX0 = some m.cls := findClass_of_methodNamed B.named
  have hlocks := B.notSynchronized
  have hK := hE.1
  have hS : va_S A s.heap s.heap [] := va_S.rf
  have hL0 := fun w (hw : w ∈ u_ws RX0 TX0 11) => hts w (iL_X0_namedInputs_X0 w hw)
  have hl := lv_entry ([.ref (ad 11 b)]) (n := 1) (Nat.le_of_ble_eq_true rfl)
  rw [lg_entry_eq]
  generalize (lg_sl ([.ref (ad 11 b)]) ++ List.replicate (1 - (lg_sl ([.ref (ad 11 b)])).length) Slot.unset).toArray = ls at hl ⊢
  have hl : lv_has ls 1 [(0, .ref (ad 11 b))] := hl
  obtain ⟨tn, hZn, hTn⟩ := hE.2.2.2.1
  refine lv_aload_n hx hb dX0_namedInputs_0 rfl (lv_at hl 0 rfl) ?_
  refine gw_get (C := RX0) (T := TX0) (N := 11) hx hb hL0 hown hK hP 11 b (cDb (by omega) (by decide) (by decide)) rfl rfl 0 (by decide) (hts (.fieldLink RX0 44 "BlockPrograms$Block" "kind" "I") (by decide +kernel)) (fun _ h9 => h9) (v := .int (nI k)) (congrArg (fun z : Int32 => some (Value.int z)) ek) dX0_namedInputs_1 ?_
  refine lv_if_lt (tgt := 29) hx hb dX0_namedInputs_4 (by decide) (fun c_1 => ?_) (fun c_1 => ?_)
  · have c_1 : k < 0 := (nI_ltI (a := k) (b := 0) (by omega) (by omega)).mp c_1
    exfalso; omega
  · have c_1 : ¬ (k < 0) := fun z => c_1 ((nI_ltI (a := k) (b := 0) (by omega) (by omega)).mpr z)
    refine lv_aload_n hx hb dX0_namedInputs_7 rfl (lv_at hl 0 rfl) ?_
    refine gw_get (C := RX0) (T := TX0) (N := 11) hx hb hL0 hown hK hP 11 b (cDb (by omega) (by decide) (by decide)) rfl rfl 0 (by decide) (hts (.fieldLink RX0 44 "BlockPrograms$Block" "kind" "I") (by decide +kernel)) (fun _ h9 => h9) (v := .int (nI k)) (congrArg (fun z : Int32 => some (Value.int z)) ek) dX0_namedInputs_8 ?_
    refine va_getsN hx hb hZn hS hown (va_Nw.use rfl hE.2.2.2.2.1.1) (fun _ h9 => h9) dX0_namedInputs_11 ?_
    refine va_tlen hx hb hTn hS (v := nI 26) rfl dX0_namedInputs_14 ?_
    refine lv_icmp_ge (tgt := 29) hx hb dX0_namedInputs_15 (by decide) (fun c_2 => ?_) (fun c_2 => ?_)
    · have c_2 : 26 ≤ k := (nI_leI (a := 26) (b := k) (by omega) (by omega)).mp c_2
      exfalso; omega
    · have c_2 : ¬ (26 ≤ k) := fun z => c_2 ((nI_leI (a := 26) (b := k) (by omega) (by omega)).mpr z)
      refine va_getsN hx hb hZn hS hown (va_Nw.use rfl hE.2.2.2.2.1.1) (fun _ h9 => h9) dX0_namedInputs_18 ?_
      refine lv_aload_n hx hb dX0_namedInputs_21 rfl (lv_at hl 0 rfl) ?_
      refine gw_get (C := RX0) (T := TX0) (N := 11) hx hb hL0 hown hK hP 11 b (cDb (by omega) (by decide) (by decide)) rfl rfl 0 (by decide) (hts (.fieldLink RX0 44 "BlockPrograms$Block" "kind" "I") (by decide +kernel)) (fun _ h9 => h9) (v := .int (nI k)) (congrArg (fun z : Int32 => some (Value.int z)) ek) dX0_namedInputs_22 ?_
      refine va_ti hx hb hTn hS (vp_in_nI (n := k) (N := 26) (by omega) (by decide)) (v := .int (nI (nmd k))) (by rw [nI_clamp (by omega)]) dX0_namedInputs_25 ?_
      refine lv_goto (tgt := 30) hx hb dX0_namedInputs_26 (by decide) ?_
      exact W.iret (v := nI (nmd k)) hx hb hr (fun t ht hW => ⟨⟨(nI (nmd k)), (), rfl, rfl, by rw [← ht] at hP; exact hP⟩, hS.F ht⟩) hS.2.2 dX0_namedInputs_30

theorem iL_X0_lacksWire_X0 : ∀ w ∈ u_ws RX0 TX0 11, w ∈ wsX0_lacksWire := by decide +kernel
set_option maxHeartbeats 4000000 in
set_option maxRecDepth 100000 in
theorem k_X0_lacksWire {l : Launch} {D : va_G} {cI cZ cB cS : ClassId} {A : Nat → Prop} (κ : Nat → Nat) (σ sc : Nat → Nat → Int32) (ad : Nat → Nat → Nat) (b k : Nat) (hb0 : b < κ 0) (hk0 : k < 26) (ek : σ 0 b = nI k) : Met l yX0_lacksWire wsX0_lacksWire ({ frames := 1, cells := 0, slots := 0, locals := 20 } : Room) (gPc D cI cZ cB cS A (cDm κ) (cEn cI cZ cB cS κ σ sc ad) ad [.ref (ad 11 b)]) (va_Qi (fun (r : Int32) (_ : Unit) => r = if lack σ k b then 1 else 0) (fun _ t => gw_P D vwCl A (cDm κ) (cEn cI cZ cB cS κ σ sc ad) ad t.heap) A) 0 0 A := by
  refine Met.ofW (cc := cX0_lacksWire) (maxL := 2) (ret := (some .boolean)) (by decide) rfl ?_
  intro p e s m args below meth c s₁ B hml hv
  obtain ⟨rfl, hP, hE, hA⟩ := hv
  have hx := B.exec
  have hb := B.bytes
  have hr := B.returns
  have hts := atoms_spec (ws := wsX0_lacksWire) B.pre
  have hown : s.vm.findClass RX0 = some m.cls := findClass_of_methodNamed B.named
  have hlocks := B.notSynchronized
  have hK := hE.1
  have hS : va_S A s.heap s.heap [] := va_S.rf
  have hL0 := fun w (hw : w ∈ u_ws RX0 TX0 11) => hts w (iL_X0_lacksWire_X0 w hw)
  have hl := lv_entry ([.ref (ad 11 b)]) (n := 2) (Nat.le_of_ble_eq_true rfl)
  rw [lg_entry_eq]
  generalize (lg_sl ([.ref (ad 11 b)]) ++ List.replicate (2 - (lg_sl ([.ref (ad 11 b)])).length) Slot.unset).toArray = ls at hl ⊢
  have hl : lv_has ls 2 [(0, .ref (ad 11 b))] := hl
  have hn3 := nmd_le k
  refine lv_iconst (v := 0) hx hb dX0_lacksWire_0 (by decide) ?_
  refine lv_istore_n (lv' := [(1, .int 0), (0, .ref (ad 11 b))]) hx hb dX0_lacksWire_1 rfl hl (by decide) rfl (fun ls hl => ?_)
  refine lv_loop (fun kk H locs ls => ∃ i : Nat, kk = (nmd k) - i ∧ i ≤ nmd k ∧ (∀ j : Nat, j < i → ¬ σ 9 (3 * b + j) = -1) ∧ gw_P D vwCl A (cDm κ) (cEn cI cZ cB cS κ σ sc ad) ad H ∧ va_S A s.heap H locs ∧ lv_has ls 2 [(0, .ref (ad 11 b)), (1, .int (nI i))]) (fun kk H locs ls hI ih => ?_) ((nmd k) - 0) ⟨0, rfl, by omega, fun j hj => absurd hj (Nat.not_lt_zero j), hP, hS, lv_sub hl [1, 0] rfl⟩
  obtain ⟨i, hk_2, hi_2, hq, hP, hS, hl⟩ := hI
  refine lv_iload_n hx hb dX0_lacksWire_2 rfl (lv_at hl 1 rfl) ?_
  refine lv_aload_n hx hb dX0_lacksWire_3 rfl (lv_at hl 0 rfl) ?_
  refine va_calli (va_runV (As := []) (rest := [.int (nI i)]) ⟨hx, hb, hml, hown, hts⟩ (k_X0_namedInputs (l := l) (D := D) (cI := cI) (cZ := cZ) (cB := cB) (cS := cS) (A := A) κ σ sc ad b k hb0 hk0 ek) (cwV 0 hts gX0_lacksWire_X0_namedInputs rfl rfl rfl (by decide +kernel) ⟨Nat.le_of_ble_eq_true rfl, Nat.le_of_ble_eq_true rfl⟩) (gPreV hE hA hS hP (gw_recv hK hP 11 b (cDb (by omega) (by decide) (by decide)) rfl rfl)) rfl rfl hl.1 rfl (lv_room (Nat.le_of_ble_eq_true rfl)) dX0_lacksWire_4 ⟨Nat.le_of_ble_eq_true rfl, Nat.le_of_ble_eq_true rfl⟩) hS (fun q _ h9 => h9) (fun q h9 => h9) (fun r_1 u9 t9 H locs ht9 hvm9 hw_r_1 hB9 hz9 hk9 hS => ?_)
  have hP : gw_P D vwCl A (cDm κ) (cEn cI cZ cB cS κ σ sc ad) ad H := by rw [← ht9]; exact hB9
  refine lv_toq (nI (nmd k)) hw_r_1 ?_
  refine lv_icmp_ge (tgt := 28) hx hb dX0_lacksWire_7 (by decide) (fun c_2 => ?_) (fun c_2 => ?_)
  · have c_2 : nmd k ≤ i := (nI_leI (a := nmd k) (b := i) (by omega) (by omega)).mp c_2
    refine lv_iconst (v := 0) hx hb dX0_lacksWire_28 (by decide) ?_
    exact W.zret (v := 0) (ty := .boolean) hx hb hr rfl (fun t ht hW => ⟨⟨0, (), rfl, (by rw [lack_f (fun j hj => hq j (by omega))]; rfl), by rw [← ht] at hP; exact hP⟩, hS.F ht⟩) hS.2.2 dX0_lacksWire_29
  · have c_2 : ¬ (nmd k ≤ i) := fun z => c_2 ((nI_leI (a := nmd k) (b := i) (by omega) (by omega)).mpr z)
    refine lv_aload_n hx hb dX0_lacksWire_10 rfl (lv_at hl 0 rfl) ?_
    refine gw_get (C := RX0) (T := TX0) (N := 11) hx hb hL0 hown hK hP 11 b (cDb (by omega) (by decide) (by decide)) rfl rfl 9 (by decide) (hts (.fieldLink RX0 37 "BlockPrograms$Block" "wires" "[I") (by decide +kernel)) (fun _ h9 => h9) (v := .ref (ad 12 b)) rfl dX0_lacksWire_11 ?_
    refine lv_iload_n hx hb dX0_lacksWire_14 rfl (lv_at hl 1 rfl) ?_
    refine gw_iald hx hb hK hP 12 b (cDb (by omega) (by decide) (by decide)) 0 rfl rfl (i) rfl (by omega) (by decide) (v := (σ 9 (3 * b + i))) (if_pos (by omega)) dX0_lacksWire_15 ?_
    refine lv_iconst (v := -1) hx hb dX0_lacksWire_16 (by decide) ?_
    refine lv_icmp_ne (tgt := 22) hx hb dX0_lacksWire_17 (by decide) (fun c_3 => ?_) (fun c_3 => ?_)
    · refine lv_iinc (v := nI (i + 1)) (lv' := [(1, .int (nI (i + 1))), (0, .ref (ad 11 b))]) hx hb dX0_lacksWire_22 hl (k := 1) rfl (nI_add i 1) (by decide) rfl (fun ls hl => ?_)
      refine lv_goto (tgt := 2) hx hb dX0_lacksWire_25 (by decide) ?_
      exact ih _ _ _ _ (by omega) ⟨i + 1, rfl, by omega, lt_s hq c_3, hP, hS, lv_sub hl [1, 0] rfl⟩
    · refine lv_iconst (v := 1) hx hb dX0_lacksWire_20 (by decide) ?_
      exact W.zret (v := 1) (ty := .boolean) hx hb hr rfl (fun t ht hW => ⟨⟨1, (), rfl, (by rw [lack_t (i := i) (by omega) c_3]; rfl), by rw [← ht] at hP; exact hP⟩, hS.F ht⟩) hS.2.2 dX0_lacksWire_21

theorem iL_X0_say_X0 : ∀ w ∈ u_ws RX0 TX0 11, w ∈ wsX0_say := by decide +kernel
set_option maxHeartbeats 4000000 in
set_option maxRecDepth 100000 in
theorem k_X0_say {l : Launch} {D : va_G} {cI cZ cB cS : ClassId} {A : Nat → Prop} (κ : Nat → Nat) (σ sc : Nat → Nat → Int32) (ad : Nat → Nat → Nat) (b : Nat) (hb0 : b < κ 0) (y0 : Int32) : Met l yX0_say wsX0_say ({ frames := 0, cells := 0, slots := 0, locals := 0 } : Room) (gPc D cI cZ cB cS A (cDm κ) (cEn cI cZ cB cS κ σ sc ad) ad [.ref (ad 11 b), .int y0]) (va_Qv (fun _ : Unit => True) (fun _ t => gw_P D vwCl A (cDm κ) (cEn cI cZ cB cS κ (say σ b y0) sc ad) ad t.heap) A) 0 0 A := by
  refine Met.ofW (cc := cX0_say) (maxL := 2) (ret := none) (by decide) rfl ?_
  intro p e s m args below meth c s₁ B hml hv
  obtain ⟨rfl, hP, hE, hA⟩ := hv
  have hx := B.exec
  have hb := B.bytes
  have hr := B.returns
  have hts := atoms_spec (ws := wsX0_say) B.pre
  have hown : s.vm.findClass RX0 = some m.cls := findClass_of_methodNamed B.named
  have hlocks := B.notSynchronized
  have hK := hE.1
  have hS : va_S A s.heap s.heap [] := va_S.rf
  have hL0 := fun w (hw : w ∈ u_ws RX0 TX0 11) => hts w (iL_X0_say_X0 w hw)
  have hl := lv_entry ([.ref (ad 11 b), .int y0]) (n := 2) (Nat.le_of_ble_eq_true rfl)
  rw [lg_entry_eq]
  generalize (lg_sl ([.ref (ad 11 b), .int y0]) ++ List.replicate (2 - (lg_sl ([.ref (ad 11 b), .int y0])).length) Slot.unset).toArray = ls at hl ⊢
  have hl : lv_has ls 2 [(0, .ref (ad 11 b)), (1, .int y0)] := hl
  refine lv_aload_n hx hb dX0_say_0 rfl (lv_at hl 0 rfl) ?_
  refine lv_aload_n hx hb dX0_say_1 rfl (lv_at hl 0 rfl) ?_
  refine gw_get (C := RX0) (T := TX0) (N := 11) hx hb hL0 hown hK hP 11 b (cDb (by omega) (by decide) (by decide)) rfl rfl 7 (by decide) (hts (.fieldLink RX0 30 "BlockPrograms$Block" "inHand" "Z") (by decide +kernel)) (fun _ h9 => h9) (v := .int ((σ 7 b))) rfl dX0_say_2 ?_
  refine lv_if_eq (tgt := 15) hx hb dX0_say_5 (by decide) (fun c_1 => ?_) (fun c_1 => ?_)
  · refine lv_iload_n hx hb dX0_say_15 rfl (lv_at hl 1 rfl) ?_
    refine gw_put (ty := .int) (C := RX0) (T := TX0) (N := 11) hx hb hL0 tyX0 tyX0_ok nmX0 hown hK hP hS 11 b (cDb (by omega) (by decide) (by decide)) rfl rfl 4 (by decide) (hts (.fieldLink RX0 21 "BlockPrograms$Block" "output" "I") (by decide +kernel)) (fun _ h9 => h9) rfl (by decide +kernel) rfl rfl (Nat.le_of_ble_eq_true rfl) dX0_say_16 (cEn cI cZ cB cS κ (wr σ 4 b y0) sc ad) (cU11s_4 _) (fun t9 i9 _ h9 => cU11 (by decide) _ t9 i9 h9) (fun H locs hP hS => ?_)
    have eσ : wr σ 4 b y0 = say σ b y0 := by simp [say, c_1]
    rw [eσ] at hP
    exact W.vret hx hb hr (fun t ht hW => ⟨⟨(), rfl, trivial, by rw [← ht] at hP; exact hP⟩, hS.F ht⟩) hS.2.2 dX0_say_19
  · refine lv_aload_n hx hb dX0_say_8 rfl (lv_at hl 0 rfl) ?_
    refine gw_get (C := RX0) (T := TX0) (N := 11) hx hb hL0 hown hK hP 11 b (cDb (by omega) (by decide) (by decide)) rfl rfl 8 (by decide) (hts (.fieldLink RX0 34 "BlockPrograms$Block" "handValue" "I") (by decide +kernel)) (fun _ h9 => h9) (v := .int ((σ 8 b))) rfl dX0_say_9 ?_
    refine lv_goto (tgt := 16) hx hb dX0_say_12 (by decide) ?_
    refine gw_put (ty := .int) (C := RX0) (T := TX0) (N := 11) hx hb hL0 tyX0 tyX0_ok nmX0 hown hK hP hS 11 b (cDb (by omega) (by decide) (by decide)) rfl rfl 4 (by decide) (hts (.fieldLink RX0 21 "BlockPrograms$Block" "output" "I") (by decide +kernel)) (fun _ h9 => h9) rfl (by decide +kernel) rfl rfl (Nat.le_of_ble_eq_true rfl) dX0_say_16 (cEn cI cZ cB cS κ (wr σ 4 b ((σ 8 b))) sc ad) (cU11s_4 _) (fun t9 i9 _ h9 => cU11 (by decide) _ t9 i9 h9) (fun H locs hP hS => ?_)
    have eσ : wr σ 4 b ((σ 8 b)) = say σ b y0 := by simp [say, c_1]
    rw [eσ] at hP
    exact W.vret hx hb hr (fun t ht hW => ⟨⟨(), rfl, trivial, by rw [← ht] at hP; exact hP⟩, hS.F ht⟩) hS.2.2 dX0_say_19

theorem iL_X0_ramped_X0 : ∀ w ∈ u_ws RX0 TX0 11, w ∈ wsX0_ramped := by decide +kernel
set_option maxHeartbeats 4000000 in
set_option maxRecDepth 100000 in
theorem k_X0_ramped {l : Launch} {D : va_G} {cI cZ cB cS : ClassId} {A : Nat → Prop} (κ : Nat → Nat) (σ sc : Nat → Nat → Int32) (ad : Nat → Nat → Nat) (b : Nat) (hb0 : b < κ 0) (y0 : Int32) : Met l yX0_ramped wsX0_ramped ({ frames := 1, cells := 0, slots := 0, locals := 19 } : Room) (gPc D cI cZ cB cS A (cDm κ) (cEn cI cZ cB cS κ σ sc ad) ad [.ref (ad 11 b), .int y0]) (va_Qi (fun (r : Int32) (_ : Unit) => r = f_ramp (σ 1 b) (σ 4 b) y0) (fun _ t => gw_P D vwCl A (cDm κ) (cEn cI cZ cB cS κ σ sc ad) ad t.heap) A) 0 0 A := by
  refine Met.ofW (cc := cX0_ramped) (maxL := 5) (ret := (some .int)) (by decide) rfl ?_
  intro p e s m args below meth c s₁ B hml hv
  obtain ⟨rfl, hP, hE, hA⟩ := hv
  have hx := B.exec
  have hb := B.bytes
  have hr := B.returns
  have hts := atoms_spec (ws := wsX0_ramped) B.pre
  have hown : s.vm.findClass RX0 = some m.cls := findClass_of_methodNamed B.named
  have hlocks := B.notSynchronized
  have hK := hE.1
  have hS : va_S A s.heap s.heap [] := va_S.rf
  have hL0 := fun w (hw : w ∈ u_ws RX0 TX0 11) => hts w (iL_X0_ramped_X0 w hw)
  have hl := lv_entry ([.ref (ad 11 b), .int y0]) (n := 5) (Nat.le_of_ble_eq_true rfl)
  rw [lg_entry_eq]
  generalize (lg_sl ([.ref (ad 11 b), .int y0]) ++ List.replicate (5 - (lg_sl ([.ref (ad 11 b), .int y0])).length) Slot.unset).toArray = ls at hl ⊢
  have hl : lv_has ls 5 [(0, .ref (ad 11 b)), (1, .int y0)] := hl
  refine lv_aload_n hx hb dX0_ramped_0 rfl (lv_at hl 0 rfl) ?_
  refine gw_get (C := RX0) (T := TX0) (N := 11) hx hb hL0 hown hK hP 11 b (cDb (by omega) (by decide) (by decide)) rfl rfl 1 (by decide) (hts (.fieldLink RX0 9 "BlockPrograms$Block" "p" "I") (by decide +kernel)) (fun _ h9 => h9) (v := .int ((σ 1 b))) rfl dX0_ramped_1 ?_
  refine lv_iconst (v := 0) hx hb dX0_ramped_4 (by decide) ?_
  refine va_mmax hx hb (hml.trans hl.1.symm) hown (hts (.methodLink RX0 84 Lib.Math.max.name) (by decide +kernel)) (hts (.static Lib.Math.max.name) (by decide +kernel)) (hts (.initialized "java/lang/Math") (by decide +kernel)) (hts (.code Lib.Math.max.name Lib.Math.max.code 2 (some .int)) (by decide +kernel)) (Nat.le_of_ble_eq_true rfl) (Nat.le_of_ble_eq_true rfl) (Nat.le_of_ble_eq_true rfl) (Nat.le_of_ble_eq_true rfl) dX0_ramped_5 ?_
  refine lv_istore_n (lv' := [(2, .int ((if (σ 1 b) < 0 then 0 else (σ 1 b)))), (0, .ref (ad 11 b)), (1, .int y0)]) hx hb dX0_ramped_8 rfl hl (by decide) rfl (fun ls hl => ?_)
  refine lv_iload_n hx hb dX0_ramped_9 rfl (lv_at hl 2 rfl) ?_
  refine lv_i2l (v := (y0).toInt64) hx hb dX0_ramped_10 rfl ?_
  refine lv_aload_n hx hb dX0_ramped_11 rfl (lv_at hl 1 rfl) ?_
  refine gw_get (C := RX0) (T := TX0) (N := 11) hx hb hL0 hown hK hP 11 b (cDb (by omega) (by decide) (by decide)) rfl rfl 4 (by decide) (hts (.fieldLink RX0 21 "BlockPrograms$Block" "output" "I") (by decide +kernel)) (fun _ h9 => h9) (v := .int ((σ 4 b))) rfl dX0_ramped_12 ?_
  refine lv_i2l (v := ((σ 4 b)).toInt64) hx hb dX0_ramped_15 rfl ?_
  refine lv_lsub hx hb dX0_ramped_16 ?_
  refine lv_lstore_n (lv' := [(3, .long ((((y0).toInt64) - (((σ 4 b)).toInt64)))), (2, .int ((if (σ 1 b) < 0 then 0 else (σ 1 b)))), (0, .ref (ad 11 b)), (1, .int y0)]) hx hb dX0_ramped_17 rfl hl (by decide) rfl (fun ls hl => ?_)
  refine lv_lload_n hx hb dX0_ramped_18 rfl (lv_at hl 0 rfl) ?_
  refine va_mabs_long hx hb (hml.trans hl.1.symm) hown (hts (.methodLink RX0 87 Lib.MathLoose.abs_long.x) (by decide +kernel)) (hts (.static Lib.MathLoose.abs_long.x) (by decide +kernel)) (hts (.initialized "java/lang/Math") (by decide +kernel)) (hts (.code Lib.MathLoose.abs_long.x Lib.MathLoose.abs_long.code 2 (some .long)) (by decide +kernel)) (Nat.le_of_ble_eq_true rfl) (Nat.le_of_ble_eq_true rfl) (Nat.le_of_ble_eq_true rfl) (Nat.le_of_ble_eq_true rfl) dX0_ramped_19 ?_
  refine lv_iload_n hx hb dX0_ramped_22 rfl (lv_at hl 1 rfl) ?_
  refine lv_i2l (v := ((if (σ 1 b) < 0 then 0 else (σ 1 b))).toInt64) hx hb dX0_ramped_23 rfl ?_
  refine W.lcmp hx hb dX0_ramped_24 ?_
  refine lv_if_gt (tgt := 30) hx hb dX0_ramped_25 (by decide) (fun c_1 => ?_) (fun c_1 => ?_)
  · refine lv_lload_n hx hb dX0_ramped_30 rfl (lv_at hl 0 rfl) ?_
    refine lv_lconst (v := 0) hx hb dX0_ramped_31 (by decide) ?_
    refine W.lcmp hx hb dX0_ramped_32 ?_
    refine lv_if_le (tgt := 45) hx hb dX0_ramped_33 (by decide) (fun c_2 => ?_) (fun c_2 => ?_)
    · refine lv_aload_n hx hb dX0_ramped_45 rfl (lv_at hl 2 rfl) ?_
      refine gw_get (C := RX0) (T := TX0) (N := 11) hx hb hL0 hown hK hP 11 b (cDb (by omega) (by decide) (by decide)) rfl rfl 4 (by decide) (hts (.fieldLink RX0 21 "BlockPrograms$Block" "output" "I") (by decide +kernel)) (fun _ h9 => h9) (v := .int ((σ 4 b))) rfl dX0_ramped_46 ?_
      refine lv_iload_n hx hb dX0_ramped_49 rfl (lv_at hl 1 rfl) ?_
      refine lv_isub hx hb dX0_ramped_50 ?_
      exact W.iret (v := ((σ 4 b) - (if (σ 1 b) < 0 then 0 else (σ 1 b)))) hx hb hr (fun t ht hW => ⟨⟨(((σ 4 b) - (if (σ 1 b) < 0 then 0 else (σ 1 b)))), (), rfl, (by unfold f_ramp; rw [if_neg (Int64.not_le.mpr ((lg_cmp_gt _ _).mp c_1)), if_neg (Int64.not_lt.mpr ((lg_cmp_le _ _).mp c_2))]), by rw [← ht] at hP; exact hP⟩, hS.F ht⟩) hS.2.2 dX0_ramped_51
    · refine lv_aload_n hx hb dX0_ramped_36 rfl (lv_at hl 2 rfl) ?_
      refine gw_get (C := RX0) (T := TX0) (N := 11) hx hb hL0 hown hK hP 11 b (cDb (by omega) (by decide) (by decide)) rfl rfl 4 (by decide) (hts (.fieldLink RX0 21 "BlockPrograms$Block" "output" "I") (by decide +kernel)) (fun _ h9 => h9) (v := .int ((σ 4 b))) rfl dX0_ramped_37 ?_
      refine lv_iload_n hx hb dX0_ramped_40 rfl (lv_at hl 1 rfl) ?_
      refine lv_iadd hx hb dX0_ramped_41 ?_
      refine lv_goto (tgt := 51) hx hb dX0_ramped_42 (by decide) ?_
      exact W.iret (v := ((σ 4 b) + (if (σ 1 b) < 0 then 0 else (σ 1 b)))) hx hb hr (fun t ht hW => ⟨⟨(((σ 4 b) + (if (σ 1 b) < 0 then 0 else (σ 1 b)))), (), rfl, (by unfold f_ramp; rw [if_neg (Int64.not_le.mpr ((lg_cmp_gt _ _).mp c_1)), if_pos (Int64.not_le.mp (fun z => c_2 ((lg_cmp_le _ _).mpr z)))]), by rw [← ht] at hP; exact hP⟩, hS.F ht⟩) hS.2.2 dX0_ramped_51
  · refine lv_iload_n hx hb dX0_ramped_28 rfl (lv_at hl 3 rfl) ?_
    exact W.iret (v := y0) hx hb hr (fun t ht hW => ⟨⟨y0, (), rfl, (by unfold f_ramp; exact (if_pos (Int64.not_lt.mp (fun z => c_1 ((lg_cmp_gt _ _).mpr z)))).symm), by rw [← ht] at hP; exact hP⟩, hS.F ht⟩) hS.2.2 dX0_ramped_29

theorem iL_X0_counted_X0 : ∀ w ∈ u_ws RX0 TX0 11, w ∈ wsX0_counted := by decide +kernel
set_option maxHeartbeats 4000000 in
set_option maxRecDepth 100000 in
theorem k_X0_counted {l : Launch} {D : va_G} {cI cZ cB cS : ClassId} {A : Nat → Prop} (κ : Nat → Nat) (σ sc : Nat → Nat → Int32) (ad : Nat → Nat → Nat) (b : Nat) (hb0 : b < κ 0) (y0 y1 : Int32) : Met l yX0_counted wsX0_counted ({ frames := 0, cells := 0, slots := 0, locals := 0 } : Room) (gPc D cI cZ cB cS A (cDm κ) (cEn cI cZ cB cS κ σ sc ad) ad [.ref (ad 11 b), .int y0, .int y1]) (va_Qi (fun (r : Int32) (_ : Unit) => r = f_count (σ 5 b) (σ 6 b) y0 y1) (fun _ t => gw_P D vwCl A (cDm κ) (cEn cI cZ cB cS κ (wr (wr σ 5 b (f_count (σ 5 b) (σ 6 b) y0 y1)) 6 b y0) sc ad) ad t.heap) A) 0 0 A := by
  refine Met.ofW (cc := cX0_counted) (maxL := 3) (ret := (some .int)) (by decide) rfl ?_
  intro p e s m args below meth c s₁ B hml hv
  obtain ⟨rfl, hP, hE, hA⟩ := hv
  have hx := B.exec
  have hb := B.bytes
  have hr := B.returns
  have hts := atoms_spec (ws := wsX0_counted) B.pre
  have hown : s.vm.findClass RX0 = some m.cls := findClass_of_methodNamed B.named
  have hlocks := B.notSynchronized
  have hK := hE.1
  have hS : va_S A s.heap s.heap [] := va_S.rf
  have hL0 := fun w (hw : w ∈ u_ws RX0 TX0 11) => hts w (iL_X0_counted_X0 w hw)
  have hl := lv_entry ([.ref (ad 11 b), .int y0, .int y1]) (n := 3) (Nat.le_of_ble_eq_true rfl)
  rw [lg_entry_eq]
  generalize (lg_sl ([.ref (ad 11 b), .int y0, .int y1]) ++ List.replicate (3 - (lg_sl ([.ref (ad 11 b), .int y0, .int y1])).length) Slot.unset).toArray = ls at hl ⊢
  have hl : lv_has ls 3 [(0, .ref (ad 11 b)), (1, .int y0), (2, .int y1)] := hl
  refine lv_iload_n hx hb dX0_counted_0 rfl (lv_at hl 2 rfl) ?_
  refine lv_if_eq (tgt := 12) hx hb dX0_counted_1 (by decide) (fun c_1 => ?_) (fun c_1 => ?_)
  · refine lv_iload_n hx hb dX0_counted_12 rfl (lv_at hl 1 rfl) ?_
    refine lv_if_eq (tgt := 33) hx hb dX0_counted_13 (by decide) (fun c_2 => ?_) (fun c_2 => ?_)
    · refine lv_aload_n hx hb dX0_counted_33 rfl (lv_at hl 0 rfl) ?_
      refine lv_iload_n hx hb dX0_counted_34 rfl (lv_at hl 1 rfl) ?_
      refine gw_put (ty := .int) (C := RX0) (T := TX0) (N := 11) hx hb hL0 tyX0 tyX0_ok nmX0 hown hK hP hS 11 b (cDb (by omega) (by decide) (by decide)) rfl rfl 6 (by decide) (hts (.fieldLink RX0 27 "BlockPrograms$Block" "second" "I") (by decide +kernel)) (fun _ h9 => h9) rfl (by decide +kernel) rfl rfl (Nat.le_of_ble_eq_true rfl) dX0_counted_35 (cEn cI cZ cB cS κ (wr σ 6 b y0) sc ad) (cU11s_6 _) (fun t9 i9 _ h9 => cU11 (by decide) _ t9 i9 h9) (fun H locs hP hS => ?_)
      refine lv_aload_n hx hb dX0_counted_38 rfl (lv_at hl 0 rfl) ?_
      refine gw_get (C := RX0) (T := TX0) (N := 11) hx hb hL0 hown hK hP 11 b (cDb (by omega) (by decide) (by decide)) rfl rfl 5 (by decide) (hts (.fieldLink RX0 24 "BlockPrograms$Block" "first" "I") (by decide +kernel)) (fun _ h9 => h9) (v := .int ((σ 5 b))) (by simp [wr, va_up]) dX0_counted_39 ?_
      have eσ : wr σ 6 b y0 = wr (wr σ 5 b (f_count (σ 5 b) (σ 6 b) y0 y1)) 6 b y0 := by simp [f_count, c_1, c_2, wr_wr, wr_id, wr_65, wr_id6]
      rw [eσ] at hP
      exact W.iret (v := (σ 5 b)) hx hb hr (fun t ht hW => ⟨⟨((σ 5 b)), (), rfl, (by simp [f_count, c_1, c_2]), by rw [← ht] at hP; exact hP⟩, hS.F ht⟩) hS.2.2 dX0_counted_42
    · refine lv_aload_n hx hb dX0_counted_16 rfl (lv_at hl 0 rfl) ?_
      refine gw_get (C := RX0) (T := TX0) (N := 11) hx hb hL0 hown hK hP 11 b (cDb (by omega) (by decide) (by decide)) rfl rfl 6 (by decide) (hts (.fieldLink RX0 27 "BlockPrograms$Block" "second" "I") (by decide +kernel)) (fun _ h9 => h9) (v := .int ((σ 6 b))) rfl dX0_counted_17 ?_
      refine lv_if_ne (tgt := 33) hx hb dX0_counted_20 (by decide) (fun c_3 => ?_) (fun c_3 => ?_)
      · refine lv_aload_n hx hb dX0_counted_33 rfl (lv_at hl 0 rfl) ?_
        refine lv_iload_n hx hb dX0_counted_34 rfl (lv_at hl 1 rfl) ?_
        refine gw_put (ty := .int) (C := RX0) (T := TX0) (N := 11) hx hb hL0 tyX0 tyX0_ok nmX0 hown hK hP hS 11 b (cDb (by omega) (by decide) (by decide)) rfl rfl 6 (by decide) (hts (.fieldLink RX0 27 "BlockPrograms$Block" "second" "I") (by decide +kernel)) (fun _ h9 => h9) rfl (by decide +kernel) rfl rfl (Nat.le_of_ble_eq_true rfl) dX0_counted_35 (cEn cI cZ cB cS κ (wr σ 6 b y0) sc ad) (cU11s_6 _) (fun t9 i9 _ h9 => cU11 (by decide) _ t9 i9 h9) (fun H locs hP hS => ?_)
        refine lv_aload_n hx hb dX0_counted_38 rfl (lv_at hl 0 rfl) ?_
        refine gw_get (C := RX0) (T := TX0) (N := 11) hx hb hL0 hown hK hP 11 b (cDb (by omega) (by decide) (by decide)) rfl rfl 5 (by decide) (hts (.fieldLink RX0 24 "BlockPrograms$Block" "first" "I") (by decide +kernel)) (fun _ h9 => h9) (v := .int ((σ 5 b))) (by simp [wr, va_up]) dX0_counted_39 ?_
        have eσ : wr σ 6 b y0 = wr (wr σ 5 b (f_count (σ 5 b) (σ 6 b) y0 y1)) 6 b y0 := by simp [f_count, c_1, c_2, c_3, wr_wr, wr_id, wr_65, wr_id6]
        rw [eσ] at hP
        exact W.iret (v := (σ 5 b)) hx hb hr (fun t ht hW => ⟨⟨((σ 5 b)), (), rfl, (by simp [f_count, c_1, c_2, c_3]), by rw [← ht] at hP; exact hP⟩, hS.F ht⟩) hS.2.2 dX0_counted_42
      · refine lv_aload_n hx hb dX0_counted_23 rfl (lv_at hl 0 rfl) ?_
        refine lv_dup hx hb dX0_counted_24 rfl ?_
        refine gw_get (C := RX0) (T := TX0) (N := 11) hx hb hL0 hown hK hP 11 b (cDb (by omega) (by decide) (by decide)) rfl rfl 5 (by decide) (hts (.fieldLink RX0 24 "BlockPrograms$Block" "first" "I") (by decide +kernel)) (fun _ h9 => h9) (v := .int ((σ 5 b))) rfl dX0_counted_25 ?_
        refine lv_iconst (v := 1) hx hb dX0_counted_28 (by decide) ?_
        refine lv_iadd hx hb dX0_counted_29 ?_
        refine gw_put (ty := .int) (C := RX0) (T := TX0) (N := 11) hx hb hL0 tyX0 tyX0_ok nmX0 hown hK hP hS 11 b (cDb (by omega) (by decide) (by decide)) rfl rfl 5 (by decide) (hts (.fieldLink RX0 24 "BlockPrograms$Block" "first" "I") (by decide +kernel)) (fun _ h9 => h9) rfl (by decide +kernel) rfl rfl (Nat.le_of_ble_eq_true rfl) dX0_counted_30 (cEn cI cZ cB cS κ (wr σ 5 b (((σ 5 b) + 1))) sc ad) (cU11s_5 _) (fun t9 i9 _ h9 => cU11 (by decide) _ t9 i9 h9) (fun H locs hP hS => ?_)
        refine lv_aload_n hx hb dX0_counted_33 rfl (lv_at hl 0 rfl) ?_
        refine lv_iload_n hx hb dX0_counted_34 rfl (lv_at hl 1 rfl) ?_
        refine gw_put (ty := .int) (C := RX0) (T := TX0) (N := 11) hx hb hL0 tyX0 tyX0_ok nmX0 hown hK hP hS 11 b (cDb (by omega) (by decide) (by decide)) rfl rfl 6 (by decide) (hts (.fieldLink RX0 27 "BlockPrograms$Block" "second" "I") (by decide +kernel)) (fun _ h9 => h9) rfl (by decide +kernel) rfl rfl (Nat.le_of_ble_eq_true rfl) dX0_counted_35 (cEn cI cZ cB cS κ (wr (wr σ 5 b (((σ 5 b) + 1))) 6 b y0) sc ad) (cU11s_6 _) (fun t9 i9 _ h9 => cU11 (by decide) _ t9 i9 h9) (fun H locs hP hS => ?_)
        refine lv_aload_n hx hb dX0_counted_38 rfl (lv_at hl 0 rfl) ?_
        refine gw_get (C := RX0) (T := TX0) (N := 11) hx hb hL0 hown hK hP 11 b (cDb (by omega) (by decide) (by decide)) rfl rfl 5 (by decide) (hts (.fieldLink RX0 24 "BlockPrograms$Block" "first" "I") (by decide +kernel)) (fun _ h9 => h9) (v := .int ((((σ 5 b) + 1)))) (by simp [wr, va_up]) dX0_counted_39 ?_
        have eσ : wr (wr σ 5 b (((σ 5 b) + 1))) 6 b y0 = wr (wr σ 5 b (f_count (σ 5 b) (σ 6 b) y0 y1)) 6 b y0 := by simp [f_count, c_1, c_2, c_3, wr_wr, wr_id, wr_65, wr_id6]
        rw [eσ] at hP
        exact W.iret (v := (((σ 5 b) + 1))) hx hb hr (fun t ht hW => ⟨⟨((((σ 5 b) + 1))), (), rfl, (by simp [f_count, c_1, c_2, c_3]), by rw [← ht] at hP; exact hP⟩, hS.F ht⟩) hS.2.2 dX0_counted_42
  · refine lv_aload_n hx hb dX0_counted_4 rfl (lv_at hl 0 rfl) ?_
    refine lv_iconst (v := 0) hx hb dX0_counted_5 (by decide) ?_
    refine gw_put (ty := .int) (C := RX0) (T := TX0) (N := 11) hx hb hL0 tyX0 tyX0_ok nmX0 hown hK hP hS 11 b (cDb (by omega) (by decide) (by decide)) rfl rfl 5 (by decide) (hts (.fieldLink RX0 24 "BlockPrograms$Block" "first" "I") (by decide +kernel)) (fun _ h9 => h9) rfl (by decide +kernel) rfl rfl (Nat.le_of_ble_eq_true rfl) dX0_counted_6 (cEn cI cZ cB cS κ (wr σ 5 b 0) sc ad) (cU11s_5 _) (fun t9 i9 _ h9 => cU11 (by decide) _ t9 i9 h9) (fun H locs hP hS => ?_)
    refine lv_goto (tgt := 33) hx hb dX0_counted_9 (by decide) ?_
    refine lv_aload_n hx hb dX0_counted_33 rfl (lv_at hl 0 rfl) ?_
    refine lv_iload_n hx hb dX0_counted_34 rfl (lv_at hl 1 rfl) ?_
    refine gw_put (ty := .int) (C := RX0) (T := TX0) (N := 11) hx hb hL0 tyX0 tyX0_ok nmX0 hown hK hP hS 11 b (cDb (by omega) (by decide) (by decide)) rfl rfl 6 (by decide) (hts (.fieldLink RX0 27 "BlockPrograms$Block" "second" "I") (by decide +kernel)) (fun _ h9 => h9) rfl (by decide +kernel) rfl rfl (Nat.le_of_ble_eq_true rfl) dX0_counted_35 (cEn cI cZ cB cS κ (wr (wr σ 5 b 0) 6 b y0) sc ad) (cU11s_6 _) (fun t9 i9 _ h9 => cU11 (by decide) _ t9 i9 h9) (fun H locs hP hS => ?_)
    refine lv_aload_n hx hb dX0_counted_38 rfl (lv_at hl 0 rfl) ?_
    refine gw_get (C := RX0) (T := TX0) (N := 11) hx hb hL0 hown hK hP 11 b (cDb (by omega) (by decide) (by decide)) rfl rfl 5 (by decide) (hts (.fieldLink RX0 24 "BlockPrograms$Block" "first" "I") (by decide +kernel)) (fun _ h9 => h9) (v := .int 0) (by simp [wr, va_up]) dX0_counted_39 ?_
    have eσ : wr (wr σ 5 b 0) 6 b y0 = wr (wr σ 5 b (f_count (σ 5 b) (σ 6 b) y0 y1)) 6 b y0 := by simp [f_count, c_1, wr_wr, wr_id, wr_65, wr_id6]
    rw [eσ] at hP
    exact W.iret (v := 0) hx hb hr (fun t ht hW => ⟨⟨0, (), rfl, (by simp [f_count, c_1]), by rw [← ht] at hP; exact hP⟩, hS.F ht⟩) hS.2.2 dX0_counted_42

theorem iL_X0_latched_X0 : ∀ w ∈ u_ws RX0 TX0 11, w ∈ wsX0_latched := by decide +kernel
set_option maxHeartbeats 4000000 in
set_option maxRecDepth 100000 in
theorem k_X0_latched {l : Launch} {D : va_G} {cI cZ cB cS : ClassId} {A : Nat → Prop} (κ : Nat → Nat) (σ sc : Nat → Nat → Int32) (ad : Nat → Nat → Nat) (b : Nat) (hb0 : b < κ 0) (y0 y1 : Int32) : Met l yX0_latched wsX0_latched ({ frames := 0, cells := 0, slots := 0, locals := 0 } : Room) (gPc D cI cZ cB cS A (cDm κ) (cEn cI cZ cB cS κ σ sc ad) ad [.ref (ad 11 b), .int y0, .int y1]) (va_Qi (fun (r : Int32) (_ : Unit) => r = f_latch (σ 5 b) y0 y1) (fun _ t => gw_P D vwCl A (cDm κ) (cEn cI cZ cB cS κ (wr σ 5 b (f_latch (σ 5 b) y0 y1)) sc ad) ad t.heap) A) 0 0 A := by
  refine Met.ofW (cc := cX0_latched) (maxL := 3) (ret := (some .int)) (by decide) rfl ?_
  intro p e s m args below meth c s₁ B hml hv
  obtain ⟨rfl, hP, hE, hA⟩ := hv
  have hx := B.exec
  have hb := B.bytes
  have hr := B.returns
  have hts := atoms_spec (ws := wsX0_latched) B.pre
  have hown : s.vm.findClass RX0 = some m.cls := findClass_of_methodNamed B.named
  have hlocks := B.notSynchronized
  have hK := hE.1
  have hS : va_S A s.heap s.heap [] := va_S.rf
  have hL0 := fun w (hw : w ∈ u_ws RX0 TX0 11) => hts w (iL_X0_latched_X0 w hw)
  have hl := lv_entry ([.ref (ad 11 b), .int y0, .int y1]) (n := 3) (Nat.le_of_ble_eq_true rfl)
  rw [lg_entry_eq]
  generalize (lg_sl ([.ref (ad 11 b), .int y0, .int y1]) ++ List.replicate (3 - (lg_sl ([.ref (ad 11 b), .int y0, .int y1])).length) Slot.unset).toArray = ls at hl ⊢
  have hl : lv_has ls 3 [(0, .ref (ad 11 b)), (1, .int y0), (2, .int y1)] := hl
  refine lv_iload_n hx hb dX0_latched_0 rfl (lv_at hl 1 rfl) ?_
  refine lv_if_eq (tgt := 12) hx hb dX0_latched_1 (by decide) (fun c_1 => ?_) (fun c_1 => ?_)
  · refine lv_iload_n hx hb dX0_latched_12 rfl (lv_at hl 2 rfl) ?_
    refine lv_if_eq (tgt := 21) hx hb dX0_latched_13 (by decide) (fun c_2 => ?_) (fun c_2 => ?_)
    · refine lv_aload_n hx hb dX0_latched_21 rfl (lv_at hl 0 rfl) ?_
      refine gw_get (C := RX0) (T := TX0) (N := 11) hx hb hL0 hown hK hP 11 b (cDb (by omega) (by decide) (by decide)) rfl rfl 5 (by decide) (hts (.fieldLink RX0 24 "BlockPrograms$Block" "first" "I") (by decide +kernel)) (fun _ h9 => h9) (v := .int ((σ 5 b))) rfl dX0_latched_22 ?_
      have eσ : σ = wr σ 5 b (f_latch (σ 5 b) y0 y1) := by simp [f_latch, c_1, c_2, wr_wr, wr_id, wr_65, wr_id6]
      rw [eσ] at hP
      exact W.iret (v := (σ 5 b)) hx hb hr (fun t ht hW => ⟨⟨((σ 5 b)), (), rfl, (by simp [f_latch, c_1, c_2]), by rw [← ht] at hP; exact hP⟩, hS.F ht⟩) hS.2.2 dX0_latched_25
    · refine lv_aload_n hx hb dX0_latched_16 rfl (lv_at hl 0 rfl) ?_
      refine lv_iconst (v := 0) hx hb dX0_latched_17 (by decide) ?_
      refine gw_put (ty := .int) (C := RX0) (T := TX0) (N := 11) hx hb hL0 tyX0 tyX0_ok nmX0 hown hK hP hS 11 b (cDb (by omega) (by decide) (by decide)) rfl rfl 5 (by decide) (hts (.fieldLink RX0 24 "BlockPrograms$Block" "first" "I") (by decide +kernel)) (fun _ h9 => h9) rfl (by decide +kernel) rfl rfl (Nat.le_of_ble_eq_true rfl) dX0_latched_18 (cEn cI cZ cB cS κ (wr σ 5 b 0) sc ad) (cU11s_5 _) (fun t9 i9 _ h9 => cU11 (by decide) _ t9 i9 h9) (fun H locs hP hS => ?_)
      refine lv_aload_n hx hb dX0_latched_21 rfl (lv_at hl 0 rfl) ?_
      refine gw_get (C := RX0) (T := TX0) (N := 11) hx hb hL0 hown hK hP 11 b (cDb (by omega) (by decide) (by decide)) rfl rfl 5 (by decide) (hts (.fieldLink RX0 24 "BlockPrograms$Block" "first" "I") (by decide +kernel)) (fun _ h9 => h9) (v := .int 0) (by simp [wr, va_up]) dX0_latched_22 ?_
      have eσ : wr σ 5 b 0 = wr σ 5 b (f_latch (σ 5 b) y0 y1) := by simp [f_latch, c_1, c_2, wr_wr, wr_id, wr_65, wr_id6]
      rw [eσ] at hP
      exact W.iret (v := 0) hx hb hr (fun t ht hW => ⟨⟨0, (), rfl, (by simp [f_latch, c_1, c_2]), by rw [← ht] at hP; exact hP⟩, hS.F ht⟩) hS.2.2 dX0_latched_25
  · refine lv_aload_n hx hb dX0_latched_4 rfl (lv_at hl 0 rfl) ?_
    refine lv_iconst (v := 1) hx hb dX0_latched_5 (by decide) ?_
    refine gw_put (ty := .int) (C := RX0) (T := TX0) (N := 11) hx hb hL0 tyX0 tyX0_ok nmX0 hown hK hP hS 11 b (cDb (by omega) (by decide) (by decide)) rfl rfl 5 (by decide) (hts (.fieldLink RX0 24 "BlockPrograms$Block" "first" "I") (by decide +kernel)) (fun _ h9 => h9) rfl (by decide +kernel) rfl rfl (Nat.le_of_ble_eq_true rfl) dX0_latched_6 (cEn cI cZ cB cS κ (wr σ 5 b 1) sc ad) (cU11s_5 _) (fun t9 i9 _ h9 => cU11 (by decide) _ t9 i9 h9) (fun H locs hP hS => ?_)
    refine lv_goto (tgt := 21) hx hb dX0_latched_9 (by decide) ?_
    refine lv_aload_n hx hb dX0_latched_21 rfl (lv_at hl 0 rfl) ?_
    refine gw_get (C := RX0) (T := TX0) (N := 11) hx hb hL0 hown hK hP 11 b (cDb (by omega) (by decide) (by decide)) rfl rfl 5 (by decide) (hts (.fieldLink RX0 24 "BlockPrograms$Block" "first" "I") (by decide +kernel)) (fun _ h9 => h9) (v := .int 1) (by simp [wr, va_up]) dX0_latched_22 ?_
    have eσ : wr σ 5 b 1 = wr σ 5 b (f_latch (σ 5 b) y0 y1) := by simp [f_latch, c_1, wr_wr, wr_id, wr_65, wr_id6]
    rw [eσ] at hP
    exact W.iret (v := 1) hx hb hr (fun t ht hW => ⟨⟨1, (), rfl, (by simp [f_latch, c_1]), by rw [← ht] at hP; exact hP⟩, hS.F ht⟩) hS.2.2 dX0_latched_25

theorem iL_X0_isClockOn_X0 : ∀ w ∈ u_ws RX0 TX0 11, w ∈ wsX0_isClockOn := by decide +kernel
set_option maxHeartbeats 4000000 in
set_option maxRecDepth 100000 in
theorem k_X0_isClockOn {l : Launch} {D : va_G} {cI cZ cB cS : ClassId} {A : Nat → Prop} (κ : Nat → Nat) (σ sc : Nat → Nat → Int32) (ad : Nat → Nat → Nat) (b : Nat) (hb0 : b < κ 0) (y0 : Int32) : Met l yX0_isClockOn wsX0_isClockOn ({ frames := 0, cells := 0, slots := 0, locals := 0 } : Room) (gPc D cI cZ cB cS A (cDm κ) (cEn cI cZ cB cS κ σ sc ad) ad [.ref (ad 11 b), .int y0]) (va_Qi (fun (r : Int32) (_ : Unit) => r = if f_clock (σ 1 b) (σ 2 b) y0 then 1 else 0) (fun _ t => gw_P D vwCl A (cDm κ) (cEn cI cZ cB cS κ σ sc ad) ad t.heap) A) 0 0 A := by
  refine Met.ofW (cc := cX0_isClockOn) (maxL := 2) (ret := (some .boolean)) (by decide) rfl ?_
  intro p e s m args below meth c s₁ B hml hv
  obtain ⟨rfl, hP, hE, hA⟩ := hv
  have hx := B.exec
  have hb := B.bytes
  have hr := B.returns
  have hts := atoms_spec (ws := wsX0_isClockOn) B.pre
  have hown : s.vm.findClass RX0 = some m.cls := findClass_of_methodNamed B.named
  have hlocks := B.notSynchronized
  have hK := hE.1
  have hS : va_S A s.heap s.heap [] := va_S.rf
  have hL0 := fun w (hw : w ∈ u_ws RX0 TX0 11) => hts w (iL_X0_isClockOn_X0 w hw)
  have hl := lv_entry ([.ref (ad 11 b), .int y0]) (n := 2) (Nat.le_of_ble_eq_true rfl)
  rw [lg_entry_eq]
  generalize (lg_sl ([.ref (ad 11 b), .int y0]) ++ List.replicate (2 - (lg_sl ([.ref (ad 11 b), .int y0])).length) Slot.unset).toArray = ls at hl ⊢
  have hl : lv_has ls 2 [(0, .ref (ad 11 b)), (1, .int y0)] := hl
  refine lv_aload_n hx hb dX0_isClockOn_0 rfl (lv_at hl 0 rfl) ?_
  refine gw_get (C := RX0) (T := TX0) (N := 11) hx hb hL0 hown hK hP 11 b (cDb (by omega) (by decide) (by decide)) rfl rfl 1 (by decide) (hts (.fieldLink RX0 9 "BlockPrograms$Block" "p" "I") (by decide +kernel)) (fun _ h9 => h9) (v := .int ((σ 1 b))) rfl dX0_isClockOn_1 ?_
  refine lv_aload_n hx hb dX0_isClockOn_4 rfl (lv_at hl 0 rfl) ?_
  refine gw_get (C := RX0) (T := TX0) (N := 11) hx hb hL0 hown hK hP 11 b (cDb (by omega) (by decide) (by decide)) rfl rfl 2 (by decide) (hts (.fieldLink RX0 15 "BlockPrograms$Block" "q" "I") (by decide +kernel)) (fun _ h9 => h9) (v := .int ((σ 2 b))) rfl dX0_isClockOn_5 ?_
  refine lv_icmp_le (tgt := 35) hx hb dX0_isClockOn_8 (by decide) (fun c_1 => ?_) (fun c_1 => ?_)
  · refine lv_iload_n hx hb dX0_isClockOn_35 rfl (lv_at hl 1 rfl) ?_
    refine lv_aload_n hx hb dX0_isClockOn_36 rfl (lv_at hl 0 rfl) ?_
    refine gw_get (C := RX0) (T := TX0) (N := 11) hx hb hL0 hown hK hP 11 b (cDb (by omega) (by decide) (by decide)) rfl rfl 1 (by decide) (hts (.fieldLink RX0 9 "BlockPrograms$Block" "p" "I") (by decide +kernel)) (fun _ h9 => h9) (v := .int ((σ 1 b))) rfl dX0_isClockOn_37 ?_
    refine lv_icmp_lt (tgt := 55) hx hb dX0_isClockOn_40 (by decide) (fun c_2 => ?_) (fun c_2 => ?_)
    · refine lv_iconst (v := 0) hx hb dX0_isClockOn_55 (by decide) ?_
      exact W.zret (v := 0) (ty := .boolean) hx hb hr rfl (fun t ht hW => ⟨⟨0, (), rfl, (by simp only [f_clock, Int32.lt_iff_toInt_lt, Int32.le_iff_toInt_le] at c_1 c_2 ⊢; split <;> simp <;> omega), by rw [← ht] at hP; exact hP⟩, hS.F ht⟩) hS.2.2 dX0_isClockOn_56
    · refine lv_iload_n hx hb dX0_isClockOn_43 rfl (lv_at hl 1 rfl) ?_
      refine lv_aload_n hx hb dX0_isClockOn_44 rfl (lv_at hl 0 rfl) ?_
      refine gw_get (C := RX0) (T := TX0) (N := 11) hx hb hL0 hown hK hP 11 b (cDb (by omega) (by decide) (by decide)) rfl rfl 2 (by decide) (hts (.fieldLink RX0 15 "BlockPrograms$Block" "q" "I") (by decide +kernel)) (fun _ h9 => h9) (v := .int ((σ 2 b))) rfl dX0_isClockOn_45 ?_
      refine lv_icmp_ge (tgt := 55) hx hb dX0_isClockOn_48 (by decide) (fun c_3 => ?_) (fun c_3 => ?_)
      · refine lv_iconst (v := 0) hx hb dX0_isClockOn_55 (by decide) ?_
        exact W.zret (v := 0) (ty := .boolean) hx hb hr rfl (fun t ht hW => ⟨⟨0, (), rfl, (by simp only [f_clock, Int32.lt_iff_toInt_lt, Int32.le_iff_toInt_le] at c_1 c_2 c_3 ⊢; split <;> simp <;> omega), by rw [← ht] at hP; exact hP⟩, hS.F ht⟩) hS.2.2 dX0_isClockOn_56
      · refine lv_iconst (v := 1) hx hb dX0_isClockOn_51 (by decide) ?_
        refine lv_goto (tgt := 56) hx hb dX0_isClockOn_52 (by decide) ?_
        exact W.zret (v := 1) (ty := .boolean) hx hb hr rfl (fun t ht hW => ⟨⟨1, (), rfl, (by simp only [f_clock, Int32.lt_iff_toInt_lt, Int32.le_iff_toInt_le] at c_1 c_2 c_3 ⊢; split <;> simp <;> omega), by rw [← ht] at hP; exact hP⟩, hS.F ht⟩) hS.2.2 dX0_isClockOn_56
  · refine lv_iload_n hx hb dX0_isClockOn_11 rfl (lv_at hl 1 rfl) ?_
    refine lv_aload_n hx hb dX0_isClockOn_12 rfl (lv_at hl 0 rfl) ?_
    refine gw_get (C := RX0) (T := TX0) (N := 11) hx hb hL0 hown hK hP 11 b (cDb (by omega) (by decide) (by decide)) rfl rfl 1 (by decide) (hts (.fieldLink RX0 9 "BlockPrograms$Block" "p" "I") (by decide +kernel)) (fun _ h9 => h9) (v := .int ((σ 1 b))) rfl dX0_isClockOn_13 ?_
    refine lv_icmp_ge (tgt := 27) hx hb dX0_isClockOn_16 (by decide) (fun c_4 => ?_) (fun c_4 => ?_)
    · refine lv_iconst (v := 1) hx hb dX0_isClockOn_27 (by decide) ?_
      refine lv_goto (tgt := 56) hx hb dX0_isClockOn_28 (by decide) ?_
      exact W.zret (v := 1) (ty := .boolean) hx hb hr rfl (fun t ht hW => ⟨⟨1, (), rfl, (by simp only [f_clock, Int32.lt_iff_toInt_lt, Int32.le_iff_toInt_le] at c_1 c_4 ⊢; split <;> simp <;> omega), by rw [← ht] at hP; exact hP⟩, hS.F ht⟩) hS.2.2 dX0_isClockOn_56
    · refine lv_iload_n hx hb dX0_isClockOn_19 rfl (lv_at hl 1 rfl) ?_
      refine lv_aload_n hx hb dX0_isClockOn_20 rfl (lv_at hl 0 rfl) ?_
      refine gw_get (C := RX0) (T := TX0) (N := 11) hx hb hL0 hown hK hP 11 b (cDb (by omega) (by decide) (by decide)) rfl rfl 2 (by decide) (hts (.fieldLink RX0 15 "BlockPrograms$Block" "q" "I") (by decide +kernel)) (fun _ h9 => h9) (v := .int ((σ 2 b))) rfl dX0_isClockOn_21 ?_
      refine lv_icmp_ge (tgt := 31) hx hb dX0_isClockOn_24 (by decide) (fun c_5 => ?_) (fun c_5 => ?_)
      · refine lv_iconst (v := 0) hx hb dX0_isClockOn_31 (by decide) ?_
        refine lv_goto (tgt := 56) hx hb dX0_isClockOn_32 (by decide) ?_
        exact W.zret (v := 0) (ty := .boolean) hx hb hr rfl (fun t ht hW => ⟨⟨0, (), rfl, (by simp only [f_clock, Int32.lt_iff_toInt_lt, Int32.le_iff_toInt_le] at c_1 c_4 c_5 ⊢; split <;> simp <;> omega), by rw [← ht] at hP; exact hP⟩, hS.F ht⟩) hS.2.2 dX0_isClockOn_56
      · refine lv_iconst (v := 1) hx hb dX0_isClockOn_27 (by decide) ?_
        refine lv_goto (tgt := 56) hx hb dX0_isClockOn_28 (by decide) ?_
        exact W.zret (v := 1) (ty := .boolean) hx hb hr rfl (fun t ht hW => ⟨⟨1, (), rfl, (by simp only [f_clock, Int32.lt_iff_toInt_lt, Int32.le_iff_toInt_le] at c_1 c_4 c_5 ⊢; split <;> simp <;> omega), by rw [← ht] at hP; exact hP⟩, hS.F ht⟩) hS.2.2 dX0_isClockOn_56

theorem iL_X0_pulsed_X0 : ∀ w ∈ u_ws RX0 TX0 11, w ∈ wsX0_pulsed := by decide +kernel
set_option maxHeartbeats 4000000 in
set_option maxRecDepth 100000 in
theorem k_X0_pulsed {l : Launch} {D : va_G} {cI cZ cB cS : ClassId} {A : Nat → Prop} (κ : Nat → Nat) (σ sc : Nat → Nat → Int32) (ad : Nat → Nat → Nat) (b : Nat) (hb0 : b < κ 0) (y0 : Int32) : Met l yX0_pulsed wsX0_pulsed ({ frames := 0, cells := 0, slots := 0, locals := 0 } : Room) (gPc D cI cZ cB cS A (cDm κ) (cEn cI cZ cB cS κ σ sc ad) ad [.ref (ad 11 b), .int y0]) (va_Qi (fun (r : Int32) (_ : Unit) => r = if 0 < f_pulse0 (σ 1 b) (σ 5 b) (σ 6 b) y0 then 1 else 0) (fun _ t => gw_P D vwCl A (cDm κ) (cEn cI cZ cB cS κ (wr (wr σ 5 b (if 0 < f_pulse0 (σ 1 b) (σ 5 b) (σ 6 b) y0 then f_pulse0 (σ 1 b) (σ 5 b) (σ 6 b) y0 - 1 else f_pulse0 (σ 1 b) (σ 5 b) (σ 6 b) y0)) 6 b y0) sc ad) ad t.heap) A) 0 0 A := by
  refine Met.ofW (cc := cX0_pulsed) (maxL := 2) (ret := (some .int)) (by decide) rfl ?_
  intro p e s m args below meth c s₁ B hml hv
  obtain ⟨rfl, hP, hE, hA⟩ := hv
  have hx := B.exec
  have hb := B.bytes
  have hr := B.returns
  have hts := atoms_spec (ws := wsX0_pulsed) B.pre
  have hown : s.vm.findClass RX0 = some m.cls := findClass_of_methodNamed B.named
  have hlocks := B.notSynchronized
  have hK := hE.1
  have hS : va_S A s.heap s.heap [] := va_S.rf
  have hL0 := fun w (hw : w ∈ u_ws RX0 TX0 11) => hts w (iL_X0_pulsed_X0 w hw)
  have hl := lv_entry ([.ref (ad 11 b), .int y0]) (n := 2) (Nat.le_of_ble_eq_true rfl)
  rw [lg_entry_eq]
  generalize (lg_sl ([.ref (ad 11 b), .int y0]) ++ List.replicate (2 - (lg_sl ([.ref (ad 11 b), .int y0])).length) Slot.unset).toArray = ls at hl ⊢
  have hl : lv_has ls 2 [(0, .ref (ad 11 b)), (1, .int y0)] := hl
  refine lv_iload_n hx hb dX0_pulsed_0 rfl (lv_at hl 1 rfl) ?_
  refine lv_if_eq (tgt := 19) hx hb dX0_pulsed_1 (by decide) (fun c_1 => ?_) (fun c_1 => ?_)
  · refine lv_aload_n hx hb dX0_pulsed_19 rfl (lv_at hl 0 rfl) ?_
    refine lv_iload_n hx hb dX0_pulsed_20 rfl (lv_at hl 1 rfl) ?_
    refine gw_put (ty := .int) (C := RX0) (T := TX0) (N := 11) hx hb hL0 tyX0 tyX0_ok nmX0 hown hK hP hS 11 b (cDb (by omega) (by decide) (by decide)) rfl rfl 6 (by decide) (hts (.fieldLink RX0 27 "BlockPrograms$Block" "second" "I") (by decide +kernel)) (fun _ h9 => h9) rfl (by decide +kernel) rfl rfl (Nat.le_of_ble_eq_true rfl) dX0_pulsed_21 (cEn cI cZ cB cS κ (wr σ 6 b y0) sc ad) (cU11s_6 _) (fun t9 i9 _ h9 => cU11 (by decide) _ t9 i9 h9) (fun H locs hP hS => ?_)
    refine lv_aload_n hx hb dX0_pulsed_24 rfl (lv_at hl 0 rfl) ?_
    refine gw_get (C := RX0) (T := TX0) (N := 11) hx hb hL0 hown hK hP 11 b (cDb (by omega) (by decide) (by decide)) rfl rfl 5 (by decide) (hts (.fieldLink RX0 24 "BlockPrograms$Block" "first" "I") (by decide +kernel)) (fun _ h9 => h9) (v := .int ((σ 5 b))) (by simp [wr, va_up]) dX0_pulsed_25 ?_
    refine lv_if_gt (tgt := 33) hx hb dX0_pulsed_28 (by decide) (fun c_2 => ?_) (fun c_2 => ?_)
    · refine lv_aload_n hx hb dX0_pulsed_33 rfl (lv_at hl 0 rfl) ?_
      refine lv_dup hx hb dX0_pulsed_34 rfl ?_
      refine gw_get (C := RX0) (T := TX0) (N := 11) hx hb hL0 hown hK hP 11 b (cDb (by omega) (by decide) (by decide)) rfl rfl 5 (by decide) (hts (.fieldLink RX0 24 "BlockPrograms$Block" "first" "I") (by decide +kernel)) (fun _ h9 => h9) (v := .int ((σ 5 b))) (by simp [wr, va_up]) dX0_pulsed_35 ?_
      refine lv_iconst (v := 1) hx hb dX0_pulsed_38 (by decide) ?_
      refine lv_isub hx hb dX0_pulsed_39 ?_
      refine gw_put (ty := .int) (C := RX0) (T := TX0) (N := 11) hx hb hL0 tyX0 tyX0_ok nmX0 hown hK hP hS 11 b (cDb (by omega) (by decide) (by decide)) rfl rfl 5 (by decide) (hts (.fieldLink RX0 24 "BlockPrograms$Block" "first" "I") (by decide +kernel)) (fun _ h9 => h9) rfl (by decide +kernel) rfl rfl (Nat.le_of_ble_eq_true rfl) dX0_pulsed_40 (cEn cI cZ cB cS κ (wr (wr σ 6 b y0) 5 b (((σ 5 b) - 1))) sc ad) (cU11s_5 _) (fun t9 i9 _ h9 => cU11 (by decide) _ t9 i9 h9) (fun H locs hP hS => ?_)
      refine lv_iconst (v := 1) hx hb dX0_pulsed_43 (by decide) ?_
      have eσ : wr (wr σ 6 b y0) 5 b (((σ 5 b) - 1)) = wr (wr σ 5 b (if 0 < f_pulse0 (σ 1 b) (σ 5 b) (σ 6 b) y0 then f_pulse0 (σ 1 b) (σ 5 b) (σ 6 b) y0 - 1 else f_pulse0 (σ 1 b) (σ 5 b) (σ 6 b) y0)) 6 b y0 := by simp [f_pulse0, c_1, c_2, wr_wr, wr_id, wr_65, wr_id6]
      rw [eσ] at hP
      exact W.iret (v := 1) hx hb hr (fun t ht hW => ⟨⟨1, (), rfl, (by simp [f_pulse0, c_1, c_2]), by rw [← ht] at hP; exact hP⟩, hS.F ht⟩) hS.2.2 dX0_pulsed_44
    · refine lv_iconst (v := 0) hx hb dX0_pulsed_31 (by decide) ?_
      have eσ : wr σ 6 b y0 = wr (wr σ 5 b (if 0 < f_pulse0 (σ 1 b) (σ 5 b) (σ 6 b) y0 then f_pulse0 (σ 1 b) (σ 5 b) (σ 6 b) y0 - 1 else f_pulse0 (σ 1 b) (σ 5 b) (σ 6 b) y0)) 6 b y0 := by simp [f_pulse0, c_1, c_2, wr_wr, wr_id, wr_65, wr_id6]
      rw [eσ] at hP
      exact W.iret (v := 0) hx hb hr (fun t ht hW => ⟨⟨0, (), rfl, (by simp [f_pulse0, c_1, c_2]), by rw [← ht] at hP; exact hP⟩, hS.F ht⟩) hS.2.2 dX0_pulsed_32
  · refine lv_aload_n hx hb dX0_pulsed_4 rfl (lv_at hl 0 rfl) ?_
    refine gw_get (C := RX0) (T := TX0) (N := 11) hx hb hL0 hown hK hP 11 b (cDb (by omega) (by decide) (by decide)) rfl rfl 6 (by decide) (hts (.fieldLink RX0 27 "BlockPrograms$Block" "second" "I") (by decide +kernel)) (fun _ h9 => h9) (v := .int ((σ 6 b))) rfl dX0_pulsed_5 ?_
    refine lv_if_ne (tgt := 19) hx hb dX0_pulsed_8 (by decide) (fun c_3 => ?_) (fun c_3 => ?_)
    · refine lv_aload_n hx hb dX0_pulsed_19 rfl (lv_at hl 0 rfl) ?_
      refine lv_iload_n hx hb dX0_pulsed_20 rfl (lv_at hl 1 rfl) ?_
      refine gw_put (ty := .int) (C := RX0) (T := TX0) (N := 11) hx hb hL0 tyX0 tyX0_ok nmX0 hown hK hP hS 11 b (cDb (by omega) (by decide) (by decide)) rfl rfl 6 (by decide) (hts (.fieldLink RX0 27 "BlockPrograms$Block" "second" "I") (by decide +kernel)) (fun _ h9 => h9) rfl (by decide +kernel) rfl rfl (Nat.le_of_ble_eq_true rfl) dX0_pulsed_21 (cEn cI cZ cB cS κ (wr σ 6 b y0) sc ad) (cU11s_6 _) (fun t9 i9 _ h9 => cU11 (by decide) _ t9 i9 h9) (fun H locs hP hS => ?_)
      refine lv_aload_n hx hb dX0_pulsed_24 rfl (lv_at hl 0 rfl) ?_
      refine gw_get (C := RX0) (T := TX0) (N := 11) hx hb hL0 hown hK hP 11 b (cDb (by omega) (by decide) (by decide)) rfl rfl 5 (by decide) (hts (.fieldLink RX0 24 "BlockPrograms$Block" "first" "I") (by decide +kernel)) (fun _ h9 => h9) (v := .int ((σ 5 b))) (by simp [wr, va_up]) dX0_pulsed_25 ?_
      refine lv_if_gt (tgt := 33) hx hb dX0_pulsed_28 (by decide) (fun c_4 => ?_) (fun c_4 => ?_)
      · refine lv_aload_n hx hb dX0_pulsed_33 rfl (lv_at hl 0 rfl) ?_
        refine lv_dup hx hb dX0_pulsed_34 rfl ?_
        refine gw_get (C := RX0) (T := TX0) (N := 11) hx hb hL0 hown hK hP 11 b (cDb (by omega) (by decide) (by decide)) rfl rfl 5 (by decide) (hts (.fieldLink RX0 24 "BlockPrograms$Block" "first" "I") (by decide +kernel)) (fun _ h9 => h9) (v := .int ((σ 5 b))) (by simp [wr, va_up]) dX0_pulsed_35 ?_
        refine lv_iconst (v := 1) hx hb dX0_pulsed_38 (by decide) ?_
        refine lv_isub hx hb dX0_pulsed_39 ?_
        refine gw_put (ty := .int) (C := RX0) (T := TX0) (N := 11) hx hb hL0 tyX0 tyX0_ok nmX0 hown hK hP hS 11 b (cDb (by omega) (by decide) (by decide)) rfl rfl 5 (by decide) (hts (.fieldLink RX0 24 "BlockPrograms$Block" "first" "I") (by decide +kernel)) (fun _ h9 => h9) rfl (by decide +kernel) rfl rfl (Nat.le_of_ble_eq_true rfl) dX0_pulsed_40 (cEn cI cZ cB cS κ (wr (wr σ 6 b y0) 5 b (((σ 5 b) - 1))) sc ad) (cU11s_5 _) (fun t9 i9 _ h9 => cU11 (by decide) _ t9 i9 h9) (fun H locs hP hS => ?_)
        refine lv_iconst (v := 1) hx hb dX0_pulsed_43 (by decide) ?_
        have eσ : wr (wr σ 6 b y0) 5 b (((σ 5 b) - 1)) = wr (wr σ 5 b (if 0 < f_pulse0 (σ 1 b) (σ 5 b) (σ 6 b) y0 then f_pulse0 (σ 1 b) (σ 5 b) (σ 6 b) y0 - 1 else f_pulse0 (σ 1 b) (σ 5 b) (σ 6 b) y0)) 6 b y0 := by simp [f_pulse0, c_1, c_3, c_4, wr_wr, wr_id, wr_65, wr_id6]
        rw [eσ] at hP
        exact W.iret (v := 1) hx hb hr (fun t ht hW => ⟨⟨1, (), rfl, (by simp [f_pulse0, c_1, c_3, c_4]), by rw [← ht] at hP; exact hP⟩, hS.F ht⟩) hS.2.2 dX0_pulsed_44
      · refine lv_iconst (v := 0) hx hb dX0_pulsed_31 (by decide) ?_
        have eσ : wr σ 6 b y0 = wr (wr σ 5 b (if 0 < f_pulse0 (σ 1 b) (σ 5 b) (σ 6 b) y0 then f_pulse0 (σ 1 b) (σ 5 b) (σ 6 b) y0 - 1 else f_pulse0 (σ 1 b) (σ 5 b) (σ 6 b) y0)) 6 b y0 := by simp [f_pulse0, c_1, c_3, c_4, wr_wr, wr_id, wr_65, wr_id6]
        rw [eσ] at hP
        exact W.iret (v := 0) hx hb hr (fun t ht hW => ⟨⟨0, (), rfl, (by simp [f_pulse0, c_1, c_3, c_4]), by rw [← ht] at hP; exact hP⟩, hS.F ht⟩) hS.2.2 dX0_pulsed_32
    · refine lv_aload_n hx hb dX0_pulsed_11 rfl (lv_at hl 0 rfl) ?_
      refine lv_aload_n hx hb dX0_pulsed_12 rfl (lv_at hl 0 rfl) ?_
      refine gw_get (C := RX0) (T := TX0) (N := 11) hx hb hL0 hown hK hP 11 b (cDb (by omega) (by decide) (by decide)) rfl rfl 1 (by decide) (hts (.fieldLink RX0 9 "BlockPrograms$Block" "p" "I") (by decide +kernel)) (fun _ h9 => h9) (v := .int ((σ 1 b))) rfl dX0_pulsed_13 ?_
      refine gw_put (ty := .int) (C := RX0) (T := TX0) (N := 11) hx hb hL0 tyX0 tyX0_ok nmX0 hown hK hP hS 11 b (cDb (by omega) (by decide) (by decide)) rfl rfl 5 (by decide) (hts (.fieldLink RX0 24 "BlockPrograms$Block" "first" "I") (by decide +kernel)) (fun _ h9 => h9) rfl (by decide +kernel) rfl rfl (Nat.le_of_ble_eq_true rfl) dX0_pulsed_16 (cEn cI cZ cB cS κ (wr σ 5 b ((σ 1 b))) sc ad) (cU11s_5 _) (fun t9 i9 _ h9 => cU11 (by decide) _ t9 i9 h9) (fun H locs hP hS => ?_)
      refine lv_aload_n hx hb dX0_pulsed_19 rfl (lv_at hl 0 rfl) ?_
      refine lv_iload_n hx hb dX0_pulsed_20 rfl (lv_at hl 1 rfl) ?_
      refine gw_put (ty := .int) (C := RX0) (T := TX0) (N := 11) hx hb hL0 tyX0 tyX0_ok nmX0 hown hK hP hS 11 b (cDb (by omega) (by decide) (by decide)) rfl rfl 6 (by decide) (hts (.fieldLink RX0 27 "BlockPrograms$Block" "second" "I") (by decide +kernel)) (fun _ h9 => h9) rfl (by decide +kernel) rfl rfl (Nat.le_of_ble_eq_true rfl) dX0_pulsed_21 (cEn cI cZ cB cS κ (wr (wr σ 5 b ((σ 1 b))) 6 b y0) sc ad) (cU11s_6 _) (fun t9 i9 _ h9 => cU11 (by decide) _ t9 i9 h9) (fun H locs hP hS => ?_)
      refine lv_aload_n hx hb dX0_pulsed_24 rfl (lv_at hl 0 rfl) ?_
      refine gw_get (C := RX0) (T := TX0) (N := 11) hx hb hL0 hown hK hP 11 b (cDb (by omega) (by decide) (by decide)) rfl rfl 5 (by decide) (hts (.fieldLink RX0 24 "BlockPrograms$Block" "first" "I") (by decide +kernel)) (fun _ h9 => h9) (v := .int (((σ 1 b)))) (by simp [wr, va_up]) dX0_pulsed_25 ?_
      refine lv_if_gt (tgt := 33) hx hb dX0_pulsed_28 (by decide) (fun c_5 => ?_) (fun c_5 => ?_)
      · refine lv_aload_n hx hb dX0_pulsed_33 rfl (lv_at hl 0 rfl) ?_
        refine lv_dup hx hb dX0_pulsed_34 rfl ?_
        refine gw_get (C := RX0) (T := TX0) (N := 11) hx hb hL0 hown hK hP 11 b (cDb (by omega) (by decide) (by decide)) rfl rfl 5 (by decide) (hts (.fieldLink RX0 24 "BlockPrograms$Block" "first" "I") (by decide +kernel)) (fun _ h9 => h9) (v := .int (((σ 1 b)))) (by simp [wr, va_up]) dX0_pulsed_35 ?_
        refine lv_iconst (v := 1) hx hb dX0_pulsed_38 (by decide) ?_
        refine lv_isub hx hb dX0_pulsed_39 ?_
        refine gw_put (ty := .int) (C := RX0) (T := TX0) (N := 11) hx hb hL0 tyX0 tyX0_ok nmX0 hown hK hP hS 11 b (cDb (by omega) (by decide) (by decide)) rfl rfl 5 (by decide) (hts (.fieldLink RX0 24 "BlockPrograms$Block" "first" "I") (by decide +kernel)) (fun _ h9 => h9) rfl (by decide +kernel) rfl rfl (Nat.le_of_ble_eq_true rfl) dX0_pulsed_40 (cEn cI cZ cB cS κ (wr (wr (wr σ 5 b ((σ 1 b))) 6 b y0) 5 b ((((σ 1 b)) - 1))) sc ad) (cU11s_5 _) (fun t9 i9 _ h9 => cU11 (by decide) _ t9 i9 h9) (fun H locs hP hS => ?_)
        refine lv_iconst (v := 1) hx hb dX0_pulsed_43 (by decide) ?_
        have eσ : wr (wr (wr σ 5 b ((σ 1 b))) 6 b y0) 5 b ((((σ 1 b)) - 1)) = wr (wr σ 5 b (if 0 < f_pulse0 (σ 1 b) (σ 5 b) (σ 6 b) y0 then f_pulse0 (σ 1 b) (σ 5 b) (σ 6 b) y0 - 1 else f_pulse0 (σ 1 b) (σ 5 b) (σ 6 b) y0)) 6 b y0 := by simp [f_pulse0, c_1, c_3, c_5, wr_wr, wr_id, wr_65, wr_id6]
        rw [eσ] at hP
        exact W.iret (v := 1) hx hb hr (fun t ht hW => ⟨⟨1, (), rfl, (by simp [f_pulse0, c_1, c_3, c_5]), by rw [← ht] at hP; exact hP⟩, hS.F ht⟩) hS.2.2 dX0_pulsed_44
      · refine lv_iconst (v := 0) hx hb dX0_pulsed_31 (by decide) ?_
        have eσ : wr (wr σ 5 b ((σ 1 b))) 6 b y0 = wr (wr σ 5 b (if 0 < f_pulse0 (σ 1 b) (σ 5 b) (σ 6 b) y0 then f_pulse0 (σ 1 b) (σ 5 b) (σ 6 b) y0 - 1 else f_pulse0 (σ 1 b) (σ 5 b) (σ 6 b) y0)) 6 b y0 := by simp [f_pulse0, c_1, c_3, c_5, wr_wr, wr_id, wr_65, wr_id6]
        rw [eσ] at hP
        exact W.iret (v := 0) hx hb hr (fun t ht hW => ⟨⟨0, (), rfl, (by simp [f_pulse0, c_1, c_3, c_5]), by rw [← ht] at hP; exact hP⟩, hS.F ht⟩) hS.2.2 dX0_pulsed_32
