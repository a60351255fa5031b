theorem iWIA_X3_existing : ∀ w ∈ g_wIA, w ∈ wsX3_existing := by decide +kernel
theorem iL_X3_existing_X3 : ∀ w ∈ u_ws RX3 TX3 9, w ∈ wsX3_existing := by decide +kernel
set_option maxHeartbeats 4000000 in
set_option maxRecDepth 100000 in
theorem k_X3_existing {l : Launch} {D : va_G} {cI cZ cB cS : ClassId} {A : Nat → Prop} (κ : Nat → Nat) (σ sc : Nat → Nat → Int32) (ad : Nat → Nat → Nat) (hst : l.stackTraces = false) (hn : κ 0 ≤ 40) (y0 : Int32) : vx_Met l yX3_existing wsX3_existing ({ frames := 6, cells := 1, slots := 6, locals := 90 } : Room) (gPc D cI cZ cB cS A (cDm κ) (cEn cI cZ cB cS κ σ sc ad) ad [.ref (ad 0 0), .int y0]) (va_Qr (fun _ : Unit => okI (κ 0) y0) (fun _ a t => a = ad 11 y0.toNatClampNeg ∧ gw_P D vwCl A (cDm κ) (cEn cI cZ cB cS κ σ sc ad) ad t.heap) A) (vx_X (fun _ : Unit => True) (fun E _ t => gw_P D vwCl A (cDm κ) (cEn cI cZ cB cS κ σ sc ad) ad t.heap ∧ (E = g_IA ∧ ¬ okI (κ 0) y0)) A) 1 6 A := by
  refine vx_ofW (cc := cX3_existing) (maxL := 2) (ret := (some (.object "BlockPrograms$Block"))) (by decide) rfl ?_
  intro p e s m args below meth c s₁ B hml htab hv
  obtain ⟨rfl, hP, hE, hA⟩ := hv
  have hx := B.exec
  have hb := B.bytes
  have hr := B.returns
  have hts := atoms_spec (ws := wsX3_existing) B.pre
  have hown : s.vm.findClass RX3 = some m.cls := findClass_of_methodNamed B.named
  have hlocks := B.notSynchronized
  have hK := hE.1
  have hS : va_S A s.heap s.heap [] := va_S.rf
  have hL3 := fun w (hw : w ∈ u_ws RX3 TX3 9) => hts w (iL_X3_existing_X3 w hw)
  have hl := lv_entry ([.ref (ad 0 0), .int y0]) (n := 2) (Nat.le_of_ble_eq_true rfl)
  rw [lg_entry_eq]
  generalize (lg_sl ([.ref (ad 0 0), .int y0]) ++ List.replicate (2 - (lg_sl ([.ref (ad 0 0), .int y0])).length) Slot.unset).toArray = ls at hl ⊢
  have hl : lv_has ls 2 [(0, .ref (ad 0 0)), (1, .int y0)] := hl
  refine lv_iload_n hx hb dX3_existing_0 rfl (lv_at hl 1 rfl) ?_
  refine lv_if_lt (tgt := 12) hx hb dX3_existing_1 (by decide) (fun c_1 => ?_) (fun c_1 => ?_)
  · exact gx_IA hx hb hst 169 "no such block" (by decide) hown (fun w h => hts w (iWIA_X3_existing w h)) hE hS (hl.1.trans hml.symm) dX3_existing_12 dX3_existing_15 dX3_existing_16 dX3_existing_18 dX3_existing_21 htab (Nat.le_of_ble_eq_true rfl) (Nat.le_of_ble_eq_true rfl) (Nat.le_of_ble_eq_true rfl) (Nat.le_of_ble_eq_true rfl) hlocks (fun t8 hv8 hz8 hk8 => ⟨(), trivial, ⟨hP.kept (fun t9 i9 h9 => hk8 _ (hP.lt h9)), ⟨rfl, fun z => z.1 c_1⟩⟩, ⟨Nat.le_trans hS.1 hz8, fun q h1 h2 => (hk8 q (Nat.lt_of_lt_of_le h1 hS.1)).trans (hS.2.1 q h1 h2)⟩⟩) hS.2.2 (Nat.le_of_ble_eq_true rfl) (Nat.le_of_ble_eq_true rfl)
  · refine lv_iload_n hx hb dX3_existing_4 rfl (lv_at hl 1 rfl) ?_
    refine lv_aload_n hx hb dX3_existing_5 rfl (lv_at hl 0 rfl) ?_
    refine gw_get (C := RX3) (T := TX3) (N := 9) hx hb hL3 hown hK hP 0 0 (cDf (by decide)) rfl rfl 1 (by decide) (hts (.fieldLink RX3 15 "BlockPrograms" "count" "I") (by decide +kernel)) (fun _ h9 => h9) (v := .int (nI (κ 0))) rfl dX3_existing_6 ?_
    refine lv_icmp_lt (tgt := 22) hx hb dX3_existing_9 (by decide) (fun c_2 => ?_) (fun c_2 => ?_)
    · refine lv_aload_n hx hb dX3_existing_22 rfl (lv_at hl 0 rfl) ?_
      refine gw_get (C := RX3) (T := TX3) (N := 9) hx hb hL3 hown hK hP 0 0 (cDf (by decide)) rfl rfl 0 (by decide) (hts (.fieldLink RX3 11 "BlockPrograms" "blocks" "[LBlockPrograms$Block;") (by decide +kernel)) (fun _ h9 => h9) (v := .ref (ad 1 0)) rfl dX3_existing_23 ?_
      refine lv_iload_n hx hb dX3_existing_26 rfl (lv_at hl 1 rfl) ?_
      obtain ⟨j, hj, rfl⟩ := ix_of (n := κ 0) (by omega) c_1 (Int32.not_le.mpr c_2)
      refine gw_aald hx hb hK hP 1 0 (cDf (by decide)) 2 rfl rfl (j) rfl (by omega) (by decide) (a := ad 11 j) (if_pos (by omega)) dX3_existing_27 ?_
      refine vx_ret ?_
      refine W.widen (k := 1) (n := 6) (Nat.le_of_ble_eq_true rfl) (Nat.le_of_ble_eq_true rfl) ?_
      exact W.aret (v := .ref (ad 11 j)) (rt := .object "BlockPrograms$Block") hx hb hr (Or.inl ⟨_, rfl⟩) (Or.inr ⟨_, rfl⟩) (fun t ht hW => ⟨⟨(), ad 11 j, rfl, okI_at hj (by omega), ⟨by rw [nI_clamp (by omega)], by rw [← ht] at hP; exact hP⟩⟩, hS.F ht⟩) hS.2.2 dX3_existing_28
    · exact gx_IA hx hb hst 169 "no such block" (by decide) hown (fun w h => hts w (iWIA_X3_existing w h)) hE hS (hl.1.trans hml.symm) dX3_existing_12 dX3_existing_15 dX3_existing_16 dX3_existing_18 dX3_existing_21 htab (Nat.le_of_ble_eq_true rfl) (Nat.le_of_ble_eq_true rfl) (Nat.le_of_ble_eq_true rfl) (Nat.le_of_ble_eq_true rfl) hlocks (fun t8 hv8 hz8 hk8 => ⟨(), trivial, ⟨hP.kept (fun t9 i9 h9 => hk8 _ (hP.lt h9)), ⟨rfl, fun z => z.2 (Int32.not_lt.mp c_2)⟩⟩, ⟨Nat.le_trans hS.1 hz8, fun q h1 h2 => (hk8 q (Nat.lt_of_lt_of_le h1 hS.1)).trans (hS.2.1 q h1 h2)⟩⟩) hS.2.2 (Nat.le_of_ble_eq_true rfl) (Nat.le_of_ble_eq_true rfl)

theorem iWIA_X3_requireKind : ∀ w ∈ g_wIA, w ∈ wsX3_requireKind := by decide +kernel
set_option maxHeartbeats 4000000 in
set_option maxRecDepth 100000 in
theorem k_X3_requireKind {l : Launch} {D : va_G} {cI cZ cB cS : ClassId} {A : Nat → Prop} (κ : Nat → Nat) (σ sc : Nat → Nat → Int32) (ad : Nat → Nat → Nat) (hst : l.stackTraces = false) (y0 : Int32) : vx_Met l yX3_requireKind wsX3_requireKind ({ frames := 6, cells := 1, slots := 6, locals := 90 } : Room) (gPc D cI cZ cB cS A (cDm κ) (cEn cI cZ cB cS κ σ sc ad) ad [.int y0]) (va_Qv (fun _ : Unit => okI 26 y0) (fun _ t => gw_P D vwCl A (cDm κ) (cEn cI cZ cB cS κ σ sc ad) ad t.heap) A) (vx_X (fun _ : Unit => True) (fun E _ t => gw_P D vwCl A (cDm κ) (cEn cI cZ cB cS κ σ sc ad) ad t.heap ∧ (E = g_IA ∧ ¬ okI 26 y0)) A) 1 6 A := by
  refine vx_ofW (cc := cX3_requireKind) (maxL := 1) (ret := none) (by decide) rfl ?_
  intro p e s m args below meth c s₁ B hml htab hv
  obtain ⟨rfl, hP, hE, hA⟩ := hv
  have hx := B.exec
  have hb := B.bytes
  have hr := B.returns
  have hts := atoms_spec (ws := wsX3_requireKind) B.pre
  have hown : s.vm.findClass RX3 = some m.cls := findClass_of_methodNamed B.named
  have hlocks := B.notSynchronized
  have hK := hE.1
  have hS : va_S A s.heap s.heap [] := va_S.rf
  have hl := lv_entry ([.int y0]) (n := 1) (Nat.le_of_ble_eq_true rfl)
  rw [lg_entry_eq]
  generalize (lg_sl ([.int y0]) ++ List.replicate (1 - (lg_sl ([.int y0])).length) Slot.unset).toArray = ls at hl ⊢
  have hl : lv_has ls 1 [(0, .int y0)] := hl
  obtain ⟨tn, hZn, hTn⟩ := hE.2.2.2.1
  refine lv_iload_n hx hb dX3_requireKind_0 rfl (lv_at hl 0 rfl) ?_
  refine lv_if_lt (tgt := 12) hx hb dX3_requireKind_1 (by decide) (fun c_1 => ?_) (fun c_1 => ?_)
  · exact gx_IA hx hb hst 167 "no such kind" (by decide) hown (fun w h => hts w (iWIA_X3_requireKind w h)) hE hS (hl.1.trans hml.symm) dX3_requireKind_12 dX3_requireKind_15 dX3_requireKind_16 dX3_requireKind_18 dX3_requireKind_21 htab (Nat.le_of_ble_eq_true rfl) (Nat.le_of_ble_eq_true rfl) (Nat.le_of_ble_eq_true rfl) (Nat.le_of_ble_eq_true rfl) hlocks (fun t8 hv8 hz8 hk8 => ⟨(), trivial, ⟨hP.kept (fun t9 i9 h9 => hk8 _ (hP.lt h9)), ⟨rfl, fun z => z.1 c_1⟩⟩, ⟨Nat.le_trans hS.1 hz8, fun q h1 h2 => (hk8 q (Nat.lt_of_lt_of_le h1 hS.1)).trans (hS.2.1 q h1 h2)⟩⟩) hS.2.2 (Nat.le_of_ble_eq_true rfl) (Nat.le_of_ble_eq_true rfl)
  · refine lv_iload_n hx hb dX3_requireKind_4 rfl (lv_at hl 0 rfl) ?_
    refine va_gets hx hb hZn hS hown (hts (.fieldLink RX3 164 "BlockPrograms" "NAMED_INPUTS" "[I") (by decide +kernel)) (fun _ h9 => h9) dX3_requireKind_5 ?_
    refine va_tlen hx hb hTn hS (v := nI 26) rfl dX3_requireKind_8 ?_
    refine lv_icmp_lt (tgt := 22) hx hb dX3_requireKind_9 (by decide) (fun c_2 => ?_) (fun c_2 => ?_)
    · refine vx_ret ?_
      refine W.widen (k := 1) (n := 6) (Nat.le_of_ble_eq_true rfl) (Nat.le_of_ble_eq_true rfl) ?_
      exact W.vret hx hb hr (fun t ht hW => ⟨⟨(), rfl, ⟨c_1, (Int32.not_le.mpr c_2)⟩, by rw [← ht] at hP; exact hP⟩, hS.F ht⟩) hS.2.2 dX3_requireKind_22
    · exact gx_IA hx hb hst 167 "no such kind" (by decide) hown (fun w h => hts w (iWIA_X3_requireKind w h)) hE hS (hl.1.trans hml.symm) dX3_requireKind_12 dX3_requireKind_15 dX3_requireKind_16 dX3_requireKind_18 dX3_requireKind_21 htab (Nat.le_of_ble_eq_true rfl) (Nat.le_of_ble_eq_true rfl) (Nat.le_of_ble_eq_true rfl) (Nat.le_of_ble_eq_true rfl) hlocks (fun t8 hv8 hz8 hk8 => ⟨(), trivial, ⟨hP.kept (fun t9 i9 h9 => hk8 _ (hP.lt h9)), ⟨rfl, fun z => z.2 (Int32.not_lt.mp c_2)⟩⟩, ⟨Nat.le_trans hS.1 hz8, fun q h1 h2 => (hk8 q (Nat.lt_of_lt_of_le h1 hS.1)).trans (hS.2.1 q h1 h2)⟩⟩) hS.2.2 (Nat.le_of_ble_eq_true rfl) (Nat.le_of_ble_eq_true rfl)

