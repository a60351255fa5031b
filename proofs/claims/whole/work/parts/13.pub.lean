theorem iWIA_X3_wire : ∀ w ∈ g_wIA, w ∈ wsX3_wire := by decide +kernel
theorem iL_X3_wire_X0 : ∀ w ∈ u_ws RX0 TX0 11, w ∈ wsX3_wire := by decide +kernel
theorem iL_X3_wire_X3 : ∀ w ∈ u_ws RX3 TX3 9, w ∈ wsX3_wire := by decide +kernel
set_option maxHeartbeats 4000000 in
set_option maxRecDepth 100000 in
theorem k_X3_wire {l : Launch} {D : va_G} {cI cZ cB cS : ClassId} {A : Nat → Prop} (κ : Nat → Nat) (σ sc : Nat → Nat → Int32) (ad : Nat → Nat → Nat) (hst : l.stackTraces = false) (hn : κ 0 ≤ 40) (y0 y1 y2 : Int32) : vx_Met l yX3_wire wsX3_wire ({ frames := 7, cells := 3, slots := 18, locals := 111 } : Room) (gPc D cI cZ cB cS A (cDm κ) (cEn cI cZ cB cS κ σ sc ad) ad [.ref (ad 0 0), .int y0, .int y1, .int y2]) (va_Qi (fun (r : Int32) (_ : Unit) => cWire κ y0 y1 y2 = 0 ∧ r = σ 9 (3 * y0.toNatClampNeg + y1.toNatClampNeg)) (fun _ t => gw_P D vwCl A (cDm κ) (cEn cI cZ cB cS κ (wr σ 9 (3 * y0.toNatClampNeg + y1.toNatClampNeg) y2) sc ad) ad t.heap) A) (vx_X (fun _ : Unit => True) (fun E _ t => gw_P D vwCl A (cDm κ) (cEn cI cZ cB cS κ σ sc ad) ad t.heap ∧ (E = g_IA ∧ cWire κ y0 y1 y2 = 1)) A) 3 18 A := by
  refine vx_ofW (cc := cX3_wire) (maxL := 6) (ret := (some .int)) (by decide) rfl ?_
  intro p e s m args below meth c s₁ B hml htab hv
  obtain ⟨rfl, hP, hE, hA⟩ := hv
  have hx := B.exec
  have hb := B.bytes
  have hr := B.returns
  have hts := atoms_spec (ws := wsX3_wire) B.pre
  have hown : s.vm.findClass RX3 = some m.cls := findClass_of_methodNamed B.named
  have hlocks := B.notSynchronized
  have hK := hE.1
  have hS : va_S A s.heap s.heap [] := va_S.rf
  have hL0 := fun w (hw : w ∈ u_ws RX0 TX0 11) => hts w (iL_X3_wire_X0 w hw)
  have hL3 := fun w (hw : w ∈ u_ws RX3 TX3 9) => hts w (iL_X3_wire_X3 w hw)
  have hl := lv_entry ([.ref (ad 0 0), .int y0, .int y1, .int y2]) (n := 6) (Nat.le_of_ble_eq_true rfl)
  rw [lg_entry_eq]
  generalize (lg_sl ([.ref (ad 0 0), .int y0, .int y1, .int y2]) ++ List.replicate (6 - (lg_sl ([.ref (ad 0 0), .int y0, .int y1, .int y2])).length) Slot.unset).toArray = ls at hl ⊢
  have hl : lv_has ls 6 [(0, .ref (ad 0 0)), (1, .int y0), (2, .int y1), (3, .int y2)] := hl
  refine lv_aload_n hx hb dX3_wire_0 rfl (lv_at hl 0 rfl) ?_
  refine lv_iload_n hx hb dX3_wire_1 rfl (lv_at hl 1 rfl) ?_
  refine gx_callr (vx_runV (As := [.int y0]) (rest := []) ⟨hx, hb, hml, hown, hts⟩ (k_X3_existing (l := l) (D := D) (cI := cI) (cZ := cZ) (cB := cB) (cS := cS) (A := A) κ σ sc ad hst hn y0) (cwV 1 hts gX3_wire_X3_existing rfl rfl rfl (by decide +kernel) ⟨Nat.le_of_ble_eq_true rfl, Nat.le_of_ble_eq_true rfl⟩) (gPreV hE hA hS hP (gw_recv hK hP 0 0 (cDf (by decide)) rfl rfl)) rfl rfl hl.1 rfl (lv_room (Nat.le_of_ble_eq_true rfl)) dX3_wire_2 ⟨Nat.le_of_ble_eq_true rfl, Nat.le_of_ble_eq_true rfl⟩) hS (fun q _ h9 => h9) (fun q h9 => h9) (fun q _ h9 => h9) (fun E9 ce9 q9 u9 t9 H9 locs9 ht9 hv9 hp9 hB9 hz9 hk9 hS9 hce9 hcv9 hcl9 => vx_out (fun x h9 => (htab x h9).elim) hlocks hce9 hcv9 hcl9 (fun t8 ht8 hv8 => ⟨(), trivial, ⟨by rw [ht8, ← ht9]; exact hB9.1, ⟨hB9.2.1, by unfold cWire; exact if_neg (fun z => hB9.2.2 z.1)⟩⟩, hS9.F ht8⟩) hS9.2.2 (Nat.le_of_ble_eq_true rfl) (Nat.le_of_ble_eq_true rfl)) (fun u9 ra t9 H locs ht9 hvm9 hw_e_1 hB9 hz9 hk9 hS => ?_)
  have hP : gw_P D vwCl A (cDm κ) (cEn cI cZ cB cS κ σ sc ad) ad H := by rw [← ht9]; exact hB9.2
  have hra : ra = ad 11 y0.toNatClampNeg := hB9.1
  obtain ⟨j, hj, rfl⟩ := ix_of (n := κ 0) (by omega) hw_e_1.1 hw_e_1.2
  rw [nI_clamp (show j < 2 ^ 31 by omega)] at hra
  subst hra
  refine lv_astore (lv' := [(4, .ref (ad 11 j)), (0, .ref (ad 0 0)), (1, .int (nI j)), (2, .int y1), (3, .int y2)]) hx hb dX3_wire_5 hl (by decide) rfl (fun ls hl => ?_)
  refine lv_iload_n hx hb dX3_wire_7 rfl (lv_at hl 3 rfl) ?_
  refine lv_if_lt (tgt := 16) hx hb dX3_wire_8 (by decide) (fun c_2 => ?_) (fun c_2 => ?_)
  · exact gx_IA hx hb hst 68 "no such input" (by decide) hown (fun w h => hts w (iWIA_X3_wire w h)) hE hS (hl.1.trans hml.symm) dX3_wire_16 dX3_wire_19 dX3_wire_20 dX3_wire_22 dX3_wire_25 htab (Nat.le_of_ble_eq_true rfl) (Nat.le_of_ble_eq_true rfl) (Nat.le_of_ble_eq_true rfl) (Nat.le_of_ble_eq_true rfl) hlocks (fun t8 hv8 hz8 hk8 => ⟨(), trivial, ⟨hP.kept (fun t9 i9 h9 => hk8 _ (hP.lt h9)), ⟨rfl, by unfold cWire; exact if_neg (fun z => z.2.1.1 c_2)⟩⟩, ⟨Nat.le_trans hS.1 hz8, fun q h1 h2 => (hk8 q (Nat.lt_of_lt_of_le h1 hS.1)).trans (hS.2.1 q h1 h2)⟩⟩) hS.2.2 (Nat.le_of_ble_eq_true rfl) (Nat.le_of_ble_eq_true rfl)
  · refine lv_iload_n hx hb dX3_wire_11 rfl (lv_at hl 3 rfl) ?_
    refine lv_iconst (v := 3) hx hb dX3_wire_12 (by decide) ?_
    refine lv_icmp_lt (tgt := 26) hx hb dX3_wire_13 (by decide) (fun c_3 => ?_) (fun c_3 => ?_)
    · obtain ⟨i, hi, rfl⟩ := ix_of (n := 3) (by decide) c_2 (Int32.not_le.mpr c_3)
      refine lv_iload_n hx hb dX3_wire_26 rfl (lv_at hl 4 rfl) ?_
      refine lv_iconst (v := -1) hx hb dX3_wire_27 (by decide) ?_
      refine lv_icmp_eq (tgt := 37) hx hb dX3_wire_28 (by decide) (fun c_4 => ?_) (fun c_4 => ?_)
      · refine lv_aload hx hb dX3_wire_37 (lv_at hl 0 rfl) ?_
        refine gw_get (C := RX0) (T := TX0) (N := 11) hx hb hL0 hown hK hP 11 j (cDb (by omega) (by decide) (by decide)) rfl rfl 9 (by decide) (hts (.fieldLink RX3 71 "BlockPrograms$Block" "wires" "[I") (by decide +kernel)) (fun _ h9 => h9) (v := .ref (ad 12 j)) rfl dX3_wire_39 ?_
        refine lv_iload_n hx hb dX3_wire_42 rfl (lv_at hl 3 rfl) ?_
        refine gw_iald hx hb hK hP 12 j (cDb (by omega) (by decide) (by decide)) 0 rfl rfl (i) rfl (by omega) (by decide) (v := (σ 9 (3 * j + i))) (if_pos (by omega)) dX3_wire_43 ?_
        refine lv_istore (lv' := [(5, .int ((σ 9 (3 * j + i)))), (4, .ref (ad 11 j)), (0, .ref (ad 0 0)), (1, .int (nI j)), (2, .int (nI i)), (3, .int y2)]) hx hb dX3_wire_44 hl (by decide) rfl (fun ls hl => ?_)
        refine lv_aload hx hb dX3_wire_46 (lv_at hl 1 rfl) ?_
        refine gw_get (C := RX0) (T := TX0) (N := 11) hx hb hL0 hown hK hP 11 j (cDb (by omega) (by decide) (by decide)) rfl rfl 9 (by decide) (hts (.fieldLink RX3 71 "BlockPrograms$Block" "wires" "[I") (by decide +kernel)) (fun _ h9 => h9) (v := .ref (ad 12 j)) rfl dX3_wire_48 ?_
        refine lv_iload_n hx hb dX3_wire_51 rfl (lv_at hl 4 rfl) ?_
        refine lv_iload_n hx hb dX3_wire_52 rfl (lv_at hl 5 rfl) ?_
        refine gw_iast hx hb hK hP hS 12 j (cDb (by omega) (by decide) (by decide)) 0 rfl rfl (i) rfl (by omega) (by decide) dX3_wire_53 ((cEn cI cZ cB cS κ (wr σ 9 (3 * j + i) y2) sc ad)) (cU12s (by omega) _) (fun t9 i9 _ h9 => cU12 (by omega) _ t9 i9 h9) (fun H locs hP hS => ?_)
        refine lv_iload hx hb dX3_wire_54 (lv_at hl 0 rfl) ?_
        refine vx_ret ?_
        refine W.widen (k := 3) (n := 18) (Nat.le_of_ble_eq_true rfl) (Nat.le_of_ble_eq_true rfl) ?_
        exact W.iret (v := (σ 9 (3 * j + i))) hx hb hr (fun t ht hW => ⟨⟨((σ 9 (3 * j + i))), (), rfl, (by rw [nI_clamp (show j < 2 ^ 31 by omega), nI_clamp (show i < 2 ^ 31 by omega)]; exact ⟨if_pos ⟨okI_at hj (by omega), okI_at hi (by decide), Or.inl c_4⟩, rfl⟩), by rw [nI_clamp (show j < 2 ^ 31 by omega), nI_clamp (show i < 2 ^ 31 by omega)]; rw [← ht] at hP; exact hP⟩, hS.F ht⟩) hS.2.2 dX3_wire_56
      · refine lv_aload_n hx hb dX3_wire_31 rfl (lv_at hl 1 rfl) ?_
        refine lv_iload_n hx hb dX3_wire_32 rfl (lv_at hl 4 rfl) ?_
        refine gx_callr (vx_runV (As := [.int y2]) (rest := []) ⟨hx, hb, hml, hown, hts⟩ (k_X3_existing (l := l) (D := D) (cI := cI) (cZ := cZ) (cB := cB) (cS := cS) (A := A) κ σ sc ad hst hn y2) (cwV 1 hts gX3_wire_X3_existing rfl rfl rfl (by decide +kernel) ⟨Nat.le_of_ble_eq_true rfl, Nat.le_of_ble_eq_true rfl⟩) (gPreV hE hA hS hP (gw_recv hK hP 0 0 (cDf (by decide)) rfl rfl)) rfl rfl hl.1 rfl (lv_room (Nat.le_of_ble_eq_true rfl)) dX3_wire_33 ⟨Nat.le_of_ble_eq_true rfl, Nat.le_of_ble_eq_true rfl⟩) hS (fun q _ h9 => h9) (fun q h9 => h9) (fun q _ h9 => h9) (fun E9 ce9 q9 u9 t9 H9 locs9 ht9 hv9 hp9 hB9 hz9 hk9 hS9 hce9 hcv9 hcl9 => vx_out (fun x h9 => (htab x h9).elim) hlocks hce9 hcv9 hcl9 (fun t8 ht8 hv8 => ⟨(), trivial, ⟨by rw [ht8, ← ht9]; exact hB9.1, ⟨hB9.2.1, by unfold cWire; exact if_neg (fun z => z.2.2.elim (fun h => c_4 h) (fun h => hB9.2.2 h))⟩⟩, hS9.F ht8⟩) hS9.2.2 (Nat.le_of_ble_eq_true rfl) (Nat.le_of_ble_eq_true rfl)) (fun u9 ra t9 H locs ht9 hvm9 hw_e_5 hB9 hz9 hk9 hS => ?_)
        have hP : gw_P D vwCl A (cDm κ) (cEn cI cZ cB cS κ σ sc ad) ad H := by rw [← ht9]; exact hB9.2
        have hra : ra = ad 11 y2.toNatClampNeg := hB9.1
        obtain ⟨j2, hj2, rfl⟩ := ix_of (n := κ 0) (by omega) hw_e_5.1 hw_e_5.2
        rw [nI_clamp (show j2 < 2 ^ 31 by omega)] at hra
        subst hra
        refine lv_pop hx hb dX3_wire_36 rfl ?_
        refine lv_aload hx hb dX3_wire_37 (lv_at hl 0 rfl) ?_
        refine gw_get (C := RX0) (T := TX0) (N := 11) hx hb hL0 hown hK hP 11 j (cDb (by omega) (by decide) (by decide)) rfl rfl 9 (by decide) (hts (.fieldLink RX3 71 "BlockPrograms$Block" "wires" "[I") (by decide +kernel)) (fun _ h9 => h9) (v := .ref (ad 12 j)) rfl dX3_wire_39 ?_
        refine lv_iload_n hx hb dX3_wire_42 rfl (lv_at hl 3 rfl) ?_
        refine gw_iald hx hb hK hP 12 j (cDb (by omega) (by decide) (by decide)) 0 rfl rfl (i) rfl (by omega) (by decide) (v := (σ 9 (3 * j + i))) (if_pos (by omega)) dX3_wire_43 ?_
        refine lv_istore (lv' := [(5, .int ((σ 9 (3 * j + i)))), (4, .ref (ad 11 j)), (0, .ref (ad 0 0)), (1, .int (nI j)), (2, .int (nI i)), (3, .int (nI j2))]) hx hb dX3_wire_44 hl (by decide) rfl (fun ls hl => ?_)
        refine lv_aload hx hb dX3_wire_46 (lv_at hl 1 rfl) ?_
        refine gw_get (C := RX0) (T := TX0) (N := 11) hx hb hL0 hown hK hP 11 j (cDb (by omega) (by decide) (by decide)) rfl rfl 9 (by decide) (hts (.fieldLink RX3 71 "BlockPrograms$Block" "wires" "[I") (by decide +kernel)) (fun _ h9 => h9) (v := .ref (ad 12 j)) rfl dX3_wire_48 ?_
        refine lv_iload_n hx hb dX3_wire_51 rfl (lv_at hl 4 rfl) ?_
        refine lv_iload_n hx hb dX3_wire_52 rfl (lv_at hl 5 rfl) ?_
        refine gw_iast hx hb hK hP hS 12 j (cDb (by omega) (by decide) (by decide)) 0 rfl rfl (i) rfl (by omega) (by decide) dX3_wire_53 ((cEn cI cZ cB cS κ (wr σ 9 (3 * j + i) (nI j2)) sc ad)) (cU12s (by omega) _) (fun t9 i9 _ h9 => cU12 (by omega) _ t9 i9 h9) (fun H locs hP hS => ?_)
        refine lv_iload hx hb dX3_wire_54 (lv_at hl 0 rfl) ?_
        refine vx_ret ?_
        refine W.widen (k := 3) (n := 18) (Nat.le_of_ble_eq_true rfl) (Nat.le_of_ble_eq_true rfl) ?_
        exact W.iret (v := (σ 9 (3 * j + i))) hx hb hr (fun t ht hW => ⟨⟨((σ 9 (3 * j + i))), (), rfl, (by rw [nI_clamp (show j < 2 ^ 31 by omega), nI_clamp (show i < 2 ^ 31 by omega)]; exact ⟨if_pos ⟨okI_at hj (by omega), okI_at hi (by decide), Or.inr (okI_at hj2 (by omega))⟩, rfl⟩), by rw [nI_clamp (show j < 2 ^ 31 by omega), nI_clamp (show i < 2 ^ 31 by omega)]; rw [← ht] at hP; exact hP⟩, hS.F ht⟩) hS.2.2 dX3_wire_56
    · exact gx_IA hx hb hst 68 "no such input" (by decide) hown (fun w h => hts w (iWIA_X3_wire w h)) hE hS (hl.1.trans hml.symm) dX3_wire_16 dX3_wire_19 dX3_wire_20 dX3_wire_22 dX3_wire_25 htab (Nat.le_of_ble_eq_true rfl) (Nat.le_of_ble_eq_true rfl) (Nat.le_of_ble_eq_true rfl) (Nat.le_of_ble_eq_true rfl) hlocks (fun t8 hv8 hz8 hk8 => ⟨(), trivial, ⟨hP.kept (fun t9 i9 h9 => hk8 _ (hP.lt h9)), ⟨rfl, by unfold cWire; exact if_neg (fun z => z.2.1.2 (Int32.not_lt.mp c_3))⟩⟩, ⟨Nat.le_trans hS.1 hz8, fun q h1 h2 => (hk8 q (Nat.lt_of_lt_of_le h1 hS.1)).trans (hS.2.1 q h1 h2)⟩⟩) hS.2.2 (Nat.le_of_ble_eq_true rfl) (Nat.le_of_ble_eq_true rfl)

theorem iL_X3_numbers_X0 : ∀ w ∈ u_ws RX0 TX0 11, w ∈ wsX3_numbers := by decide +kernel
theorem iL_X3_numbers_X3 : ∀ w ∈ u_ws RX3 TX3 9, w ∈ wsX3_numbers := by decide +kernel
set_option maxHeartbeats 4000000 in
set_option maxRecDepth 100000 in
theorem k_X3_numbers {l : Launch} {D : va_G} {cI cZ cB cS : ClassId} {A : Nat → Prop} (κ : Nat → Nat) (σ sc : Nat → Nat → Int32) (ad : Nat → Nat → Nat) (hst : l.stackTraces = false) (hn : κ 0 ≤ 40) (y0 y1 y2 : Int32) : vx_Met l yX3_numbers wsX3_numbers ({ frames := 7, cells := 1, slots := 6, locals := 111 } : Room) (gPc D cI cZ cB cS A (cDm κ) (cEn cI cZ cB cS κ σ sc ad) ad [.ref (ad 0 0), .int y0, .int y1, .int y2]) (va_Qv (fun _ : Unit => cOne (κ 0) y0 = 0) (fun _ t => gw_P D vwCl A (cDm κ) (cEn cI cZ cB cS κ (wr (wr σ 1 y0.toNatClampNeg y1) 2 y0.toNatClampNeg y2) sc ad) ad t.heap) A) (vx_X (fun _ : Unit => True) (fun E _ t => gw_P D vwCl A (cDm κ) (cEn cI cZ cB cS κ σ sc ad) ad t.heap ∧ (E = g_IA ∧ cOne (κ 0) y0 = 1)) A) 1 6 A := by
  refine vx_ofW (cc := cX3_numbers) (maxL := 5) (ret := none) (by decide) rfl ?_
  intro p e s m args below meth c s₁ B hml htab hv
  obtain ⟨rfl, hP, hE, hA⟩ := hv
  have hx := B.exec
  have hb := B.bytes
  have hr := B.returns
  have hts := atoms_spec (ws := wsX3_numbers) B.pre
  have hown : s.vm.findClass RX3 = some m.cls := findClass_of_methodNamed B.named
  have hlocks := B.notSynchronized
  have hK := hE.1
  have hS : va_S A s.heap s.heap [] := va_S.rf
  have hL0 := fun w (hw : w ∈ u_ws RX0 TX0 11) => hts w (iL_X3_numbers_X0 w hw)
  have hL3 := fun w (hw : w ∈ u_ws RX3 TX3 9) => hts w (iL_X3_numbers_X3 w hw)
  have hl := lv_entry ([.ref (ad 0 0), .int y0, .int y1, .int y2]) (n := 5) (Nat.le_of_ble_eq_true rfl)
  rw [lg_entry_eq]
  generalize (lg_sl ([.ref (ad 0 0), .int y0, .int y1, .int y2]) ++ List.replicate (5 - (lg_sl ([.ref (ad 0 0), .int y0, .int y1, .int y2])).length) Slot.unset).toArray = ls at hl ⊢
  have hl : lv_has ls 5 [(0, .ref (ad 0 0)), (1, .int y0), (2, .int y1), (3, .int y2)] := hl
  refine lv_aload_n hx hb dX3_numbers_0 rfl (lv_at hl 0 rfl) ?_
  refine lv_iload_n hx hb dX3_numbers_1 rfl (lv_at hl 1 rfl) ?_
  refine gx_callr (vx_runV (As := [.int y0]) (rest := []) ⟨hx, hb, hml, hown, hts⟩ (k_X3_existing (l := l) (D := D) (cI := cI) (cZ := cZ) (cB := cB) (cS := cS) (A := A) κ σ sc ad hst hn y0) (cwV 1 hts gX3_numbers_X3_existing rfl rfl rfl (by decide +kernel) ⟨Nat.le_of_ble_eq_true rfl, Nat.le_of_ble_eq_true rfl⟩) (gPreV hE hA hS hP (gw_recv hK hP 0 0 (cDf (by decide)) rfl rfl)) rfl rfl hl.1 rfl (lv_room (Nat.le_of_ble_eq_true rfl)) dX3_numbers_2 ⟨Nat.le_of_ble_eq_true rfl, Nat.le_of_ble_eq_true rfl⟩) hS (fun q _ h9 => h9) (fun q h9 => h9) (fun q _ h9 => h9) (fun E9 ce9 q9 u9 t9 H9 locs9 ht9 hv9 hp9 hB9 hz9 hk9 hS9 hce9 hcv9 hcl9 => vx_out (fun x h9 => (htab x h9).elim) hlocks hce9 hcv9 hcl9 (fun t8 ht8 hv8 => ⟨(), trivial, ⟨by rw [ht8, ← ht9]; exact hB9.1, ⟨hB9.2.1, by unfold cOne; exact if_neg hB9.2.2⟩⟩, hS9.F ht8⟩) hS9.2.2 (Nat.le_of_ble_eq_true rfl) (Nat.le_of_ble_eq_true rfl)) (fun u9 ra t9 H locs ht9 hvm9 hw_e_1 hB9 hz9 hk9 hS => ?_)
  have hP : gw_P D vwCl A (cDm κ) (cEn cI cZ cB cS κ σ sc ad) ad H := by rw [← ht9]; exact hB9.2
  have hra : ra = ad 11 y0.toNatClampNeg := hB9.1
  obtain ⟨j, hj, rfl⟩ := ix_of (n := κ 0) (by omega) hw_e_1.1 hw_e_1.2
  rw [nI_clamp (show j < 2 ^ 31 by omega)] at hra
  subst hra
  refine lv_astore (lv' := [(4, .ref (ad 11 j)), (0, .ref (ad 0 0)), (1, .int (nI j)), (2, .int y1), (3, .int y2)]) hx hb dX3_numbers_5 hl (by decide) rfl (fun ls hl => ?_)
  refine lv_aload hx hb dX3_numbers_7 (lv_at hl 0 rfl) ?_
  refine lv_iload_n hx hb dX3_numbers_9 rfl (lv_at hl 3 rfl) ?_
  refine gw_put (ty := .int) (C := RX0) (T := TX0) (N := 11) hx hb hL0 tyX0 tyX0_ok nmX0 hown hK hP hS 11 j (cDb (by omega) (by decide) (by decide)) rfl rfl 1 (by decide) (hts (.fieldLink RX3 74 "BlockPrograms$Block" "p" "I") (by decide +kernel)) (fun _ h9 => h9) rfl (by decide +kernel) rfl rfl (Nat.le_of_ble_eq_true rfl) dX3_numbers_10 (cEn cI cZ cB cS κ (wr σ 1 j y1) sc ad) (cU11s_1 _) (fun t9 i9 _ h9 => cU11 (by decide) _ t9 i9 h9) (fun H locs hP hS => ?_)
  refine lv_aload hx hb dX3_numbers_13 (lv_at hl 0 rfl) ?_
  refine lv_iload_n hx hb dX3_numbers_15 rfl (lv_at hl 4 rfl) ?_
  refine gw_put (ty := .int) (C := RX0) (T := TX0) (N := 11) hx hb hL0 tyX0 tyX0_ok nmX0 hown hK hP hS 11 j (cDb (by omega) (by decide) (by decide)) rfl rfl 2 (by decide) (hts (.fieldLink RX3 77 "BlockPrograms$Block" "q" "I") (by decide +kernel)) (fun _ h9 => h9) rfl (by decide +kernel) rfl rfl (Nat.le_of_ble_eq_true rfl) dX3_numbers_16 (cEn cI cZ cB cS κ (wr (wr σ 1 j y1) 2 j y2) sc ad) (cU11s_2 _) (fun t9 i9 _ h9 => cU11 (by decide) _ t9 i9 h9) (fun H locs hP hS => ?_)
  refine vx_ret ?_
  refine W.widen (k := 1) (n := 6) (Nat.le_of_ble_eq_true rfl) (Nat.le_of_ble_eq_true rfl) ?_
  exact W.vret hx hb hr (fun t ht hW => ⟨⟨(), rfl, (if_pos (okI_at hj (by omega))), by rw [nI_clamp (show j < 2 ^ 31 by omega)]; rw [← ht] at hP; exact hP⟩, hS.F ht⟩) hS.2.2 dX3_numbers_19

theorem iL_X3_safe_X0 : ∀ w ∈ u_ws RX0 TX0 11, w ∈ wsX3_safe := by decide +kernel
theorem iL_X3_safe_X3 : ∀ w ∈ u_ws RX3 TX3 9, w ∈ wsX3_safe := by decide +kernel
set_option maxHeartbeats 4000000 in
set_option maxRecDepth 100000 in
theorem k_X3_safe {l : Launch} {D : va_G} {cI cZ cB cS : ClassId} {A : Nat → Prop} (κ : Nat → Nat) (σ sc : Nat → Nat → Int32) (ad : Nat → Nat → Nat) (hst : l.stackTraces = false) (hn : κ 0 ≤ 40) (y0 y1 : Int32) : vx_Met l yX3_safe wsX3_safe ({ frames := 7, cells := 1, slots := 6, locals := 111 } : Room) (gPc D cI cZ cB cS A (cDm κ) (cEn cI cZ cB cS κ σ sc ad) ad [.ref (ad 0 0), .int y0, .int y1]) (va_Qi (fun (r : Int32) (_ : Unit) => cOne (κ 0) y0 = 0 ∧ r = σ 3 y0.toNatClampNeg) (fun _ t => gw_P D vwCl A (cDm κ) (cEn cI cZ cB cS κ (wr σ 3 y0.toNatClampNeg y1) sc ad) ad t.heap) A) (vx_X (fun _ : Unit => True) (fun E _ t => gw_P D vwCl A (cDm κ) (cEn cI cZ cB cS κ σ sc ad) ad t.heap ∧ (E = g_IA ∧ cOne (κ 0) y0 = 1)) A) 1 6 A := by
  refine vx_ofW (cc := cX3_safe) (maxL := 5) (ret := (some .int)) (by decide) rfl ?_
  intro p e s m args below meth c s₁ B hml htab hv
  obtain ⟨rfl, hP, hE, hA⟩ := hv
  have hx := B.exec
  have hb := B.bytes
  have hr := B.returns
  have hts := atoms_spec (ws := wsX3_safe) B.pre
  have hown : s.vm.findClass RX3 = some m.cls := findClass_of_methodNamed B.named
  have hlocks := B.notSynchronized
  have hK := hE.1
  have hS : va_S A s.heap s.heap [] := va_S.rf
  have hL0 := fun w (hw : w ∈ u_ws RX0 TX0 11) => hts w (iL_X3_safe_X0 w hw)
  have hL3 := fun w (hw : w ∈ u_ws RX3 TX3 9) => hts w (iL_X3_safe_X3 w hw)
  have hl := lv_entry ([.ref (ad 0 0), .int y0, .int y1]) (n := 5) (Nat.le_of_ble_eq_true rfl)
  rw [lg_entry_eq]
  generalize (lg_sl ([.ref (ad 0 0), .int y0, .int y1]) ++ List.replicate (5 - (lg_sl ([.ref (ad 0 0), .int y0, .int y1])).length) Slot.unset).toArray = ls at hl ⊢
  have hl : lv_has ls 5 [(0, .ref (ad 0 0)), (1, .int y0), (2, .int y1)] := hl
  refine lv_aload_n hx hb dX3_safe_0 rfl (lv_at hl 0 rfl) ?_
  refine lv_iload_n hx hb dX3_safe_1 rfl (lv_at hl 1 rfl) ?_
  refine gx_callr (vx_runV (As := [.int y0]) (rest := []) ⟨hx, hb, hml, hown, hts⟩ (k_X3_existing (l := l) (D := D) (cI := cI) (cZ := cZ) (cB := cB) (cS := cS) (A := A) κ σ sc ad hst hn y0) (cwV 1 hts gX3_safe_X3_existing rfl rfl rfl (by decide +kernel) ⟨Nat.le_of_ble_eq_true rfl, Nat.le_of_ble_eq_true rfl⟩) (gPreV hE hA hS hP (gw_recv hK hP 0 0 (cDf (by decide)) rfl rfl)) rfl rfl hl.1 rfl (lv_room (Nat.le_of_ble_eq_true rfl)) dX3_safe_2 ⟨Nat.le_of_ble_eq_true rfl, Nat.le_of_ble_eq_true rfl⟩) hS (fun q _ h9 => h9) (fun q h9 => h9) (fun q _ h9 => h9) (fun E9 ce9 q9 u9 t9 H9 locs9 ht9 hv9 hp9 hB9 hz9 hk9 hS9 hce9 hcv9 hcl9 => vx_out (fun x h9 => (htab x h9).elim) hlocks hce9 hcv9 hcl9 (fun t8 ht8 hv8 => ⟨(), trivial, ⟨by rw [ht8, ← ht9]; exact hB9.1, ⟨hB9.2.1, by unfold cOne; exact if_neg hB9.2.2⟩⟩, hS9.F ht8⟩) hS9.2.2 (Nat.le_of_ble_eq_true rfl) (Nat.le_of_ble_eq_true rfl)) (fun u9 ra t9 H locs ht9 hvm9 hw_e_1 hB9 hz9 hk9 hS => ?_)
  have hP : gw_P D vwCl A (cDm κ) (cEn cI cZ cB cS κ σ sc ad) ad H := by rw [← ht9]; exact hB9.2
  have hra : ra = ad 11 y0.toNatClampNeg := hB9.1
  obtain ⟨j, hj, rfl⟩ := ix_of (n := κ 0) (by omega) hw_e_1.1 hw_e_1.2
  rw [nI_clamp (show j < 2 ^ 31 by omega)] at hra
  subst hra
  refine lv_astore_n (lv' := [(3, .ref (ad 11 j)), (0, .ref (ad 0 0)), (1, .int (nI j)), (2, .int y1)]) hx hb dX3_safe_5 rfl hl (by decide) rfl (fun ls hl => ?_)
  refine lv_aload_n hx hb dX3_safe_6 rfl (lv_at hl 0 rfl) ?_
  refine gw_get (C := RX0) (T := TX0) (N := 11) hx hb hL0 hown hK hP 11 j (cDb (by omega) (by decide) (by decide)) rfl rfl 3 (by decide) (hts (.fieldLink RX3 94 "BlockPrograms$Block" "safeValue" "I") (by decide +kernel)) (fun _ h9 => h9) (v := .int ((σ 3 j))) rfl dX3_safe_7 ?_
  refine lv_istore (lv' := [(4, .int ((σ 3 j))), (3, .ref (ad 11 j)), (0, .ref (ad 0 0)), (1, .int (nI j)), (2, .int y1)]) hx hb dX3_safe_10 hl (by decide) rfl (fun ls hl => ?_)
  refine lv_aload_n hx hb dX3_safe_12 rfl (lv_at hl 1 rfl) ?_
  refine lv_iload_n hx hb dX3_safe_13 rfl (lv_at hl 4 rfl) ?_
  refine gw_put (ty := .int) (C := RX0) (T := TX0) (N := 11) hx hb hL0 tyX0 tyX0_ok nmX0 hown hK hP hS 11 j (cDb (by omega) (by decide) (by decide)) rfl rfl 3 (by decide) (hts (.fieldLink RX3 94 "BlockPrograms$Block" "safeValue" "I") (by decide +kernel)) (fun _ h9 => h9) rfl (by decide +kernel) rfl rfl (Nat.le_of_ble_eq_true rfl) dX3_safe_14 (cEn cI cZ cB cS κ (wr σ 3 j y1) sc ad) (cU11s_3 _) (fun t9 i9 _ h9 => cU11 (by decide) _ t9 i9 h9) (fun H locs hP hS => ?_)
  refine lv_iload hx hb dX3_safe_17 (lv_at hl 0 rfl) ?_
  refine vx_ret ?_
  refine W.widen (k := 1) (n := 6) (Nat.le_of_ble_eq_true rfl) (Nat.le_of_ble_eq_true rfl) ?_
  exact W.iret (v := (σ 3 j)) hx hb hr (fun t ht hW => ⟨⟨((σ 3 j)), (), rfl, (by rw [nI_clamp (show j < 2 ^ 31 by omega)]; exact ⟨if_pos (okI_at hj (by omega)), rfl⟩), by rw [nI_clamp (show j < 2 ^ 31 by omega)]; rw [← ht] at hP; exact hP⟩, hS.F ht⟩) hS.2.2 dX3_safe_19

theorem iL_X3_hand_X0 : ∀ w ∈ u_ws RX0 TX0 11, w ∈ wsX3_hand := by decide +kernel
theorem iL_X3_hand_X3 : ∀ w ∈ u_ws RX3 TX3 9, w ∈ wsX3_hand := by decide +kernel
set_option maxHeartbeats 4000000 in
set_option maxRecDepth 100000 in
theorem k_X3_hand {l : Launch} {D : va_G} {cI cZ cB cS : ClassId} {A : Nat → Prop} (κ : Nat → Nat) (σ sc : Nat → Nat → Int32) (ad : Nat → Nat → Nat) (hst : l.stackTraces = false) (hn : κ 0 ≤ 40) (h7 : ∀ i, i < κ 0 → narrow .boolean (.int (σ 7 i)) = .int (σ 7 i)) (y0 y1 y2 : Int32) (hz1 : narrow .boolean (.int y1) = .int y1) (hf1 : fits .boolean (.int y1) = true) : vx_Met l yX3_hand wsX3_hand ({ frames := 7, cells := 1, slots := 6, locals := 111 } : Room) (gPc D cI cZ cB cS A (cDm κ) (cEn cI cZ cB cS κ σ sc ad) ad [.ref (ad 0 0), .int y0, .int y1, .int y2]) (va_Qi (fun (r : Int32) (_ : Unit) => cOne (κ 0) y0 = 0 ∧ r = σ 7 y0.toNatClampNeg) (fun _ t => gw_P D vwCl A (cDm κ) (cEn cI cZ cB cS κ (wr (wr σ 7 y0.toNatClampNeg y1) 8 y0.toNatClampNeg y2) sc ad) ad t.heap) A) (vx_X (fun _ : Unit => True) (fun E _ t => gw_P D vwCl A (cDm κ) (cEn cI cZ cB cS κ σ sc ad) ad t.heap ∧ (E = g_IA ∧ cOne (κ 0) y0 = 1)) A) 1 6 A := by
  refine vx_ofW (cc := cX3_hand) (maxL := 6) (ret := (some .boolean)) (by decide) rfl ?_
  intro p e s m args below meth c s₁ B hml htab hv
  obtain ⟨rfl, hP, hE, hA⟩ := hv
  have hx := B.exec
  have hb := B.bytes
  have hr := B.returns
  have hts := atoms_spec (ws := wsX3_hand) B.pre
  have hown : s.vm.findClass RX3 = some m.cls := findClass_of_methodNamed B.named
  have hlocks := B.notSynchronized
  have hK := hE.1
  have hS : va_S A s.heap s.heap [] := va_S.rf
  have hL0 := fun w (hw : w ∈ u_ws RX0 TX0 11) => hts w (iL_X3_hand_X0 w hw)
  have hL3 := fun w (hw : w ∈ u_ws RX3 TX3 9) => hts w (iL_X3_hand_X3 w hw)
  have hl := lv_entry ([.ref (ad 0 0), .int y0, .int y1, .int y2]) (n := 6) (Nat.le_of_ble_eq_true rfl)
  rw [lg_entry_eq]
  generalize (lg_sl ([.ref (ad 0 0), .int y0, .int y1, .int y2]) ++ List.replicate (6 - (lg_sl ([.ref (ad 0 0), .int y0, .int y1, .int y2])).length) Slot.unset).toArray = ls at hl ⊢
  have hl : lv_has ls 6 [(0, .ref (ad 0 0)), (1, .int y0), (2, .int y1), (3, .int y2)] := hl
  refine lv_aload_n hx hb dX3_hand_0 rfl (lv_at hl 0 rfl) ?_
  refine lv_iload_n hx hb dX3_hand_1 rfl (lv_at hl 1 rfl) ?_
  refine gx_callr (vx_runV (As := [.int y0]) (rest := []) ⟨hx, hb, hml, hown, hts⟩ (k_X3_existing (l := l) (D := D) (cI := cI) (cZ := cZ) (cB := cB) (cS := cS) (A := A) κ σ sc ad hst hn y0) (cwV 1 hts gX3_hand_X3_existing rfl rfl rfl (by decide +kernel) ⟨Nat.le_of_ble_eq_true rfl, Nat.le_of_ble_eq_true rfl⟩) (gPreV hE hA hS hP (gw_recv hK hP 0 0 (cDf (by decide)) rfl rfl)) rfl rfl hl.1 rfl (lv_room (Nat.le_of_ble_eq_true rfl)) dX3_hand_2 ⟨Nat.le_of_ble_eq_true rfl, Nat.le_of_ble_eq_true rfl⟩) hS (fun q _ h9 => h9) (fun q h9 => h9) (fun q _ h9 => h9) (fun E9 ce9 q9 u9 t9 H9 locs9 ht9 hv9 hp9 hB9 hz9 hk9 hS9 hce9 hcv9 hcl9 => vx_out (fun x h9 => (htab x h9).elim) hlocks hce9 hcv9 hcl9 (fun t8 ht8 hv8 => ⟨(), trivial, ⟨by rw [ht8, ← ht9]; exact hB9.1, ⟨hB9.2.1, by unfold cOne; exact if_neg hB9.2.2⟩⟩, hS9.F ht8⟩) hS9.2.2 (Nat.le_of_ble_eq_true rfl) (Nat.le_of_ble_eq_true rfl)) (fun u9 ra t9 H locs ht9 hvm9 hw_e_1 hB9 hz9 hk9 hS => ?_)
  have hP : gw_P D vwCl A (cDm κ) (cEn cI cZ cB cS κ σ sc ad) ad H := by rw [← ht9]; exact hB9.2
  have hra : ra = ad 11 y0.toNatClampNeg := hB9.1
  obtain ⟨j, hj, rfl⟩ := ix_of (n := κ 0) (by omega) hw_e_1.1 hw_e_1.2
  rw [nI_clamp (show j < 2 ^ 31 by omega)] at hra
  subst hra
  refine lv_astore (lv' := [(4, .ref (ad 11 j)), (0, .ref (ad 0 0)), (1, .int (nI j)), (2, .int y1), (3, .int y2)]) hx hb dX3_hand_5 hl (by decide) rfl (fun ls hl => ?_)
  refine lv_aload hx hb dX3_hand_7 (lv_at hl 0 rfl) ?_
  refine gw_get (C := RX0) (T := TX0) (N := 11) hx hb hL0 hown hK hP 11 j (cDb (by omega) (by decide) (by decide)) rfl rfl 7 (by decide) (hts (.fieldLink RX3 102 "BlockPrograms$Block" "inHand" "Z") (by decide +kernel)) (fun _ h9 => h9) (v := .int ((σ 7 j))) rfl dX3_hand_9 ?_
  refine lv_istore (lv' := [(5, .int ((σ 7 j))), (4, .ref (ad 11 j)), (0, .ref (ad 0 0)), (1, .int (nI j)), (2, .int y1), (3, .int y2)]) hx hb dX3_hand_12 hl (by decide) rfl (fun ls hl => ?_)
  refine lv_aload hx hb dX3_hand_14 (lv_at hl 1 rfl) ?_
  refine lv_iload_n hx hb dX3_hand_16 rfl (lv_at hl 4 rfl) ?_
  refine gw_put (ty := .boolean) (C := RX0) (T := TX0) (N := 11) hx hb hL0 tyX0 tyX0_ok nmX0 hown hK hP hS 11 j (cDb (by omega) (by decide) (by decide)) rfl rfl 7 (by decide) (hts (.fieldLink RX3 102 "BlockPrograms$Block" "inHand" "Z") (by decide +kernel)) (fun _ h9 => h9) rfl (by decide +kernel) hz1 hf1 (Nat.le_of_ble_eq_true rfl) dX3_hand_17 (cEn cI cZ cB cS κ (wr σ 7 j y1) sc ad) (cU11s_7 _) (fun t9 i9 _ h9 => cU11 (by decide) _ t9 i9 h9) (fun H locs hP hS => ?_)
  refine lv_aload hx hb dX3_hand_20 (lv_at hl 1 rfl) ?_
  refine lv_iload_n hx hb dX3_hand_22 rfl (lv_at hl 5 rfl) ?_
  refine gw_put (ty := .int) (C := RX0) (T := TX0) (N := 11) hx hb hL0 tyX0 tyX0_ok nmX0 hown hK hP hS 11 j (cDb (by omega) (by decide) (by decide)) rfl rfl 8 (by decide) (hts (.fieldLink RX3 106 "BlockPrograms$Block" "handValue" "I") (by decide +kernel)) (fun _ h9 => h9) rfl (by decide +kernel) rfl rfl (Nat.le_of_ble_eq_true rfl) dX3_hand_23 (cEn cI cZ cB cS κ (wr (wr σ 7 j y1) 8 j y2) sc ad) (cU11s_8 _) (fun t9 i9 _ h9 => cU11 (by decide) _ t9 i9 h9) (fun H locs hP hS => ?_)
  refine lv_iload hx hb dX3_hand_26 (lv_at hl 0 rfl) ?_
  refine vx_ret ?_
  refine W.widen (k := 1) (n := 6) (Nat.le_of_ble_eq_true rfl) (Nat.le_of_ble_eq_true rfl) ?_
  exact W.zret (v := (σ 7 j)) (ty := .boolean) hx hb hr (h7 j hj) (fun t ht hW => ⟨⟨((σ 7 j)), (), rfl, (by rw [nI_clamp (show j < 2 ^ 31 by omega)]; exact ⟨if_pos (okI_at hj (by omega)), rfl⟩), by rw [nI_clamp (show j < 2 ^ 31 by omega)]; rw [← ht] at hP; exact hP⟩, hS.F ht⟩) hS.2.2 dX3_hand_28

theorem iL_X3_out_X0 : ∀ w ∈ u_ws RX0 TX0 11, w ∈ wsX3_out := by decide +kernel
theorem iL_X3_out_X3 : ∀ w ∈ u_ws RX3 TX3 9, w ∈ wsX3_out := by decide +kernel
set_option maxHeartbeats 4000000 in
set_option maxRecDepth 100000 in
theorem k_X3_out {l : Launch} {D : va_G} {cI cZ cB cS : ClassId} {A : Nat → Prop} (κ : Nat → Nat) (σ sc : Nat → Nat → Int32) (ad : Nat → Nat → Nat) (hst : l.stackTraces = false) (hn : κ 0 ≤ 40) (y0 : Int32) : vx_Met l yX3_out wsX3_out ({ frames := 7, cells := 1, slots := 6, locals := 111 } : Room) (gPc D cI cZ cB cS A (cDm κ) (cEn cI cZ cB cS κ σ sc ad) ad [.ref (ad 0 0), .int y0]) (va_Qi (fun (r : Int32) (_ : Unit) => cOne (κ 0) y0 = 0 ∧ r = σ 4 y0.toNatClampNeg) (fun _ t => gw_P D vwCl A (cDm κ) (cEn cI cZ cB cS κ σ sc ad) ad t.heap) A) (vx_X (fun _ : Unit => True) (fun E _ t => gw_P D vwCl A (cDm κ) (cEn cI cZ cB cS κ σ sc ad) ad t.heap ∧ (E = g_IA ∧ cOne (κ 0) y0 = 1)) A) 1 6 A := by
  refine vx_ofW (cc := cX3_out) (maxL := 2) (ret := (some .int)) (by decide) rfl ?_
  intro p e s m args below meth c s₁ B hml htab hv
  obtain ⟨rfl, hP, hE, hA⟩ := hv
  have hx := B.exec
  have hb := B.bytes
  have hr := B.returns
  have hts := atoms_spec (ws := wsX3_out) B.pre
  have hown : s.vm.findClass RX3 = some m.cls := findClass_of_methodNamed B.named
  have hlocks := B.notSynchronized
  have hK := hE.1
  have hS : va_S A s.heap s.heap [] := va_S.rf
  have hL0 := fun w (hw : w ∈ u_ws RX0 TX0 11) => hts w (iL_X3_out_X0 w hw)
  have hL3 := fun w (hw : w ∈ u_ws RX3 TX3 9) => hts w (iL_X3_out_X3 w hw)
  have hl := lv_entry ([.ref (ad 0 0), .int y0]) (n := 2) (Nat.le_of_ble_eq_true rfl)
  rw [lg_entry_eq]
  generalize (lg_sl ([.ref (ad 0 0), .int y0]) ++ List.replicate (2 - (lg_sl ([.ref (ad 0 0), .int y0])).length) Slot.unset).toArray = ls at hl ⊢
  have hl : lv_has ls 2 [(0, .ref (ad 0 0)), (1, .int y0)] := hl
  refine lv_aload_n hx hb dX3_out_0 rfl (lv_at hl 0 rfl) ?_
  refine lv_iload_n hx hb dX3_out_1 rfl (lv_at hl 1 rfl) ?_
  refine gx_callr (vx_runV (As := [.int y0]) (rest := []) ⟨hx, hb, hml, hown, hts⟩ (k_X3_existing (l := l) (D := D) (cI := cI) (cZ := cZ) (cB := cB) (cS := cS) (A := A) κ σ sc ad hst hn y0) (cwV 1 hts gX3_out_X3_existing rfl rfl rfl (by decide +kernel) ⟨Nat.le_of_ble_eq_true rfl, Nat.le_of_ble_eq_true rfl⟩) (gPreV hE hA hS hP (gw_recv hK hP 0 0 (cDf (by decide)) rfl rfl)) rfl rfl hl.1 rfl (lv_room (Nat.le_of_ble_eq_true rfl)) dX3_out_2 ⟨Nat.le_of_ble_eq_true rfl, Nat.le_of_ble_eq_true rfl⟩) hS (fun q _ h9 => h9) (fun q h9 => h9) (fun q _ h9 => h9) (fun E9 ce9 q9 u9 t9 H9 locs9 ht9 hv9 hp9 hB9 hz9 hk9 hS9 hce9 hcv9 hcl9 => vx_out (fun x h9 => (htab x h9).elim) hlocks hce9 hcv9 hcl9 (fun t8 ht8 hv8 => ⟨(), trivial, ⟨by rw [ht8, ← ht9]; exact hB9.1, ⟨hB9.2.1, by unfold cOne; exact if_neg hB9.2.2⟩⟩, hS9.F ht8⟩) hS9.2.2 (Nat.le_of_ble_eq_true rfl) (Nat.le_of_ble_eq_true rfl)) (fun u9 ra t9 H locs ht9 hvm9 hw_e_1 hB9 hz9 hk9 hS => ?_)
  have hP : gw_P D vwCl A (cDm κ) (cEn cI cZ cB cS κ σ sc ad) ad H := by rw [← ht9]; exact hB9.2
  have hra : ra = ad 11 y0.toNatClampNeg := hB9.1
  obtain ⟨j, hj, rfl⟩ := ix_of (n := κ 0) (by omega) hw_e_1.1 hw_e_1.2
  rw [nI_clamp (show j < 2 ^ 31 by omega)] at hra
  subst hra
  refine gw_get (C := RX0) (T := TX0) (N := 11) hx hb hL0 hown hK hP 11 j (cDb (by omega) (by decide) (by decide)) rfl rfl 4 (by decide) (hts (.fieldLink RX3 124 "BlockPrograms$Block" "output" "I") (by decide +kernel)) (fun _ h9 => h9) (v := .int ((σ 4 j))) rfl dX3_out_5 ?_
  refine vx_ret ?_
  refine W.widen (k := 1) (n := 6) (Nat.le_of_ble_eq_true rfl) (Nat.le_of_ble_eq_true rfl) ?_
  exact W.iret (v := (σ 4 j)) hx hb hr (fun t ht hW => ⟨⟨((σ 4 j)), (), rfl, (by rw [nI_clamp (show j < 2 ^ 31 by omega)]; exact ⟨if_pos (okI_at hj (by omega)), rfl⟩), by rw [← ht] at hP; exact hP⟩, hS.F ht⟩) hS.2.2 dX3_out_8

theorem iWIA_X3_state : ∀ w ∈ g_wIA, w ∈ wsX3_state := by decide +kernel
theorem iL_X3_state_X0 : ∀ w ∈ u_ws RX0 TX0 11, w ∈ wsX3_state := by decide +kernel
theorem iL_X3_state_X3 : ∀ w ∈ u_ws RX3 TX3 9, w ∈ wsX3_state := by decide +kernel
set_option maxHeartbeats 4000000 in
set_option maxRecDepth 100000 in
theorem k_X3_state {l : Launch} {D : va_G} {cI cZ cB cS : ClassId} {A : Nat → Prop} (κ : Nat → Nat) (σ sc : Nat → Nat → Int32) (ad : Nat → Nat → Nat) (hst : l.stackTraces = false) (hn : κ 0 ≤ 40) (y0 y1 : Int32) : vx_Met l yX3_state wsX3_state ({ frames := 7, cells := 2, slots := 12, locals := 111 } : Room) (gPc D cI cZ cB cS A (cDm κ) (cEn cI cZ cB cS κ σ sc ad) ad [.ref (ad 0 0), .int y0, .int y1]) (va_Qi (fun (r : Int32) (_ : Unit) => cTwo (κ 0) 2 y0 y1 = 0 ∧ r = if y1 = 0 then σ 5 y0.toNatClampNeg else σ 6 y0.toNatClampNeg) (fun _ t => gw_P D vwCl A (cDm κ) (cEn cI cZ cB cS κ σ sc ad) ad t.heap) A) (vx_X (fun _ : Unit => True) (fun E _ t => gw_P D vwCl A (cDm κ) (cEn cI cZ cB cS κ σ sc ad) ad t.heap ∧ (E = g_IA ∧ cTwo (κ 0) 2 y0 y1 = 1)) A) 2 12 A := by
  refine vx_ofW (cc := cX3_state) (maxL := 4) (ret := (some .int)) (by decide) rfl ?_
  intro p e s m args below meth c s₁ B hml htab hv
  obtain ⟨rfl, hP, hE, hA⟩ := hv
  have hx := B.exec
  have hb := B.bytes
  have hr := B.returns
  have hts := atoms_spec (ws := wsX3_state) B.pre
  have hown : s.vm.findClass RX3 = some m.cls := findClass_of_methodNamed B.named
  have hlocks := B.notSynchronized
  have hK := hE.1
  have hS : va_S A s.heap s.heap [] := va_S.rf
  have hL0 := fun w (hw : w ∈ u_ws RX0 TX0 11) => hts w (iL_X3_state_X0 w hw)
  have hL3 := fun w (hw : w ∈ u_ws RX3 TX3 9) => hts w (iL_X3_state_X3 w hw)
  have hl := lv_entry ([.ref (ad 0 0), .int y0, .int y1]) (n := 4) (Nat.le_of_ble_eq_true rfl)
  rw [lg_entry_eq]
  generalize (lg_sl ([.ref (ad 0 0), .int y0, .int y1]) ++ List.replicate (4 - (lg_sl ([.ref (ad 0 0), .int y0, .int y1])).length) Slot.unset).toArray = ls at hl ⊢
  have hl : lv_has ls 4 [(0, .ref (ad 0 0)), (1, .int y0), (2, .int y1)] := hl
  refine lv_aload_n hx hb dX3_state_0 rfl (lv_at hl 0 rfl) ?_
  refine lv_iload_n hx hb dX3_state_1 rfl (lv_at hl 1 rfl) ?_
  refine gx_callr (vx_runV (As := [.int y0]) (rest := []) ⟨hx, hb, hml, hown, hts⟩ (k_X3_existing (l := l) (D := D) (cI := cI) (cZ := cZ) (cB := cB) (cS := cS) (A := A) κ σ sc ad hst hn y0) (cwV 1 hts gX3_state_X3_existing rfl rfl rfl (by decide +kernel) ⟨Nat.le_of_ble_eq_true rfl, Nat.le_of_ble_eq_true rfl⟩) (gPreV hE hA hS hP (gw_recv hK hP 0 0 (cDf (by decide)) rfl rfl)) rfl rfl hl.1 rfl (lv_room (Nat.le_of_ble_eq_true rfl)) dX3_state_2 ⟨Nat.le_of_ble_eq_true rfl, Nat.le_of_ble_eq_true rfl⟩) hS (fun q _ h9 => h9) (fun q h9 => h9) (fun q _ h9 => h9) (fun E9 ce9 q9 u9 t9 H9 locs9 ht9 hv9 hp9 hB9 hz9 hk9 hS9 hce9 hcv9 hcl9 => vx_out (fun x h9 => (htab x h9).elim) hlocks hce9 hcv9 hcl9 (fun t8 ht8 hv8 => ⟨(), trivial, ⟨by rw [ht8, ← ht9]; exact hB9.1, ⟨hB9.2.1, by unfold cTwo; exact if_neg (fun z => hB9.2.2 z.1)⟩⟩, hS9.F ht8⟩) hS9.2.2 (Nat.le_of_ble_eq_true rfl) (Nat.le_of_ble_eq_true rfl)) (fun u9 ra t9 H locs ht9 hvm9 hw_e_1 hB9 hz9 hk9 hS => ?_)
  have hP : gw_P D vwCl A (cDm κ) (cEn cI cZ cB cS κ σ sc ad) ad H := by rw [← ht9]; exact hB9.2
  have hra : ra = ad 11 y0.toNatClampNeg := hB9.1
  obtain ⟨j, hj, rfl⟩ := ix_of (n := κ 0) (by omega) hw_e_1.1 hw_e_1.2
  rw [nI_clamp (show j < 2 ^ 31 by omega)] at hra
  subst hra
  refine lv_astore_n (lv' := [(3, .ref (ad 11 j)), (0, .ref (ad 0 0)), (1, .int (nI j)), (2, .int y1)]) hx hb dX3_state_5 rfl hl (by decide) rfl (fun ls hl => ?_)
  refine lv_iload_n hx hb dX3_state_6 rfl (lv_at hl 3 rfl) ?_
  refine lv_if_lt (tgt := 15) hx hb dX3_state_7 (by decide) (fun c_2 => ?_) (fun c_2 => ?_)
  · exact gx_IA hx hb hst 127 "a state has the values 0 and 1" (by decide) hown (fun w h => hts w (iWIA_X3_state w h)) hE hS (hl.1.trans hml.symm) dX3_state_15 dX3_state_18 dX3_state_19 dX3_state_21 dX3_state_24 htab (Nat.le_of_ble_eq_true rfl) (Nat.le_of_ble_eq_true rfl) (Nat.le_of_ble_eq_true rfl) (Nat.le_of_ble_eq_true rfl) hlocks (fun t8 hv8 hz8 hk8 => ⟨(), trivial, ⟨hP.kept (fun t9 i9 h9 => hk8 _ (hP.lt h9)), ⟨rfl, by unfold cTwo; exact if_neg (fun z => z.2.1 c_2)⟩⟩, ⟨Nat.le_trans hS.1 hz8, fun q h1 h2 => (hk8 q (Nat.lt_of_lt_of_le h1 hS.1)).trans (hS.2.1 q h1 h2)⟩⟩) hS.2.2 (Nat.le_of_ble_eq_true rfl) (Nat.le_of_ble_eq_true rfl)
  · refine lv_iload_n hx hb dX3_state_10 rfl (lv_at hl 3 rfl) ?_
    refine lv_iconst (v := 1) hx hb dX3_state_11 (by decide) ?_
    refine lv_icmp_le (tgt := 25) hx hb dX3_state_12 (by decide) (fun c_3 => ?_) (fun c_3 => ?_)
    · refine lv_iload_n hx hb dX3_state_25 rfl (lv_at hl 3 rfl) ?_
      refine lv_if_ne (tgt := 36) hx hb dX3_state_26 (by decide) (fun c_4 => ?_) (fun c_4 => ?_)
      · refine lv_aload_n hx hb dX3_state_36 rfl (lv_at hl 0 rfl) ?_
        refine gw_get (C := RX0) (T := TX0) (N := 11) hx hb hL0 hown hK hP 11 j (cDb (by omega) (by decide) (by decide)) rfl rfl 6 (by decide) (hts (.fieldLink RX3 132 "BlockPrograms$Block" "second" "I") (by decide +kernel)) (fun _ h9 => h9) (v := .int ((σ 6 j))) rfl dX3_state_37 ?_
        refine vx_ret ?_
        refine W.widen (k := 2) (n := 12) (Nat.le_of_ble_eq_true rfl) (Nat.le_of_ble_eq_true rfl) ?_
        exact W.iret (v := (σ 6 j)) hx hb hr (fun t ht hW => ⟨⟨((σ 6 j)), (), rfl, (by rw [nI_clamp (show j < 2 ^ 31 by omega)]; exact ⟨if_pos ⟨okI_at hj (by omega), ⟨c_2, ix_le (n := 1) (by decide) c_3⟩⟩, (if_neg c_4).symm⟩), by rw [← ht] at hP; exact hP⟩, hS.F ht⟩) hS.2.2 dX3_state_40
      · refine lv_aload_n hx hb dX3_state_29 rfl (lv_at hl 0 rfl) ?_
        refine gw_get (C := RX0) (T := TX0) (N := 11) hx hb hL0 hown hK hP 11 j (cDb (by omega) (by decide) (by decide)) rfl rfl 5 (by decide) (hts (.fieldLink RX3 129 "BlockPrograms$Block" "first" "I") (by decide +kernel)) (fun _ h9 => h9) (v := .int ((σ 5 j))) rfl dX3_state_30 ?_
        refine lv_goto (tgt := 40) hx hb dX3_state_33 (by decide) ?_
        refine vx_ret ?_
        refine W.widen (k := 2) (n := 12) (Nat.le_of_ble_eq_true rfl) (Nat.le_of_ble_eq_true rfl) ?_
        exact W.iret (v := (σ 5 j)) hx hb hr (fun t ht hW => ⟨⟨((σ 5 j)), (), rfl, (by rw [nI_clamp (show j < 2 ^ 31 by omega)]; exact ⟨if_pos ⟨okI_at hj (by omega), ⟨c_2, ix_le (n := 1) (by decide) c_3⟩⟩, (if_pos c_4).symm⟩), by rw [← ht] at hP; exact hP⟩, hS.F ht⟩) hS.2.2 dX3_state_40
    · exact gx_IA hx hb hst 127 "a state has the values 0 and 1" (by decide) hown (fun w h => hts w (iWIA_X3_state w h)) hE hS (hl.1.trans hml.symm) dX3_state_15 dX3_state_18 dX3_state_19 dX3_state_21 dX3_state_24 htab (Nat.le_of_ble_eq_true rfl) (Nat.le_of_ble_eq_true rfl) (Nat.le_of_ble_eq_true rfl) (Nat.le_of_ble_eq_true rfl) hlocks (fun t8 hv8 hz8 hk8 => ⟨(), trivial, ⟨hP.kept (fun t9 i9 h9 => hk8 _ (hP.lt h9)), ⟨rfl, by unfold cTwo; exact if_neg (fun z => z.2.2 (ix_gt (n := 1) (by decide) c_3))⟩⟩, ⟨Nat.le_trans hS.1 hz8, fun q h1 h2 => (hk8 q (Nat.lt_of_lt_of_le h1 hS.1)).trans (hS.2.1 q h1 h2)⟩⟩) hS.2.2 (Nat.le_of_ble_eq_true rfl) (Nat.le_of_ble_eq_true rfl)

theorem iWIS_X3_row : ∀ w ∈ g_wIS, w ∈ wsX3_row := by decide +kernel
theorem iWIA_X3_row : ∀ w ∈ g_wIA, w ∈ wsX3_row := by decide +kernel
theorem iL_X3_row_X0 : ∀ w ∈ u_ws RX0 TX0 11, w ∈ wsX3_row := by decide +kernel
theorem iL_X3_row_X3 : ∀ w ∈ u_ws RX3 TX3 9, w ∈ wsX3_row := by decide +kernel
set_option maxHeartbeats 4000000 in
set_option maxRecDepth 100000 in
theorem k_X3_row {l : Launch} {D : va_G} {cI cZ cB cS : ClassId} {A : Nat → Prop} (κ : Nat → Nat) (σ sc : Nat → Nat → Int32) (ad : Nat → Nat → Nat) (hst : l.stackTraces = false) (hn : κ 0 ≤ 40) (y0 y1 y2 : Int32) : vx_Met l yX3_row wsX3_row ({ frames := 7, cells := 3, slots := 18, locals := 111 } : Room) (gPc D cI cZ cB cS A (cDm κ) (cEn cI cZ cB cS κ σ sc ad) ad [.ref (ad 0 0), .int y0, .int y1, .int y2]) (va_Qi (fun (r : Int32) (_ : Unit) => cRow κ σ y0 y1 = 0 ∧ r = σ 10 (8 * y0.toNatClampNeg + y1.toNatClampNeg)) (fun _ t => gw_P D vwCl A (cDm κ) (cEn cI cZ cB cS κ (wr σ 10 (8 * y0.toNatClampNeg + y1.toNatClampNeg) y2) sc ad) ad t.heap) A) (vx_X (fun _ : Unit => True) (fun E _ t => gw_P D vwCl A (cDm κ) (cEn cI cZ cB cS κ σ sc ad) ad t.heap ∧ ((E = g_IA ∧ cRow κ σ y0 y1 = 1) ∨ (E = g_IS ∧ cRow κ σ y0 y1 = 2))) A) 3 18 A := by
  refine vx_ofW (cc := cX3_row) (maxL := 6) (ret := (some .int)) (by decide) rfl ?_
  intro p e s m args below meth c s₁ B hml htab hv
  obtain ⟨rfl, hP, hE, hA⟩ := hv
  have hx := B.exec
  have hb := B.bytes
  have hr := B.returns
  have hts := atoms_spec (ws := wsX3_row) B.pre
  have hown : s.vm.findClass RX3 = some m.cls := findClass_of_methodNamed B.named
  have hlocks := B.notSynchronized
  have hK := hE.1
  have hS : va_S A s.heap s.heap [] := va_S.rf
  have hL0 := fun w (hw : w ∈ u_ws RX0 TX0 11) => hts w (iL_X3_row_X0 w hw)
  have hL3 := fun w (hw : w ∈ u_ws RX3 TX3 9) => hts w (iL_X3_row_X3 w hw)
  have hl := lv_entry ([.ref (ad 0 0), .int y0, .int y1, .int y2]) (n := 6) (Nat.le_of_ble_eq_true rfl)
  rw [lg_entry_eq]
  generalize (lg_sl ([.ref (ad 0 0), .int y0, .int y1, .int y2]) ++ List.replicate (6 - (lg_sl ([.ref (ad 0 0), .int y0, .int y1, .int y2])).length) Slot.unset).toArray = ls at hl ⊢
  have hl : lv_has ls 6 [(0, .ref (ad 0 0)), (1, .int y0), (2, .int y1), (3, .int y2)] := hl
  refine lv_aload_n hx hb dX3_row_0 rfl (lv_at hl 0 rfl) ?_
  refine lv_iload_n hx hb dX3_row_1 rfl (lv_at hl 1 rfl) ?_
  refine gx_callr (vx_runV (As := [.int y0]) (rest := []) ⟨hx, hb, hml, hown, hts⟩ (k_X3_existing (l := l) (D := D) (cI := cI) (cZ := cZ) (cB := cB) (cS := cS) (A := A) κ σ sc ad hst hn y0) (cwV 1 hts gX3_row_X3_existing rfl rfl rfl (by decide +kernel) ⟨Nat.le_of_ble_eq_true rfl, Nat.le_of_ble_eq_true rfl⟩) (gPreV hE hA hS hP (gw_recv hK hP 0 0 (cDf (by decide)) rfl rfl)) rfl rfl hl.1 rfl (lv_room (Nat.le_of_ble_eq_true rfl)) dX3_row_2 ⟨Nat.le_of_ble_eq_true rfl, Nat.le_of_ble_eq_true rfl⟩) hS (fun q _ h9 => h9) (fun q h9 => h9) (fun q _ h9 => h9) (fun E9 ce9 q9 u9 t9 H9 locs9 ht9 hv9 hp9 hB9 hz9 hk9 hS9 hce9 hcv9 hcl9 => vx_out (fun x h9 => (htab x h9).elim) hlocks hce9 hcv9 hcl9 (fun t8 ht8 hv8 => ⟨(), trivial, ⟨by rw [ht8, ← ht9]; exact hB9.1, Or.inl ⟨hB9.2.1, by unfold cRow; exact if_neg (fun z => hB9.2.2 z.1)⟩⟩, hS9.F ht8⟩) hS9.2.2 (Nat.le_of_ble_eq_true rfl) (Nat.le_of_ble_eq_true rfl)) (fun u9 ra t9 H locs ht9 hvm9 hw_e_1 hB9 hz9 hk9 hS => ?_)
  have hP : gw_P D vwCl A (cDm κ) (cEn cI cZ cB cS κ σ sc ad) ad H := by rw [← ht9]; exact hB9.2
  have hra : ra = ad 11 y0.toNatClampNeg := hB9.1
  obtain ⟨j, hj, rfl⟩ := ix_of (n := κ 0) (by omega) hw_e_1.1 hw_e_1.2
  rw [nI_clamp (show j < 2 ^ 31 by omega)] at hra
  subst hra
  refine lv_astore (lv' := [(4, .ref (ad 11 j)), (0, .ref (ad 0 0)), (1, .int (nI j)), (2, .int y1), (3, .int y2)]) hx hb dX3_row_5 hl (by decide) rfl (fun ls hl => ?_)
  refine lv_iload_n hx hb dX3_row_7 rfl (lv_at hl 3 rfl) ?_
  refine va_calli (va_runS (As := [.int y1]) (rest := []) ⟨hx, hb, hml, hown, hts⟩ (k_X3_isPlaceInRow (l := l) (D := D) (cI := cI) (cZ := cZ) (cB := cB) (cS := cS) (A := A) (cDm κ) (cEn cI cZ cB cS κ σ sc ad) ad y1) (va_cwS 1 hts gX3_row_X3_isPlaceInRow rfl rfl rfl (by decide +kernel) ⟨Nat.le_of_ble_eq_true rfl, Nat.le_of_ble_eq_true rfl⟩) (gPreS hE hA hS hP) rfl rfl hl.1 rfl (lv_room (Nat.le_of_ble_eq_true rfl)) dX3_row_8 ⟨Nat.le_of_ble_eq_true rfl, Nat.le_of_ble_eq_true rfl⟩) hS (fun q _ h9 => h9) (fun q h9 => h9) (fun r_2 u9 t9 H locs ht9 hvm9 hw_r_2 hB9 hz9 hk9 hS => ?_)
  have hP : gw_P D vwCl A (cDm κ) (cEn cI cZ cB cS κ σ sc ad) ad H := by rw [← ht9]; exact hB9
  refine lv_toq ((if okI 8 y1 then 1 else 0)) hw_r_2 ?_
  refine lv_if_ne (tgt := 24) hx hb dX3_row_11 (by decide) (fun c_3 => ?_) (fun c_3 => ?_)
  · have ok8 := lp_t c_3
    obtain ⟨i, hi, rfl⟩ := ix_of (n := 8) (by decide) ok8.1 ok8.2
    refine lv_aload hx hb dX3_row_24 (lv_at hl 0 rfl) ?_
    refine gw_get (C := RX0) (T := TX0) (N := 11) hx hb hL0 hown hK hP 11 j (cDb (by omega) (by decide) (by decide)) rfl rfl 0 (by decide) (hts (.fieldLink RX3 86 "BlockPrograms$Block" "kind" "I") (by decide +kernel)) (fun _ h9 => h9) (v := .int ((σ 0 j))) rfl dX3_row_26 ?_
    refine lv_bipush (v := 15) hx hb dX3_row_29 (by decide) ?_
    refine lv_icmp_eq (tgt := 44) hx hb dX3_row_31 (by decide) (fun c_4 => ?_) (fun c_4 => ?_)
    · refine lv_aload hx hb dX3_row_44 (lv_at hl 0 rfl) ?_
      refine gw_get (C := RX0) (T := TX0) (N := 11) hx hb hL0 hown hK hP 11 j (cDb (by omega) (by decide) (by decide)) rfl rfl 10 (by decide) (hts (.fieldLink RX3 91 "BlockPrograms$Block" "places" "[I") (by decide +kernel)) (fun _ h9 => h9) (v := .ref (ad 13 j)) rfl dX3_row_46 ?_
      refine lv_iload_n hx hb dX3_row_49 rfl (lv_at hl 3 rfl) ?_
      refine gw_iald hx hb hK hP 13 j (cDb (by omega) (by decide) (by decide)) 0 rfl rfl (i) rfl (by omega) (by decide) (v := (σ 10 (8 * j + i))) (if_pos (by omega)) dX3_row_50 ?_
      refine lv_istore (lv' := [(5, .int ((σ 10 (8 * j + i)))), (4, .ref (ad 11 j)), (0, .ref (ad 0 0)), (1, .int (nI j)), (2, .int (nI i)), (3, .int y2)]) hx hb dX3_row_51 hl (by decide) rfl (fun ls hl => ?_)
      refine lv_aload hx hb dX3_row_53 (lv_at hl 1 rfl) ?_
      refine gw_get (C := RX0) (T := TX0) (N := 11) hx hb hL0 hown hK hP 11 j (cDb (by omega) (by decide) (by decide)) rfl rfl 10 (by decide) (hts (.fieldLink RX3 91 "BlockPrograms$Block" "places" "[I") (by decide +kernel)) (fun _ h9 => h9) (v := .ref (ad 13 j)) rfl dX3_row_55 ?_
      refine lv_iload_n hx hb dX3_row_58 rfl (lv_at hl 4 rfl) ?_
      refine lv_iload_n hx hb dX3_row_59 rfl (lv_at hl 5 rfl) ?_
      refine gw_iast hx hb hK hP hS 13 j (cDb (by omega) (by decide) (by decide)) 0 rfl rfl (i) rfl (by omega) (by decide) dX3_row_60 ((cEn cI cZ cB cS κ (wr σ 10 (8 * j + i) y2) sc ad)) (cU13s (by omega) _) (fun t9 i9 _ h9 => cU13 (by omega) _ t9 i9 h9) (fun H locs hP hS => ?_)
      refine lv_iload hx hb dX3_row_61 (lv_at hl 0 rfl) ?_
      refine vx_ret ?_
      refine W.widen (k := 3) (n := 18) (Nat.le_of_ble_eq_true rfl) (Nat.le_of_ble_eq_true rfl) ?_
      exact W.iret (v := (σ 10 (8 * j + i))) hx hb hr (fun t ht hW => ⟨⟨((σ 10 (8 * j + i))), (), rfl, (by unfold cRow; rw [nI_clamp (show j < 2 ^ 31 by omega), nI_clamp (show i < 2 ^ 31 by omega)]; exact ⟨(if_pos ⟨okI_at hj (by omega), okI_at hi (by decide)⟩).trans (if_pos c_4), rfl⟩), by rw [nI_clamp (show j < 2 ^ 31 by omega), nI_clamp (show i < 2 ^ 31 by omega)]; rw [← ht] at hP; exact hP⟩, hS.F ht⟩) hS.2.2 dX3_row_63
    · exact gx_IS hx hb hst 89 "the block is no ROW" (by decide) hown (fun w h => hts w (iWIS_X3_row w h)) hE hS (hl.1.trans hml.symm) dX3_row_34 dX3_row_37 dX3_row_38 dX3_row_40 dX3_row_43 htab (Nat.le_of_ble_eq_true rfl) (Nat.le_of_ble_eq_true rfl) (Nat.le_of_ble_eq_true rfl) (Nat.le_of_ble_eq_true rfl) hlocks (fun t8 hv8 hz8 hk8 => ⟨(), trivial, ⟨hP.kept (fun t9 i9 h9 => hk8 _ (hP.lt h9)), Or.inr ⟨rfl, by unfold cRow; rw [if_pos ⟨okI_at hj (by omega), okI_at hi (by decide)⟩, nI_clamp (show j < 2 ^ 31 by omega)]; exact if_neg c_4⟩⟩, ⟨Nat.le_trans hS.1 hz8, fun q h1 h2 => (hk8 q (Nat.lt_of_lt_of_le h1 hS.1)).trans (hS.2.1 q h1 h2)⟩⟩) hS.2.2 (Nat.le_of_ble_eq_true rfl) (Nat.le_of_ble_eq_true rfl)
  · exact gx_IA hx hb hst 84 "no such place in a row" (by decide) hown (fun w h => hts w (iWIA_X3_row w h)) hE hS (hl.1.trans hml.symm) dX3_row_14 dX3_row_17 dX3_row_18 dX3_row_20 dX3_row_23 htab (Nat.le_of_ble_eq_true rfl) (Nat.le_of_ble_eq_true rfl) (Nat.le_of_ble_eq_true rfl) (Nat.le_of_ble_eq_true rfl) hlocks (fun t8 hv8 hz8 hk8 => ⟨(), trivial, ⟨hP.kept (fun t9 i9 h9 => hk8 _ (hP.lt h9)), Or.inl ⟨rfl, by unfold cRow; exact if_neg (fun z => lp_f c_3 z.2)⟩⟩, ⟨Nat.le_trans hS.1 hz8, fun q h1 h2 => (hk8 q (Nat.lt_of_lt_of_le h1 hS.1)).trans (hS.2.1 q h1 h2)⟩⟩) hS.2.2 (Nat.le_of_ble_eq_true rfl) (Nat.le_of_ble_eq_true rfl)

theorem iWIA_X3_point : ∀ w ∈ g_wIA, w ∈ wsX3_point := by decide +kernel
theorem iL_X3_point_X3 : ∀ w ∈ u_ws RX3 TX3 9, w ∈ wsX3_point := by decide +kernel
set_option maxHeartbeats 4000000 in
set_option maxRecDepth 100000 in
theorem k_X3_point {l : Launch} {D : va_G} {cI cZ cB cS : ClassId} {A : Nat → Prop} (κ : Nat → Nat) (σ sc : Nat → Nat → Int32) (ad : Nat → Nat → Nat) (hst : l.stackTraces = false) (y0 y1 : Int32) : vx_Met l yX3_point wsX3_point ({ frames := 6, cells := 1, slots := 6, locals := 90 } : Room) (gPc D cI cZ cB cS A (cDm κ) (cEn cI cZ cB cS κ σ sc ad) ad [.ref (ad 0 0), .int y0, .int y1]) (va_Qi (fun (r : Int32) (_ : Unit) => cOne 10 y0 = 0 ∧ r = σ 20 y0.toNatClampNeg) (fun _ t => gw_P D vwCl A (cDm κ) (cEn cI cZ cB cS κ (wr σ 20 y0.toNatClampNeg y1) sc ad) ad t.heap) A) (vx_X (fun _ : Unit => True) (fun E _ t => gw_P D vwCl A (cDm κ) (cEn cI cZ cB cS κ σ sc ad) ad t.heap ∧ (E = g_IA ∧ cOne 10 y0 = 1)) A) 1 6 A := by
  refine vx_ofW (cc := cX3_point) (maxL := 4) (ret := (some .int)) (by decide) rfl ?_
  intro p e s m args below meth c s₁ B hml htab hv
  obtain ⟨rfl, hP, hE, hA⟩ := hv
  have hx := B.exec
  have hb := B.bytes
  have hr := B.returns
  have hts := atoms_spec (ws := wsX3_point) B.pre
  have hown : s.vm.findClass RX3 = some m.cls := findClass_of_methodNamed B.named
  have hlocks := B.notSynchronized
  have hK := hE.1
  have hS : va_S A s.heap s.heap [] := va_S.rf
  have hL3 := fun w (hw : w ∈ u_ws RX3 TX3 9) => hts w (iL_X3_point_X3 w hw)
  have hl := lv_entry ([.ref (ad 0 0), .int y0, .int y1]) (n := 4) (Nat.le_of_ble_eq_true rfl)
  rw [lg_entry_eq]
  generalize (lg_sl ([.ref (ad 0 0), .int y0, .int y1]) ++ List.replicate (4 - (lg_sl ([.ref (ad 0 0), .int y0, .int y1])).length) Slot.unset).toArray = ls at hl ⊢
  have hl : lv_has ls 4 [(0, .ref (ad 0 0)), (1, .int y0), (2, .int y1)] := hl
  refine lv_iload_n hx hb dX3_point_0 rfl (lv_at hl 1 rfl) ?_
  refine va_calli (va_runS (As := [.int y0]) (rest := []) ⟨hx, hb, hml, hown, hts⟩ (k_X3_isPoint (l := l) (D := D) (cI := cI) (cZ := cZ) (cB := cB) (cS := cS) (A := A) (cDm κ) (cEn cI cZ cB cS κ σ sc ad) ad y0) (va_cwS 1 hts gX3_point_X3_isPoint rfl rfl rfl (by decide +kernel) ⟨Nat.le_of_ble_eq_true rfl, Nat.le_of_ble_eq_true rfl⟩) (gPreS hE hA hS hP) rfl rfl hl.1 rfl (lv_room (Nat.le_of_ble_eq_true rfl)) dX3_point_1 ⟨Nat.le_of_ble_eq_true rfl, Nat.le_of_ble_eq_true rfl⟩) hS (fun q _ h9 => h9) (fun q h9 => h9) (fun r_1 u9 t9 H locs ht9 hvm9 hw_r_1 hB9 hz9 hk9 hS => ?_)
  have hP : gw_P D vwCl A (cDm κ) (cEn cI cZ cB cS κ σ sc ad) ad H := by rw [← ht9]; exact hB9
  refine lv_toq ((if okI 10 y0 then 1 else 0)) hw_r_1 ?_
  refine lv_if_ne (tgt := 17) hx hb dX3_point_4 (by decide) (fun c_2 => ?_) (fun c_2 => ?_)
  · have ok8 := lp_t c_2
    obtain ⟨j, hj, rfl⟩ := ix_of (n := 10) (by decide) ok8.1 ok8.2
    refine lv_aload_n hx hb dX3_point_17 rfl (lv_at hl 0 rfl) ?_
    refine gw_get (C := RX3) (T := TX3) (N := 9) hx hb hL3 hown hK hP 0 0 (cDf (by decide)) rfl rfl 2 (by decide) (hts (.fieldLink RX3 19 "BlockPrograms" "points" "[I") (by decide +kernel)) (fun _ h9 => h9) (v := .ref (ad 2 0)) rfl dX3_point_18 ?_
    refine lv_iload_n hx hb dX3_point_21 rfl (lv_at hl 1 rfl) ?_
    refine gw_iald hx hb hK hP 2 0 (cDf (by decide)) 0 rfl rfl (j) rfl (by omega) (by decide) (v := (σ 20 j)) rfl dX3_point_22 ?_
    refine lv_istore_n (lv' := [(3, .int ((σ 20 j))), (0, .ref (ad 0 0)), (1, .int (nI j)), (2, .int y1)]) hx hb dX3_point_23 rfl hl (by decide) rfl (fun ls hl => ?_)
    refine lv_aload_n hx hb dX3_point_24 rfl (lv_at hl 1 rfl) ?_
    refine gw_get (C := RX3) (T := TX3) (N := 9) hx hb hL3 hown hK hP 0 0 (cDf (by decide)) rfl rfl 2 (by decide) (hts (.fieldLink RX3 19 "BlockPrograms" "points" "[I") (by decide +kernel)) (fun _ h9 => h9) (v := .ref (ad 2 0)) rfl dX3_point_25 ?_
    refine lv_iload_n hx hb dX3_point_28 rfl (lv_at hl 2 rfl) ?_
    refine lv_iload_n hx hb dX3_point_29 rfl (lv_at hl 3 rfl) ?_
    refine gw_iast hx hb hK hP hS 2 0 (cDf (by decide)) 0 rfl rfl (j) rfl (by omega) (by decide) dX3_point_30 ((cEn cI cZ cB cS κ (wr σ 20 j y1) sc ad)) cUs_2 (fun t9 i9 z9 h9 => cU2 _ t9 i9 h9 (by first | exact z9 | simpa [cDm_up] using z9)) (fun H locs hP hS => ?_)
    refine lv_iload_n hx hb dX3_point_31 rfl (lv_at hl 0 rfl) ?_
    refine vx_ret ?_
    refine W.widen (k := 1) (n := 6) (Nat.le_of_ble_eq_true rfl) (Nat.le_of_ble_eq_true rfl) ?_
    exact W.iret (v := (σ 20 j)) hx hb hr (fun t ht hW => ⟨⟨((σ 20 j)), (), rfl, (by rw [nI_clamp (show j < 2 ^ 31 by omega)]; exact ⟨if_pos (okI_at hj (by decide)), rfl⟩), by rw [nI_clamp (show j < 2 ^ 31 by omega)]; rw [← ht] at hP; exact hP⟩, hS.F ht⟩) hS.2.2 dX3_point_32
  · exact gx_IA hx hb hst 100 "no such point" (by decide) hown (fun w h => hts w (iWIA_X3_point w h)) hE hS (hl.1.trans hml.symm) dX3_point_7 dX3_point_10 dX3_point_11 dX3_point_13 dX3_point_16 htab (Nat.le_of_ble_eq_true rfl) (Nat.le_of_ble_eq_true rfl) (Nat.le_of_ble_eq_true rfl) (Nat.le_of_ble_eq_true rfl) hlocks (fun t8 hv8 hz8 hk8 => ⟨(), trivial, ⟨hP.kept (fun t9 i9 h9 => hk8 _ (hP.lt h9)), ⟨rfl, by unfold cOne; exact if_neg (lp_f c_2)⟩⟩, ⟨Nat.le_trans hS.1 hz8, fun q h1 h2 => (hk8 q (Nat.lt_of_lt_of_le h1 hS.1)).trans (hS.2.1 q h1 h2)⟩⟩) hS.2.2 (Nat.le_of_ble_eq_true rfl) (Nat.le_of_ble_eq_true rfl)

theorem iWIA_X3_failed : ∀ w ∈ g_wIA, w ∈ wsX3_failed := by decide +kernel
theorem iL_X3_failed_X3 : ∀ w ∈ u_ws RX3 TX3 9, w ∈ wsX3_failed := by decide +kernel
theorem iL_X3_failed_X1 : ∀ w ∈ u_ws RX1 TX1 5, w ∈ wsX3_failed := by decide +kernel
set_option maxHeartbeats 4000000 in
set_option maxRecDepth 100000 in
theorem k_X3_failed {l : Launch} {D : va_G} {cI cZ cB cS : ClassId} {A : Nat → Prop} (κ : Nat → Nat) (σ sc : Nat → Nat → Int32) (ad : Nat → Nat → Nat) (hst : l.stackTraces = false) (y0 : Int32) : vx_Met l yX3_failed wsX3_failed ({ frames := 6, cells := 1, slots := 6, locals := 90 } : Room) (gPc D cI cZ cB cS A (cDm κ) (cEn cI cZ cB cS κ σ sc ad) ad [.ref (ad 0 0), .int y0]) (va_Qi (fun (r : Int32) (_ : Unit) => cOne 4 y0 = 0 ∧ r = σ 22 y0.toNatClampNeg) (fun _ t => gw_P D vwCl A (cDm κ) (cEn cI cZ cB cS κ σ sc ad) ad t.heap) A) (vx_X (fun _ : Unit => True) (fun E _ t => gw_P D vwCl A (cDm κ) (cEn cI cZ cB cS κ σ sc ad) ad t.heap ∧ (E = g_IA ∧ cOne 4 y0 = 1)) A) 1 6 A := by
  refine vx_ofW (cc := cX3_failed) (maxL := 2) (ret := (some .int)) (by decide) rfl ?_
  intro p e s m args below meth c s₁ B hml htab hv
  obtain ⟨rfl, hP, hE, hA⟩ := hv
  have hx := B.exec
  have hb := B.bytes
  have hr := B.returns
  have hts := atoms_spec (ws := wsX3_failed) B.pre
  have hown : s.vm.findClass RX3 = some m.cls := findClass_of_methodNamed B.named
  have hlocks := B.notSynchronized
  have hK := hE.1
  have hS : va_S A s.heap s.heap [] := va_S.rf
  have hL3 := fun w (hw : w ∈ u_ws RX3 TX3 9) => hts w (iL_X3_failed_X3 w hw)
  have hL1 := fun w (hw : w ∈ u_ws RX1 TX1 5) => hts w (iL_X3_failed_X1 w hw)
  have hl := lv_entry ([.ref (ad 0 0), .int y0]) (n := 2) (Nat.le_of_ble_eq_true rfl)
  rw [lg_entry_eq]
  generalize (lg_sl ([.ref (ad 0 0), .int y0]) ++ List.replicate (2 - (lg_sl ([.ref (ad 0 0), .int y0])).length) Slot.unset).toArray = ls at hl ⊢
  have hl : lv_has ls 2 [(0, .ref (ad 0 0)), (1, .int y0)] := hl
  refine lv_iload_n hx hb dX3_failed_0 rfl (lv_at hl 1 rfl) ?_
  refine lv_if_lt (tgt := 9) hx hb dX3_failed_1 (by decide) (fun c_1 => ?_) (fun c_1 => ?_)
  · exact gx_IA hx hb hst 135 "no such kind of failure" (by decide) hown (fun w h => hts w (iWIA_X3_failed w h)) hE hS (hl.1.trans hml.symm) dX3_failed_9 dX3_failed_12 dX3_failed_13 dX3_failed_15 dX3_failed_18 htab (Nat.le_of_ble_eq_true rfl) (Nat.le_of_ble_eq_true rfl) (Nat.le_of_ble_eq_true rfl) (Nat.le_of_ble_eq_true rfl) hlocks (fun t8 hv8 hz8 hk8 => ⟨(), trivial, ⟨hP.kept (fun t9 i9 h9 => hk8 _ (hP.lt h9)), ⟨rfl, by unfold cOne; exact if_neg (fun z => z.1 c_1)⟩⟩, ⟨Nat.le_trans hS.1 hz8, fun q h1 h2 => (hk8 q (Nat.lt_of_lt_of_le h1 hS.1)).trans (hS.2.1 q h1 h2)⟩⟩) hS.2.2 (Nat.le_of_ble_eq_true rfl) (Nat.le_of_ble_eq_true rfl)
  · refine lv_iload_n hx hb dX3_failed_4 rfl (lv_at hl 1 rfl) ?_
    refine lv_iconst (v := 3) hx hb dX3_failed_5 (by decide) ?_
    refine lv_icmp_le (tgt := 19) hx hb dX3_failed_6 (by decide) (fun c_2 => ?_) (fun c_2 => ?_)
    · obtain ⟨j, hj, rfl⟩ := ix_of (n := 4) (by decide) c_1 (ix_le (n := 3) (by decide) c_2)
      refine lv_aload_n hx hb dX3_failed_19 rfl (lv_at hl 0 rfl) ?_
      refine gw_get (C := RX3) (T := TX3) (N := 9) hx hb hL3 hown hK hP 0 0 (cDf (by decide)) rfl rfl 6 (by decide) (hts (.fieldLink RX3 36 "BlockPrograms" "failures" "LBlockPrograms$Failures;") (by decide +kernel)) (fun _ h9 => h9) (v := .ref (ad 5 0)) rfl dX3_failed_20 ?_
      refine gw_get (C := RX1) (T := TX1) (N := 5) hx hb hL1 hown hK hP 5 0 (cDf (by decide)) rfl rfl 0 (by decide) (hts (.fieldLink RX3 137 "BlockPrograms$Failures" "totals" "[I") (by decide +kernel)) (fun _ h9 => h9) (v := .ref (ad 6 0)) rfl dX3_failed_23 ?_
      refine lv_iload_n hx hb dX3_failed_26 rfl (lv_at hl 1 rfl) ?_
      refine gw_iald hx hb hK hP 6 0 (cDf (by decide)) 0 rfl rfl (j) rfl (by omega) (by decide) (v := (σ 22 j)) rfl dX3_failed_27 ?_
      refine vx_ret ?_
      refine W.widen (k := 1) (n := 6) (Nat.le_of_ble_eq_true rfl) (Nat.le_of_ble_eq_true rfl) ?_
      exact W.iret (v := (σ 22 j)) hx hb hr (fun t ht hW => ⟨⟨((σ 22 j)), (), rfl, (by rw [nI_clamp (show j < 2 ^ 31 by omega)]; exact ⟨if_pos (okI_at hj (by decide)), rfl⟩), by rw [← ht] at hP; exact hP⟩, hS.F ht⟩) hS.2.2 dX3_failed_28
    · exact gx_IA hx hb hst 135 "no such kind of failure" (by decide) hown (fun w h => hts w (iWIA_X3_failed w h)) hE hS (hl.1.trans hml.symm) dX3_failed_9 dX3_failed_12 dX3_failed_13 dX3_failed_15 dX3_failed_18 htab (Nat.le_of_ble_eq_true rfl) (Nat.le_of_ble_eq_true rfl) (Nat.le_of_ble_eq_true rfl) (Nat.le_of_ble_eq_true rfl) hlocks (fun t8 hv8 hz8 hk8 => ⟨(), trivial, ⟨hP.kept (fun t9 i9 h9 => hk8 _ (hP.lt h9)), ⟨rfl, by unfold cOne; exact if_neg (fun z => z.2 (ix_gt (n := 3) (by decide) c_2))⟩⟩, ⟨Nat.le_trans hS.1 hz8, fun q h1 h2 => (hk8 q (Nat.lt_of_lt_of_le h1 hS.1)).trans (hS.2.1 q h1 h2)⟩⟩) hS.2.2 (Nat.le_of_ble_eq_true rfl) (Nat.le_of_ble_eq_true rfl)

