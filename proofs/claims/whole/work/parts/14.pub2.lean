set_option maxHeartbeats 4000000 in
set_option maxRecDepth 100000 in
theorem k_X3_order {l : Launch} {D : va_G} {cI cZ cB cS : ClassId} {A : Nat → Prop} (κ : Nat → Nat) (σ sc : Nat → Nat → Int32) (ad : Nat → Nat → Nat) (hn : κ 0 ≤ 40) (hk : kok (κ 0) σ) : Met l yX3_order wsX3_order ({ frames := 4, cells := 0, slots := 0, locals := 87 } : Room) (gPc D cI cZ cB cS A (cDm κ) (cEn cI cZ cB cS κ σ sc ad) ad [.ref (ad 0 0)]) (va_Qi (fun (r : Int32) (_ : Nat → Nat → Int32) => r = nI (comeF (κ 0) σ)) (fun u t => gw_P D vwCl A (cDm κ) (cEn cI cZ cB cS κ σ u ad) ad t.heap) A) 0 0 A := by
  refine Met.ofW (cc := cX3_order) (maxL := 1) (ret := (some .int)) (by decide) rfl ?_
  intro p e s m args below meth c s₁ B hml hv
  obtain ⟨rfl, hP, hE, hA⟩ := hv
  have hx := B.exec
  have hb := B.bytes
  have hr := B.returns
  have hts := atoms_spec (ws := wsX3_order) B.pre
  have hown : s.vm.findClass RX3 = some m.cls := findClass_of_methodNamed B.named
  have hlocks := B.notSynchronized
  have hK := hE.1
  have hS : va_S A s.heap s.heap [] := va_S.rf
  have hl := lv_entry ([.ref (ad 0 0)]) (n := 1) (Nat.le_of_ble_eq_true rfl)
  rw [lg_entry_eq]
  generalize (lg_sl ([.ref (ad 0 0)]) ++ List.replicate (1 - (lg_sl ([.ref (ad 0 0)])).length) Slot.unset).toArray = ls at hl ⊢
  have hl : lv_has ls 1 [(0, .ref (ad 0 0))] := hl
  refine lv_aload_n hx hb dX3_order_0 rfl (lv_at hl 0 rfl) ?_
  refine va_calli (va_runV (As := []) (rest := []) ⟨hx, hb, hml, hown, hts⟩ (k_X3_lineUp (l := l) (D := D) (cI := cI) (cZ := cZ) (cB := cB) (cS := cS) (A := A) κ σ sc ad hn hk) (cwV 0 hts gX3_order_X3_lineUp rfl rfl rfl (by decide +kernel) ⟨Nat.le_of_ble_eq_true rfl, Nat.le_of_ble_eq_true rfl⟩) (gPreV hE hA hS hP (gw_recv hK hP 0 0 (cDf (by decide)) rfl rfl)) rfl rfl hl.1 rfl (lv_room (Nat.le_of_ble_eq_true rfl)) dX3_order_1 ⟨Nat.le_of_ble_eq_true rfl, Nat.le_of_ble_eq_true rfl⟩) hS (fun q _ h9 => h9) (fun q h9 => h9) (fun r_1 v9 t9 H locs ht9 hvm9 hw_r_1 hB9 hz9 hk9 hS => ?_)
  obtain ⟨hr_0, hline⟩ := hw_r_1
  have hP : gw_P D vwCl A (cDm κ) (cEn cI cZ cB cS κ σ v9 ad) ad H := by rw [← ht9]; exact hB9
  refine lv_toq (nI (comeF (κ 0) σ)) hr_0 ?_
  have hce := come_le (κ 0) σ
  exact W.iret (v := nI (comeF (κ 0) σ)) hx hb hr (fun t ht hW => ⟨⟨(nI (comeF (κ 0) σ)), v9, rfl, rfl, by rw [← ht] at hP; exact hP⟩, hS.F ht⟩) hS.2.2 dX3_order_4

theorem iWIA_X3_at : ∀ w ∈ g_wIA, w ∈ wsX3_at := by decide +kernel
theorem iL_X3_at_X3 : ∀ w ∈ u_ws RX3 TX3 9, w ∈ wsX3_at := by decide +kernel
set_option maxHeartbeats 4000000 in
set_option maxRecDepth 100000 in
theorem k_X3_at {l : Launch} {D : va_G} {cI cZ cB cS : ClassId} {A : Nat → Prop} (κ : Nat → Nat) (σ sc : Nat → Nat → Int32) (ad : Nat → Nat → Nat) (hst : l.stackTraces = false) (hn : κ 0 ≤ 40) (hk : kok (κ 0) σ) (y0 : Int32) : vx_Met l yX3_at wsX3_at ({ frames := 6, cells := 1, slots := 6, locals := 90 } : Room) (gPc D cI cZ cB cS A (cDm κ) (cEn cI cZ cB cS κ σ sc ad) ad [.ref (ad 0 0), .int y0]) (va_Qi (fun (r : Int32) (_ : Nat → Nat → Int32) => cOne (κ 0) y0 = 0 ∧ r = nI (lineF (κ 0) σ y0.toNatClampNeg)) (fun u t => gw_P D vwCl A (cDm κ) (cEn cI cZ cB cS κ σ u ad) ad t.heap) A) (vx_X (fun _ : Nat → Nat → Int32 => True) (fun E u t => gw_P D vwCl A (cDm κ) (cEn cI cZ cB cS κ σ u ad) ad t.heap ∧ (E = g_IA ∧ cOne (κ 0) y0 = 1)) A) 1 6 A := by
  refine vx_ofW (cc := cX3_at) (maxL := 2) (ret := (some .int)) (by decide) rfl ?_
  intro p e s m args below meth c s₁ B hml htab hv
  obtain ⟨rfl, hP, hE, hA⟩ := hv
  have hx := B.exec
  have hb := B.bytes
  have hr := B.returns
  have hts := atoms_spec (ws := wsX3_at) B.pre
  have hown : s.vm.findClass RX3 = some m.cls := findClass_of_methodNamed B.named
  have hlocks := B.notSynchronized
  have hK := hE.1
  have hS : va_S A s.heap s.heap [] := va_S.rf
  have hL3 := fun w (hw : w ∈ u_ws RX3 TX3 9) => hts w (iL_X3_at_X3 w hw)
  have hl := lv_entry ([.ref (ad 0 0), .int y0]) (n := 2) (Nat.le_of_ble_eq_true rfl)
  rw [lg_entry_eq]
  generalize (lg_sl ([.ref (ad 0 0), .int y0]) ++ List.replicate (2 - (lg_sl ([.ref (ad 0 0), .int y0])).length) Slot.unset).toArray = ls at hl ⊢
  have hl : lv_has ls 2 [(0, .ref (ad 0 0)), (1, .int y0)] := hl
  refine lv_iload_n hx hb dX3_at_0 rfl (lv_at hl 1 rfl) ?_
  refine lv_if_lt (tgt := 12) hx hb dX3_at_1 (by decide) (fun c_1 => ?_) (fun c_1 => ?_)
  · exact gx_IA hx hb hst 113 "no such place in the order" (by decide) hown (fun w h => hts w (iWIA_X3_at w h)) hE hS (hl.1.trans hml.symm) dX3_at_12 dX3_at_15 dX3_at_16 dX3_at_18 dX3_at_21 htab (Nat.le_of_ble_eq_true rfl) (Nat.le_of_ble_eq_true rfl) (Nat.le_of_ble_eq_true rfl) (Nat.le_of_ble_eq_true rfl) hlocks (fun t8 hv8 hz8 hk8 => ⟨sc, trivial, ⟨hP.kept (fun t9 i9 h9 => hk8 _ (hP.lt h9)), ⟨rfl, by unfold cOne; exact if_neg (fun z => z.1 c_1)⟩⟩, ⟨Nat.le_trans hS.1 hz8, fun q h1 h2 => (hk8 q (Nat.lt_of_lt_of_le h1 hS.1)).trans (hS.2.1 q h1 h2)⟩⟩) hS.2.2 (Nat.le_of_ble_eq_true rfl) (Nat.le_of_ble_eq_true rfl)
  · refine lv_iload_n hx hb dX3_at_4 rfl (lv_at hl 1 rfl) ?_
    refine lv_aload_n hx hb dX3_at_5 rfl (lv_at hl 0 rfl) ?_
    refine gw_get (C := RX3) (T := TX3) (N := 9) hx hb hL3 hown hK hP 0 0 (cDf (by decide)) rfl rfl 1 (by decide) (hts (.fieldLink RX3 15 "BlockPrograms" "count" "I") (by decide +kernel)) (fun _ h9 => h9) (v := .int (nI (κ 0))) rfl dX3_at_6 ?_
    refine lv_icmp_lt (tgt := 22) hx hb dX3_at_9 (by decide) (fun c_2 => ?_) (fun c_2 => ?_)
    · obtain ⟨j, hj, rfl⟩ := ix_of (n := κ 0) (by omega) c_1 (Int32.not_le.mpr c_2)
      refine lv_aload_n hx hb dX3_at_22 rfl (lv_at hl 0 rfl) ?_
      refine va_calli (va_runV (As := []) (rest := []) ⟨hx, hb, hml, hown, hts⟩ (k_X3_lineUp (l := l) (D := D) (cI := cI) (cZ := cZ) (cB := cB) (cS := cS) (A := A) κ σ sc ad hn hk) (cwV 0 hts gX3_at_X3_lineUp rfl rfl rfl (by decide +kernel) ⟨Nat.le_of_ble_eq_true rfl, Nat.le_of_ble_eq_true rfl⟩) (gPreV hE hA hS hP (gw_recv hK hP 0 0 (cDf (by decide)) rfl rfl)) rfl rfl hl.1 rfl (lv_room (Nat.le_of_ble_eq_true rfl)) dX3_at_23 ⟨Nat.le_of_ble_eq_true rfl, Nat.le_of_ble_eq_true rfl⟩) hS (fun q _ h9 => h9) (fun q h9 => h9) (fun r_3 v9 t9 H locs ht9 hvm9 hw_r_3 hB9 hz9 hk9 hS => ?_)
      obtain ⟨hr_0, hline⟩ := hw_r_3
      have hP : gw_P D vwCl A (cDm κ) (cEn cI cZ cB cS κ σ v9 ad) ad H := by rw [← ht9]; exact hB9
      refine lv_toq (nI (comeF (κ 0) σ)) hr_0 ?_
      have hce := come_le (κ 0) σ
      refine lv_pop hx hb dX3_at_26 rfl ?_
      refine lv_aload_n hx hb dX3_at_27 rfl (lv_at hl 0 rfl) ?_
      refine gw_get (C := RX3) (T := TX3) (N := 9) hx hb hL3 hown hK hP 0 0 (cDf (by decide)) rfl rfl 4 (by decide) (hts (.fieldLink RX3 26 "BlockPrograms" "line" "[I") (by decide +kernel)) (fun _ h9 => h9) (v := .ref (ad 3 0)) rfl dX3_at_28 ?_
      refine lv_iload_n hx hb dX3_at_31 rfl (lv_at hl 1 rfl) ?_
      refine gw_iald hx hb hK hP 3 0 (cDf (by decide)) 0 rfl rfl (j) rfl (by omega) (by decide) (v := nI (lineF (κ 0) σ j)) (hline j hj) dX3_at_32 ?_
      refine vx_ret ?_
      refine W.widen (k := 1) (n := 6) (Nat.le_of_ble_eq_true rfl) (Nat.le_of_ble_eq_true rfl) ?_
      exact W.iret (v := nI (lineF (κ 0) σ j)) hx hb hr (fun t ht hW => ⟨⟨_, v9, rfl, (by rw [nI_clamp (show j < 2 ^ 31 by omega)]; exact ⟨if_pos (okI_at hj (by omega)), rfl⟩), by rw [← ht] at hP; exact hP⟩, hS.F ht⟩) hS.2.2 dX3_at_33
    · exact gx_IA hx hb hst 113 "no such place in the order" (by decide) hown (fun w h => hts w (iWIA_X3_at w h)) hE hS (hl.1.trans hml.symm) dX3_at_12 dX3_at_15 dX3_at_16 dX3_at_18 dX3_at_21 htab (Nat.le_of_ble_eq_true rfl) (Nat.le_of_ble_eq_true rfl) (Nat.le_of_ble_eq_true rfl) (Nat.le_of_ble_eq_true rfl) hlocks (fun t8 hv8 hz8 hk8 => ⟨sc, trivial, ⟨hP.kept (fun t9 i9 h9 => hk8 _ (hP.lt h9)), ⟨rfl, by unfold cOne; exact if_neg (fun z => z.2 (Int32.not_lt.mp c_2))⟩⟩, ⟨Nat.le_trans hS.1 hz8, fun q h1 h2 => (hk8 q (Nat.lt_of_lt_of_le h1 hS.1)).trans (hS.2.1 q h1 h2)⟩⟩) hS.2.2 (Nat.le_of_ble_eq_true rfl) (Nat.le_of_ble_eq_true rfl)

theorem run_ix {x : Int32} (h1 : ¬ x < 1) (h2 : x ≤ 500) : ∃ n : Nat, 1 ≤ n ∧ n ≤ 500 ∧ x = nI n := by
  have h2' := h2
  rw [Int32.le_iff_toInt_le] at h2
  rw [Int32.lt_iff_toInt_lt] at h1
  have e1 : (1 : Int32).toInt = 1 := rfl
  have e5 : (500 : Int32).toInt = 500 := rfl
  rw [e1] at h1
  rw [e5] at h2
  refine ⟨x.toNatClampNeg, ?_, ?_, ?_⟩
  · unfold Int32.toNatClampNeg; omega
  · unfold Int32.toNatClampNeg; omega
  · apply Int32.toInt_inj.mp
    rw [nI_toInt (by unfold Int32.toNatClampNeg; omega)]
    unfold Int32.toNatClampNeg
    omega
theorem iWIA_X3_run : ∀ w ∈ g_wIA, w ∈ wsX3_run := by decide +kernel
theorem iWIS_X3_run : ∀ w ∈ g_wIS, w ∈ wsX3_run := by decide +kernel
theorem iL_X3_run_X3 : ∀ w ∈ u_ws RX3 TX3 9, w ∈ wsX3_run := by decide +kernel
set_option maxHeartbeats 4000000 in
set_option maxRecDepth 100000 in
theorem k_X3_run {l : Launch} {D : va_G} {cI cZ cB cS : ClassId} {A : Nat → Prop} (κ : Nat → Nat) (σ sc : Nat → Nat → Int32) (ad : Nat → Nat → Nat) (hst : l.stackTraces = false) (hn : κ 0 ≤ 40) (h3 : κ 3 ≤ 3000) (hk : kok (κ 0) σ) (y0 : Int32) : vx_Met l yX3_run wsX3_run ({ frames := 6, cells := 1, slots := 6, locals := 113 } : Room) (gPc D cI cZ cB cS A (cDm κ) (cEn cI cZ cB cS κ σ sc ad) ad [.ref (ad 0 0), .int y0]) (va_Qi (fun (r : Int32) (_ : Nat → Nat → Int32) => cRun κ σ y0 = 0 ∧ r = nI (κ 3 + y0.toNatClampNeg)) (fun u t => gw_P D vwCl A (cDm ((runM (κ 0) (lineF (κ 0) σ) y0.toNatClampNeg (κ, σ)).1)) (cEn cI cZ cB cS ((runM (κ 0) (lineF (κ 0) σ) y0.toNatClampNeg (κ, σ)).1) ((runM (κ 0) (lineF (κ 0) σ) y0.toNatClampNeg (κ, σ)).2) u ad) ad t.heap) A) (vx_X (fun _ : Nat → Nat → Int32 => True) (fun E u t => gw_P D vwCl A (cDm κ) (cEn cI cZ cB cS κ σ u ad) ad t.heap ∧ ((E = g_IA ∧ cRun κ σ y0 = 1) ∨ (E = g_IS ∧ cRun κ σ y0 = 2))) A) 1 6 A := by
  refine vx_ofW (cc := cX3_run) (maxL := 3) (ret := (some .int)) (by decide) rfl ?_
  intro p e s m args below meth c s₁ B hml htab hv
  obtain ⟨rfl, hP, hE, hA⟩ := hv
  have hx := B.exec
  have hb := B.bytes
  have hr := B.returns
  have hts := atoms_spec (ws := wsX3_run) B.pre
  have hown : s.vm.findClass RX3 = some m.cls := findClass_of_methodNamed B.named
  have hlocks := B.notSynchronized
  have hK := hE.1
  have hS : va_S A s.heap s.heap [] := va_S.rf
  have hL3 := fun w (hw : w ∈ u_ws RX3 TX3 9) => hts w (iL_X3_run_X3 w hw)
  have hl := lv_entry ([.ref (ad 0 0), .int y0]) (n := 3) (Nat.le_of_ble_eq_true rfl)
  rw [lg_entry_eq]
  generalize (lg_sl ([.ref (ad 0 0), .int y0]) ++ List.replicate (3 - (lg_sl ([.ref (ad 0 0), .int y0])).length) Slot.unset).toArray = ls at hl ⊢
  have hl : lv_has ls 3 [(0, .ref (ad 0 0)), (1, .int y0)] := hl
  refine lv_iload_n hx hb dX3_run_0 rfl (lv_at hl 1 rfl) ?_
  refine lv_iconst (v := 1) hx hb dX3_run_1 (by decide) ?_
  refine lv_icmp_lt (tgt := 12) hx hb dX3_run_2 (by decide) (fun c_1 => ?_) (fun c_1 => ?_)
  · exact gx_IA hx hb hst 115 "n is not 1 to 500" (by decide) hown (fun w h => hts w (iWIA_X3_run w h)) hE hS (hl.1.trans hml.symm) dX3_run_12 dX3_run_15 dX3_run_16 dX3_run_18 dX3_run_21 htab (Nat.le_of_ble_eq_true rfl) (Nat.le_of_ble_eq_true rfl) (Nat.le_of_ble_eq_true rfl) (Nat.le_of_ble_eq_true rfl) hlocks (fun t8 hv8 hz8 hk8 => ⟨sc, trivial, ⟨hP.kept (fun t9 i9 h9 => hk8 _ (hP.lt h9)), Or.inl ⟨rfl, by unfold cRun; exact if_neg (fun z => Int32.not_le.mpr c_1 z.1)⟩⟩, ⟨Nat.le_trans hS.1 hz8, fun q h1 h2 => (hk8 q (Nat.lt_of_lt_of_le h1 hS.1)).trans (hS.2.1 q h1 h2)⟩⟩) hS.2.2 (Nat.le_of_ble_eq_true rfl) (Nat.le_of_ble_eq_true rfl)
  · refine lv_iload_n hx hb dX3_run_5 rfl (lv_at hl 1 rfl) ?_
    refine lv_sipush (v := 500) hx hb dX3_run_6 (by decide) ?_
    refine lv_icmp_le (tgt := 22) hx hb dX3_run_9 (by decide) (fun c_2 => ?_) (fun c_2 => ?_)
    · have hn1 : 1 ≤ y0 ∧ y0 ≤ 500 := ⟨Int32.not_lt.mp c_1, c_2⟩
      obtain ⟨n, hn0, hn5, rfl⟩ := run_ix c_1 c_2
      refine lv_aload_n hx hb dX3_run_22 rfl (lv_at hl 0 rfl) ?_
      refine va_calli (va_runV (As := []) (rest := []) ⟨hx, hb, hml, hown, hts⟩ (k_X3_lineUp (l := l) (D := D) (cI := cI) (cZ := cZ) (cB := cB) (cS := cS) (A := A) κ σ sc ad hn hk) (cwV 0 hts gX3_run_X3_lineUp rfl rfl rfl (by decide +kernel) ⟨Nat.le_of_ble_eq_true rfl, Nat.le_of_ble_eq_true rfl⟩) (gPreV hE hA hS hP (gw_recv hK hP 0 0 (cDf (by decide)) rfl rfl)) rfl rfl hl.1 rfl (lv_room (Nat.le_of_ble_eq_true rfl)) dX3_run_23 ⟨Nat.le_of_ble_eq_true rfl, Nat.le_of_ble_eq_true rfl⟩) hS (fun q _ h9 => h9) (fun q h9 => h9) (fun r_3 v9 t9 H locs ht9 hvm9 hw_r_3 hB9 hz9 hk9 hS => ?_)
      obtain ⟨hr_0, hline⟩ := hw_r_3
      have hP : gw_P D vwCl A (cDm κ) (cEn cI cZ cB cS κ σ v9 ad) ad H := by rw [← ht9]; exact hB9
      refine lv_toq (nI (comeF (κ 0) σ)) hr_0 ?_
      have hce := come_le (κ 0) σ
      refine lv_aload_n hx hb dX3_run_26 rfl (lv_at hl 0 rfl) ?_
      refine gw_get (C := RX3) (T := TX3) (N := 9) hx hb hL3 hown hK hP 0 0 (cDf (by decide)) rfl rfl 1 (by decide) (hts (.fieldLink RX3 15 "BlockPrograms" "count" "I") (by decide +kernel)) (fun _ h9 => h9) (v := .int (nI (κ 0))) rfl dX3_run_27 ?_
      refine lv_icmp_ge (tgt := 43) hx hb dX3_run_30 (by decide) (fun c_4 => ?_) (fun c_4 => ?_)
      · have c_4 : κ 0 ≤ comeF (κ 0) σ := (nI_leI (a := κ 0) (b := comeF (κ 0) σ) (by omega) (by omega)).mp c_4
        refine lv_aload_n hx hb dX3_run_43 rfl (lv_at hl 0 rfl) ?_
        refine gw_get (C := RX3) (T := TX3) (N := 9) hx hb hL3 hown hK hP 0 0 (cDf (by decide)) rfl rfl 3 (by decide) (hts (.fieldLink RX3 23 "BlockPrograms" "time" "I") (by decide +kernel)) (fun _ h9 => h9) (v := .int (nI (κ 3))) rfl dX3_run_44 ?_
        refine lv_iload_n hx hb dX3_run_47 rfl (lv_at hl 1 rfl) ?_
        refine lv_iadd hx hb dX3_run_48 ?_
        refine lv_toq (nI (κ 3 + n)) (nI_add (κ 3) n) ?_
        refine lv_sipush (v := 3000) hx hb dX3_run_49 (by decide) ?_
        refine lv_icmp_le (tgt := 65) hx hb dX3_run_52 (by decide) (fun c_5 => ?_) (fun c_5 => ?_)
        · have c_5 : κ 3 + n ≤ 3000 := (nI_leI (a := κ 3 + n) (b := 3000) (by omega) (by omega)).mp c_5
          have hcr : cRun κ σ (nI n) = 0 := by unfold cRun; rw [if_pos hn1, nI_clamp (show n < 2 ^ 31 by omega)]; exact if_neg (by omega)
          refine lv_iconst (v := 0) hx hb dX3_run_65 (by decide) ?_
          refine lv_istore_n (lv' := [(2, .int 0), (0, .ref (ad 0 0)), (1, .int (nI n))]) hx hb dX3_run_66 rfl hl (by decide) rfl (fun ls hl => ?_)
          have hP : gw_P D vwCl A (cDm ((runM (κ 0) (lineF (κ 0) σ) 0 (κ, σ)).1)) (cEn cI cZ cB cS ((runM (κ 0) (lineF (κ 0) σ) 0 (κ, σ)).1) ((runM (κ 0) (lineF (κ 0) σ) 0 (κ, σ)).2) v9 ad) ad H := hP
          have lat : ∀ i : Nat, later (κ, σ) (runM (κ 0) (lineF (κ 0) σ) i (κ, σ)) := fun i => later.run _ _ _ _
          refine lv_loop (fun kk H locs ls => ∃ i : Nat, kk = n - i ∧ i ≤ n ∧ gw_P D vwCl A (cDm ((runM (κ 0) (lineF (κ 0) σ) i (κ, σ)).1)) (cEn cI cZ cB cS ((runM (κ 0) (lineF (κ 0) σ) i (κ, σ)).1) ((runM (κ 0) (lineF (κ 0) σ) i (κ, σ)).2) v9 ad) ad H ∧ va_S A s.heap H locs ∧ lv_has ls 3 [(0, .ref (ad 0 0)), (1, .int (nI n)), (2, .int (nI i))]) (fun kk H locs ls hI ih => ?_) (n - 0) ⟨0, rfl, by omega, hP, hS, lv_sub hl [1, 2, 0] rfl⟩
          obtain ⟨i, hk_67, hi_67, hP, hS, hl⟩ := hI
          refine lv_iload_n hx hb dX3_run_67 rfl (lv_at hl 2 rfl) ?_
          refine lv_iload_n hx hb dX3_run_68 rfl (lv_at hl 1 rfl) ?_
          refine lv_icmp_ge (tgt := 82) hx hb dX3_run_69 (by decide) (fun c_6 => ?_) (fun c_6 => ?_)
          · have c_6 : n ≤ i := (nI_leI (a := n) (b := i) (by omega) (by omega)).mp c_6
            refine lv_aload_n hx hb dX3_run_82 rfl (lv_at hl 0 rfl) ?_
            refine gw_get (C := RX3) (T := TX3) (N := 9) hx hb hL3 hown hK hP 0 0 (cDf (by decide)) rfl rfl 3 (by decide) (hts (.fieldLink RX3 23 "BlockPrograms" "time" "I") (by decide +kernel)) (fun _ h9 => h9) (v := .int (nI (((runM (κ 0) (lineF (κ 0) σ) i (κ, σ)).1) 3))) rfl dX3_run_83 ?_
            have ei : i = n := by omega
            subst ei
            refine vx_ret ?_
            refine W.widen (k := 1) (n := 6) (Nat.le_of_ble_eq_true rfl) (Nat.le_of_ble_eq_true rfl) ?_
            exact W.iret (v := nI ((runM (κ 0) (lineF (κ 0) σ) i (κ, σ)).1 3)) hx hb hr (fun t ht hW => ⟨⟨_, v9, rfl, (by rw [nI_clamp (show i < 2 ^ 31 by omega), time_run]; exact ⟨hcr, rfl⟩), by rw [nI_clamp (show i < 2 ^ 31 by omega)]; rw [← ht] at hP; exact hP⟩, hS.F ht⟩) hS.2.2 dX3_run_86
          · have c_6 : ¬ (n ≤ i) := fun z => c_6 ((nI_leI (a := n) (b := i) (by omega) (by omega)).mpr z)
            refine lv_aload_n hx hb dX3_run_72 rfl (lv_at hl 0 rfl) ?_
            have k0 : (runM (κ 0) (lineF (κ 0) σ) i (κ, σ)).1 0 = κ 0 := (lat i).1 0 (by decide) (by decide)
            have k3 : (runM (κ 0) (lineF (κ 0) σ) i (κ, σ)).1 3 = κ 3 + i := time_run _ _ _ _
            have hk2 : kok ((runM (κ 0) (lineF (κ 0) σ) i (κ, σ)).1 0) (runM (κ 0) (lineF (κ 0) σ) i (κ, σ)).2 := by rw [k0]; exact (lat i).kok hk
            refine va_callv (va_runV (As := []) (rest := []) ⟨hx, hb, hml, hown, hts⟩ (k_X3_tick (l := l) (D := D) (cI := cI) (cZ := cZ) (cB := cB) (cS := cS) (A := A) (runM (κ 0) (lineF (κ 0) σ) i (κ, σ)).1 (runM (κ 0) (lineF (κ 0) σ) i (κ, σ)).2 v9 ad (lineF (κ 0) σ) (by rw [k0]; exact fun j hj => ⟨hline j hj, line_lt hj⟩) (by omega) (by omega) hk2) (cwV 0 hts gX3_run_X3_tick rfl rfl rfl (by decide +kernel) ⟨Nat.le_of_ble_eq_true rfl, Nat.le_of_ble_eq_true rfl⟩) (gPreV hE hA hS hP (gw_recv hK hP 0 0 (cDf (by decide)) rfl rfl)) rfl rfl hl.1 rfl (lv_room (Nat.le_of_ble_eq_true rfl)) dX3_run_73 ⟨Nat.le_of_ble_eq_true rfl, Nat.le_of_ble_eq_true rfl⟩) hS (fun q _ h9 => h9) (fun q h9 => h9) (fun u9 t9 H locs ht9 hvm9 hw_7 hB9 hz9 hk9 hS => ?_)
            have hP : gw_P D vwCl A (cDm ((tickM ((runM (κ 0) (lineF (κ 0) σ) i (κ, σ)).1 0) (lineF (κ 0) σ) ((runM (κ 0) (lineF (κ 0) σ) i (κ, σ)).1, (runM (κ 0) (lineF (κ 0) σ) i (κ, σ)).2)).1)) (cEn cI cZ cB cS ((tickM ((runM (κ 0) (lineF (κ 0) σ) i (κ, σ)).1 0) (lineF (κ 0) σ) ((runM (κ 0) (lineF (κ 0) σ) i (κ, σ)).1, (runM (κ 0) (lineF (κ 0) σ) i (κ, σ)).2)).1) ((tickM ((runM (κ 0) (lineF (κ 0) σ) i (κ, σ)).1 0) (lineF (κ 0) σ) ((runM (κ 0) (lineF (κ 0) σ) i (κ, σ)).1, (runM (κ 0) (lineF (κ 0) σ) i (κ, σ)).2)).2) v9 ad) ad H := by rw [← ht9]; exact hB9
            have e1 : tickM ((runM (κ 0) (lineF (κ 0) σ) i (κ, σ)).1 0) (lineF (κ 0) σ) ((runM (κ 0) (lineF (κ 0) σ) i (κ, σ)).1, (runM (κ 0) (lineF (κ 0) σ) i (κ, σ)).2) = (runM (κ 0) (lineF (κ 0) σ) (i + 1) (κ, σ)) := by rw [k0]; rfl
            rw [e1] at hP
            refine lv_iinc (v := nI (i + 1)) (lv' := [(2, .int (nI (i + 1))), (0, .ref (ad 0 0)), (1, .int (nI n))]) hx hb dX3_run_76 hl (k := 2) rfl (nI_add i 1) (by decide) rfl (fun ls hl => ?_)
            refine lv_goto (tgt := 67) hx hb dX3_run_79 (by decide) ?_
            exact ih _ _ _ _ (by omega) ⟨i + 1, rfl, by omega, hP, hS, lv_sub hl [1, 2, 0] rfl⟩
        · have c_5 : ¬ (κ 3 + n ≤ 3000) := fun z => c_5 ((nI_leI (a := κ 3 + n) (b := 3000) (by omega) (by omega)).mpr z)
          have hu : nI n = nI n := rfl
          exact gx_IS hx hb hst 119 "time would be above 3000" (by decide) hown (fun w h => hts w (iWIS_X3_run w h)) hE hS (hl.1.trans hml.symm) dX3_run_55 dX3_run_58 dX3_run_59 dX3_run_61 dX3_run_64 htab (Nat.le_of_ble_eq_true rfl) (Nat.le_of_ble_eq_true rfl) (Nat.le_of_ble_eq_true rfl) (Nat.le_of_ble_eq_true rfl) hlocks (fun t8 hv8 hz8 hk8 => ⟨v9, trivial, ⟨hP.kept (fun t9 i9 h9 => hk8 _ (hP.lt h9)), Or.inr ⟨rfl, by unfold cRun; rw [if_pos hn1]; exact if_pos (Or.inr (by rw [nI_clamp (show n < 2 ^ 31 by omega)]; omega))⟩⟩, ⟨Nat.le_trans hS.1 hz8, fun q h1 h2 => (hk8 q (Nat.lt_of_lt_of_le h1 hS.1)).trans (hS.2.1 q h1 h2)⟩⟩) hS.2.2 (Nat.le_of_ble_eq_true rfl) (Nat.le_of_ble_eq_true rfl)
      · have c_4 : ¬ (κ 0 ≤ comeF (κ 0) σ) := fun z => c_4 ((nI_leI (a := κ 0) (b := comeF (κ 0) σ) (by omega) (by omega)).mpr z)
        have hu : nI n = nI n := rfl
        exact gx_IS hx hb hst 117 "there is a ring" (by decide) hown (fun w h => hts w (iWIS_X3_run w h)) hE hS (hl.1.trans hml.symm) dX3_run_33 dX3_run_36 dX3_run_37 dX3_run_39 dX3_run_42 htab (Nat.le_of_ble_eq_true rfl) (Nat.le_of_ble_eq_true rfl) (Nat.le_of_ble_eq_true rfl) (Nat.le_of_ble_eq_true rfl) hlocks (fun t8 hv8 hz8 hk8 => ⟨v9, trivial, ⟨hP.kept (fun t9 i9 h9 => hk8 _ (hP.lt h9)), Or.inr ⟨rfl, by unfold cRun; rw [if_pos hn1]; exact if_pos (Or.inl (by omega))⟩⟩, ⟨Nat.le_trans hS.1 hz8, fun q h1 h2 => (hk8 q (Nat.lt_of_lt_of_le h1 hS.1)).trans (hS.2.1 q h1 h2)⟩⟩) hS.2.2 (Nat.le_of_ble_eq_true rfl) (Nat.le_of_ble_eq_true rfl)
    · exact gx_IA hx hb hst 115 "n is not 1 to 500" (by decide) hown (fun w h => hts w (iWIA_X3_run w h)) hE hS (hl.1.trans hml.symm) dX3_run_12 dX3_run_15 dX3_run_16 dX3_run_18 dX3_run_21 htab (Nat.le_of_ble_eq_true rfl) (Nat.le_of_ble_eq_true rfl) (Nat.le_of_ble_eq_true rfl) (Nat.le_of_ble_eq_true rfl) hlocks (fun t8 hv8 hz8 hk8 => ⟨sc, trivial, ⟨hP.kept (fun t9 i9 h9 => hk8 _ (hP.lt h9)), Or.inl ⟨rfl, by unfold cRun; exact if_neg (fun z => c_2 z.2)⟩⟩, ⟨Nat.le_trans hS.1 hz8, fun q h1 h2 => (hk8 q (Nat.lt_of_lt_of_le h1 hS.1)).trans (hS.2.1 q h1 h2)⟩⟩) hS.2.2 (Nat.le_of_ble_eq_true rfl) (Nat.le_of_ble_eq_true rfl)

def slotF (κ : Nat → Nat) (k : Nat) : Nat := (κ 2 % 32 + 31 - k) % 32
set_option maxHeartbeats 4000000 in
set_option maxRecDepth 100000 in
theorem k_floorMod {l : Launch} {D : va_G} {cI cZ cB cS : ClassId} {A : Nat → Prop} (dm : Nat → Nat) (en : Nat → Nat → va_E) (ad : Nat → Nat → Nat) (a k : Nat) (ha : a < 32) (hk : k < 32) : Met l yJ9_floorMod_7cf53 wsJ9_floorMod_7cf53 ({ frames := 0, cells := 0, slots := 0, locals := 0 } : Room) (gPc D cI cZ cB cS A dm en ad [.int ((nI a - 1 - nI k)), .int 32]) (va_Qi (fun (r : Int32) (_ : Unit) => r = nI ((a + 31 - k) % 32)) (fun _ t => gw_P D vwCl A dm en ad t.heap) A) 0 0 A := by
  refine Met.ofWF (cc := cJ9_floorMod_7cf53) (maxL := 3) (ret := (some .int)) (by decide +kernel) rfl ?_
  intro p e s m args below meth c s₁ B hml hv
  obtain ⟨rfl, hP, hE, hA⟩ := hv
  have hx := B.exec
  have hb := B.bytes
  have hr := B.returns
  have hts := atoms_spec (ws := wsJ9_floorMod_7cf53) B.pre
  have hown : s.vm.findClass RJ9 = some m.cls := findClass_of_methodNamed B.named
  have hlocks := B.notSynchronized
  have hK := hE.1
  have hS : va_S A s.heap s.heap [] := va_S.rf
  have hl := lv_entry ([.int ((nI a - 1 - nI k)), .int 32]) (n := 3) (Nat.le_of_ble_eq_true rfl)
  rw [lg_entry_eq]
  generalize (lg_sl ([.int ((nI a - 1 - nI k)), .int 32]) ++ List.replicate (3 - (lg_sl ([.int ((nI a - 1 - nI k)), .int 32])).length) Slot.unset).toArray = ls at hl ⊢
  have hl : lv_has ls 3 [(0, .int ((nI a - 1 - nI k))), (1, .int 32)] := hl
  refine lv_iload_n hx hb dJ9_floorMod_7cf53_0 rfl (lv_at hl 0 rfl) ?_
  refine lv_iload_n hx hb dJ9_floorMod_7cf53_1 rfl (lv_at hl 1 rfl) ?_
  refine lv_irem hx hb dJ9_floorMod_7cf53_2 (by decide) ?_
  refine lv_istore_n (lv' := [(2, .int (((nI a - 1 - nI k) - (nI a - 1 - nI k) / 32 * 32))), (0, .int ((nI a - 1 - nI k))), (1, .int 32)]) hx hb dJ9_floorMod_7cf53_3 rfl hl (by decide) rfl (fun ls hl => ?_)
  refine lv_iload_n hx hb dJ9_floorMod_7cf53_4 rfl (lv_at hl 1 rfl) ?_
  refine lv_iload_n hx hb dJ9_floorMod_7cf53_5 rfl (lv_at hl 2 rfl) ?_
  refine lv_ixor hx hb dJ9_floorMod_7cf53_6 ?_
  refine lv_if_ge (tgt := 18) hx hb dJ9_floorMod_7cf53_7 (by decide) (fun c_1 => ?_) (fun c_1 => ?_)
  · refine lv_iload_n hx hb dJ9_floorMod_7cf53_18 rfl (lv_at hl 0 rfl) ?_
    have z := f_mod ⟨a, ha⟩ ⟨k, hk⟩
    dsimp only at z
    rw [if_pos c_1] at z
    exact W.iret (v := ((nI a - 1 - nI k) - (nI a - 1 - nI k) / 32 * 32)) hx hb hr (fun t ht hW => ⟨⟨(((nI a - 1 - nI k) - (nI a - 1 - nI k) / 32 * 32)), (), rfl, z, by rw [← ht] at hP; exact hP⟩, hS.F ht⟩) hS.2.2 dJ9_floorMod_7cf53_19
  · refine lv_iload_n hx hb dJ9_floorMod_7cf53_10 rfl (lv_at hl 0 rfl) ?_
    refine lv_if_eq (tgt := 18) hx hb dJ9_floorMod_7cf53_11 (by decide) (fun c_2 => ?_) (fun c_2 => ?_)
    · refine lv_iload_n hx hb dJ9_floorMod_7cf53_18 rfl (lv_at hl 0 rfl) ?_
      have z := f_mod ⟨a, ha⟩ ⟨k, hk⟩
      dsimp only at z
      rw [if_neg c_1, if_pos c_2] at z
      exact W.iret (v := ((nI a - 1 - nI k) - (nI a - 1 - nI k) / 32 * 32)) hx hb hr (fun t ht hW => ⟨⟨(((nI a - 1 - nI k) - (nI a - 1 - nI k) / 32 * 32)), (), rfl, z, by rw [← ht] at hP; exact hP⟩, hS.F ht⟩) hS.2.2 dJ9_floorMod_7cf53_19
    · refine lv_iload_n hx hb dJ9_floorMod_7cf53_14 rfl (lv_at hl 0 rfl) ?_
      refine lv_iload_n hx hb dJ9_floorMod_7cf53_15 rfl (lv_at hl 2 rfl) ?_
      refine lv_iadd hx hb dJ9_floorMod_7cf53_16 ?_
      have z := f_mod ⟨a, ha⟩ ⟨k, hk⟩
      dsimp only at z
      rw [if_neg c_1, if_neg c_2] at z
      exact W.iret (v := (((nI a - 1 - nI k) - (nI a - 1 - nI k) / 32 * 32) + 32)) hx hb hr (fun t ht hW => ⟨⟨((((nI a - 1 - nI k) - (nI a - 1 - nI k) / 32 * 32) + 32)), (), rfl, z, by rw [← ht] at hP; exact hP⟩, hS.F ht⟩) hS.2.2 dJ9_floorMod_7cf53_17

def keptN (κ : Nat → Nat) : Nat := if κ 2 < 32 then κ 2 else 32
theorem kept_le (κ : Nat → Nat) : keptN κ ≤ 32 := by unfold keptN; split <;> omega
theorem kept_eq {κ : Nat → Nat} (h2 : κ 2 < 2 ^ 31) : (if (32 : Int32) < nI (κ 2) then (32 : Int32) else nI (κ 2)) = nI (keptN κ) := by
  have hz := nI_ltI (a := 32) (b := κ 2) (by omega) h2
  have h32 : (32 : Int32) = nI 32 := rfl
  unfold keptN
  by_cases z : κ 2 < 32
  · rw [if_pos z, if_neg (fun y => absurd (hz.mp (by rw [← h32]; exact y)) (by omega))]
  · rw [if_neg z]
    by_cases y : 32 < κ 2
    · rw [if_pos (by rw [h32]; exact hz.mpr y)]; rfl
    · rw [show κ 2 = 32 by omega]; rfl
theorem iL_X1_keptCount_X1 : ∀ w ∈ u_ws RX1 TX1 5, w ∈ wsX1_keptCount := by decide +kernel
set_option maxHeartbeats 4000000 in
set_option maxRecDepth 100000 in
theorem k_X1_keptCount {l : Launch} {D : va_G} {cI cZ cB cS : ClassId} {A : Nat → Prop} (κ : Nat → Nat) (σ sc : Nat → Nat → Int32) (ad : Nat → Nat → Nat) (h2 : κ 2 < 2 ^ 31) (eF : σ 22 0 = nI (κ 2)) : Met l yX1_keptCount wsX1_keptCount ({ frames := 1, cells := 0, slots := 0, locals := 19 } : Room) (gPc D cI cZ cB cS A (cDm κ) (cEn cI cZ cB cS κ σ sc ad) ad [.ref (ad 5 0)]) (va_Qi (fun (r : Int32) (_ : Unit) => r = nI (keptN κ)) (fun _ t => gw_P D vwCl A (cDm κ) (cEn cI cZ cB cS κ σ sc ad) ad t.heap) A) 0 0 A := by
  refine Met.ofW (cc := cX1_keptCount) (maxL := 1) (ret := (some .int)) (by decide) rfl ?_
  intro p e s m args below meth c s₁ B hml hv
  obtain ⟨rfl, hP, hE, hA⟩ := hv
  have hx := B.exec
  have hb := B.bytes
  have hr := B.returns
  have hts := atoms_spec (ws := wsX1_keptCount) B.pre
  have hown : s.vm.findClass RX1 = some m.cls := findClass_of_methodNamed B.named
  have hlocks := B.notSynchronized
  have hK := hE.1
  have hS : va_S A s.heap s.heap [] := va_S.rf
  have hL1 := fun w (hw : w ∈ u_ws RX1 TX1 5) => hts w (iL_X1_keptCount_X1 w hw)
  have hl := lv_entry ([.ref (ad 5 0)]) (n := 1) (Nat.le_of_ble_eq_true rfl)
  rw [lg_entry_eq]
  generalize (lg_sl ([.ref (ad 5 0)]) ++ List.replicate (1 - (lg_sl ([.ref (ad 5 0)])).length) Slot.unset).toArray = ls at hl ⊢
  have hl : lv_has ls 1 [(0, .ref (ad 5 0))] := hl
  refine lv_aload_n hx hb dX1_keptCount_0 rfl (lv_at hl 0 rfl) ?_
  refine gw_get (C := RX1) (T := TX1) (N := 5) hx hb hL1 hown hK hP 5 0 (cDf (by decide)) rfl rfl 0 (by decide) (hts (.fieldLink RX1 9 "BlockPrograms$Failures" "totals" "[I") (by decide +kernel)) (fun _ h9 => h9) (v := .ref (ad 6 0)) rfl dX1_keptCount_1 ?_
  refine lv_iconst (v := 0) hx hb dX1_keptCount_4 (by decide) ?_
  refine gw_iald hx hb hK hP 6 0 (cDf (by decide)) 0 rfl rfl (0) rfl (by omega) (by decide) (v := nI (κ 2)) eF dX1_keptCount_5 ?_
  refine lv_bipush (v := 32) hx hb dX1_keptCount_6 (by decide) ?_
  refine va_mmin hx hb (hml.trans hl.1.symm) hown (hts (.methodLink RX1 28 Lib.Math.min.name) (by decide +kernel)) (hts (.static Lib.Math.min.name) (by decide +kernel)) (hts (.initialized "java/lang/Math") (by decide +kernel)) (hts (.code Lib.Math.min.name Lib.Math.min.code 2 (some .int)) (by decide +kernel)) (Nat.le_of_ble_eq_true rfl) (Nat.le_of_ble_eq_true rfl) (Nat.le_of_ble_eq_true rfl) (Nat.le_of_ble_eq_true rfl) dX1_keptCount_8 ?_
  exact W.iret (v := (if 32 < nI (κ 2) then 32 else nI (κ 2))) hx hb hr (fun t ht hW => ⟨⟨((if 32 < nI (κ 2) then 32 else nI (κ 2))), (), rfl, (kept_eq h2), by rw [← ht] at hP; exact hP⟩, hS.F ht⟩) hS.2.2 dX1_keptCount_11

theorem iL_X1_fact_X1 : ∀ w ∈ u_ws RX1 TX1 5, w ∈ wsX1_fact := by decide +kernel
set_option maxHeartbeats 4000000 in
set_option maxRecDepth 100000 in
theorem k_X1_fact {l : Launch} {D : va_G} {cI cZ cB cS : ClassId} {A : Nat → Prop} (κ : Nat → Nat) (σ sc : Nat → Nat → Int32) (ad : Nat → Nat → Nat) (k w : Nat) (hk : k < 32) (hw : w < 3) : Met l yX1_fact wsX1_fact ({ frames := 1, cells := 0, slots := 0, locals := 22 } : Room) (gPc D cI cZ cB cS A (cDm κ) (cEn cI cZ cB cS κ σ sc ad) ad [.ref (ad 5 0), .int (nI k), .int (nI w)]) (va_Qi (fun (r : Int32) (_ : Unit) => r = σ (23 + w) (slotF κ k)) (fun _ t => gw_P D vwCl A (cDm κ) (cEn cI cZ cB cS κ σ sc ad) ad t.heap) A) 0 0 A := by
  refine Met.ofW (cc := cX1_fact) (maxL := 4) (ret := (some .int)) (by decide) rfl ?_
  intro p e s m args below meth c s₁ B hml hv
  obtain ⟨rfl, hP, hE, hA⟩ := hv
  have hx := B.exec
  have hb := B.bytes
  have hr := B.returns
  have hts := atoms_spec (ws := wsX1_fact) B.pre
  have hown : s.vm.findClass RX1 = some m.cls := findClass_of_methodNamed B.named
  have hlocks := B.notSynchronized
  have hK := hE.1
  have hS : va_S A s.heap s.heap [] := va_S.rf
  have hL1 := fun w (hw : w ∈ u_ws RX1 TX1 5) => hts w (iL_X1_fact_X1 w hw)
  have hl := lv_entry ([.ref (ad 5 0), .int (nI k), .int (nI w)]) (n := 4) (Nat.le_of_ble_eq_true rfl)
  rw [lg_entry_eq]
  generalize (lg_sl ([.ref (ad 5 0), .int (nI k), .int (nI w)]) ++ List.replicate (4 - (lg_sl ([.ref (ad 5 0), .int (nI k), .int (nI w)])).length) Slot.unset).toArray = ls at hl ⊢
  have hl : lv_has ls 4 [(0, .ref (ad 5 0)), (1, .int (nI k)), (2, .int (nI w))] := hl
  refine lv_aload_n hx hb dX1_fact_0 rfl (lv_at hl 0 rfl) ?_
  refine gw_get (C := RX1) (T := TX1) (N := 5) hx hb hL1 hown hK hP 5 0 (cDf (by decide)) rfl rfl 4 (by decide) (hts (.fieldLink RX1 24 "BlockPrograms$Failures" "next" "I") (by decide +kernel)) (fun _ h9 => h9) (v := .int (nI ((κ 2) % 32))) rfl dX1_fact_1 ?_
  refine lv_iconst (v := 1) hx hb dX1_fact_4 (by decide) ?_
  refine lv_isub hx hb dX1_fact_5 ?_
  refine lv_iload_n hx hb dX1_fact_6 rfl (lv_at hl 1 rfl) ?_
  refine lv_isub hx hb dX1_fact_7 ?_
  refine lv_bipush (v := 32) hx hb dX1_fact_8 (by decide) ?_
  refine va_calli (va_runS (As := [.int (((nI ((κ 2) % 32) - 1) - nI k)), .int 32]) (rest := []) ⟨hx, hb, hml, hown, hts⟩ (k_floorMod (l := l) (D := D) (cI := cI) (cZ := cZ) (cB := cB) (cS := cS) (A := A) (cDm κ) (cEn cI cZ cB cS κ σ sc ad) ad (κ 2 % 32) k (by omega) hk) (va_cwS 2 hts gX1_fact_J9_floorMod_7cf53 rfl rfl rfl (by decide +kernel) ⟨Nat.le_of_ble_eq_true rfl, Nat.le_of_ble_eq_true rfl⟩) (gPreS hE hA hS hP) rfl rfl hl.1 rfl (lv_room (Nat.le_of_ble_eq_true rfl)) dX1_fact_10 ⟨Nat.le_of_ble_eq_true rfl, Nat.le_of_ble_eq_true rfl⟩) hS (fun q _ h9 => h9) (fun q h9 => h9) (fun r_1 u9 t9 H locs ht9 hvm9 hw_r_1 hB9 hz9 hk9 hS => ?_)
  have hP : gw_P D vwCl A (cDm κ) (cEn cI cZ cB cS κ σ sc ad) ad H := by rw [← ht9]; exact hB9
  refine lv_toq (nI (slotF κ k)) hw_r_1 ?_
  have hsl : slotF κ k < 32 := Nat.mod_lt _ (by decide)
  refine lv_istore_n (lv' := [(3, .int (nI (slotF κ k))), (0, .ref (ad 5 0)), (1, .int (nI k)), (2, .int (nI w))]) hx hb dX1_fact_13 rfl hl (by decide) rfl (fun ls hl => ?_)
  refine lv_iload_n hx hb dX1_fact_14 rfl (lv_at hl 3 rfl) ?_
  refine lv_if_ne (tgt := 27) hx hb dX1_fact_15 (by decide) (fun c_2 => ?_) (fun c_2 => ?_)
  · have c_2 : ¬ (w = 0) := fun z => c_2 ((nI_eq (a := w) (b := 0) (by omega) (by omega)).mpr z)
    refine lv_iload_n hx hb dX1_fact_27 rfl (lv_at hl 3 rfl) ?_
    refine lv_iconst (v := 1) hx hb dX1_fact_28 (by decide) ?_
    refine lv_icmp_ne (tgt := 41) hx hb dX1_fact_29 (by decide) (fun c_3 => ?_) (fun c_3 => ?_)
    · have c_3 : ¬ (w = 1) := fun z => c_3 ((nI_eq (a := w) (b := 1) (by omega) (by omega)).mpr z)
      refine lv_aload_n hx hb dX1_fact_41 rfl (lv_at hl 1 rfl) ?_
      refine gw_get (C := RX1) (T := TX1) (N := 5) hx hb hL1 hown hK hP 5 0 (cDf (by decide)) rfl rfl 3 (by decide) (hts (.fieldLink RX1 21 "BlockPrograms$Failures" "kinds" "[I") (by decide +kernel)) (fun _ h9 => h9) (v := .ref (ad 9 0)) rfl dX1_fact_42 ?_
      refine lv_iload_n hx hb dX1_fact_45 rfl (lv_at hl 0 rfl) ?_
      refine gw_iald hx hb hK hP 9 0 (cDf (by decide)) 0 rfl rfl (slotF κ k) rfl (by omega) (by decide) (v := (σ 25 (slotF κ k))) rfl dX1_fact_46 ?_
      have ew : w = 2 := by omega
      subst ew
      exact W.iret (v := (σ 25 (slotF κ k))) hx hb hr (fun t ht hW => ⟨⟨((σ 25 (slotF κ k))), (), rfl, rfl, by rw [← ht] at hP; exact hP⟩, hS.F ht⟩) hS.2.2 dX1_fact_47
    · have c_3 : w = 1 := (nI_eq (a := w) (b := 1) (by omega) (by omega)).mp c_3
      refine lv_aload_n hx hb dX1_fact_32 rfl (lv_at hl 1 rfl) ?_
      refine gw_get (C := RX1) (T := TX1) (N := 5) hx hb hL1 hown hK hP 5 0 (cDf (by decide)) rfl rfl 2 (by decide) (hts (.fieldLink RX1 18 "BlockPrograms$Failures" "numbers" "[I") (by decide +kernel)) (fun _ h9 => h9) (v := .ref (ad 8 0)) rfl dX1_fact_33 ?_
      refine lv_iload_n hx hb dX1_fact_36 rfl (lv_at hl 0 rfl) ?_
      refine gw_iald hx hb hK hP 8 0 (cDf (by decide)) 0 rfl rfl (slotF κ k) rfl (by omega) (by decide) (v := (σ 24 (slotF κ k))) rfl dX1_fact_37 ?_
      refine lv_goto (tgt := 47) hx hb dX1_fact_38 (by decide) ?_
      have ew : w = 1 := by omega
      subst ew
      exact W.iret (v := (σ 24 (slotF κ k))) hx hb hr (fun t ht hW => ⟨⟨((σ 24 (slotF κ k))), (), rfl, rfl, by rw [← ht] at hP; exact hP⟩, hS.F ht⟩) hS.2.2 dX1_fact_47
  · have c_2 : w = 0 := (nI_eq (a := w) (b := 0) (by omega) (by omega)).mp c_2
    refine lv_aload_n hx hb dX1_fact_18 rfl (lv_at hl 1 rfl) ?_
    refine gw_get (C := RX1) (T := TX1) (N := 5) hx hb hL1 hown hK hP 5 0 (cDf (by decide)) rfl rfl 1 (by decide) (hts (.fieldLink RX1 15 "BlockPrograms$Failures" "ticks" "[I") (by decide +kernel)) (fun _ h9 => h9) (v := .ref (ad 7 0)) rfl dX1_fact_19 ?_
    refine lv_iload_n hx hb dX1_fact_22 rfl (lv_at hl 0 rfl) ?_
    refine gw_iald hx hb hK hP 7 0 (cDf (by decide)) 0 rfl rfl (slotF κ k) rfl (by omega) (by decide) (v := (σ 23 (slotF κ k))) rfl dX1_fact_23 ?_
    refine lv_goto (tgt := 47) hx hb dX1_fact_24 (by decide) ?_
    have ew : w = 0 := by omega
    subst ew
    exact W.iret (v := (σ 23 (slotF κ k))) hx hb hr (fun t ht hW => ⟨⟨((σ 23 (slotF κ k))), (), rfl, rfl, by rw [← ht] at hP; exact hP⟩, hS.F ht⟩) hS.2.2 dX1_fact_47

def cFact (κ : Nat → Nat) (y0 y1 : Int32) : Nat := if okI (keptN κ) y0 ∧ okI 3 y1 then 0 else 1
theorem iWIA_X3_failure : ∀ w ∈ g_wIA, w ∈ wsX3_failure := by decide +kernel
theorem iL_X3_failure_X3 : ∀ w ∈ u_ws RX3 TX3 9, w ∈ wsX3_failure := by decide +kernel
set_option maxHeartbeats 4000000 in
set_option maxRecDepth 100000 in
theorem k_X3_failure {l : Launch} {D : va_G} {cI cZ cB cS : ClassId} {A : Nat → Prop} (κ : Nat → Nat) (σ sc : Nat → Nat → Int32) (ad : Nat → Nat → Nat) (hst : l.stackTraces = false) (h2 : κ 2 < 2 ^ 31) (eF : σ 22 0 = nI (κ 2)) (y0 y1 : Int32) : vx_Met l yX3_failure wsX3_failure ({ frames := 6, cells := 1, slots := 6, locals := 90 } : Room) (gPc D cI cZ cB cS A (cDm κ) (cEn cI cZ cB cS κ σ sc ad) ad [.ref (ad 0 0), .int y0, .int y1]) (va_Qi (fun (r : Int32) (_ : Unit) => cFact κ y0 y1 = 0 ∧ r = σ (23 + y1.toNatClampNeg) (slotF κ y0.toNatClampNeg)) (fun _ t => gw_P D vwCl A (cDm κ) (cEn cI cZ cB cS κ σ sc ad) ad t.heap) A) (vx_X (fun _ : Unit => True) (fun E _ t => gw_P D vwCl A (cDm κ) (cEn cI cZ cB cS κ σ sc ad) ad t.heap ∧ (E = g_IA ∧ cFact κ y0 y1 = 1)) A) 1 6 A := by
  refine vx_ofW (cc := cX3_failure) (maxL := 3) (ret := (some .int)) (by decide) rfl ?_
  intro p e s m args below meth c s₁ B hml htab hv
  obtain ⟨rfl, hP, hE, hA⟩ := hv
  have hx := B.exec
  have hb := B.bytes
  have hr := B.returns
  have hts := atoms_spec (ws := wsX3_failure) B.pre
  have hown : s.vm.findClass RX3 = some m.cls := findClass_of_methodNamed B.named
  have hlocks := B.notSynchronized
  have hK := hE.1
  have hS : va_S A s.heap s.heap [] := va_S.rf
  have hL3 := fun w (hw : w ∈ u_ws RX3 TX3 9) => hts w (iL_X3_failure_X3 w hw)
  have hl := lv_entry ([.ref (ad 0 0), .int y0, .int y1]) (n := 3) (Nat.le_of_ble_eq_true rfl)
  rw [lg_entry_eq]
  generalize (lg_sl ([.ref (ad 0 0), .int y0, .int y1]) ++ List.replicate (3 - (lg_sl ([.ref (ad 0 0), .int y0, .int y1])).length) Slot.unset).toArray = ls at hl ⊢
  have hl : lv_has ls 3 [(0, .ref (ad 0 0)), (1, .int y0), (2, .int y1)] := hl
  refine lv_iload_n hx hb dX3_failure_0 rfl (lv_at hl 1 rfl) ?_
  refine lv_if_lt (tgt := 15) hx hb dX3_failure_1 (by decide) (fun c_1 => ?_) (fun c_1 => ?_)
  · exact gx_IA hx hb hst 143 "no such failure is kept" (by decide) hown (fun w h => hts w (iWIA_X3_failure w h)) hE hS (hl.1.trans hml.symm) dX3_failure_15 dX3_failure_18 dX3_failure_19 dX3_failure_21 dX3_failure_24 htab (Nat.le_of_ble_eq_true rfl) (Nat.le_of_ble_eq_true rfl) (Nat.le_of_ble_eq_true rfl) (Nat.le_of_ble_eq_true rfl) hlocks (fun t8 hv8 hz8 hk8 => ⟨(), trivial, ⟨hP.kept (fun t9 i9 h9 => hk8 _ (hP.lt h9)), ⟨rfl, by unfold cFact; exact if_neg (fun z => z.1.1 c_1)⟩⟩, ⟨Nat.le_trans hS.1 hz8, fun q h1 h2 => (hk8 q (Nat.lt_of_lt_of_le h1 hS.1)).trans (hS.2.1 q h1 h2)⟩⟩) hS.2.2 (Nat.le_of_ble_eq_true rfl) (Nat.le_of_ble_eq_true rfl)
  · refine lv_iload_n hx hb dX3_failure_4 rfl (lv_at hl 1 rfl) ?_
    refine lv_aload_n hx hb dX3_failure_5 rfl (lv_at hl 0 rfl) ?_
    refine gw_get (C := RX3) (T := TX3) (N := 9) hx hb hL3 hown hK hP 0 0 (cDf (by decide)) rfl rfl 6 (by decide) (hts (.fieldLink RX3 36 "BlockPrograms" "failures" "LBlockPrograms$Failures;") (by decide +kernel)) (fun _ h9 => h9) (v := .ref (ad 5 0)) rfl dX3_failure_6 ?_
    refine va_calli (va_runV (As := []) (rest := [.int y0]) ⟨hx, hb, hml, hown, hts⟩ (k_X1_keptCount (l := l) (D := D) (cI := cI) (cZ := cZ) (cB := cB) (cS := cS) (A := A) κ σ sc ad h2 eF) (cwV 0 hts gX3_failure_X1_keptCount rfl rfl rfl (by decide +kernel) ⟨Nat.le_of_ble_eq_true rfl, Nat.le_of_ble_eq_true rfl⟩) (gPreV hE hA hS hP (gw_recv hK hP 5 0 (cDf (by decide)) rfl rfl)) rfl rfl hl.1 rfl (lv_room (Nat.le_of_ble_eq_true rfl)) dX3_failure_9 ⟨Nat.le_of_ble_eq_true rfl, Nat.le_of_ble_eq_true rfl⟩) hS (fun q _ h9 => h9) (fun q h9 => h9) (fun r_2 u9 t9 H locs ht9 hvm9 hw_r_2 hB9 hz9 hk9 hS => ?_)
    have hP : gw_P D vwCl A (cDm κ) (cEn cI cZ cB cS κ σ sc ad) ad H := by rw [← ht9]; exact hB9
    refine lv_toq (nI (keptN κ)) hw_r_2 ?_
    refine lv_icmp_lt (tgt := 25) hx hb dX3_failure_12 (by decide) (fun c_3 => ?_) (fun c_3 => ?_)
    · have hkl := kept_le κ
      obtain ⟨k, hk, rfl⟩ := ix_of (n := keptN κ) (by omega) c_1 (Int32.not_le.mpr c_3)
      refine lv_iload_n hx hb dX3_failure_25 rfl (lv_at hl 2 rfl) ?_
      refine lv_if_lt (tgt := 34) hx hb dX3_failure_26 (by decide) (fun c_4 => ?_) (fun c_4 => ?_)
      · exact gx_IA hx hb hst 145 "a failure has the facts 0 to 2" (by decide) hown (fun w h => hts w (iWIA_X3_failure w h)) hE hS (hl.1.trans hml.symm) dX3_failure_34 dX3_failure_37 dX3_failure_38 dX3_failure_40 dX3_failure_43 htab (Nat.le_of_ble_eq_true rfl) (Nat.le_of_ble_eq_true rfl) (Nat.le_of_ble_eq_true rfl) (Nat.le_of_ble_eq_true rfl) hlocks (fun t8 hv8 hz8 hk8 => ⟨(), trivial, ⟨hP.kept (fun t9 i9 h9 => hk8 _ (hP.lt h9)), ⟨rfl, by unfold cFact; exact if_neg (fun z => z.2.1 c_4)⟩⟩, ⟨Nat.le_trans hS.1 hz8, fun q h1 h2 => (hk8 q (Nat.lt_of_lt_of_le h1 hS.1)).trans (hS.2.1 q h1 h2)⟩⟩) hS.2.2 (Nat.le_of_ble_eq_true rfl) (Nat.le_of_ble_eq_true rfl)
      · refine lv_iload_n hx hb dX3_failure_29 rfl (lv_at hl 2 rfl) ?_
        refine lv_iconst (v := 3) hx hb dX3_failure_30 (by decide) ?_
        refine lv_icmp_lt (tgt := 44) hx hb dX3_failure_31 (by decide) (fun c_5 => ?_) (fun c_5 => ?_)
        · obtain ⟨i, hi, rfl⟩ := ix_of (n := 3) (by decide) c_4 (Int32.not_le.mpr c_5)
          refine lv_aload_n hx hb dX3_failure_44 rfl (lv_at hl 0 rfl) ?_
          refine gw_get (C := RX3) (T := TX3) (N := 9) hx hb hL3 hown hK hP 0 0 (cDf (by decide)) rfl rfl 6 (by decide) (hts (.fieldLink RX3 36 "BlockPrograms" "failures" "LBlockPrograms$Failures;") (by decide +kernel)) (fun _ h9 => h9) (v := .ref (ad 5 0)) rfl dX3_failure_45 ?_
          refine lv_iload_n hx hb dX3_failure_48 rfl (lv_at hl 1 rfl) ?_
          refine lv_iload_n hx hb dX3_failure_49 rfl (lv_at hl 2 rfl) ?_
          refine va_calli (va_runV (As := [.int (nI k), .int (nI i)]) (rest := []) ⟨hx, hb, hml, hown, hts⟩ (k_X1_fact (l := l) (D := D) (cI := cI) (cZ := cZ) (cB := cB) (cS := cS) (A := A) κ σ sc ad k i (by omega) hi) (cwV 2 hts gX3_failure_X1_fact rfl rfl rfl (by decide +kernel) ⟨Nat.le_of_ble_eq_true rfl, Nat.le_of_ble_eq_true rfl⟩) (gPreV hE hA hS hP (gw_recv hK hP 5 0 (cDf (by decide)) rfl rfl)) rfl rfl hl.1 rfl (lv_room (Nat.le_of_ble_eq_true rfl)) dX3_failure_50 ⟨Nat.le_of_ble_eq_true rfl, Nat.le_of_ble_eq_true rfl⟩) hS (fun q _ h9 => h9) (fun q h9 => h9) (fun r_6 u9 t9 H locs ht9 hvm9 hw_r_6 hB9 hz9 hk9 hS => ?_)
          have hP : gw_P D vwCl A (cDm κ) (cEn cI cZ cB cS κ σ sc ad) ad H := by rw [← ht9]; exact hB9
          refine lv_toq ((σ (23 + i) (slotF κ k))) hw_r_6 ?_
          refine vx_ret ?_
          refine W.widen (k := 1) (n := 6) (Nat.le_of_ble_eq_true rfl) (Nat.le_of_ble_eq_true rfl) ?_
          exact W.iret (v := (σ (23 + i) (slotF κ k))) hx hb hr (fun t ht hW => ⟨⟨((σ (23 + i) (slotF κ k))), (), rfl, (by rw [nI_clamp (show k < 2 ^ 31 by omega), nI_clamp (show i < 2 ^ 31 by omega)]; exact ⟨if_pos ⟨okI_at hk (by omega), okI_at hi (by decide)⟩, rfl⟩), by rw [← ht] at hP; exact hP⟩, hS.F ht⟩) hS.2.2 dX3_failure_53
        · exact gx_IA hx hb hst 145 "a failure has the facts 0 to 2" (by decide) hown (fun w h => hts w (iWIA_X3_failure w h)) hE hS (hl.1.trans hml.symm) dX3_failure_34 dX3_failure_37 dX3_failure_38 dX3_failure_40 dX3_failure_43 htab (Nat.le_of_ble_eq_true rfl) (Nat.le_of_ble_eq_true rfl) (Nat.le_of_ble_eq_true rfl) (Nat.le_of_ble_eq_true rfl) hlocks (fun t8 hv8 hz8 hk8 => ⟨(), trivial, ⟨hP.kept (fun t9 i9 h9 => hk8 _ (hP.lt h9)), ⟨rfl, by unfold cFact; exact if_neg (fun z => z.2.2 (Int32.not_lt.mp c_5))⟩⟩, ⟨Nat.le_trans hS.1 hz8, fun q h1 h2 => (hk8 q (Nat.lt_of_lt_of_le h1 hS.1)).trans (hS.2.1 q h1 h2)⟩⟩) hS.2.2 (Nat.le_of_ble_eq_true rfl) (Nat.le_of_ble_eq_true rfl)
    · exact gx_IA hx hb hst 143 "no such failure is kept" (by decide) hown (fun w h => hts w (iWIA_X3_failure w h)) hE hS (hl.1.trans hml.symm) dX3_failure_15 dX3_failure_18 dX3_failure_19 dX3_failure_21 dX3_failure_24 htab (Nat.le_of_ble_eq_true rfl) (Nat.le_of_ble_eq_true rfl) (Nat.le_of_ble_eq_true rfl) (Nat.le_of_ble_eq_true rfl) hlocks (fun t8 hv8 hz8 hk8 => ⟨(), trivial, ⟨hP.kept (fun t9 i9 h9 => hk8 _ (hP.lt h9)), ⟨rfl, by unfold cFact; exact if_neg (fun z => z.1.2 (Int32.not_lt.mp c_3))⟩⟩, ⟨Nat.le_trans hS.1 hz8, fun q h1 h2 => (hk8 q (Nat.lt_of_lt_of_le h1 hS.1)).trans (hS.2.1 q h1 h2)⟩⟩) hS.2.2 (Nat.le_of_ble_eq_true rfl) (Nat.le_of_ble_eq_true rfl)

def becS (σ : Nat → Nat → Int32) (b : Nat) (v : Int32) : Nat → Nat → Int32 := wr (wr (wr (wr σ 0 b v) 4 b 0) 5 b 0) 6 b 0
theorem iL_X3_become_X0 : ∀ w ∈ u_ws RX0 TX0 11, w ∈ wsX3_become := by decide +kernel
set_option maxHeartbeats 4000000 in
set_option maxRecDepth 100000 in
theorem k_X3_become {l : Launch} {D : va_G} {cI cZ cB cS : ClassId} {A : Nat → Prop} (κ : Nat → Nat) (σ sc : Nat → Nat → Int32) (ad : Nat → Nat → Nat) (hst : l.stackTraces = false) (hn : κ 0 ≤ 40) (y0 y1 : Int32) : vx_Met l yX3_become wsX3_become ({ frames := 7, cells := 2, slots := 12, locals := 111 } : Room) (gPc D cI cZ cB cS A (cDm κ) (cEn cI cZ cB cS κ σ sc ad) ad [.ref (ad 0 0), .int y0, .int y1]) (va_Qi (fun (r : Int32) (_ : Unit) => cTwo (κ 0) 26 y0 y1 = 0 ∧ r = σ 0 y0.toNatClampNeg) (fun _ t => gw_P D vwCl A (cDm κ) (cEn cI cZ cB cS κ (becS σ y0.toNatClampNeg y1) sc ad) ad t.heap) A) (vx_X (fun _ : Unit => True) (fun E _ t => gw_P D vwCl A (cDm κ) (cEn cI cZ cB cS κ σ sc ad) ad t.heap ∧ (E = g_IA ∧ cTwo (κ 0) 26 y0 y1 = 1)) A) 2 12 A := by
  refine vx_ofW (cc := cX3_become) (maxL := 5) (ret := (some .int)) (by decide) rfl ?_
  intro p e s m args below meth c s₁ B hml htab hv
  obtain ⟨rfl, hP, hE, hA⟩ := hv
  have hx := B.exec
  have hb := B.bytes
  have hr := B.returns
  have hts := atoms_spec (ws := wsX3_become) B.pre
  have hown : s.vm.findClass RX3 = some m.cls := findClass_of_methodNamed B.named
  have hlocks := B.notSynchronized
  have hK := hE.1
  have hS : va_S A s.heap s.heap [] := va_S.rf
  have hL0 := fun w (hw : w ∈ u_ws RX0 TX0 11) => hts w (iL_X3_become_X0 w hw)
  have hl := lv_entry ([.ref (ad 0 0), .int y0, .int y1]) (n := 5) (Nat.le_of_ble_eq_true rfl)
  rw [lg_entry_eq]
  generalize (lg_sl ([.ref (ad 0 0), .int y0, .int y1]) ++ List.replicate (5 - (lg_sl ([.ref (ad 0 0), .int y0, .int y1])).length) Slot.unset).toArray = ls at hl ⊢
  have hl : lv_has ls 5 [(0, .ref (ad 0 0)), (1, .int y0), (2, .int y1)] := hl
  refine lv_aload_n hx hb dX3_become_0 rfl (lv_at hl 0 rfl) ?_
  refine lv_iload_n hx hb dX3_become_1 rfl (lv_at hl 1 rfl) ?_
  refine gx_callr (vx_runV (As := [.int y0]) (rest := []) ⟨hx, hb, hml, hown, hts⟩ (k_X3_existing (l := l) (D := D) (cI := cI) (cZ := cZ) (cB := cB) (cS := cS) (A := A) κ σ sc ad hst hn y0) (cwV 1 hts gX3_become_X3_existing rfl rfl rfl (by decide +kernel) ⟨Nat.le_of_ble_eq_true rfl, Nat.le_of_ble_eq_true rfl⟩) (gPreV hE hA hS hP (gw_recv hK hP 0 0 (cDf (by decide)) rfl rfl)) rfl rfl hl.1 rfl (lv_room (Nat.le_of_ble_eq_true rfl)) dX3_become_2 ⟨Nat.le_of_ble_eq_true rfl, Nat.le_of_ble_eq_true rfl⟩) hS (fun q _ h9 => h9) (fun q h9 => h9) (fun q _ h9 => h9) (fun E9 ce9 q9 u9 t9 H9 locs9 ht9 hv9 hp9 hB9 hz9 hk9 hS9 hce9 hcv9 hcl9 => vx_out (fun x h9 => (htab x h9).elim) hlocks hce9 hcv9 hcl9 (fun t8 ht8 hv8 => ⟨(), trivial, ⟨by rw [ht8, ← ht9]; exact hB9.1, ⟨hB9.2.1, by unfold cTwo; exact if_neg (fun z => hB9.2.2 z.1)⟩⟩, hS9.F ht8⟩) hS9.2.2 (Nat.le_of_ble_eq_true rfl) (Nat.le_of_ble_eq_true rfl)) (fun u9 ra t9 H locs ht9 hvm9 hw_e_1 hB9 hz9 hk9 hS => ?_)
  have hP : gw_P D vwCl A (cDm κ) (cEn cI cZ cB cS κ σ sc ad) ad H := by rw [← ht9]; exact hB9.2
  have hra : ra = ad 11 y0.toNatClampNeg := hB9.1
  obtain ⟨j, hj, rfl⟩ := ix_of (n := κ 0) (by omega) hw_e_1.1 hw_e_1.2
  rw [nI_clamp (show j < 2 ^ 31 by omega)] at hra
  subst hra
  refine lv_astore_n (lv' := [(3, .ref (ad 11 j)), (0, .ref (ad 0 0)), (1, .int (nI j)), (2, .int y1)]) hx hb dX3_become_5 rfl hl (by decide) rfl (fun ls hl => ?_)
  refine lv_iload_n hx hb dX3_become_6 rfl (lv_at hl 3 rfl) ?_
  refine vx_callv (vx_runS (As := [.int y1]) (rest := []) ⟨hx, hb, hml, hown, hts⟩ (k_X3_requireKind (l := l) (D := D) (cI := cI) (cZ := cZ) (cB := cB) (cS := cS) (A := A) κ σ sc ad hst y1) (va_cwS 1 hts gX3_become_X3_requireKind rfl rfl rfl (by decide +kernel) ⟨Nat.le_of_ble_eq_true rfl, Nat.le_of_ble_eq_true rfl⟩) (gPreS hE hA hS hP) rfl rfl hl.1 rfl (lv_room (Nat.le_of_ble_eq_true rfl)) dX3_become_7 ⟨Nat.le_of_ble_eq_true rfl, Nat.le_of_ble_eq_true rfl⟩) hS (fun q _ h9 => h9) (fun q h9 => h9) (fun q _ h9 => h9) (fun E9 ce9 q9 u9 t9 H9 locs9 ht9 hv9 hp9 hB9 hz9 hk9 hS9 hce9 hcv9 hcl9 => vx_out (fun x h9 => (htab x h9).elim) hlocks hce9 hcv9 hcl9 (fun t8 ht8 hv8 => ⟨(), trivial, ⟨by rw [ht8, ← ht9]; exact hB9.1, ⟨hB9.2.1, by unfold cTwo; exact if_neg (fun z => hB9.2.2 z.2)⟩⟩, hS9.F ht8⟩) hS9.2.2 (Nat.le_of_ble_eq_true rfl) (Nat.le_of_ble_eq_true rfl)) (fun u9 t9 H locs ht9 hvm9 hok9 hB9 hz9 hk9 hS => ?_)
  have hP : gw_P D vwCl A (cDm κ) (cEn cI cZ cB cS κ σ sc ad) ad H := by rw [← ht9]; exact hB9
  refine lv_aload_n hx hb dX3_become_10 rfl (lv_at hl 0 rfl) ?_
  refine gw_get (C := RX0) (T := TX0) (N := 11) hx hb hL0 hown hK hP 11 j (cDb (by omega) (by decide) (by decide)) rfl rfl 0 (by decide) (hts (.fieldLink RX3 86 "BlockPrograms$Block" "kind" "I") (by decide +kernel)) (fun _ h9 => h9) (v := .int ((σ 0 j))) rfl dX3_become_11 ?_
  refine lv_istore (lv' := [(4, .int ((σ 0 j))), (3, .ref (ad 11 j)), (0, .ref (ad 0 0)), (1, .int (nI j)), (2, .int y1)]) hx hb dX3_become_14 hl (by decide) rfl (fun ls hl => ?_)
  refine lv_aload_n hx hb dX3_become_16 rfl (lv_at hl 1 rfl) ?_
  refine lv_iload_n hx hb dX3_become_17 rfl (lv_at hl 4 rfl) ?_
  refine gw_put (ty := .int) (C := RX0) (T := TX0) (N := 11) hx hb hL0 tyX0 tyX0_ok nmX0 hown hK hP hS 11 j (cDb (by omega) (by decide) (by decide)) rfl rfl 0 (by decide) (hts (.fieldLink RX3 86 "BlockPrograms$Block" "kind" "I") (by decide +kernel)) (fun _ h9 => h9) rfl (by decide +kernel) rfl rfl (Nat.le_of_ble_eq_true rfl) dX3_become_18 (cEn cI cZ cB cS κ (wr σ 0 j y1) sc ad) (cU11s_0 _) (fun t9 i9 _ h9 => cU11 (by decide) _ t9 i9 h9) (fun H locs hP hS => ?_)
  refine lv_aload_n hx hb dX3_become_21 rfl (lv_at hl 1 rfl) ?_
  refine lv_iconst (v := 0) hx hb dX3_become_22 (by decide) ?_
  refine gw_put (ty := .int) (C := RX0) (T := TX0) (N := 11) hx hb hL0 tyX0 tyX0_ok nmX0 hown hK hP hS 11 j (cDb (by omega) (by decide) (by decide)) rfl rfl 4 (by decide) (hts (.fieldLink RX3 124 "BlockPrograms$Block" "output" "I") (by decide +kernel)) (fun _ h9 => h9) rfl (by decide +kernel) rfl rfl (Nat.le_of_ble_eq_true rfl) dX3_become_23 (cEn cI cZ cB cS κ (wr (wr σ 0 j y1) 4 j 0) sc ad) (cU11s_4 _) (fun t9 i9 _ h9 => cU11 (by decide) _ t9 i9 h9) (fun H locs hP hS => ?_)
  refine lv_aload_n hx hb dX3_become_26 rfl (lv_at hl 1 rfl) ?_
  refine lv_iconst (v := 0) hx hb dX3_become_27 (by decide) ?_
  refine gw_put (ty := .int) (C := RX0) (T := TX0) (N := 11) hx hb hL0 tyX0 tyX0_ok nmX0 hown hK hP hS 11 j (cDb (by omega) (by decide) (by decide)) rfl rfl 5 (by decide) (hts (.fieldLink RX3 129 "BlockPrograms$Block" "first" "I") (by decide +kernel)) (fun _ h9 => h9) rfl (by decide +kernel) rfl rfl (Nat.le_of_ble_eq_true rfl) dX3_become_28 (cEn cI cZ cB cS κ (wr (wr (wr σ 0 j y1) 4 j 0) 5 j 0) sc ad) (cU11s_5 _) (fun t9 i9 _ h9 => cU11 (by decide) _ t9 i9 h9) (fun H locs hP hS => ?_)
  refine lv_aload_n hx hb dX3_become_31 rfl (lv_at hl 1 rfl) ?_
  refine lv_iconst (v := 0) hx hb dX3_become_32 (by decide) ?_
  refine gw_put (ty := .int) (C := RX0) (T := TX0) (N := 11) hx hb hL0 tyX0 tyX0_ok nmX0 hown hK hP hS 11 j (cDb (by omega) (by decide) (by decide)) rfl rfl 6 (by decide) (hts (.fieldLink RX3 132 "BlockPrograms$Block" "second" "I") (by decide +kernel)) (fun _ h9 => h9) rfl (by decide +kernel) rfl rfl (Nat.le_of_ble_eq_true rfl) dX3_become_33 (cEn cI cZ cB cS κ (wr (wr (wr (wr σ 0 j y1) 4 j 0) 5 j 0) 6 j 0) sc ad) (cU11s_6 _) (fun t9 i9 _ h9 => cU11 (by decide) _ t9 i9 h9) (fun H locs hP hS => ?_)
  refine lv_iload hx hb dX3_become_36 (lv_at hl 0 rfl) ?_
  refine vx_ret ?_
  refine W.widen (k := 2) (n := 12) (Nat.le_of_ble_eq_true rfl) (Nat.le_of_ble_eq_true rfl) ?_
  exact W.iret (v := (σ 0 j)) hx hb hr (fun t ht hW => ⟨⟨((σ 0 j)), (), rfl, (by rw [nI_clamp (show j < 2 ^ 31 by omega)]; exact ⟨if_pos ⟨okI_at hj (by omega), hok9⟩, rfl⟩), by rw [nI_clamp (show j < 2 ^ 31 by omega)]; rw [← ht] at hP; exact hP⟩, hS.F ht⟩) hS.2.2 dX3_become_38

