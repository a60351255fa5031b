theorem iL_X4_state_X4 : ∀ w ∈ u_ws RX4 TX4 25, w ∈ wsX4_state := by decide +kernel
set_option maxHeartbeats 4000000 in
set_option maxRecDepth 100000 in
theorem k_X4_state {l : Launch} {D : va_G} {cI cZ cB cS : ClassId} {A : Nat → Prop} (κ : Nat → Nat) (σ sc : Nat → Nat → Int32) (ad : Nat → Nat → Nat) (hn : κ 0 ≤ 40) (y0 y1 : Int32) : Met l yX4_state wsX4_state ({ frames := 2, cells := 0, slots := 0, locals := 43 } : Room) (gPc D cI cZ cB cS A rDm (rEn cI cZ κ σ sc ad) ad [.ref (ad 0 0), .int y0, .int y1]) (va_Qi (fun (r : Int32) (u : Nat → Nat → Int32) => u 2 0 = nI (cTwo (κ 0) 2 y0 y1) ∧ (cTwo (κ 0) 2 y0 y1 = 0 → r = if y1 = 0 then σ 5 y0.toNatClampNeg else σ 6 y0.toNatClampNeg)) (fun u t => gw_P D vwCl A rDm (rEn cI cZ κ σ u ad) ad t.heap) A) 0 0 A := by
  refine Met.ofW (cc := cX4_state) (maxL := 3) (ret := (some .int)) (by decide) rfl ?_
  intro p e s m args below meth c s₁ B hml hv
  obtain ⟨rfl, hP, hE, hA⟩ := hv
  have hx := B.exec
  have hb := B.bytes
  have hr := B.returns
  have hts := atoms_spec (ws := wsX4_state) B.pre
  have hown : s.vm.findClass RX4 = some m.cls := findClass_of_methodNamed B.named
  have hlocks := B.notSynchronized
  have hK := hE.1
  have hS : va_S A s.heap s.heap [] := va_S.rf
  have hL4 := fun w (hw : w ∈ u_ws RX4 TX4 25) => hts w (iL_X4_state_X4 w hw)
  have hl := lv_entry ([.ref (ad 0 0), .int y0, .int y1]) (n := 3) (Nat.le_of_ble_eq_true rfl)
  rw [lg_entry_eq]
  generalize (lg_sl ([.ref (ad 0 0), .int y0, .int y1]) ++ List.replicate (3 - (lg_sl ([.ref (ad 0 0), .int y0, .int y1])).length) Slot.unset).toArray = ls at hl ⊢
  have hl : lv_has ls 3 [(0, .ref (ad 0 0)), (1, .int y0), (2, .int y1)] := hl
  refine lv_aload_n hx hb dX4_state_0 rfl (lv_at hl 0 rfl) ?_
  refine lv_aload_n hx hb dX4_state_1 rfl (lv_at hl 0 rfl) ?_
  refine lv_iload_n hx hb dX4_state_2 rfl (lv_at hl 1 rfl) ?_
  refine va_calli (va_runV (As := [.int y0]) (rest := [.ref (ad 0 0)]) ⟨hx, hb, hml, hown, hts⟩ (k_X4_isBlock (l := l) (D := D) (cI := cI) (cZ := cZ) (cB := cB) (cS := cS) (A := A) κ σ sc ad hn y0) (cwV 1 hts gX4_state_X4_isBlock rfl rfl rfl (by decide +kernel) ⟨Nat.le_of_ble_eq_true rfl, Nat.le_of_ble_eq_true rfl⟩) (gPreV hE hA hS hP (gw_recv hK hP 0 0 (rDf (by decide)) rfl rfl)) rfl rfl hl.1 rfl (lv_room (Nat.le_of_ble_eq_true rfl)) dX4_state_3 ⟨Nat.le_of_ble_eq_true rfl, Nat.le_of_ble_eq_true rfl⟩) hS (fun q _ h9 => h9) (fun q h9 => h9) (fun r_1 u9 t9 H locs ht9 hvm9 hw_r_1 hB9 hz9 hk9 hS => ?_)
  have hP : gw_P D vwCl A rDm (rEn cI cZ κ σ sc ad) ad H := by rw [← ht9]; exact hB9
  refine lv_toq ((if okI (κ 0) y0 then 1 else 0)) hw_r_1 ?_
  refine lv_if_eq (tgt := 22) hx hb dX4_state_6 (by decide) (fun c_2 => ?_) (fun c_2 => ?_)
  · refine lv_iconst (v := 1) hx hb dX4_state_22 (by decide) ?_
    refine gw_put (ty := .int) (C := RX4) (T := TX4) (N := 25) hx hb hL4 tyX4 tyX4_ok nmX4 hown hK hP hS 0 0 (rDf (by decide)) rfl rfl 0 (by decide) (hts (.fieldLink RX4 65 "BlockProgramsModel" "code" "I") (by decide +kernel)) (fun _ h9 => h9) rfl (by decide +kernel) rfl rfl (Nat.le_of_ble_eq_true rfl) dX4_state_23 (rEn cI cZ κ σ (wr sc 2 0 1) ad) (rU0s_0 _) (fun t9 i9 z9 h9 => rU0 _ _ t9 i9 h9 z9) (fun H locs hP hS => ?_)
    refine lv_aload_n hx hb dX4_state_26 rfl (lv_at hl 0 rfl) ?_
    refine gw_get (C := RX4) (T := TX4) (N := 25) hx hb hL4 hown hK hP 0 0 (rDf (by decide)) rfl rfl 0 (by decide) (hts (.fieldLink RX4 65 "BlockProgramsModel" "code" "I") (by decide +kernel)) (fun _ h9 => h9) (v := .int 1) (by simp [wr, va_up]) dX4_state_27 ?_
    refine lv_if_le (tgt := 37) hx hb dX4_state_30 (by decide) (fun c_3 => ?_) (fun c_3 => ?_)
    · have c_3 : 1 ≤ 0 := (nI_leI (a := 1) (b := 0) (by omega) (by omega)).mp c_3
      exfalso; omega
    · have c_3 : ¬ (1 ≤ 0) := fun z => c_3 ((nI_leI (a := 1) (b := 0) (by omega) (by omega)).mpr z)
      refine lv_iconst (v := 0) hx hb dX4_state_33 (by decide) ?_
      refine lv_goto (tgt := 56) hx hb dX4_state_34 (by decide) ?_
      have hcr : cTwo (κ 0) 2 y0 y1 = 1 := if_neg (fun z => lp_f c_2 z.1)
      exact W.iret (v := 0) hx hb hr (fun t ht hW => ⟨⟨0, wr sc 2 0 1, rfl, ⟨by rw [hcr]; exact wr_s, fun z => absurd (hcr.symm.trans z) (by decide)⟩, by rw [← ht] at hP; exact hP⟩, hS.F ht⟩) hS.2.2 dX4_state_56
  · refine lv_iload_n hx hb dX4_state_9 rfl (lv_at hl 2 rfl) ?_
    refine lv_iconst (v := 0) hx hb dX4_state_10 (by decide) ?_
    refine lv_iconst (v := 1) hx hb dX4_state_11 (by decide) ?_
    refine va_calli (va_runS (As := [.int y1, .int 0, .int 1]) (rest := [.ref (ad 0 0)]) ⟨hx, hb, hml, hown, hts⟩ (k_X4_in (l := l) (D := D) (cI := cI) (cZ := cZ) (cB := cB) (cS := cS) (A := A) rDm (rEn cI cZ κ σ sc ad) ad y1 0 1) (va_cwS 3 hts gX4_state_X4_in rfl rfl rfl (by decide +kernel) ⟨Nat.le_of_ble_eq_true rfl, Nat.le_of_ble_eq_true rfl⟩) (gPreS hE hA hS hP) rfl rfl hl.1 rfl (lv_room (Nat.le_of_ble_eq_true rfl)) dX4_state_12 ⟨Nat.le_of_ble_eq_true rfl, Nat.le_of_ble_eq_true rfl⟩) hS (fun q _ h9 => h9) (fun q h9 => h9) (fun r_4 u9 t9 H locs ht9 hvm9 hw_r_4 hB9 hz9 hk9 hS => ?_)
    have hP : gw_P D vwCl A rDm (rEn cI cZ κ σ sc ad) ad H := by rw [← ht9]; exact hB9
    refine lv_toq (if okI 2 y1 then 1 else 0) (hw_r_4.trans (in_i (by omega) (by decide))) ?_
    refine lv_if_eq (tgt := 22) hx hb dX4_state_15 (by decide) (fun c_5 => ?_) (fun c_5 => ?_)
    · refine lv_iconst (v := 1) hx hb dX4_state_22 (by decide) ?_
      refine gw_put (ty := .int) (C := RX4) (T := TX4) (N := 25) hx hb hL4 tyX4 tyX4_ok nmX4 hown hK hP hS 0 0 (rDf (by decide)) rfl rfl 0 (by decide) (hts (.fieldLink RX4 65 "BlockProgramsModel" "code" "I") (by decide +kernel)) (fun _ h9 => h9) rfl (by decide +kernel) rfl rfl (Nat.le_of_ble_eq_true rfl) dX4_state_23 (rEn cI cZ κ σ (wr sc 2 0 1) ad) (rU0s_0 _) (fun t9 i9 z9 h9 => rU0 _ _ t9 i9 h9 z9) (fun H locs hP hS => ?_)
      refine lv_aload_n hx hb dX4_state_26 rfl (lv_at hl 0 rfl) ?_
      refine gw_get (C := RX4) (T := TX4) (N := 25) hx hb hL4 hown hK hP 0 0 (rDf (by decide)) rfl rfl 0 (by decide) (hts (.fieldLink RX4 65 "BlockProgramsModel" "code" "I") (by decide +kernel)) (fun _ h9 => h9) (v := .int 1) (by simp [wr, va_up]) dX4_state_27 ?_
      refine lv_if_le (tgt := 37) hx hb dX4_state_30 (by decide) (fun c_6 => ?_) (fun c_6 => ?_)
      · have c_6 : 1 ≤ 0 := (nI_leI (a := 1) (b := 0) (by omega) (by omega)).mp c_6
        exfalso; omega
      · have c_6 : ¬ (1 ≤ 0) := fun z => c_6 ((nI_leI (a := 1) (b := 0) (by omega) (by omega)).mpr z)
        refine lv_iconst (v := 0) hx hb dX4_state_33 (by decide) ?_
        refine lv_goto (tgt := 56) hx hb dX4_state_34 (by decide) ?_
        have hcr : cTwo (κ 0) 2 y0 y1 = 1 := if_neg (fun z => lp_f c_5 z.2)
        exact W.iret (v := 0) hx hb hr (fun t ht hW => ⟨⟨0, wr sc 2 0 1, rfl, ⟨by rw [hcr]; exact wr_s, fun z => absurd (hcr.symm.trans z) (by decide)⟩, by rw [← ht] at hP; exact hP⟩, hS.F ht⟩) hS.2.2 dX4_state_56
    · refine lv_iconst (v := 0) hx hb dX4_state_18 (by decide) ?_
      refine lv_goto (tgt := 23) hx hb dX4_state_19 (by decide) ?_
      refine gw_put (ty := .int) (C := RX4) (T := TX4) (N := 25) hx hb hL4 tyX4 tyX4_ok nmX4 hown hK hP hS 0 0 (rDf (by decide)) rfl rfl 0 (by decide) (hts (.fieldLink RX4 65 "BlockProgramsModel" "code" "I") (by decide +kernel)) (fun _ h9 => h9) rfl (by decide +kernel) rfl rfl (Nat.le_of_ble_eq_true rfl) dX4_state_23 (rEn cI cZ κ σ (wr sc 2 0 0) ad) (rU0s_0 _) (fun t9 i9 z9 h9 => rU0 _ _ t9 i9 h9 z9) (fun H locs hP hS => ?_)
      refine lv_aload_n hx hb dX4_state_26 rfl (lv_at hl 0 rfl) ?_
      refine gw_get (C := RX4) (T := TX4) (N := 25) hx hb hL4 hown hK hP 0 0 (rDf (by decide)) rfl rfl 0 (by decide) (hts (.fieldLink RX4 65 "BlockProgramsModel" "code" "I") (by decide +kernel)) (fun _ h9 => h9) (v := .int 0) (by simp [wr, va_up]) dX4_state_27 ?_
      refine lv_if_le (tgt := 37) hx hb dX4_state_30 (by decide) (fun c_7 => ?_) (fun c_7 => ?_)
      · have c_7 : 0 ≤ 0 := (nI_leI (a := 0) (b := 0) (by omega) (by omega)).mp c_7
        have ok_j := lp_t c_2
        obtain ⟨j, hj, ej⟩ := ix_of (n := κ 0) (by omega) ok_j.1 ok_j.2
        have ecj : y0.toNatClampNeg = j := by rw [ej, nI_clamp (by omega)]
        rw [ej] at hl
        refine lv_iload_n hx hb dX4_state_37 rfl (lv_at hl 2 rfl) ?_
        refine lv_if_ne (tgt := 50) hx hb dX4_state_38 (by decide) (fun c_8 => ?_) (fun c_8 => ?_)
        · refine lv_aload_n hx hb dX4_state_50 rfl (lv_at hl 0 rfl) ?_
          refine gw_get (C := RX4) (T := TX4) (N := 25) hx hb hL4 hown hK hP 0 0 (rDf (by decide)) rfl rfl 9 (by decide) (hts (.fieldLink RX4 31 "BlockProgramsModel" "seconds" "[I") (by decide +kernel)) (fun _ h9 => h9) (v := .ref (ad 9 0)) rfl dX4_state_51 ?_
          refine lv_iload_n hx hb dX4_state_54 rfl (lv_at hl 1 rfl) ?_
          refine gw_iald hx hb hK hP 9 0 (rDf (by decide)) 0 rfl rfl (j) rfl (by omega) (by decide) (v := (σ 6 j)) rfl dX4_state_55 ?_
          have hcr : cTwo (κ 0) 2 y0 y1 = 0 := if_pos ⟨ok_j, lp_t c_5⟩
          exact W.iret (v := (σ 6 j)) hx hb hr (fun t ht hW => ⟨⟨((σ 6 j)), wr sc 2 0 0, rfl, ⟨by rw [hcr]; exact wr_s, fun _ => by rw [ecj]; exact (if_neg c_8).symm⟩, by rw [← ht] at hP; exact hP⟩, hS.F ht⟩) hS.2.2 dX4_state_56
        · refine lv_aload_n hx hb dX4_state_41 rfl (lv_at hl 0 rfl) ?_
          refine gw_get (C := RX4) (T := TX4) (N := 25) hx hb hL4 hown hK hP 0 0 (rDf (by decide)) rfl rfl 8 (by decide) (hts (.fieldLink RX4 28 "BlockProgramsModel" "firsts" "[I") (by decide +kernel)) (fun _ h9 => h9) (v := .ref (ad 8 0)) rfl dX4_state_42 ?_
          refine lv_iload_n hx hb dX4_state_45 rfl (lv_at hl 1 rfl) ?_
          refine gw_iald hx hb hK hP 8 0 (rDf (by decide)) 0 rfl rfl (j) rfl (by omega) (by decide) (v := (σ 5 j)) rfl dX4_state_46 ?_
          refine lv_goto (tgt := 56) hx hb dX4_state_47 (by decide) ?_
          have hcr : cTwo (κ 0) 2 y0 y1 = 0 := if_pos ⟨ok_j, lp_t c_5⟩
          exact W.iret (v := (σ 5 j)) hx hb hr (fun t ht hW => ⟨⟨((σ 5 j)), wr sc 2 0 0, rfl, ⟨by rw [hcr]; exact wr_s, fun _ => by rw [ecj]; exact (if_pos c_8).symm⟩, by rw [← ht] at hP; exact hP⟩, hS.F ht⟩) hS.2.2 dX4_state_56
      · have c_7 : ¬ (0 ≤ 0) := fun z => c_7 ((nI_leI (a := 0) (b := 0) (by omega) (by omega)).mpr z)
        exfalso; omega

theorem iL_X4_wire_X4 : ∀ w ∈ u_ws RX4 TX4 25, w ∈ wsX4_wire := by decide +kernel
set_option maxHeartbeats 4000000 in
set_option maxRecDepth 100000 in
theorem k_X4_wire {l : Launch} {D : va_G} {cI cZ cB cS : ClassId} {A : Nat → Prop} (κ : Nat → Nat) (σ sc : Nat → Nat → Int32) (ad : Nat → Nat → Nat) (hn : κ 0 ≤ 40) (y0 y1 y2 : Int32) : Met l yX4_wire wsX4_wire ({ frames := 2, cells := 0, slots := 0, locals := 43 } : Room) (gPc D cI cZ cB cS A rDm (rEn cI cZ κ σ sc ad) ad [.ref (ad 0 0), .int y0, .int y1, .int y2]) (va_Qi (fun (r : Int32) (u : Nat → Nat → Int32) => u 2 0 = nI (cWire κ y0 y1 y2) ∧ (cWire κ y0 y1 y2 = 0 → r = σ 9 (3 * y0.toNatClampNeg + y1.toNatClampNeg))) (fun u t => gw_P D vwCl A rDm (rEn cI cZ κ ((if cWire κ y0 y1 y2 = 0 then wr σ 9 (3 * y0.toNatClampNeg + y1.toNatClampNeg) y2 else σ)) u ad) ad t.heap) A) 0 0 A := by
  refine Met.ofW (cc := cX4_wire) (maxL := 5) (ret := (some .int)) (by decide) rfl ?_
  intro p e s m args below meth c s₁ B hml hv
  obtain ⟨rfl, hP, hE, hA⟩ := hv
  have hx := B.exec
  have hb := B.bytes
  have hr := B.returns
  have hts := atoms_spec (ws := wsX4_wire) B.pre
  have hown : s.vm.findClass RX4 = some m.cls := findClass_of_methodNamed B.named
  have hlocks := B.notSynchronized
  have hK := hE.1
  have hS : va_S A s.heap s.heap [] := va_S.rf
  have hL4 := fun w (hw : w ∈ u_ws RX4 TX4 25) => hts w (iL_X4_wire_X4 w hw)
  have hl := lv_entry ([.ref (ad 0 0), .int y0, .int y1, .int y2]) (n := 5) (Nat.le_of_ble_eq_true rfl)
  rw [lg_entry_eq]
  generalize (lg_sl ([.ref (ad 0 0), .int y0, .int y1, .int y2]) ++ List.replicate (5 - (lg_sl ([.ref (ad 0 0), .int y0, .int y1, .int y2])).length) Slot.unset).toArray = ls at hl ⊢
  have hl : lv_has ls 5 [(0, .ref (ad 0 0)), (1, .int y0), (2, .int y1), (3, .int y2)] := hl
  refine lv_aload_n hx hb dX4_wire_0 rfl (lv_at hl 0 rfl) ?_
  refine lv_aload_n hx hb dX4_wire_1 rfl (lv_at hl 0 rfl) ?_
  refine lv_iload_n hx hb dX4_wire_2 rfl (lv_at hl 1 rfl) ?_
  refine va_calli (va_runV (As := [.int y0]) (rest := [.ref (ad 0 0)]) ⟨hx, hb, hml, hown, hts⟩ (k_X4_isBlock (l := l) (D := D) (cI := cI) (cZ := cZ) (cB := cB) (cS := cS) (A := A) κ σ sc ad hn y0) (cwV 1 hts gX4_wire_X4_isBlock rfl rfl rfl (by decide +kernel) ⟨Nat.le_of_ble_eq_true rfl, Nat.le_of_ble_eq_true rfl⟩) (gPreV hE hA hS hP (gw_recv hK hP 0 0 (rDf (by decide)) rfl rfl)) rfl rfl hl.1 rfl (lv_room (Nat.le_of_ble_eq_true rfl)) dX4_wire_3 ⟨Nat.le_of_ble_eq_true rfl, Nat.le_of_ble_eq_true rfl⟩) hS (fun q _ h9 => h9) (fun q h9 => h9) (fun r_1 u9 t9 H locs ht9 hvm9 hw_r_1 hB9 hz9 hk9 hS => ?_)
  have hP : gw_P D vwCl A rDm (rEn cI cZ κ σ sc ad) ad H := by rw [← ht9]; exact hB9
  refine lv_toq ((if okI (κ 0) y0 then 1 else 0)) hw_r_1 ?_
  refine lv_if_eq (tgt := 35) hx hb dX4_wire_6 (by decide) (fun c_2 => ?_) (fun c_2 => ?_)
  · refine lv_iconst (v := 1) hx hb dX4_wire_35 (by decide) ?_
    refine gw_put (ty := .int) (C := RX4) (T := TX4) (N := 25) hx hb hL4 tyX4 tyX4_ok nmX4 hown hK hP hS 0 0 (rDf (by decide)) rfl rfl 0 (by decide) (hts (.fieldLink RX4 65 "BlockProgramsModel" "code" "I") (by decide +kernel)) (fun _ h9 => h9) rfl (by decide +kernel) rfl rfl (Nat.le_of_ble_eq_true rfl) dX4_wire_36 (rEn cI cZ κ σ (wr sc 2 0 1) ad) (rU0s_0 _) (fun t9 i9 z9 h9 => rU0 _ _ t9 i9 h9 z9) (fun H locs hP hS => ?_)
    refine lv_aload_n hx hb dX4_wire_39 rfl (lv_at hl 0 rfl) ?_
    refine gw_get (C := RX4) (T := TX4) (N := 25) hx hb hL4 hown hK hP 0 0 (rDf (by decide)) rfl rfl 0 (by decide) (hts (.fieldLink RX4 65 "BlockProgramsModel" "code" "I") (by decide +kernel)) (fun _ h9 => h9) (v := .int 1) (by simp [wr, va_up]) dX4_wire_40 ?_
    refine lv_if_le (tgt := 48) hx hb dX4_wire_43 (by decide) (fun c_3 => ?_) (fun c_3 => ?_)
    · have c_3 : 1 ≤ 0 := (nI_leI (a := 1) (b := 0) (by omega) (by omega)).mp c_3
      exfalso; omega
    · have c_3 : ¬ (1 ≤ 0) := fun z => c_3 ((nI_leI (a := 1) (b := 0) (by omega) (by omega)).mpr z)
      refine lv_iconst (v := 0) hx hb dX4_wire_46 (by decide) ?_
      have hcr : cWire κ y0 y1 y2 = 1 := if_neg (fun z => lp_f c_2 z.1)
      exact W.iret (v := 0) hx hb hr (fun t ht hW => ⟨⟨0, wr sc 2 0 1, rfl, ⟨by rw [hcr]; exact wr_s, fun z => absurd (hcr.symm.trans z) (by decide)⟩, by rw [if_neg (show ¬ cWire κ y0 y1 y2 = 0 by rw [hcr]; decide)]; rw [← ht] at hP; exact hP⟩, hS.F ht⟩) hS.2.2 dX4_wire_47
  · refine lv_iload_n hx hb dX4_wire_9 rfl (lv_at hl 2 rfl) ?_
    refine lv_iconst (v := 0) hx hb dX4_wire_10 (by decide) ?_
    refine lv_iconst (v := 2) hx hb dX4_wire_11 (by decide) ?_
    refine va_calli (va_runS (As := [.int y1, .int 0, .int 2]) (rest := [.ref (ad 0 0)]) ⟨hx, hb, hml, hown, hts⟩ (k_X4_in (l := l) (D := D) (cI := cI) (cZ := cZ) (cB := cB) (cS := cS) (A := A) rDm (rEn cI cZ κ σ sc ad) ad y1 0 2) (va_cwS 3 hts gX4_wire_X4_in rfl rfl rfl (by decide +kernel) ⟨Nat.le_of_ble_eq_true rfl, Nat.le_of_ble_eq_true rfl⟩) (gPreS hE hA hS hP) rfl rfl hl.1 rfl (lv_room (Nat.le_of_ble_eq_true rfl)) dX4_wire_12 ⟨Nat.le_of_ble_eq_true rfl, Nat.le_of_ble_eq_true rfl⟩) hS (fun q _ h9 => h9) (fun q h9 => h9) (fun r_4 u9 t9 H locs ht9 hvm9 hw_r_4 hB9 hz9 hk9 hS => ?_)
    have hP : gw_P D vwCl A rDm (rEn cI cZ κ σ sc ad) ad H := by rw [← ht9]; exact hB9
    refine lv_toq (if okI 3 y1 then 1 else 0) (hw_r_4.trans (in_i (by omega) (by decide))) ?_
    refine lv_if_eq (tgt := 35) hx hb dX4_wire_15 (by decide) (fun c_5 => ?_) (fun c_5 => ?_)
    · refine lv_iconst (v := 1) hx hb dX4_wire_35 (by decide) ?_
      refine gw_put (ty := .int) (C := RX4) (T := TX4) (N := 25) hx hb hL4 tyX4 tyX4_ok nmX4 hown hK hP hS 0 0 (rDf (by decide)) rfl rfl 0 (by decide) (hts (.fieldLink RX4 65 "BlockProgramsModel" "code" "I") (by decide +kernel)) (fun _ h9 => h9) rfl (by decide +kernel) rfl rfl (Nat.le_of_ble_eq_true rfl) dX4_wire_36 (rEn cI cZ κ σ (wr sc 2 0 1) ad) (rU0s_0 _) (fun t9 i9 z9 h9 => rU0 _ _ t9 i9 h9 z9) (fun H locs hP hS => ?_)
      refine lv_aload_n hx hb dX4_wire_39 rfl (lv_at hl 0 rfl) ?_
      refine gw_get (C := RX4) (T := TX4) (N := 25) hx hb hL4 hown hK hP 0 0 (rDf (by decide)) rfl rfl 0 (by decide) (hts (.fieldLink RX4 65 "BlockProgramsModel" "code" "I") (by decide +kernel)) (fun _ h9 => h9) (v := .int 1) (by simp [wr, va_up]) dX4_wire_40 ?_
      refine lv_if_le (tgt := 48) hx hb dX4_wire_43 (by decide) (fun c_6 => ?_) (fun c_6 => ?_)
      · have c_6 : 1 ≤ 0 := (nI_leI (a := 1) (b := 0) (by omega) (by omega)).mp c_6
        exfalso; omega
      · have c_6 : ¬ (1 ≤ 0) := fun z => c_6 ((nI_leI (a := 1) (b := 0) (by omega) (by omega)).mpr z)
        refine lv_iconst (v := 0) hx hb dX4_wire_46 (by decide) ?_
        have hcr : cWire κ y0 y1 y2 = 1 := if_neg (fun z => lp_f c_5 z.2.1)
        exact W.iret (v := 0) hx hb hr (fun t ht hW => ⟨⟨0, wr sc 2 0 1, rfl, ⟨by rw [hcr]; exact wr_s, fun z => absurd (hcr.symm.trans z) (by decide)⟩, by rw [if_neg (show ¬ cWire κ y0 y1 y2 = 0 by rw [hcr]; decide)]; rw [← ht] at hP; exact hP⟩, hS.F ht⟩) hS.2.2 dX4_wire_47
    · refine lv_iload_n hx hb dX4_wire_18 rfl (lv_at hl 3 rfl) ?_
      refine lv_iconst (v := -1) hx hb dX4_wire_19 (by decide) ?_
      refine lv_icmp_eq (tgt := 31) hx hb dX4_wire_20 (by decide) (fun c_7 => ?_) (fun c_7 => ?_)
      · refine lv_iconst (v := 0) hx hb dX4_wire_31 (by decide) ?_
        refine lv_goto (tgt := 36) hx hb dX4_wire_32 (by decide) ?_
        refine gw_put (ty := .int) (C := RX4) (T := TX4) (N := 25) hx hb hL4 tyX4 tyX4_ok nmX4 hown hK hP hS 0 0 (rDf (by decide)) rfl rfl 0 (by decide) (hts (.fieldLink RX4 65 "BlockProgramsModel" "code" "I") (by decide +kernel)) (fun _ h9 => h9) rfl (by decide +kernel) rfl rfl (Nat.le_of_ble_eq_true rfl) dX4_wire_36 (rEn cI cZ κ σ (wr sc 2 0 0) ad) (rU0s_0 _) (fun t9 i9 z9 h9 => rU0 _ _ t9 i9 h9 z9) (fun H locs hP hS => ?_)
        refine lv_aload_n hx hb dX4_wire_39 rfl (lv_at hl 0 rfl) ?_
        refine gw_get (C := RX4) (T := TX4) (N := 25) hx hb hL4 hown hK hP 0 0 (rDf (by decide)) rfl rfl 0 (by decide) (hts (.fieldLink RX4 65 "BlockProgramsModel" "code" "I") (by decide +kernel)) (fun _ h9 => h9) (v := .int 0) (by simp [wr, va_up]) dX4_wire_40 ?_
        refine lv_if_le (tgt := 48) hx hb dX4_wire_43 (by decide) (fun c_8 => ?_) (fun c_8 => ?_)
        · have c_8 : 0 ≤ 0 := (nI_leI (a := 0) (b := 0) (by omega) (by omega)).mp c_8
          have ok_j := lp_t c_2
          obtain ⟨j, hj, ej⟩ := ix_of (n := κ 0) (by omega) ok_j.1 ok_j.2
          have ecj : y0.toNatClampNeg = j := by rw [ej, nI_clamp (by omega)]
          rw [ej] at hl
          have ok_i := lp_t c_5
          obtain ⟨i, hi, ei⟩ := ix_of (n := 3) (by decide) ok_i.1 ok_i.2
          have eci : y1.toNatClampNeg = i := by rw [ei, nI_clamp (by omega)]
          rw [ei] at hl
          refine lv_aload_n hx hb dX4_wire_48 rfl (lv_at hl 0 rfl) ?_
          refine gw_get (C := RX4) (T := TX4) (N := 25) hx hb hL4 hown hK hP 0 0 (rDf (by decide)) rfl rfl 6 (by decide) (hts (.fieldLink RX4 22 "BlockProgramsModel" "wires" "[I") (by decide +kernel)) (fun _ h9 => h9) (v := .ref (ad 6 0)) rfl dX4_wire_49 ?_
          refine lv_iconst (v := 3) hx hb dX4_wire_52 (by decide) ?_
          refine lv_iload_n hx hb dX4_wire_53 rfl (lv_at hl 1 rfl) ?_
          refine lv_imul hx hb dX4_wire_54 ?_
          refine lv_toq (nI (3 * j)) (pk_mul 3 j) ?_
          refine lv_iload_n hx hb dX4_wire_55 rfl (lv_at hl 2 rfl) ?_
          refine lv_iadd hx hb dX4_wire_56 ?_
          refine lv_toq (nI (3 * j + i)) (nI_add (3 * j) i) ?_
          refine gw_iald hx hb hK hP 6 0 (rDf (by decide)) 0 rfl rfl (3 * j + i) rfl (by omega) (by decide) (v := (σ 9 (3 * j + i))) rfl dX4_wire_57 ?_
          refine lv_istore (lv' := [(4, .int ((σ 9 (3 * j + i)))), (0, .ref (ad 0 0)), (1, .int (nI j)), (2, .int (nI i)), (3, .int y2)]) hx hb dX4_wire_58 hl (by decide) rfl (fun ls hl => ?_)
          refine lv_aload_n hx hb dX4_wire_60 rfl (lv_at hl 1 rfl) ?_
          refine gw_get (C := RX4) (T := TX4) (N := 25) hx hb hL4 hown hK hP 0 0 (rDf (by decide)) rfl rfl 6 (by decide) (hts (.fieldLink RX4 22 "BlockProgramsModel" "wires" "[I") (by decide +kernel)) (fun _ h9 => h9) (v := .ref (ad 6 0)) rfl dX4_wire_61 ?_
          refine lv_iconst (v := 3) hx hb dX4_wire_64 (by decide) ?_
          refine lv_iload_n hx hb dX4_wire_65 rfl (lv_at hl 2 rfl) ?_
          refine lv_imul hx hb dX4_wire_66 ?_
          refine lv_toq (nI (3 * j)) (pk_mul 3 j) ?_
          refine lv_iload_n hx hb dX4_wire_67 rfl (lv_at hl 3 rfl) ?_
          refine lv_iadd hx hb dX4_wire_68 ?_
          refine lv_toq (nI (3 * j + i)) (nI_add (3 * j) i) ?_
          refine lv_iload_n hx hb dX4_wire_69 rfl (lv_at hl 4 rfl) ?_
          refine gw_iast hx hb hK hP hS 6 0 (rDf (by decide)) 0 rfl rfl (3 * j + i) rfl (by omega) (by decide) dX4_wire_70 ((rEn cI cZ κ (wr σ 9 (3 * j + i) y2) (wr sc 2 0 0) ad)) rUs_6 (fun t9 i9 z9 h9 => rU6 _ t9 i9 h9 z9) (fun H locs hP hS => ?_)
          refine lv_iload hx hb dX4_wire_71 (lv_at hl 0 rfl) ?_
          have hcr : cWire κ y0 y1 y2 = 0 := if_pos ⟨ok_j, ok_i, Or.inl c_7⟩
          exact W.iret (v := (σ 9 (3 * j + i))) hx hb hr (fun t ht hW => ⟨⟨((σ 9 (3 * j + i))), wr sc 2 0 0, rfl, ⟨by rw [hcr]; exact wr_s, fun _ => by rw [ecj, eci]⟩, by rw [if_pos hcr, ecj, eci]; rw [← ht] at hP; exact hP⟩, hS.F ht⟩) hS.2.2 dX4_wire_73
        · have c_8 : ¬ (0 ≤ 0) := fun z => c_8 ((nI_leI (a := 0) (b := 0) (by omega) (by omega)).mpr z)
          exfalso; omega
      · refine lv_aload_n hx hb dX4_wire_23 rfl (lv_at hl 0 rfl) ?_
        refine lv_iload_n hx hb dX4_wire_24 rfl (lv_at hl 3 rfl) ?_
        refine va_calli (va_runV (As := [.int y2]) (rest := [.ref (ad 0 0)]) ⟨hx, hb, hml, hown, hts⟩ (k_X4_isBlock (l := l) (D := D) (cI := cI) (cZ := cZ) (cB := cB) (cS := cS) (A := A) κ σ sc ad hn y2) (cwV 1 hts gX4_wire_X4_isBlock rfl rfl rfl (by decide +kernel) ⟨Nat.le_of_ble_eq_true rfl, Nat.le_of_ble_eq_true rfl⟩) (gPreV hE hA hS hP (gw_recv hK hP 0 0 (rDf (by decide)) rfl rfl)) rfl rfl hl.1 rfl (lv_room (Nat.le_of_ble_eq_true rfl)) dX4_wire_25 ⟨Nat.le_of_ble_eq_true rfl, Nat.le_of_ble_eq_true rfl⟩) hS (fun q _ h9 => h9) (fun q h9 => h9) (fun r_9 u9 t9 H locs ht9 hvm9 hw_r_9 hB9 hz9 hk9 hS => ?_)
        have hP : gw_P D vwCl A rDm (rEn cI cZ κ σ sc ad) ad H := by rw [← ht9]; exact hB9
        refine lv_toq ((if okI (κ 0) y2 then 1 else 0)) hw_r_9 ?_
        refine lv_if_eq (tgt := 35) hx hb dX4_wire_28 (by decide) (fun c_10 => ?_) (fun c_10 => ?_)
        · refine lv_iconst (v := 1) hx hb dX4_wire_35 (by decide) ?_
          refine gw_put (ty := .int) (C := RX4) (T := TX4) (N := 25) hx hb hL4 tyX4 tyX4_ok nmX4 hown hK hP hS 0 0 (rDf (by decide)) rfl rfl 0 (by decide) (hts (.fieldLink RX4 65 "BlockProgramsModel" "code" "I") (by decide +kernel)) (fun _ h9 => h9) rfl (by decide +kernel) rfl rfl (Nat.le_of_ble_eq_true rfl) dX4_wire_36 (rEn cI cZ κ σ (wr sc 2 0 1) ad) (rU0s_0 _) (fun t9 i9 z9 h9 => rU0 _ _ t9 i9 h9 z9) (fun H locs hP hS => ?_)
          refine lv_aload_n hx hb dX4_wire_39 rfl (lv_at hl 0 rfl) ?_
          refine gw_get (C := RX4) (T := TX4) (N := 25) hx hb hL4 hown hK hP 0 0 (rDf (by decide)) rfl rfl 0 (by decide) (hts (.fieldLink RX4 65 "BlockProgramsModel" "code" "I") (by decide +kernel)) (fun _ h9 => h9) (v := .int 1) (by simp [wr, va_up]) dX4_wire_40 ?_
          refine lv_if_le (tgt := 48) hx hb dX4_wire_43 (by decide) (fun c_11 => ?_) (fun c_11 => ?_)
          · have c_11 : 1 ≤ 0 := (nI_leI (a := 1) (b := 0) (by omega) (by omega)).mp c_11
            exfalso; omega
          · have c_11 : ¬ (1 ≤ 0) := fun z => c_11 ((nI_leI (a := 1) (b := 0) (by omega) (by omega)).mpr z)
            refine lv_iconst (v := 0) hx hb dX4_wire_46 (by decide) ?_
            have hcr : cWire κ y0 y1 y2 = 1 := if_neg (fun z => z.2.2.elim (fun q => c_7 q) (fun q => lp_f c_10 q))
            exact W.iret (v := 0) hx hb hr (fun t ht hW => ⟨⟨0, wr sc 2 0 1, rfl, ⟨by rw [hcr]; exact wr_s, fun z => absurd (hcr.symm.trans z) (by decide)⟩, by rw [if_neg (show ¬ cWire κ y0 y1 y2 = 0 by rw [hcr]; decide)]; rw [← ht] at hP; exact hP⟩, hS.F ht⟩) hS.2.2 dX4_wire_47
        · refine lv_iconst (v := 0) hx hb dX4_wire_31 (by decide) ?_
          refine lv_goto (tgt := 36) hx hb dX4_wire_32 (by decide) ?_
          refine gw_put (ty := .int) (C := RX4) (T := TX4) (N := 25) hx hb hL4 tyX4 tyX4_ok nmX4 hown hK hP hS 0 0 (rDf (by decide)) rfl rfl 0 (by decide) (hts (.fieldLink RX4 65 "BlockProgramsModel" "code" "I") (by decide +kernel)) (fun _ h9 => h9) rfl (by decide +kernel) rfl rfl (Nat.le_of_ble_eq_true rfl) dX4_wire_36 (rEn cI cZ κ σ (wr sc 2 0 0) ad) (rU0s_0 _) (fun t9 i9 z9 h9 => rU0 _ _ t9 i9 h9 z9) (fun H locs hP hS => ?_)
          refine lv_aload_n hx hb dX4_wire_39 rfl (lv_at hl 0 rfl) ?_
          refine gw_get (C := RX4) (T := TX4) (N := 25) hx hb hL4 hown hK hP 0 0 (rDf (by decide)) rfl rfl 0 (by decide) (hts (.fieldLink RX4 65 "BlockProgramsModel" "code" "I") (by decide +kernel)) (fun _ h9 => h9) (v := .int 0) (by simp [wr, va_up]) dX4_wire_40 ?_
          refine lv_if_le (tgt := 48) hx hb dX4_wire_43 (by decide) (fun c_12 => ?_) (fun c_12 => ?_)
          · have c_12 : 0 ≤ 0 := (nI_leI (a := 0) (b := 0) (by omega) (by omega)).mp c_12
            have ok_j := lp_t c_2
            obtain ⟨j, hj, ej⟩ := ix_of (n := κ 0) (by omega) ok_j.1 ok_j.2
            have ecj : y0.toNatClampNeg = j := by rw [ej, nI_clamp (by omega)]
            rw [ej] at hl
            have ok_i := lp_t c_5
            obtain ⟨i, hi, ei⟩ := ix_of (n := 3) (by decide) ok_i.1 ok_i.2
            have eci : y1.toNatClampNeg = i := by rw [ei, nI_clamp (by omega)]
            rw [ei] at hl
            refine lv_aload_n hx hb dX4_wire_48 rfl (lv_at hl 0 rfl) ?_
            refine gw_get (C := RX4) (T := TX4) (N := 25) hx hb hL4 hown hK hP 0 0 (rDf (by decide)) rfl rfl 6 (by decide) (hts (.fieldLink RX4 22 "BlockProgramsModel" "wires" "[I") (by decide +kernel)) (fun _ h9 => h9) (v := .ref (ad 6 0)) rfl dX4_wire_49 ?_
            refine lv_iconst (v := 3) hx hb dX4_wire_52 (by decide) ?_
            refine lv_iload_n hx hb dX4_wire_53 rfl (lv_at hl 1 rfl) ?_
            refine lv_imul hx hb dX4_wire_54 ?_
            refine lv_toq (nI (3 * j)) (pk_mul 3 j) ?_
            refine lv_iload_n hx hb dX4_wire_55 rfl (lv_at hl 2 rfl) ?_
            refine lv_iadd hx hb dX4_wire_56 ?_
            refine lv_toq (nI (3 * j + i)) (nI_add (3 * j) i) ?_
            refine gw_iald hx hb hK hP 6 0 (rDf (by decide)) 0 rfl rfl (3 * j + i) rfl (by omega) (by decide) (v := (σ 9 (3 * j + i))) rfl dX4_wire_57 ?_
            refine lv_istore (lv' := [(4, .int ((σ 9 (3 * j + i)))), (0, .ref (ad 0 0)), (1, .int (nI j)), (2, .int (nI i)), (3, .int y2)]) hx hb dX4_wire_58 hl (by decide) rfl (fun ls hl => ?_)
            refine lv_aload_n hx hb dX4_wire_60 rfl (lv_at hl 1 rfl) ?_
            refine gw_get (C := RX4) (T := TX4) (N := 25) hx hb hL4 hown hK hP 0 0 (rDf (by decide)) rfl rfl 6 (by decide) (hts (.fieldLink RX4 22 "BlockProgramsModel" "wires" "[I") (by decide +kernel)) (fun _ h9 => h9) (v := .ref (ad 6 0)) rfl dX4_wire_61 ?_
            refine lv_iconst (v := 3) hx hb dX4_wire_64 (by decide) ?_
            refine lv_iload_n hx hb dX4_wire_65 rfl (lv_at hl 2 rfl) ?_
            refine lv_imul hx hb dX4_wire_66 ?_
            refine lv_toq (nI (3 * j)) (pk_mul 3 j) ?_
            refine lv_iload_n hx hb dX4_wire_67 rfl (lv_at hl 3 rfl) ?_
            refine lv_iadd hx hb dX4_wire_68 ?_
            refine lv_toq (nI (3 * j + i)) (nI_add (3 * j) i) ?_
            refine lv_iload_n hx hb dX4_wire_69 rfl (lv_at hl 4 rfl) ?_
            refine gw_iast hx hb hK hP hS 6 0 (rDf (by decide)) 0 rfl rfl (3 * j + i) rfl (by omega) (by decide) dX4_wire_70 ((rEn cI cZ κ (wr σ 9 (3 * j + i) y2) (wr sc 2 0 0) ad)) rUs_6 (fun t9 i9 z9 h9 => rU6 _ t9 i9 h9 z9) (fun H locs hP hS => ?_)
            refine lv_iload hx hb dX4_wire_71 (lv_at hl 0 rfl) ?_
            have hcr : cWire κ y0 y1 y2 = 0 := if_pos ⟨ok_j, ok_i, Or.inr (lp_t c_10)⟩
            exact W.iret (v := (σ 9 (3 * j + i))) hx hb hr (fun t ht hW => ⟨⟨((σ 9 (3 * j + i))), wr sc 2 0 0, rfl, ⟨by rw [hcr]; exact wr_s, fun _ => by rw [ecj, eci]⟩, by rw [if_pos hcr, ecj, eci]; rw [← ht] at hP; exact hP⟩, hS.F ht⟩) hS.2.2 dX4_wire_73
          · have c_12 : ¬ (0 ≤ 0) := fun z => c_12 ((nI_leI (a := 0) (b := 0) (by omega) (by omega)).mpr z)
            exfalso; omega

theorem iL_X4_row_X4 : ∀ w ∈ u_ws RX4 TX4 25, w ∈ wsX4_row := by decide +kernel
set_option maxHeartbeats 4000000 in
set_option maxRecDepth 100000 in
theorem k_X4_row {l : Launch} {D : va_G} {cI cZ cB cS : ClassId} {A : Nat → Prop} (κ : Nat → Nat) (σ sc : Nat → Nat → Int32) (ad : Nat → Nat → Nat) (hn : κ 0 ≤ 40) (y0 y1 y2 : Int32) : Met l yX4_row wsX4_row ({ frames := 2, cells := 0, slots := 0, locals := 43 } : Room) (gPc D cI cZ cB cS A rDm (rEn cI cZ κ σ sc ad) ad [.ref (ad 0 0), .int y0, .int y1, .int y2]) (va_Qi (fun (r : Int32) (u : Nat → Nat → Int32) => u 2 0 = nI (cRow κ σ y0 y1) ∧ (cRow κ σ y0 y1 = 0 → r = σ 10 (8 * y0.toNatClampNeg + y1.toNatClampNeg))) (fun u t => gw_P D vwCl A rDm (rEn cI cZ κ ((if cRow κ σ y0 y1 = 0 then wr σ 10 (8 * y0.toNatClampNeg + y1.toNatClampNeg) y2 else σ)) u ad) ad t.heap) A) 0 0 A := by
  refine Met.ofW (cc := cX4_row) (maxL := 5) (ret := (some .int)) (by decide) rfl ?_
  intro p e s m args below meth c s₁ B hml hv
  obtain ⟨rfl, hP, hE, hA⟩ := hv
  have hx := B.exec
  have hb := B.bytes
  have hr := B.returns
  have hts := atoms_spec (ws := wsX4_row) B.pre
  have hown : s.vm.findClass RX4 = some m.cls := findClass_of_methodNamed B.named
  have hlocks := B.notSynchronized
  have hK := hE.1
  have hS : va_S A s.heap s.heap [] := va_S.rf
  have hL4 := fun w (hw : w ∈ u_ws RX4 TX4 25) => hts w (iL_X4_row_X4 w hw)
  have hl := lv_entry ([.ref (ad 0 0), .int y0, .int y1, .int y2]) (n := 5) (Nat.le_of_ble_eq_true rfl)
  rw [lg_entry_eq]
  generalize (lg_sl ([.ref (ad 0 0), .int y0, .int y1, .int y2]) ++ List.replicate (5 - (lg_sl ([.ref (ad 0 0), .int y0, .int y1, .int y2])).length) Slot.unset).toArray = ls at hl ⊢
  have hl : lv_has ls 5 [(0, .ref (ad 0 0)), (1, .int y0), (2, .int y1), (3, .int y2)] := hl
  refine lv_aload_n hx hb dX4_row_0 rfl (lv_at hl 0 rfl) ?_
  refine lv_aload_n hx hb dX4_row_1 rfl (lv_at hl 0 rfl) ?_
  refine lv_iload_n hx hb dX4_row_2 rfl (lv_at hl 1 rfl) ?_
  refine va_calli (va_runV (As := [.int y0]) (rest := [.ref (ad 0 0)]) ⟨hx, hb, hml, hown, hts⟩ (k_X4_isBlock (l := l) (D := D) (cI := cI) (cZ := cZ) (cB := cB) (cS := cS) (A := A) κ σ sc ad hn y0) (cwV 1 hts gX4_row_X4_isBlock rfl rfl rfl (by decide +kernel) ⟨Nat.le_of_ble_eq_true rfl, Nat.le_of_ble_eq_true rfl⟩) (gPreV hE hA hS hP (gw_recv hK hP 0 0 (rDf (by decide)) rfl rfl)) rfl rfl hl.1 rfl (lv_room (Nat.le_of_ble_eq_true rfl)) dX4_row_3 ⟨Nat.le_of_ble_eq_true rfl, Nat.le_of_ble_eq_true rfl⟩) hS (fun q _ h9 => h9) (fun q h9 => h9) (fun r_1 u9 t9 H locs ht9 hvm9 hw_r_1 hB9 hz9 hk9 hS => ?_)
  have hP : gw_P D vwCl A rDm (rEn cI cZ κ σ sc ad) ad H := by rw [← ht9]; exact hB9
  refine lv_toq ((if okI (κ 0) y0 then 1 else 0)) hw_r_1 ?_
  refine lv_if_eq (tgt := 19) hx hb dX4_row_6 (by decide) (fun c_2 => ?_) (fun c_2 => ?_)
  · refine lv_iconst (v := 1) hx hb dX4_row_19 (by decide) ?_
    refine lv_goto (tgt := 39) hx hb dX4_row_20 (by decide) ?_
    refine gw_put (ty := .int) (C := RX4) (T := TX4) (N := 25) hx hb hL4 tyX4 tyX4_ok nmX4 hown hK hP hS 0 0 (rDf (by decide)) rfl rfl 0 (by decide) (hts (.fieldLink RX4 65 "BlockProgramsModel" "code" "I") (by decide +kernel)) (fun _ h9 => h9) rfl (by decide +kernel) rfl rfl (Nat.le_of_ble_eq_true rfl) dX4_row_39 (rEn cI cZ κ σ (wr sc 2 0 1) ad) (rU0s_0 _) (fun t9 i9 z9 h9 => rU0 _ _ t9 i9 h9 z9) (fun H locs hP hS => ?_)
    refine lv_aload_n hx hb dX4_row_42 rfl (lv_at hl 0 rfl) ?_
    refine gw_get (C := RX4) (T := TX4) (N := 25) hx hb hL4 hown hK hP 0 0 (rDf (by decide)) rfl rfl 0 (by decide) (hts (.fieldLink RX4 65 "BlockProgramsModel" "code" "I") (by decide +kernel)) (fun _ h9 => h9) (v := .int 1) (by simp [wr, va_up]) dX4_row_43 ?_
    refine lv_if_le (tgt := 51) hx hb dX4_row_46 (by decide) (fun c_3 => ?_) (fun c_3 => ?_)
    · have c_3 : 1 ≤ 0 := (nI_leI (a := 1) (b := 0) (by omega) (by omega)).mp c_3
      exfalso; omega
    · have c_3 : ¬ (1 ≤ 0) := fun z => c_3 ((nI_leI (a := 1) (b := 0) (by omega) (by omega)).mpr z)
      refine lv_iconst (v := 0) hx hb dX4_row_49 (by decide) ?_
      have hcr : cRow κ σ y0 y1 = 1 := if_neg (fun z => lp_f c_2 z.1)
      exact W.iret (v := 0) hx hb hr (fun t ht hW => ⟨⟨0, wr sc 2 0 1, rfl, ⟨by rw [hcr]; exact wr_s, fun z => absurd (hcr.symm.trans z) (by decide)⟩, by rw [if_neg (show ¬ cRow κ σ y0 y1 = 0 by rw [hcr]; decide)]; rw [← ht] at hP; exact hP⟩, hS.F ht⟩) hS.2.2 dX4_row_50
  · refine lv_iload_n hx hb dX4_row_9 rfl (lv_at hl 2 rfl) ?_
    refine lv_iconst (v := 0) hx hb dX4_row_10 (by decide) ?_
    refine lv_bipush (v := 7) hx hb dX4_row_11 (by decide) ?_
    refine va_calli (va_runS (As := [.int y1, .int 0, .int 7]) (rest := [.ref (ad 0 0)]) ⟨hx, hb, hml, hown, hts⟩ (k_X4_in (l := l) (D := D) (cI := cI) (cZ := cZ) (cB := cB) (cS := cS) (A := A) rDm (rEn cI cZ κ σ sc ad) ad y1 0 7) (va_cwS 3 hts gX4_row_X4_in rfl rfl rfl (by decide +kernel) ⟨Nat.le_of_ble_eq_true rfl, Nat.le_of_ble_eq_true rfl⟩) (gPreS hE hA hS hP) rfl rfl hl.1 rfl (lv_room (Nat.le_of_ble_eq_true rfl)) dX4_row_13 ⟨Nat.le_of_ble_eq_true rfl, Nat.le_of_ble_eq_true rfl⟩) hS (fun q _ h9 => h9) (fun q h9 => h9) (fun r_4 u9 t9 H locs ht9 hvm9 hw_r_4 hB9 hz9 hk9 hS => ?_)
    have hP : gw_P D vwCl A rDm (rEn cI cZ κ σ sc ad) ad H := by rw [← ht9]; exact hB9
    refine lv_toq (if okI 8 y1 then 1 else 0) (hw_r_4.trans (in_i (by omega) (by decide))) ?_
    refine lv_if_ne (tgt := 23) hx hb dX4_row_16 (by decide) (fun c_5 => ?_) (fun c_5 => ?_)
    · have ok_j := lp_t c_2
      obtain ⟨j, hj, ej⟩ := ix_of (n := κ 0) (by omega) ok_j.1 ok_j.2
      have ecj : y0.toNatClampNeg = j := by rw [ej, nI_clamp (by omega)]
      rw [ej] at hl
      refine lv_aload_n hx hb dX4_row_23 rfl (lv_at hl 0 rfl) ?_
      refine gw_get (C := RX4) (T := TX4) (N := 25) hx hb hL4 hown hK hP 0 0 (rDf (by decide)) rfl rfl 2 (by decide) (hts (.fieldLink RX4 7 "BlockProgramsModel" "kinds" "[I") (by decide +kernel)) (fun _ h9 => h9) (v := .ref (ad 2 0)) rfl dX4_row_24 ?_
      refine lv_iload_n hx hb dX4_row_27 rfl (lv_at hl 1 rfl) ?_
      refine gw_iald hx hb hK hP 2 0 (rDf (by decide)) 0 rfl rfl (j) rfl (by omega) (by decide) (v := (σ 0 j)) rfl dX4_row_28 ?_
      refine lv_bipush (v := 15) hx hb dX4_row_29 (by decide) ?_
      refine lv_icmp_eq (tgt := 38) hx hb dX4_row_31 (by decide) (fun c_6 => ?_) (fun c_6 => ?_)
      · refine lv_iconst (v := 0) hx hb dX4_row_38 (by decide) ?_
        refine gw_put (ty := .int) (C := RX4) (T := TX4) (N := 25) hx hb hL4 tyX4 tyX4_ok nmX4 hown hK hP hS 0 0 (rDf (by decide)) rfl rfl 0 (by decide) (hts (.fieldLink RX4 65 "BlockProgramsModel" "code" "I") (by decide +kernel)) (fun _ h9 => h9) rfl (by decide +kernel) rfl rfl (Nat.le_of_ble_eq_true rfl) dX4_row_39 (rEn cI cZ κ σ (wr sc 2 0 0) ad) (rU0s_0 _) (fun t9 i9 z9 h9 => rU0 _ _ t9 i9 h9 z9) (fun H locs hP hS => ?_)
        refine lv_aload_n hx hb dX4_row_42 rfl (lv_at hl 0 rfl) ?_
        refine gw_get (C := RX4) (T := TX4) (N := 25) hx hb hL4 hown hK hP 0 0 (rDf (by decide)) rfl rfl 0 (by decide) (hts (.fieldLink RX4 65 "BlockProgramsModel" "code" "I") (by decide +kernel)) (fun _ h9 => h9) (v := .int 0) (by simp [wr, va_up]) dX4_row_43 ?_
        refine lv_if_le (tgt := 51) hx hb dX4_row_46 (by decide) (fun c_7 => ?_) (fun c_7 => ?_)
        · have c_7 : 0 ≤ 0 := (nI_leI (a := 0) (b := 0) (by omega) (by omega)).mp c_7
          have ok_i := lp_t c_5
          obtain ⟨i, hi, ei⟩ := ix_of (n := 8) (by decide) ok_i.1 ok_i.2
          have eci : y1.toNatClampNeg = i := by rw [ei, nI_clamp (by omega)]
          rw [ei] at hl
          refine lv_aload_n hx hb dX4_row_51 rfl (lv_at hl 0 rfl) ?_
          refine gw_get (C := RX4) (T := TX4) (N := 25) hx hb hL4 hown hK hP 0 0 (rDf (by decide)) rfl rfl 10 (by decide) (hts (.fieldLink RX4 34 "BlockProgramsModel" "rows" "[I") (by decide +kernel)) (fun _ h9 => h9) (v := .ref (ad 10 0)) rfl dX4_row_52 ?_
          refine lv_bipush (v := 8) hx hb dX4_row_55 (by decide) ?_
          refine lv_iload_n hx hb dX4_row_57 rfl (lv_at hl 1 rfl) ?_
          refine lv_imul hx hb dX4_row_58 ?_
          refine lv_toq (nI (8 * j)) (pk_mul 8 j) ?_
          refine lv_iload_n hx hb dX4_row_59 rfl (lv_at hl 2 rfl) ?_
          refine lv_iadd hx hb dX4_row_60 ?_
          refine lv_toq (nI (8 * j + i)) (nI_add (8 * j) i) ?_
          refine gw_iald hx hb hK hP 10 0 (rDf (by decide)) 0 rfl rfl (8 * j + i) rfl (by omega) (by decide) (v := (σ 10 (8 * j + i))) rfl dX4_row_61 ?_
          refine lv_istore (lv' := [(4, .int ((σ 10 (8 * j + i)))), (0, .ref (ad 0 0)), (1, .int (nI j)), (2, .int (nI i)), (3, .int y2)]) hx hb dX4_row_62 hl (by decide) rfl (fun ls hl => ?_)
          refine lv_aload_n hx hb dX4_row_64 rfl (lv_at hl 1 rfl) ?_
          refine gw_get (C := RX4) (T := TX4) (N := 25) hx hb hL4 hown hK hP 0 0 (rDf (by decide)) rfl rfl 10 (by decide) (hts (.fieldLink RX4 34 "BlockProgramsModel" "rows" "[I") (by decide +kernel)) (fun _ h9 => h9) (v := .ref (ad 10 0)) rfl dX4_row_65 ?_
          refine lv_bipush (v := 8) hx hb dX4_row_68 (by decide) ?_
          refine lv_iload_n hx hb dX4_row_70 rfl (lv_at hl 2 rfl) ?_
          refine lv_imul hx hb dX4_row_71 ?_
          refine lv_toq (nI (8 * j)) (pk_mul 8 j) ?_
          refine lv_iload_n hx hb dX4_row_72 rfl (lv_at hl 3 rfl) ?_
          refine lv_iadd hx hb dX4_row_73 ?_
          refine lv_toq (nI (8 * j + i)) (nI_add (8 * j) i) ?_
          refine lv_iload_n hx hb dX4_row_74 rfl (lv_at hl 4 rfl) ?_
          refine gw_iast hx hb hK hP hS 10 0 (rDf (by decide)) 0 rfl rfl (8 * j + i) rfl (by omega) (by decide) dX4_row_75 ((rEn cI cZ κ (wr σ 10 (8 * j + i) y2) (wr sc 2 0 0) ad)) rUs_10 (fun t9 i9 z9 h9 => rU10 _ t9 i9 h9 z9) (fun H locs hP hS => ?_)
          refine lv_iload hx hb dX4_row_76 (lv_at hl 0 rfl) ?_
          have hcr : cRow κ σ y0 y1 = 0 := (by unfold cRow; rw [if_pos ⟨ok_j, ok_i⟩, ecj]; exact if_pos c_6)
          exact W.iret (v := (σ 10 (8 * j + i))) hx hb hr (fun t ht hW => ⟨⟨((σ 10 (8 * j + i))), wr sc 2 0 0, rfl, ⟨by rw [hcr]; exact wr_s, fun _ => by rw [ecj, eci]⟩, by rw [if_pos hcr, ecj, eci]; rw [← ht] at hP; exact hP⟩, hS.F ht⟩) hS.2.2 dX4_row_78
        · have c_7 : ¬ (0 ≤ 0) := fun z => c_7 ((nI_leI (a := 0) (b := 0) (by omega) (by omega)).mpr z)
          exfalso; omega
      · refine lv_iconst (v := 2) hx hb dX4_row_34 (by decide) ?_
        refine lv_goto (tgt := 39) hx hb dX4_row_35 (by decide) ?_
        refine gw_put (ty := .int) (C := RX4) (T := TX4) (N := 25) hx hb hL4 tyX4 tyX4_ok nmX4 hown hK hP hS 0 0 (rDf (by decide)) rfl rfl 0 (by decide) (hts (.fieldLink RX4 65 "BlockProgramsModel" "code" "I") (by decide +kernel)) (fun _ h9 => h9) rfl (by decide +kernel) rfl rfl (Nat.le_of_ble_eq_true rfl) dX4_row_39 (rEn cI cZ κ σ (wr sc 2 0 2) ad) (rU0s_0 _) (fun t9 i9 z9 h9 => rU0 _ _ t9 i9 h9 z9) (fun H locs hP hS => ?_)
        refine lv_aload_n hx hb dX4_row_42 rfl (lv_at hl 0 rfl) ?_
        refine gw_get (C := RX4) (T := TX4) (N := 25) hx hb hL4 hown hK hP 0 0 (rDf (by decide)) rfl rfl 0 (by decide) (hts (.fieldLink RX4 65 "BlockProgramsModel" "code" "I") (by decide +kernel)) (fun _ h9 => h9) (v := .int 2) (by simp [wr, va_up]) dX4_row_43 ?_
        refine lv_if_le (tgt := 51) hx hb dX4_row_46 (by decide) (fun c_8 => ?_) (fun c_8 => ?_)
        · have c_8 : 2 ≤ 0 := (nI_leI (a := 2) (b := 0) (by omega) (by omega)).mp c_8
          exfalso; omega
        · have c_8 : ¬ (2 ≤ 0) := fun z => c_8 ((nI_leI (a := 2) (b := 0) (by omega) (by omega)).mpr z)
          refine lv_iconst (v := 0) hx hb dX4_row_49 (by decide) ?_
          have hcr : cRow κ σ y0 y1 = 2 := (by unfold cRow; rw [if_pos ⟨ok_j, lp_t c_5⟩, ecj]; exact if_neg c_6)
          exact W.iret (v := 0) hx hb hr (fun t ht hW => ⟨⟨0, wr sc 2 0 2, rfl, ⟨by rw [hcr]; exact wr_s, fun z => absurd (hcr.symm.trans z) (by decide)⟩, by rw [if_neg (show ¬ cRow κ σ y0 y1 = 0 by rw [hcr]; decide)]; rw [← ht] at hP; exact hP⟩, hS.F ht⟩) hS.2.2 dX4_row_50
    · refine lv_iconst (v := 1) hx hb dX4_row_19 (by decide) ?_
      refine lv_goto (tgt := 39) hx hb dX4_row_20 (by decide) ?_
      refine gw_put (ty := .int) (C := RX4) (T := TX4) (N := 25) hx hb hL4 tyX4 tyX4_ok nmX4 hown hK hP hS 0 0 (rDf (by decide)) rfl rfl 0 (by decide) (hts (.fieldLink RX4 65 "BlockProgramsModel" "code" "I") (by decide +kernel)) (fun _ h9 => h9) rfl (by decide +kernel) rfl rfl (Nat.le_of_ble_eq_true rfl) dX4_row_39 (rEn cI cZ κ σ (wr sc 2 0 1) ad) (rU0s_0 _) (fun t9 i9 z9 h9 => rU0 _ _ t9 i9 h9 z9) (fun H locs hP hS => ?_)
      refine lv_aload_n hx hb dX4_row_42 rfl (lv_at hl 0 rfl) ?_
      refine gw_get (C := RX4) (T := TX4) (N := 25) hx hb hL4 hown hK hP 0 0 (rDf (by decide)) rfl rfl 0 (by decide) (hts (.fieldLink RX4 65 "BlockProgramsModel" "code" "I") (by decide +kernel)) (fun _ h9 => h9) (v := .int 1) (by simp [wr, va_up]) dX4_row_43 ?_
      refine lv_if_le (tgt := 51) hx hb dX4_row_46 (by decide) (fun c_9 => ?_) (fun c_9 => ?_)
      · have c_9 : 1 ≤ 0 := (nI_leI (a := 1) (b := 0) (by omega) (by omega)).mp c_9
        exfalso; omega
      · have c_9 : ¬ (1 ≤ 0) := fun z => c_9 ((nI_leI (a := 1) (b := 0) (by omega) (by omega)).mpr z)
        refine lv_iconst (v := 0) hx hb dX4_row_49 (by decide) ?_
        have hcr : cRow κ σ y0 y1 = 1 := if_neg (fun z => lp_f c_5 z.2)
        exact W.iret (v := 0) hx hb hr (fun t ht hW => ⟨⟨0, wr sc 2 0 1, rfl, ⟨by rw [hcr]; exact wr_s, fun z => absurd (hcr.symm.trans z) (by decide)⟩, by rw [if_neg (show ¬ cRow κ σ y0 y1 = 0 by rw [hcr]; decide)]; rw [← ht] at hP; exact hP⟩, hS.F ht⟩) hS.2.2 dX4_row_50

