theorem iL_X4_input_X4 : ∀ w ∈ u_ws RX4 TX4 25, w ∈ wsX4_input := by decide +kernel
set_option maxHeartbeats 4000000 in
set_option maxRecDepth 100000 in
theorem k_X4_input {l : Launch} {D : va_G} {cI cZ cB cS : ClassId} {A : Nat → Prop} (κ : Nat → Nat) (σ sc : Nat → Nat → Int32) (ad : Nat → Nat → Nat) (b k : Nat) (hb0 : b < κ 0) (hn : κ 0 ≤ 40) (hk0 : k < 26) (ek : σ 0 b = nI k) (i : Nat) (hi : i < 3) (hw : okW κ σ b i) : Met l yX4_input wsX4_input ({ frames := 2, cells := 0, slots := 0, locals := 42 } : Room) (gPc D cI cZ cB cS A rDm (rEn cI cZ κ σ sc ad) ad [.ref (ad 0 0), .int (nI b), .int (nI i)]) (va_Qi (fun (r : Int32) (_ : Unit) => r = rIn κ σ b k i) (fun _ t => gw_P D vwCl A rDm (rEn cI cZ κ σ sc ad) ad t.heap) A) 0 0 A := by
  refine Met.ofW (cc := cX4_input) (maxL := 4) (ret := (some .int)) (by decide) rfl ?_
  intro p e s m args below meth c s₁ B hml hv
  obtain ⟨rfl, hP, hE, hA⟩ := hv
  have hx := B.exec
  have hb := B.bytes
  have hr := B.returns
  have hts := atoms_spec (ws := wsX4_input) B.pre
  have hown : s.vm.findClass RX4 = some m.cls := findClass_of_methodNamed B.named
  have hlocks := B.notSynchronized
  have hK := hE.1
  have hS : va_S A s.heap s.heap [] := va_S.rf
  have hL4 := fun w (hw : w ∈ u_ws RX4 TX4 25) => hts w (iL_X4_input_X4 w hw)
  have hl := lv_entry ([.ref (ad 0 0), .int (nI b), .int (nI i)]) (n := 4) (Nat.le_of_ble_eq_true rfl)
  rw [lg_entry_eq]
  generalize (lg_sl ([.ref (ad 0 0), .int (nI b), .int (nI i)]) ++ List.replicate (4 - (lg_sl ([.ref (ad 0 0), .int (nI b), .int (nI i)])).length) Slot.unset).toArray = ls at hl ⊢
  have hl : lv_has ls 4 [(0, .ref (ad 0 0)), (1, .int (nI b)), (2, .int (nI i))] := hl
  have hn3 := nmd_le k
  refine lv_aload_n hx hb dX4_input_0 rfl (lv_at hl 0 rfl) ?_
  refine gw_get (C := RX4) (T := TX4) (N := 25) hx hb hL4 hown hK hP 0 0 (rDf (by decide)) rfl rfl 6 (by decide) (hts (.fieldLink RX4 22 "BlockProgramsModel" "wires" "[I") (by decide +kernel)) (fun _ h9 => h9) (v := .ref (ad 6 0)) rfl dX4_input_1 ?_
  refine lv_iconst (v := 3) hx hb dX4_input_4 (by decide) ?_
  refine lv_iload_n hx hb dX4_input_5 rfl (lv_at hl 1 rfl) ?_
  refine lv_imul hx hb dX4_input_6 ?_
  refine lv_toq (nI (3 * b)) (pk_mul 3 b) ?_
  refine lv_iload_n hx hb dX4_input_7 rfl (lv_at hl 2 rfl) ?_
  refine lv_iadd hx hb dX4_input_8 ?_
  refine lv_toq (nI (3 * b + i)) (nI_add (3 * b) i) ?_
  refine gw_iald hx hb hK hP 6 0 (rDf (by decide)) 0 rfl rfl (3 * b + i) rfl (by omega) (by decide) (v := (σ 9 (3 * b + i))) rfl dX4_input_9 ?_
  refine lv_istore_n (lv' := [(3, .int ((σ 9 (3 * b + i)))), (0, .ref (ad 0 0)), (1, .int (nI b)), (2, .int (nI i))]) hx hb dX4_input_10 rfl hl (by decide) rfl (fun ls hl => ?_)
  refine lv_iload_n hx hb dX4_input_11 rfl (lv_at hl 3 rfl) ?_
  refine lv_aload_n hx hb dX4_input_12 rfl (lv_at hl 1 rfl) ?_
  refine gw_get (C := RX4) (T := TX4) (N := 25) hx hb hL4 hown hK hP 0 0 (rDf (by decide)) rfl rfl 2 (by decide) (hts (.fieldLink RX4 7 "BlockProgramsModel" "kinds" "[I") (by decide +kernel)) (fun _ h9 => h9) (v := .ref (ad 2 0)) rfl dX4_input_13 ?_
  refine lv_iload_n hx hb dX4_input_16 rfl (lv_at hl 2 rfl) ?_
  refine gw_iald hx hb hK hP 2 0 (rDf (by decide)) 0 rfl rfl (b) rfl (by omega) (by decide) (v := nI k) ek dX4_input_17 ?_
  refine va_calli (va_runS (As := [.int (nI k)]) (rest := [.int (nI i)]) ⟨hx, hb, hml, hown, hts⟩ (k_X4_inputsOf (l := l) (D := D) (cI := cI) (cZ := cZ) (cB := cB) (cS := cS) (A := A) rDm (rEn cI cZ κ σ sc ad) ad k hk0) (va_cwS 1 hts gX4_input_X4_inputsOf rfl rfl rfl (by decide +kernel) ⟨Nat.le_of_ble_eq_true rfl, Nat.le_of_ble_eq_true rfl⟩) (gPreS hE hA hS hP) rfl rfl hl.1 rfl (lv_room (Nat.le_of_ble_eq_true rfl)) dX4_input_18 ⟨Nat.le_of_ble_eq_true rfl, Nat.le_of_ble_eq_true rfl⟩) hS (fun q _ h9 => h9) (fun q h9 => h9) (fun r_1 u9 t9 H locs ht9 hvm9 hw_r_1 hB9 hz9 hk9 hS => ?_)
  have hP : gw_P D vwCl A rDm (rEn cI cZ κ σ sc ad) ad H := by rw [← ht9]; exact hB9
  refine lv_toq (nI (nmd k)) hw_r_1 ?_
  refine lv_icmp_ge (tgt := 38) hx hb dX4_input_21 (by decide) (fun c_2 => ?_) (fun c_2 => ?_)
  · have c_2 : nmd k ≤ i := (nI_leI (a := nmd k) (b := i) (by omega) (by omega)).mp c_2
    refine lv_iconst (v := 0) hx hb dX4_input_38 (by decide) ?_
    exact W.iret (v := 0) hx hb hr (fun t ht hW => ⟨⟨0, (), rfl, (by unfold rIn; rw [if_neg (by omega)]), by rw [← ht] at hP; exact hP⟩, hS.F ht⟩) hS.2.2 dX4_input_39
  · have c_2 : ¬ (nmd k ≤ i) := fun z => c_2 ((nI_leI (a := nmd k) (b := i) (by omega) (by omega)).mpr z)
    refine lv_iload_n hx hb dX4_input_24 rfl (lv_at hl 0 rfl) ?_
    refine lv_iconst (v := -1) hx hb dX4_input_25 (by decide) ?_
    refine lv_icmp_eq (tgt := 38) hx hb dX4_input_26 (by decide) (fun c_3 => ?_) (fun c_3 => ?_)
    · refine lv_iconst (v := 0) hx hb dX4_input_38 (by decide) ?_
      exact W.iret (v := 0) hx hb hr (fun t ht hW => ⟨⟨0, (), rfl, (by unfold rIn rkX; rw [if_pos (by omega), c_3, outV_no]), by rw [← ht] at hP; exact hP⟩, hS.F ht⟩) hS.2.2 dX4_input_39
    · refine lv_aload_n hx hb dX4_input_29 rfl (lv_at hl 1 rfl) ?_
      refine gw_get (C := RX4) (T := TX4) (N := 25) hx hb hL4 hown hK hP 0 0 (rDf (by decide)) rfl rfl 7 (by decide) (hts (.fieldLink RX4 25 "BlockProgramsModel" "outs" "[I") (by decide +kernel)) (fun _ h9 => h9) (v := .ref (ad 7 0)) rfl dX4_input_30 ?_
      refine lv_iload_n hx hb dX4_input_33 rfl (lv_at hl 0 rfl) ?_
      obtain ⟨j, hj, ej⟩ := ix_of (n := κ 0) (by omega) (hw.resolve_left c_3).1 (hw.resolve_left c_3).2
      refine lv_toq (nI j) ej ?_
      refine gw_iald hx hb hK hP 7 0 (rDf (by decide)) 0 rfl rfl (j) rfl (by omega) (by decide) (v := (σ 4 j)) rfl dX4_input_34 ?_
      refine lv_goto (tgt := 39) hx hb dX4_input_35 (by decide) ?_
      exact W.iret (v := (σ 4 j)) hx hb hr (fun t ht hW => ⟨⟨((σ 4 j)), (), rfl, (by unfold rIn rkX; rw [if_pos (by omega), ej, outV_at hj (by omega)]), by rw [← ht] at hP; exact hP⟩, hS.F ht⟩) hS.2.2 dX4_input_39

theorem iL_X4_clock_X4 : ∀ w ∈ u_ws RX4 TX4 25, w ∈ wsX4_clock := by decide +kernel
set_option maxHeartbeats 4000000 in
set_option maxRecDepth 100000 in
theorem k_X4_clock {l : Launch} {D : va_G} {cI cZ cB cS : ClassId} {A : Nat → Prop} (κ : Nat → Nat) (σ sc : Nat → Nat → Int32) (ad : Nat → Nat → Nat) (b : Nat) (hb0 : b < κ 0) (hn : κ 0 ≤ 40) (h3 : κ 3 ≤ 3000) : Met l yX4_clock wsX4_clock ({ frames := 0, cells := 0, slots := 0, locals := 0 } : Room) (gPc D cI cZ cB cS A rDm (rEn cI cZ κ σ sc ad) ad [.ref (ad 0 0), .int (nI b)]) (va_Qi (fun (r : Int32) (_ : Unit) => r = if f_clock (σ 1 b) (σ 2 b) (nI (κ 3 % 1440)) then 1 else 0) (fun _ t => gw_P D vwCl A rDm (rEn cI cZ κ σ sc ad) ad t.heap) A) 0 0 A := by
  refine Met.ofW (cc := cX4_clock) (maxL := 3) (ret := (some .boolean)) (by decide) rfl ?_
  intro p e s m args below meth c s₁ B hml hv
  obtain ⟨rfl, hP, hE, hA⟩ := hv
  have hx := B.exec
  have hb := B.bytes
  have hr := B.returns
  have hts := atoms_spec (ws := wsX4_clock) B.pre
  have hown : s.vm.findClass RX4 = some m.cls := findClass_of_methodNamed B.named
  have hlocks := B.notSynchronized
  have hK := hE.1
  have hS : va_S A s.heap s.heap [] := va_S.rf
  have hL4 := fun w (hw : w ∈ u_ws RX4 TX4 25) => hts w (iL_X4_clock_X4 w hw)
  have hl := lv_entry ([.ref (ad 0 0), .int (nI b)]) (n := 3) (Nat.le_of_ble_eq_true rfl)
  rw [lg_entry_eq]
  generalize (lg_sl ([.ref (ad 0 0), .int (nI b)]) ++ List.replicate (3 - (lg_sl ([.ref (ad 0 0), .int (nI b)])).length) Slot.unset).toArray = ls at hl ⊢
  have hl : lv_has ls 3 [(0, .ref (ad 0 0)), (1, .int (nI b))] := hl
  refine lv_aload_n hx hb dX4_clock_0 rfl (lv_at hl 0 rfl) ?_
  refine gw_get (C := RX4) (T := TX4) (N := 25) hx hb hL4 hown hK hP 0 0 (rDf (by decide)) rfl rfl 14 (by decide) (hts (.fieldLink RX4 100 "BlockProgramsModel" "time" "I") (by decide +kernel)) (fun _ h9 => h9) (v := .int (nI (κ 3))) rfl dX4_clock_1 ?_
  refine lv_sipush (v := 1440) hx hb dX4_clock_4 (by decide) ?_
  refine lv_irem hx hb dX4_clock_7 (by decide) ?_
  refine lv_toq (nI ((κ 3) % 1440)) (pk_rem (a := κ 3) (d := 1440) (by omega) (by decide) (by decide)) ?_
  refine lv_istore_n (lv' := [(2, .int (nI ((κ 3) % 1440))), (0, .ref (ad 0 0)), (1, .int (nI b))]) hx hb dX4_clock_8 rfl hl (by decide) rfl (fun ls hl => ?_)
  refine lv_aload_n hx hb dX4_clock_9 rfl (lv_at hl 1 rfl) ?_
  refine gw_get (C := RX4) (T := TX4) (N := 25) hx hb hL4 hown hK hP 0 0 (rDf (by decide)) rfl rfl 3 (by decide) (hts (.fieldLink RX4 13 "BlockProgramsModel" "ps" "[I") (by decide +kernel)) (fun _ h9 => h9) (v := .ref (ad 3 0)) rfl dX4_clock_10 ?_
  refine lv_iload_n hx hb dX4_clock_13 rfl (lv_at hl 2 rfl) ?_
  refine gw_iald hx hb hK hP 3 0 (rDf (by decide)) 0 rfl rfl (b) rfl (by omega) (by decide) (v := (σ 1 b)) rfl dX4_clock_14 ?_
  refine lv_aload_n hx hb dX4_clock_15 rfl (lv_at hl 1 rfl) ?_
  refine gw_get (C := RX4) (T := TX4) (N := 25) hx hb hL4 hown hK hP 0 0 (rDf (by decide)) rfl rfl 4 (by decide) (hts (.fieldLink RX4 16 "BlockProgramsModel" "qs" "[I") (by decide +kernel)) (fun _ h9 => h9) (v := .ref (ad 4 0)) rfl dX4_clock_16 ?_
  refine lv_iload_n hx hb dX4_clock_19 rfl (lv_at hl 2 rfl) ?_
  refine gw_iald hx hb hK hP 4 0 (rDf (by decide)) 0 rfl rfl (b) rfl (by omega) (by decide) (v := (σ 2 b)) rfl dX4_clock_20 ?_
  refine lv_icmp_le (tgt := 52) hx hb dX4_clock_21 (by decide) (fun c_1 => ?_) (fun c_1 => ?_)
  · refine lv_iload_n hx hb dX4_clock_52 rfl (lv_at hl 0 rfl) ?_
    refine lv_aload_n hx hb dX4_clock_53 rfl (lv_at hl 1 rfl) ?_
    refine gw_get (C := RX4) (T := TX4) (N := 25) hx hb hL4 hown hK hP 0 0 (rDf (by decide)) rfl rfl 3 (by decide) (hts (.fieldLink RX4 13 "BlockProgramsModel" "ps" "[I") (by decide +kernel)) (fun _ h9 => h9) (v := .ref (ad 3 0)) rfl dX4_clock_54 ?_
    refine lv_iload_n hx hb dX4_clock_57 rfl (lv_at hl 2 rfl) ?_
    refine gw_iald hx hb hK hP 3 0 (rDf (by decide)) 0 rfl rfl (b) rfl (by omega) (by decide) (v := (σ 1 b)) rfl dX4_clock_58 ?_
    refine lv_icmp_lt (tgt := 76) hx hb dX4_clock_59 (by decide) (fun c_2 => ?_) (fun c_2 => ?_)
    · refine lv_iconst (v := 0) hx hb dX4_clock_76 (by decide) ?_
      exact W.zret (v := 0) (ty := .boolean) hx hb hr rfl (fun t ht hW => ⟨⟨0, (), rfl, (by simp only [f_clock, Int32.lt_iff_toInt_lt, Int32.le_iff_toInt_le] at c_1 c_2 ⊢; split <;> simp <;> omega), by rw [← ht] at hP; exact hP⟩, hS.F ht⟩) hS.2.2 dX4_clock_77
    · refine lv_iload_n hx hb dX4_clock_62 rfl (lv_at hl 0 rfl) ?_
      refine lv_aload_n hx hb dX4_clock_63 rfl (lv_at hl 1 rfl) ?_
      refine gw_get (C := RX4) (T := TX4) (N := 25) hx hb hL4 hown hK hP 0 0 (rDf (by decide)) rfl rfl 4 (by decide) (hts (.fieldLink RX4 16 "BlockProgramsModel" "qs" "[I") (by decide +kernel)) (fun _ h9 => h9) (v := .ref (ad 4 0)) rfl dX4_clock_64 ?_
      refine lv_iload_n hx hb dX4_clock_67 rfl (lv_at hl 2 rfl) ?_
      refine gw_iald hx hb hK hP 4 0 (rDf (by decide)) 0 rfl rfl (b) rfl (by omega) (by decide) (v := (σ 2 b)) rfl dX4_clock_68 ?_
      refine lv_icmp_ge (tgt := 76) hx hb dX4_clock_69 (by decide) (fun c_3 => ?_) (fun c_3 => ?_)
      · refine lv_iconst (v := 0) hx hb dX4_clock_76 (by decide) ?_
        exact W.zret (v := 0) (ty := .boolean) hx hb hr rfl (fun t ht hW => ⟨⟨0, (), rfl, (by simp only [f_clock, Int32.lt_iff_toInt_lt, Int32.le_iff_toInt_le] at c_1 c_2 c_3 ⊢; split <;> simp <;> omega), by rw [← ht] at hP; exact hP⟩, hS.F ht⟩) hS.2.2 dX4_clock_77
      · refine lv_iconst (v := 1) hx hb dX4_clock_72 (by decide) ?_
        refine lv_goto (tgt := 77) hx hb dX4_clock_73 (by decide) ?_
        exact W.zret (v := 1) (ty := .boolean) hx hb hr rfl (fun t ht hW => ⟨⟨1, (), rfl, (by simp only [f_clock, Int32.lt_iff_toInt_lt, Int32.le_iff_toInt_le] at c_1 c_2 c_3 ⊢; split <;> simp <;> omega), by rw [← ht] at hP; exact hP⟩, hS.F ht⟩) hS.2.2 dX4_clock_77
  · refine lv_iload_n hx hb dX4_clock_24 rfl (lv_at hl 0 rfl) ?_
    refine lv_aload_n hx hb dX4_clock_25 rfl (lv_at hl 1 rfl) ?_
    refine gw_get (C := RX4) (T := TX4) (N := 25) hx hb hL4 hown hK hP 0 0 (rDf (by decide)) rfl rfl 3 (by decide) (hts (.fieldLink RX4 13 "BlockProgramsModel" "ps" "[I") (by decide +kernel)) (fun _ h9 => h9) (v := .ref (ad 3 0)) rfl dX4_clock_26 ?_
    refine lv_iload_n hx hb dX4_clock_29 rfl (lv_at hl 2 rfl) ?_
    refine gw_iald hx hb hK hP 3 0 (rDf (by decide)) 0 rfl rfl (b) rfl (by omega) (by decide) (v := (σ 1 b)) rfl dX4_clock_30 ?_
    refine lv_icmp_ge (tgt := 44) hx hb dX4_clock_31 (by decide) (fun c_4 => ?_) (fun c_4 => ?_)
    · refine lv_iconst (v := 1) hx hb dX4_clock_44 (by decide) ?_
      refine lv_goto (tgt := 77) hx hb dX4_clock_45 (by decide) ?_
      exact W.zret (v := 1) (ty := .boolean) hx hb hr rfl (fun t ht hW => ⟨⟨1, (), rfl, (by simp only [f_clock, Int32.lt_iff_toInt_lt, Int32.le_iff_toInt_le] at c_1 c_4 ⊢; split <;> simp <;> omega), by rw [← ht] at hP; exact hP⟩, hS.F ht⟩) hS.2.2 dX4_clock_77
    · refine lv_iload_n hx hb dX4_clock_34 rfl (lv_at hl 0 rfl) ?_
      refine lv_aload_n hx hb dX4_clock_35 rfl (lv_at hl 1 rfl) ?_
      refine gw_get (C := RX4) (T := TX4) (N := 25) hx hb hL4 hown hK hP 0 0 (rDf (by decide)) rfl rfl 4 (by decide) (hts (.fieldLink RX4 16 "BlockProgramsModel" "qs" "[I") (by decide +kernel)) (fun _ h9 => h9) (v := .ref (ad 4 0)) rfl dX4_clock_36 ?_
      refine lv_iload_n hx hb dX4_clock_39 rfl (lv_at hl 2 rfl) ?_
      refine gw_iald hx hb hK hP 4 0 (rDf (by decide)) 0 rfl rfl (b) rfl (by omega) (by decide) (v := (σ 2 b)) rfl dX4_clock_40 ?_
      refine lv_icmp_ge (tgt := 48) hx hb dX4_clock_41 (by decide) (fun c_5 => ?_) (fun c_5 => ?_)
      · refine lv_iconst (v := 0) hx hb dX4_clock_48 (by decide) ?_
        refine lv_goto (tgt := 77) hx hb dX4_clock_49 (by decide) ?_
        exact W.zret (v := 0) (ty := .boolean) hx hb hr rfl (fun t ht hW => ⟨⟨0, (), rfl, (by simp only [f_clock, Int32.lt_iff_toInt_lt, Int32.le_iff_toInt_le] at c_1 c_4 c_5 ⊢; split <;> simp <;> omega), by rw [← ht] at hP; exact hP⟩, hS.F ht⟩) hS.2.2 dX4_clock_77
      · refine lv_iconst (v := 1) hx hb dX4_clock_44 (by decide) ?_
        refine lv_goto (tgt := 77) hx hb dX4_clock_45 (by decide) ?_
        exact W.zret (v := 1) (ty := .boolean) hx hb hr rfl (fun t ht hW => ⟨⟨1, (), rfl, (by simp only [f_clock, Int32.lt_iff_toInt_lt, Int32.le_iff_toInt_le] at c_1 c_4 c_5 ⊢; split <;> simp <;> omega), by rw [← ht] at hP; exact hP⟩, hS.F ht⟩) hS.2.2 dX4_clock_77

theorem iL_X4_pulse_X4 : ∀ w ∈ u_ws RX4 TX4 25, w ∈ wsX4_pulse := by decide +kernel
set_option maxHeartbeats 4000000 in
set_option maxRecDepth 100000 in
theorem k_X4_pulse {l : Launch} {D : va_G} {cI cZ cB cS : ClassId} {A : Nat → Prop} (κ : Nat → Nat) (σ sc : Nat → Nat → Int32) (ad : Nat → Nat → Nat) (b : Nat) (hb0 : b < κ 0) (hn : κ 0 ≤ 40) (y0 : Int32) : Met l yX4_pulse wsX4_pulse ({ frames := 0, cells := 0, slots := 0, locals := 0 } : Room) (gPc D cI cZ cB cS A rDm (rEn cI cZ κ σ sc ad) ad [.ref (ad 0 0), .int (nI b), .int y0]) (va_Qi (fun (r : Int32) (_ : Unit) => r = if 0 < f_pulse0 (σ 1 b) (σ 5 b) (σ 6 b) y0 then 1 else 0) (fun _ t => gw_P D vwCl A rDm (rEn cI cZ κ (wr (wr σ 5 b (if 0 < f_pulse0 (σ 1 b) (σ 5 b) (σ 6 b) y0 then f_pulse0 (σ 1 b) (σ 5 b) (σ 6 b) y0 - 1 else f_pulse0 (σ 1 b) (σ 5 b) (σ 6 b) y0)) 6 b y0) sc ad) ad t.heap) A) 0 0 A := by
  refine Met.ofW (cc := cX4_pulse) (maxL := 3) (ret := (some .int)) (by decide) rfl ?_
  intro p e s m args below meth c s₁ B hml hv
  obtain ⟨rfl, hP, hE, hA⟩ := hv
  have hx := B.exec
  have hb := B.bytes
  have hr := B.returns
  have hts := atoms_spec (ws := wsX4_pulse) B.pre
  have hown : s.vm.findClass RX4 = some m.cls := findClass_of_methodNamed B.named
  have hlocks := B.notSynchronized
  have hK := hE.1
  have hS : va_S A s.heap s.heap [] := va_S.rf
  have hL4 := fun w (hw : w ∈ u_ws RX4 TX4 25) => hts w (iL_X4_pulse_X4 w hw)
  have hl := lv_entry ([.ref (ad 0 0), .int (nI b), .int y0]) (n := 3) (Nat.le_of_ble_eq_true rfl)
  rw [lg_entry_eq]
  generalize (lg_sl ([.ref (ad 0 0), .int (nI b), .int y0]) ++ List.replicate (3 - (lg_sl ([.ref (ad 0 0), .int (nI b), .int y0])).length) Slot.unset).toArray = ls at hl ⊢
  have hl : lv_has ls 3 [(0, .ref (ad 0 0)), (1, .int (nI b)), (2, .int y0)] := hl
  refine lv_iload_n hx hb dX4_pulse_0 rfl (lv_at hl 2 rfl) ?_
  refine lv_if_eq (tgt := 25) hx hb dX4_pulse_1 (by decide) (fun c_1 => ?_) (fun c_1 => ?_)
  · refine lv_aload_n hx hb dX4_pulse_25 rfl (lv_at hl 0 rfl) ?_
    refine gw_get (C := RX4) (T := TX4) (N := 25) hx hb hL4 hown hK hP 0 0 (rDf (by decide)) rfl rfl 9 (by decide) (hts (.fieldLink RX4 31 "BlockProgramsModel" "seconds" "[I") (by decide +kernel)) (fun _ h9 => h9) (v := .ref (ad 9 0)) rfl dX4_pulse_26 ?_
    refine lv_iload_n hx hb dX4_pulse_29 rfl (lv_at hl 1 rfl) ?_
    refine lv_iload_n hx hb dX4_pulse_30 rfl (lv_at hl 2 rfl) ?_
    refine gw_iast hx hb hK hP hS 9 0 (rDf (by decide)) 0 rfl rfl (b) rfl (by omega) (by decide) dX4_pulse_31 ((rEn cI cZ κ (wr σ 6 b y0) sc ad)) rUs_9 (fun t9 i9 z9 h9 => rU9 _ t9 i9 h9 z9) (fun H locs hP hS => ?_)
    refine lv_aload_n hx hb dX4_pulse_32 rfl (lv_at hl 0 rfl) ?_
    refine gw_get (C := RX4) (T := TX4) (N := 25) hx hb hL4 hown hK hP 0 0 (rDf (by decide)) rfl rfl 8 (by decide) (hts (.fieldLink RX4 28 "BlockProgramsModel" "firsts" "[I") (by decide +kernel)) (fun _ h9 => h9) (v := .ref (ad 8 0)) rfl dX4_pulse_33 ?_
    refine lv_iload_n hx hb dX4_pulse_36 rfl (lv_at hl 1 rfl) ?_
    refine gw_iald hx hb hK hP 8 0 (rDf (by decide)) 0 rfl rfl (b) rfl (by omega) (by decide) (v := (σ 5 b)) (by simp [wr]) dX4_pulse_37 ?_
    refine lv_if_gt (tgt := 43) hx hb dX4_pulse_38 (by decide) (fun c_2 => ?_) (fun c_2 => ?_)
    · refine lv_aload_n hx hb dX4_pulse_43 rfl (lv_at hl 0 rfl) ?_
      refine gw_get (C := RX4) (T := TX4) (N := 25) hx hb hL4 hown hK hP 0 0 (rDf (by decide)) rfl rfl 8 (by decide) (hts (.fieldLink RX4 28 "BlockProgramsModel" "firsts" "[I") (by decide +kernel)) (fun _ h9 => h9) (v := .ref (ad 8 0)) rfl dX4_pulse_44 ?_
      refine lv_iload_n hx hb dX4_pulse_47 rfl (lv_at hl 1 rfl) ?_
      refine lv_dup2_11 hx hb dX4_pulse_48 rfl rfl ?_
      refine gw_iald hx hb hK hP 8 0 (rDf (by decide)) 0 rfl rfl (b) rfl (by omega) (by decide) (v := (σ 5 b)) (by simp [wr]) dX4_pulse_49 ?_
      refine lv_iconst (v := 1) hx hb dX4_pulse_50 (by decide) ?_
      refine lv_isub hx hb dX4_pulse_51 ?_
      refine gw_iast hx hb hK hP hS 8 0 (rDf (by decide)) 0 rfl rfl (b) rfl (by omega) (by decide) dX4_pulse_52 ((rEn cI cZ κ (wr (wr σ 6 b y0) 5 b (((σ 5 b) - 1))) sc ad)) rUs_8 (fun t9 i9 z9 h9 => rU8 _ t9 i9 h9 z9) (fun H locs hP hS => ?_)
      refine lv_iconst (v := 1) hx hb dX4_pulse_53 (by decide) ?_
      have eσ : wr (wr σ 6 b y0) 5 b (((σ 5 b) - 1)) = wr (wr σ 5 b (if 0 < f_pulse0 (σ 1 b) (σ 5 b) (σ 6 b) y0 then f_pulse0 (σ 1 b) (σ 5 b) (σ 6 b) y0 - 1 else f_pulse0 (σ 1 b) (σ 5 b) (σ 6 b) y0)) 6 b y0 := by simp [f_pulse0, c_1, c_2, Int32.not_le.mpr c_2, wr_wr, wr_id, wr_65, wr_id6, wr_s, wr_f]
      rw [eσ] at hP
      exact W.iret (v := 1) hx hb hr (fun t ht hW => ⟨⟨1, (), rfl, (by simp [f_pulse0, c_1, c_2, Int32.not_le.mpr c_2, wr_s]), by rw [← ht] at hP; exact hP⟩, hS.F ht⟩) hS.2.2 dX4_pulse_54
    · refine lv_iconst (v := 0) hx hb dX4_pulse_41 (by decide) ?_
      have eσ : wr σ 6 b y0 = wr (wr σ 5 b (if 0 < f_pulse0 (σ 1 b) (σ 5 b) (σ 6 b) y0 then f_pulse0 (σ 1 b) (σ 5 b) (σ 6 b) y0 - 1 else f_pulse0 (σ 1 b) (σ 5 b) (σ 6 b) y0)) 6 b y0 := by simp [f_pulse0, c_1, c_2, Int32.not_lt.mp c_2, wr_wr, wr_id, wr_65, wr_id6, wr_s, wr_f]
      rw [eσ] at hP
      exact W.iret (v := 0) hx hb hr (fun t ht hW => ⟨⟨0, (), rfl, (by simp [f_pulse0, c_1, c_2, Int32.not_lt.mp c_2, wr_s]), by rw [← ht] at hP; exact hP⟩, hS.F ht⟩) hS.2.2 dX4_pulse_42
  · refine lv_aload_n hx hb dX4_pulse_4 rfl (lv_at hl 0 rfl) ?_
    refine gw_get (C := RX4) (T := TX4) (N := 25) hx hb hL4 hown hK hP 0 0 (rDf (by decide)) rfl rfl 9 (by decide) (hts (.fieldLink RX4 31 "BlockProgramsModel" "seconds" "[I") (by decide +kernel)) (fun _ h9 => h9) (v := .ref (ad 9 0)) rfl dX4_pulse_5 ?_
    refine lv_iload_n hx hb dX4_pulse_8 rfl (lv_at hl 1 rfl) ?_
    refine gw_iald hx hb hK hP 9 0 (rDf (by decide)) 0 rfl rfl (b) rfl (by omega) (by decide) (v := (σ 6 b)) rfl dX4_pulse_9 ?_
    refine lv_if_ne (tgt := 25) hx hb dX4_pulse_10 (by decide) (fun c_3 => ?_) (fun c_3 => ?_)
    · refine lv_aload_n hx hb dX4_pulse_25 rfl (lv_at hl 0 rfl) ?_
      refine gw_get (C := RX4) (T := TX4) (N := 25) hx hb hL4 hown hK hP 0 0 (rDf (by decide)) rfl rfl 9 (by decide) (hts (.fieldLink RX4 31 "BlockProgramsModel" "seconds" "[I") (by decide +kernel)) (fun _ h9 => h9) (v := .ref (ad 9 0)) rfl dX4_pulse_26 ?_
      refine lv_iload_n hx hb dX4_pulse_29 rfl (lv_at hl 1 rfl) ?_
      refine lv_iload_n hx hb dX4_pulse_30 rfl (lv_at hl 2 rfl) ?_
      refine gw_iast hx hb hK hP hS 9 0 (rDf (by decide)) 0 rfl rfl (b) rfl (by omega) (by decide) dX4_pulse_31 ((rEn cI cZ κ (wr σ 6 b y0) sc ad)) rUs_9 (fun t9 i9 z9 h9 => rU9 _ t9 i9 h9 z9) (fun H locs hP hS => ?_)
      refine lv_aload_n hx hb dX4_pulse_32 rfl (lv_at hl 0 rfl) ?_
      refine gw_get (C := RX4) (T := TX4) (N := 25) hx hb hL4 hown hK hP 0 0 (rDf (by decide)) rfl rfl 8 (by decide) (hts (.fieldLink RX4 28 "BlockProgramsModel" "firsts" "[I") (by decide +kernel)) (fun _ h9 => h9) (v := .ref (ad 8 0)) rfl dX4_pulse_33 ?_
      refine lv_iload_n hx hb dX4_pulse_36 rfl (lv_at hl 1 rfl) ?_
      refine gw_iald hx hb hK hP 8 0 (rDf (by decide)) 0 rfl rfl (b) rfl (by omega) (by decide) (v := (σ 5 b)) (by simp [wr]) dX4_pulse_37 ?_
      refine lv_if_gt (tgt := 43) hx hb dX4_pulse_38 (by decide) (fun c_4 => ?_) (fun c_4 => ?_)
      · refine lv_aload_n hx hb dX4_pulse_43 rfl (lv_at hl 0 rfl) ?_
        refine gw_get (C := RX4) (T := TX4) (N := 25) hx hb hL4 hown hK hP 0 0 (rDf (by decide)) rfl rfl 8 (by decide) (hts (.fieldLink RX4 28 "BlockProgramsModel" "firsts" "[I") (by decide +kernel)) (fun _ h9 => h9) (v := .ref (ad 8 0)) rfl dX4_pulse_44 ?_
        refine lv_iload_n hx hb dX4_pulse_47 rfl (lv_at hl 1 rfl) ?_
        refine lv_dup2_11 hx hb dX4_pulse_48 rfl rfl ?_
        refine gw_iald hx hb hK hP 8 0 (rDf (by decide)) 0 rfl rfl (b) rfl (by omega) (by decide) (v := (σ 5 b)) (by simp [wr]) dX4_pulse_49 ?_
        refine lv_iconst (v := 1) hx hb dX4_pulse_50 (by decide) ?_
        refine lv_isub hx hb dX4_pulse_51 ?_
        refine gw_iast hx hb hK hP hS 8 0 (rDf (by decide)) 0 rfl rfl (b) rfl (by omega) (by decide) dX4_pulse_52 ((rEn cI cZ κ (wr (wr σ 6 b y0) 5 b (((σ 5 b) - 1))) sc ad)) rUs_8 (fun t9 i9 z9 h9 => rU8 _ t9 i9 h9 z9) (fun H locs hP hS => ?_)
        refine lv_iconst (v := 1) hx hb dX4_pulse_53 (by decide) ?_
        have eσ : wr (wr σ 6 b y0) 5 b (((σ 5 b) - 1)) = wr (wr σ 5 b (if 0 < f_pulse0 (σ 1 b) (σ 5 b) (σ 6 b) y0 then f_pulse0 (σ 1 b) (σ 5 b) (σ 6 b) y0 - 1 else f_pulse0 (σ 1 b) (σ 5 b) (σ 6 b) y0)) 6 b y0 := by simp [f_pulse0, c_1, c_3, c_4, Int32.not_le.mpr c_4, wr_wr, wr_id, wr_65, wr_id6, wr_s, wr_f]
        rw [eσ] at hP
        exact W.iret (v := 1) hx hb hr (fun t ht hW => ⟨⟨1, (), rfl, (by simp [f_pulse0, c_1, c_3, c_4, Int32.not_le.mpr c_4, wr_s]), by rw [← ht] at hP; exact hP⟩, hS.F ht⟩) hS.2.2 dX4_pulse_54
      · refine lv_iconst (v := 0) hx hb dX4_pulse_41 (by decide) ?_
        have eσ : wr σ 6 b y0 = wr (wr σ 5 b (if 0 < f_pulse0 (σ 1 b) (σ 5 b) (σ 6 b) y0 then f_pulse0 (σ 1 b) (σ 5 b) (σ 6 b) y0 - 1 else f_pulse0 (σ 1 b) (σ 5 b) (σ 6 b) y0)) 6 b y0 := by simp [f_pulse0, c_1, c_3, c_4, Int32.not_lt.mp c_4, wr_wr, wr_id, wr_65, wr_id6, wr_s, wr_f]
        rw [eσ] at hP
        exact W.iret (v := 0) hx hb hr (fun t ht hW => ⟨⟨0, (), rfl, (by simp [f_pulse0, c_1, c_3, c_4, Int32.not_lt.mp c_4, wr_s]), by rw [← ht] at hP; exact hP⟩, hS.F ht⟩) hS.2.2 dX4_pulse_42
    · refine lv_aload_n hx hb dX4_pulse_13 rfl (lv_at hl 0 rfl) ?_
      refine gw_get (C := RX4) (T := TX4) (N := 25) hx hb hL4 hown hK hP 0 0 (rDf (by decide)) rfl rfl 8 (by decide) (hts (.fieldLink RX4 28 "BlockProgramsModel" "firsts" "[I") (by decide +kernel)) (fun _ h9 => h9) (v := .ref (ad 8 0)) rfl dX4_pulse_14 ?_
      refine lv_iload_n hx hb dX4_pulse_17 rfl (lv_at hl 1 rfl) ?_
      refine lv_aload_n hx hb dX4_pulse_18 rfl (lv_at hl 0 rfl) ?_
      refine gw_get (C := RX4) (T := TX4) (N := 25) hx hb hL4 hown hK hP 0 0 (rDf (by decide)) rfl rfl 3 (by decide) (hts (.fieldLink RX4 13 "BlockProgramsModel" "ps" "[I") (by decide +kernel)) (fun _ h9 => h9) (v := .ref (ad 3 0)) rfl dX4_pulse_19 ?_
      refine lv_iload_n hx hb dX4_pulse_22 rfl (lv_at hl 1 rfl) ?_
      refine gw_iald hx hb hK hP 3 0 (rDf (by decide)) 0 rfl rfl (b) rfl (by omega) (by decide) (v := (σ 1 b)) rfl dX4_pulse_23 ?_
      refine gw_iast hx hb hK hP hS 8 0 (rDf (by decide)) 0 rfl rfl (b) rfl (by omega) (by decide) dX4_pulse_24 ((rEn cI cZ κ (wr σ 5 b ((σ 1 b))) sc ad)) rUs_8 (fun t9 i9 z9 h9 => rU8 _ t9 i9 h9 z9) (fun H locs hP hS => ?_)
      refine lv_aload_n hx hb dX4_pulse_25 rfl (lv_at hl 0 rfl) ?_
      refine gw_get (C := RX4) (T := TX4) (N := 25) hx hb hL4 hown hK hP 0 0 (rDf (by decide)) rfl rfl 9 (by decide) (hts (.fieldLink RX4 31 "BlockProgramsModel" "seconds" "[I") (by decide +kernel)) (fun _ h9 => h9) (v := .ref (ad 9 0)) rfl dX4_pulse_26 ?_
      refine lv_iload_n hx hb dX4_pulse_29 rfl (lv_at hl 1 rfl) ?_
      refine lv_iload_n hx hb dX4_pulse_30 rfl (lv_at hl 2 rfl) ?_
      refine gw_iast hx hb hK hP hS 9 0 (rDf (by decide)) 0 rfl rfl (b) rfl (by omega) (by decide) dX4_pulse_31 ((rEn cI cZ κ (wr (wr σ 5 b ((σ 1 b))) 6 b y0) sc ad)) rUs_9 (fun t9 i9 z9 h9 => rU9 _ t9 i9 h9 z9) (fun H locs hP hS => ?_)
      refine lv_aload_n hx hb dX4_pulse_32 rfl (lv_at hl 0 rfl) ?_
      refine gw_get (C := RX4) (T := TX4) (N := 25) hx hb hL4 hown hK hP 0 0 (rDf (by decide)) rfl rfl 8 (by decide) (hts (.fieldLink RX4 28 "BlockProgramsModel" "firsts" "[I") (by decide +kernel)) (fun _ h9 => h9) (v := .ref (ad 8 0)) rfl dX4_pulse_33 ?_
      refine lv_iload_n hx hb dX4_pulse_36 rfl (lv_at hl 1 rfl) ?_
      refine gw_iald hx hb hK hP 8 0 (rDf (by decide)) 0 rfl rfl (b) rfl (by omega) (by decide) (v := ((σ 1 b))) (by simp [wr]) dX4_pulse_37 ?_
      refine lv_if_gt (tgt := 43) hx hb dX4_pulse_38 (by decide) (fun c_5 => ?_) (fun c_5 => ?_)
      · refine lv_aload_n hx hb dX4_pulse_43 rfl (lv_at hl 0 rfl) ?_
        refine gw_get (C := RX4) (T := TX4) (N := 25) hx hb hL4 hown hK hP 0 0 (rDf (by decide)) rfl rfl 8 (by decide) (hts (.fieldLink RX4 28 "BlockProgramsModel" "firsts" "[I") (by decide +kernel)) (fun _ h9 => h9) (v := .ref (ad 8 0)) rfl dX4_pulse_44 ?_
        refine lv_iload_n hx hb dX4_pulse_47 rfl (lv_at hl 1 rfl) ?_
        refine lv_dup2_11 hx hb dX4_pulse_48 rfl rfl ?_
        refine gw_iald hx hb hK hP 8 0 (rDf (by decide)) 0 rfl rfl (b) rfl (by omega) (by decide) (v := ((σ 1 b))) (by simp [wr]) dX4_pulse_49 ?_
        refine lv_iconst (v := 1) hx hb dX4_pulse_50 (by decide) ?_
        refine lv_isub hx hb dX4_pulse_51 ?_
        refine gw_iast hx hb hK hP hS 8 0 (rDf (by decide)) 0 rfl rfl (b) rfl (by omega) (by decide) dX4_pulse_52 ((rEn cI cZ κ (wr (wr (wr σ 5 b ((σ 1 b))) 6 b y0) 5 b ((((σ 1 b)) - 1))) sc ad)) rUs_8 (fun t9 i9 z9 h9 => rU8 _ t9 i9 h9 z9) (fun H locs hP hS => ?_)
        refine lv_iconst (v := 1) hx hb dX4_pulse_53 (by decide) ?_
        have eσ : wr (wr (wr σ 5 b ((σ 1 b))) 6 b y0) 5 b ((((σ 1 b)) - 1)) = wr (wr σ 5 b (if 0 < f_pulse0 (σ 1 b) (σ 5 b) (σ 6 b) y0 then f_pulse0 (σ 1 b) (σ 5 b) (σ 6 b) y0 - 1 else f_pulse0 (σ 1 b) (σ 5 b) (σ 6 b) y0)) 6 b y0 := by simp [f_pulse0, c_1, c_3, c_5, Int32.not_le.mpr c_5, wr_wr, wr_id, wr_65, wr_id6, wr_s, wr_f]
        rw [eσ] at hP
        exact W.iret (v := 1) hx hb hr (fun t ht hW => ⟨⟨1, (), rfl, (by simp [f_pulse0, c_1, c_3, c_5, Int32.not_le.mpr c_5, wr_s]), by rw [← ht] at hP; exact hP⟩, hS.F ht⟩) hS.2.2 dX4_pulse_54
      · refine lv_iconst (v := 0) hx hb dX4_pulse_41 (by decide) ?_
        have eσ : wr (wr σ 5 b ((σ 1 b))) 6 b y0 = wr (wr σ 5 b (if 0 < f_pulse0 (σ 1 b) (σ 5 b) (σ 6 b) y0 then f_pulse0 (σ 1 b) (σ 5 b) (σ 6 b) y0 - 1 else f_pulse0 (σ 1 b) (σ 5 b) (σ 6 b) y0)) 6 b y0 := by simp [f_pulse0, c_1, c_3, c_5, Int32.not_lt.mp c_5, wr_wr, wr_id, wr_65, wr_id6, wr_s, wr_f]
        rw [eσ] at hP
        exact W.iret (v := 0) hx hb hr (fun t ht hW => ⟨⟨0, (), rfl, (by simp [f_pulse0, c_1, c_3, c_5, Int32.not_lt.mp c_5, wr_s]), by rw [← ht] at hP; exact hP⟩, hS.F ht⟩) hS.2.2 dX4_pulse_42

theorem iL_X4_since_X4 : ∀ w ∈ u_ws RX4 TX4 25, w ∈ wsX4_since := by decide +kernel
set_option maxHeartbeats 4000000 in
set_option maxRecDepth 100000 in
theorem k_X4_since {l : Launch} {D : va_G} {cI cZ cB cS : ClassId} {A : Nat → Prop} (κ : Nat → Nat) (σ sc : Nat → Nat → Int32) (ad : Nat → Nat → Nat) (b : Nat) (hb0 : b < κ 0) (hn : κ 0 ≤ 40) (y0 : Int32) : Met l yX4_since wsX4_since ({ frames := 0, cells := 0, slots := 0, locals := 0 } : Room) (gPc D cI cZ cB cS A rDm (rEn cI cZ κ σ sc ad) ad [.ref (ad 0 0), .int (nI b), .int y0]) (va_Qi (fun (r : Int32) (_ : Unit) => r = f_since (σ 1 b) (σ 5 b) y0) (fun _ t => gw_P D vwCl A rDm (rEn cI cZ κ (wr σ 5 b (f_since (σ 1 b) (σ 5 b) y0)) sc ad) ad t.heap) A) 0 0 A := by
  refine Met.ofW (cc := cX4_since) (maxL := 4) (ret := (some .int)) (by decide) rfl ?_
  intro p e s m args below meth c s₁ B hml hv
  obtain ⟨rfl, hP, hE, hA⟩ := hv
  have hx := B.exec
  have hb := B.bytes
  have hr := B.returns
  have hts := atoms_spec (ws := wsX4_since) B.pre
  have hown : s.vm.findClass RX4 = some m.cls := findClass_of_methodNamed B.named
  have hlocks := B.notSynchronized
  have hK := hE.1
  have hS : va_S A s.heap s.heap [] := va_S.rf
  have hL4 := fun w (hw : w ∈ u_ws RX4 TX4 25) => hts w (iL_X4_since_X4 w hw)
  have hl := lv_entry ([.ref (ad 0 0), .int (nI b), .int y0]) (n := 4) (Nat.le_of_ble_eq_true rfl)
  rw [lg_entry_eq]
  generalize (lg_sl ([.ref (ad 0 0), .int (nI b), .int y0]) ++ List.replicate (4 - (lg_sl ([.ref (ad 0 0), .int (nI b), .int y0])).length) Slot.unset).toArray = ls at hl ⊢
  have hl : lv_has ls 4 [(0, .ref (ad 0 0)), (1, .int (nI b)), (2, .int y0)] := hl
  refine lv_iload_n hx hb dX4_since_0 rfl (lv_at hl 2 rfl) ?_
  refine lv_if_eq (tgt := 15) hx hb dX4_since_1 (by decide) (fun c_1 => ?_) (fun c_1 => ?_)
  · refine lv_iconst (v := 0) hx hb dX4_since_15 (by decide) ?_
    refine lv_istore_n (lv' := [(3, .int 0), (0, .ref (ad 0 0)), (1, .int (nI b)), (2, .int y0)]) hx hb dX4_since_16 rfl hl (by decide) rfl (fun ls hl => ?_)
    refine lv_aload_n hx hb dX4_since_17 rfl (lv_at hl 1 rfl) ?_
    refine gw_get (C := RX4) (T := TX4) (N := 25) hx hb hL4 hown hK hP 0 0 (rDf (by decide)) rfl rfl 8 (by decide) (hts (.fieldLink RX4 28 "BlockProgramsModel" "firsts" "[I") (by decide +kernel)) (fun _ h9 => h9) (v := .ref (ad 8 0)) rfl dX4_since_18 ?_
    refine lv_iload_n hx hb dX4_since_21 rfl (lv_at hl 2 rfl) ?_
    refine lv_iload_n hx hb dX4_since_22 rfl (lv_at hl 0 rfl) ?_
    refine lv_aload_n hx hb dX4_since_23 rfl (lv_at hl 1 rfl) ?_
    refine gw_get (C := RX4) (T := TX4) (N := 25) hx hb hL4 hown hK hP 0 0 (rDf (by decide)) rfl rfl 3 (by decide) (hts (.fieldLink RX4 13 "BlockProgramsModel" "ps" "[I") (by decide +kernel)) (fun _ h9 => h9) (v := .ref (ad 3 0)) rfl dX4_since_24 ?_
    refine lv_iload_n hx hb dX4_since_27 rfl (lv_at hl 2 rfl) ?_
    refine gw_iald hx hb hK hP 3 0 (rDf (by decide)) 0 rfl rfl (b) rfl (by omega) (by decide) (v := (σ 1 b)) rfl dX4_since_28 ?_
    refine lv_icmp_le (tgt := 41) hx hb dX4_since_29 (by decide) (fun c_2 => ?_) (fun c_2 => ?_)
    · refine lv_iload_n hx hb dX4_since_41 rfl (lv_at hl 0 rfl) ?_
      refine gw_iast hx hb hK hP hS 8 0 (rDf (by decide)) 0 rfl rfl (b) rfl (by omega) (by decide) dX4_since_42 ((rEn cI cZ κ (wr σ 5 b 0) sc ad)) rUs_8 (fun t9 i9 z9 h9 => rU8 _ t9 i9 h9 z9) (fun H locs hP hS => ?_)
      refine lv_aload_n hx hb dX4_since_43 rfl (lv_at hl 1 rfl) ?_
      refine gw_get (C := RX4) (T := TX4) (N := 25) hx hb hL4 hown hK hP 0 0 (rDf (by decide)) rfl rfl 8 (by decide) (hts (.fieldLink RX4 28 "BlockProgramsModel" "firsts" "[I") (by decide +kernel)) (fun _ h9 => h9) (v := .ref (ad 8 0)) rfl dX4_since_44 ?_
      refine lv_iload_n hx hb dX4_since_47 rfl (lv_at hl 2 rfl) ?_
      refine gw_iald hx hb hK hP 8 0 (rDf (by decide)) 0 rfl rfl (b) rfl (by omega) (by decide) (v := 0) (by simp [wr]) dX4_since_48 ?_
      have eσ : wr σ 5 b 0 = wr σ 5 b (f_since (σ 1 b) (σ 5 b) y0) := by simp [f_since, c_1, c_2, Int32.not_lt.mpr c_2, wr_wr, wr_id, wr_65, wr_id6, wr_s, wr_f]
      rw [eσ] at hP
      exact W.iret (v := 0) hx hb hr (fun t ht hW => ⟨⟨0, (), rfl, (by simp [f_since, c_1, c_2, Int32.not_lt.mpr c_2, wr_s]), by rw [← ht] at hP; exact hP⟩, hS.F ht⟩) hS.2.2 dX4_since_49
    · refine lv_aload_n hx hb dX4_since_32 rfl (lv_at hl 1 rfl) ?_
      refine gw_get (C := RX4) (T := TX4) (N := 25) hx hb hL4 hown hK hP 0 0 (rDf (by decide)) rfl rfl 3 (by decide) (hts (.fieldLink RX4 13 "BlockProgramsModel" "ps" "[I") (by decide +kernel)) (fun _ h9 => h9) (v := .ref (ad 3 0)) rfl dX4_since_33 ?_
      refine lv_iload_n hx hb dX4_since_36 rfl (lv_at hl 2 rfl) ?_
      refine gw_iald hx hb hK hP 3 0 (rDf (by decide)) 0 rfl rfl (b) rfl (by omega) (by decide) (v := (σ 1 b)) rfl dX4_since_37 ?_
      refine lv_goto (tgt := 42) hx hb dX4_since_38 (by decide) ?_
      refine gw_iast hx hb hK hP hS 8 0 (rDf (by decide)) 0 rfl rfl (b) rfl (by omega) (by decide) dX4_since_42 ((rEn cI cZ κ (wr σ 5 b ((σ 1 b))) sc ad)) rUs_8 (fun t9 i9 z9 h9 => rU8 _ t9 i9 h9 z9) (fun H locs hP hS => ?_)
      refine lv_aload_n hx hb dX4_since_43 rfl (lv_at hl 1 rfl) ?_
      refine gw_get (C := RX4) (T := TX4) (N := 25) hx hb hL4 hown hK hP 0 0 (rDf (by decide)) rfl rfl 8 (by decide) (hts (.fieldLink RX4 28 "BlockProgramsModel" "firsts" "[I") (by decide +kernel)) (fun _ h9 => h9) (v := .ref (ad 8 0)) rfl dX4_since_44 ?_
      refine lv_iload_n hx hb dX4_since_47 rfl (lv_at hl 2 rfl) ?_
      refine gw_iald hx hb hK hP 8 0 (rDf (by decide)) 0 rfl rfl (b) rfl (by omega) (by decide) (v := ((σ 1 b))) (by simp [wr]) dX4_since_48 ?_
      have eσ : wr σ 5 b ((σ 1 b)) = wr σ 5 b (f_since (σ 1 b) (σ 5 b) y0) := by simp [f_since, c_1, c_2, Int32.not_le.mp c_2, wr_wr, wr_id, wr_65, wr_id6, wr_s, wr_f]
      rw [eσ] at hP
      exact W.iret (v := ((σ 1 b))) hx hb hr (fun t ht hW => ⟨⟨(((σ 1 b))), (), rfl, (by simp [f_since, c_1, c_2, Int32.not_le.mp c_2, wr_s]), by rw [← ht] at hP; exact hP⟩, hS.F ht⟩) hS.2.2 dX4_since_49
  · refine lv_aload_n hx hb dX4_since_4 rfl (lv_at hl 0 rfl) ?_
    refine gw_get (C := RX4) (T := TX4) (N := 25) hx hb hL4 hown hK hP 0 0 (rDf (by decide)) rfl rfl 8 (by decide) (hts (.fieldLink RX4 28 "BlockProgramsModel" "firsts" "[I") (by decide +kernel)) (fun _ h9 => h9) (v := .ref (ad 8 0)) rfl dX4_since_5 ?_
    refine lv_iload_n hx hb dX4_since_8 rfl (lv_at hl 1 rfl) ?_
    refine gw_iald hx hb hK hP 8 0 (rDf (by decide)) 0 rfl rfl (b) rfl (by omega) (by decide) (v := (σ 5 b)) rfl dX4_since_9 ?_
    refine lv_iconst (v := 1) hx hb dX4_since_10 (by decide) ?_
    refine lv_iadd hx hb dX4_since_11 ?_
    refine lv_goto (tgt := 16) hx hb dX4_since_12 (by decide) ?_
    refine lv_istore_n (lv' := [(3, .int (((σ 5 b) + 1))), (0, .ref (ad 0 0)), (1, .int (nI b)), (2, .int y0)]) hx hb dX4_since_16 rfl hl (by decide) rfl (fun ls hl => ?_)
    refine lv_aload_n hx hb dX4_since_17 rfl (lv_at hl 1 rfl) ?_
    refine gw_get (C := RX4) (T := TX4) (N := 25) hx hb hL4 hown hK hP 0 0 (rDf (by decide)) rfl rfl 8 (by decide) (hts (.fieldLink RX4 28 "BlockProgramsModel" "firsts" "[I") (by decide +kernel)) (fun _ h9 => h9) (v := .ref (ad 8 0)) rfl dX4_since_18 ?_
    refine lv_iload_n hx hb dX4_since_21 rfl (lv_at hl 2 rfl) ?_
    refine lv_iload_n hx hb dX4_since_22 rfl (lv_at hl 0 rfl) ?_
    refine lv_aload_n hx hb dX4_since_23 rfl (lv_at hl 1 rfl) ?_
    refine gw_get (C := RX4) (T := TX4) (N := 25) hx hb hL4 hown hK hP 0 0 (rDf (by decide)) rfl rfl 3 (by decide) (hts (.fieldLink RX4 13 "BlockProgramsModel" "ps" "[I") (by decide +kernel)) (fun _ h9 => h9) (v := .ref (ad 3 0)) rfl dX4_since_24 ?_
    refine lv_iload_n hx hb dX4_since_27 rfl (lv_at hl 2 rfl) ?_
    refine gw_iald hx hb hK hP 3 0 (rDf (by decide)) 0 rfl rfl (b) rfl (by omega) (by decide) (v := (σ 1 b)) rfl dX4_since_28 ?_
    refine lv_icmp_le (tgt := 41) hx hb dX4_since_29 (by decide) (fun c_3 => ?_) (fun c_3 => ?_)
    · refine lv_iload_n hx hb dX4_since_41 rfl (lv_at hl 0 rfl) ?_
      refine gw_iast hx hb hK hP hS 8 0 (rDf (by decide)) 0 rfl rfl (b) rfl (by omega) (by decide) dX4_since_42 ((rEn cI cZ κ (wr σ 5 b (((σ 5 b) + 1))) sc ad)) rUs_8 (fun t9 i9 z9 h9 => rU8 _ t9 i9 h9 z9) (fun H locs hP hS => ?_)
      refine lv_aload_n hx hb dX4_since_43 rfl (lv_at hl 1 rfl) ?_
      refine gw_get (C := RX4) (T := TX4) (N := 25) hx hb hL4 hown hK hP 0 0 (rDf (by decide)) rfl rfl 8 (by decide) (hts (.fieldLink RX4 28 "BlockProgramsModel" "firsts" "[I") (by decide +kernel)) (fun _ h9 => h9) (v := .ref (ad 8 0)) rfl dX4_since_44 ?_
      refine lv_iload_n hx hb dX4_since_47 rfl (lv_at hl 2 rfl) ?_
      refine gw_iald hx hb hK hP 8 0 (rDf (by decide)) 0 rfl rfl (b) rfl (by omega) (by decide) (v := (((σ 5 b) + 1))) (by simp [wr]) dX4_since_48 ?_
      have eσ : wr σ 5 b (((σ 5 b) + 1)) = wr σ 5 b (f_since (σ 1 b) (σ 5 b) y0) := by simp [f_since, c_1, c_3, Int32.not_lt.mpr c_3, wr_wr, wr_id, wr_65, wr_id6, wr_s, wr_f]
      rw [eσ] at hP
      exact W.iret (v := (((σ 5 b) + 1))) hx hb hr (fun t ht hW => ⟨⟨((((σ 5 b) + 1))), (), rfl, (by simp [f_since, c_1, c_3, Int32.not_lt.mpr c_3, wr_s]), by rw [← ht] at hP; exact hP⟩, hS.F ht⟩) hS.2.2 dX4_since_49
    · refine lv_aload_n hx hb dX4_since_32 rfl (lv_at hl 1 rfl) ?_
      refine gw_get (C := RX4) (T := TX4) (N := 25) hx hb hL4 hown hK hP 0 0 (rDf (by decide)) rfl rfl 3 (by decide) (hts (.fieldLink RX4 13 "BlockProgramsModel" "ps" "[I") (by decide +kernel)) (fun _ h9 => h9) (v := .ref (ad 3 0)) rfl dX4_since_33 ?_
      refine lv_iload_n hx hb dX4_since_36 rfl (lv_at hl 2 rfl) ?_
      refine gw_iald hx hb hK hP 3 0 (rDf (by decide)) 0 rfl rfl (b) rfl (by omega) (by decide) (v := (σ 1 b)) rfl dX4_since_37 ?_
      refine lv_goto (tgt := 42) hx hb dX4_since_38 (by decide) ?_
      refine gw_iast hx hb hK hP hS 8 0 (rDf (by decide)) 0 rfl rfl (b) rfl (by omega) (by decide) dX4_since_42 ((rEn cI cZ κ (wr σ 5 b ((σ 1 b))) sc ad)) rUs_8 (fun t9 i9 z9 h9 => rU8 _ t9 i9 h9 z9) (fun H locs hP hS => ?_)
      refine lv_aload_n hx hb dX4_since_43 rfl (lv_at hl 1 rfl) ?_
      refine gw_get (C := RX4) (T := TX4) (N := 25) hx hb hL4 hown hK hP 0 0 (rDf (by decide)) rfl rfl 8 (by decide) (hts (.fieldLink RX4 28 "BlockProgramsModel" "firsts" "[I") (by decide +kernel)) (fun _ h9 => h9) (v := .ref (ad 8 0)) rfl dX4_since_44 ?_
      refine lv_iload_n hx hb dX4_since_47 rfl (lv_at hl 2 rfl) ?_
      refine gw_iald hx hb hK hP 8 0 (rDf (by decide)) 0 rfl rfl (b) rfl (by omega) (by decide) (v := ((σ 1 b))) (by simp [wr]) dX4_since_48 ?_
      have eσ : wr σ 5 b ((σ 1 b)) = wr σ 5 b (f_since (σ 1 b) (σ 5 b) y0) := by simp [f_since, c_1, c_3, Int32.not_le.mp c_3, wr_wr, wr_id, wr_65, wr_id6, wr_s, wr_f]
      rw [eσ] at hP
      exact W.iret (v := ((σ 1 b))) hx hb hr (fun t ht hW => ⟨⟨(((σ 1 b))), (), rfl, (by simp [f_since, c_1, c_3, Int32.not_le.mp c_3, wr_s]), by rw [← ht] at hP; exact hP⟩, hS.F ht⟩) hS.2.2 dX4_since_49

theorem iL_X4_ramp_X4 : ∀ w ∈ u_ws RX4 TX4 25, w ∈ wsX4_ramp := by decide +kernel
set_option maxHeartbeats 4000000 in
set_option maxRecDepth 100000 in
theorem k_X4_ramp {l : Launch} {D : va_G} {cI cZ cB cS : ClassId} {A : Nat → Prop} (κ : Nat → Nat) (σ sc : Nat → Nat → Int32) (ad : Nat → Nat → Nat) (b : Nat) (hb0 : b < κ 0) (hn : κ 0 ≤ 40) (y0 : Int32) : Met l yX4_ramp wsX4_ramp ({ frames := 0, cells := 0, slots := 0, locals := 0 } : Room) (gPc D cI cZ cB cS A rDm (rEn cI cZ κ σ sc ad) ad [.ref (ad 0 0), .int (nI b), .int y0]) (va_Qi (fun (r : Int32) (_ : Unit) => r = f_ramp (σ 1 b) (σ 4 b) y0) (fun _ t => gw_P D vwCl A rDm (rEn cI cZ κ σ sc ad) ad t.heap) A) 0 0 A := by
  refine Met.ofW (cc := cX4_ramp) (maxL := 7) (ret := (some .int)) (by decide) rfl ?_
  intro p e s m args below meth c s₁ B hml hv
  obtain ⟨rfl, hP, hE, hA⟩ := hv
  have hx := B.exec
  have hb := B.bytes
  have hr := B.returns
  have hts := atoms_spec (ws := wsX4_ramp) B.pre
  have hown : s.vm.findClass RX4 = some m.cls := findClass_of_methodNamed B.named
  have hlocks := B.notSynchronized
  have hK := hE.1
  have hS : va_S A s.heap s.heap [] := va_S.rf
  have hL4 := fun w (hw : w ∈ u_ws RX4 TX4 25) => hts w (iL_X4_ramp_X4 w hw)
  have hl := lv_entry ([.ref (ad 0 0), .int (nI b), .int y0]) (n := 7) (Nat.le_of_ble_eq_true rfl)
  rw [lg_entry_eq]
  generalize (lg_sl ([.ref (ad 0 0), .int (nI b), .int y0]) ++ List.replicate (7 - (lg_sl ([.ref (ad 0 0), .int (nI b), .int y0])).length) Slot.unset).toArray = ls at hl ⊢
  have hl : lv_has ls 7 [(0, .ref (ad 0 0)), (1, .int (nI b)), (2, .int y0)] := hl
  refine lv_aload_n hx hb dX4_ramp_0 rfl (lv_at hl 0 rfl) ?_
  refine gw_get (C := RX4) (T := TX4) (N := 25) hx hb hL4 hown hK hP 0 0 (rDf (by decide)) rfl rfl 3 (by decide) (hts (.fieldLink RX4 13 "BlockProgramsModel" "ps" "[I") (by decide +kernel)) (fun _ h9 => h9) (v := .ref (ad 3 0)) rfl dX4_ramp_1 ?_
  refine lv_iload_n hx hb dX4_ramp_4 rfl (lv_at hl 1 rfl) ?_
  refine gw_iald hx hb hK hP 3 0 (rDf (by decide)) 0 rfl rfl (b) rfl (by omega) (by decide) (v := (σ 1 b)) rfl dX4_ramp_5 ?_
  refine lv_if_ge (tgt := 13) hx hb dX4_ramp_6 (by decide) (fun c_1 => ?_) (fun c_1 => ?_)
  · refine lv_aload_n hx hb dX4_ramp_13 rfl (lv_at hl 0 rfl) ?_
    refine gw_get (C := RX4) (T := TX4) (N := 25) hx hb hL4 hown hK hP 0 0 (rDf (by decide)) rfl rfl 3 (by decide) (hts (.fieldLink RX4 13 "BlockProgramsModel" "ps" "[I") (by decide +kernel)) (fun _ h9 => h9) (v := .ref (ad 3 0)) rfl dX4_ramp_14 ?_
    refine lv_iload_n hx hb dX4_ramp_17 rfl (lv_at hl 1 rfl) ?_
    refine gw_iald hx hb hK hP 3 0 (rDf (by decide)) 0 rfl rfl (b) rfl (by omega) (by decide) (v := (σ 1 b)) rfl dX4_ramp_18 ?_
    refine lv_i2l (v := ((σ 1 b)).toInt64) hx hb dX4_ramp_19 rfl ?_
    refine lv_lstore_n (lv' := [(3, .long (((σ 1 b)).toInt64)), (0, .ref (ad 0 0)), (1, .int (nI b)), (2, .int y0)]) hx hb dX4_ramp_20 rfl hl (by decide) rfl (fun ls hl => ?_)
    refine lv_iload_n hx hb dX4_ramp_21 rfl (lv_at hl 3 rfl) ?_
    refine lv_i2l (v := (y0).toInt64) hx hb dX4_ramp_22 rfl ?_
    refine lv_aload_n hx hb dX4_ramp_23 rfl (lv_at hl 1 rfl) ?_
    refine gw_get (C := RX4) (T := TX4) (N := 25) hx hb hL4 hown hK hP 0 0 (rDf (by decide)) rfl rfl 7 (by decide) (hts (.fieldLink RX4 25 "BlockProgramsModel" "outs" "[I") (by decide +kernel)) (fun _ h9 => h9) (v := .ref (ad 7 0)) rfl dX4_ramp_24 ?_
    refine lv_iload_n hx hb dX4_ramp_27 rfl (lv_at hl 2 rfl) ?_
    refine gw_iald hx hb hK hP 7 0 (rDf (by decide)) 0 rfl rfl (b) rfl (by omega) (by decide) (v := (σ 4 b)) rfl dX4_ramp_28 ?_
    refine lv_i2l (v := ((σ 4 b)).toInt64) hx hb dX4_ramp_29 rfl ?_
    refine lv_lsub hx hb dX4_ramp_30 ?_
    refine lv_lstore (lv' := [(5, .long ((((y0).toInt64) - (((σ 4 b)).toInt64)))), (3, .long (((σ 1 b)).toInt64)), (0, .ref (ad 0 0)), (1, .int (nI b)), (2, .int y0)]) hx hb dX4_ramp_31 hl (by decide) rfl (fun ls hl => ?_)
    refine lv_lload hx hb dX4_ramp_33 (lv_at hl 0 rfl) ?_
    refine lv_lload_n hx hb dX4_ramp_35 rfl (lv_at hl 1 rfl) ?_
    refine lv_lneg hx hb dX4_ramp_36 ?_
    refine W.lcmp hx hb dX4_ramp_37 ?_
    refine lv_if_lt (tgt := 52) hx hb dX4_ramp_38 (by decide) (fun c_2 => ?_) (fun c_2 => ?_)
    · refine lv_lload hx hb dX4_ramp_52 (lv_at hl 0 rfl) ?_
      refine lv_lconst (v := 0) hx hb dX4_ramp_54 (by decide) ?_
      refine W.lcmp hx hb dX4_ramp_55 ?_
      refine lv_if_le (tgt := 72) hx hb dX4_ramp_56 (by decide) (fun c_3 => ?_) (fun c_3 => ?_)
      · refine lv_aload_n hx hb dX4_ramp_72 rfl (lv_at hl 2 rfl) ?_
        refine gw_get (C := RX4) (T := TX4) (N := 25) hx hb hL4 hown hK hP 0 0 (rDf (by decide)) rfl rfl 7 (by decide) (hts (.fieldLink RX4 25 "BlockProgramsModel" "outs" "[I") (by decide +kernel)) (fun _ h9 => h9) (v := .ref (ad 7 0)) rfl dX4_ramp_73 ?_
        refine lv_iload_n hx hb dX4_ramp_76 rfl (lv_at hl 3 rfl) ?_
        refine gw_iald hx hb hK hP 7 0 (rDf (by decide)) 0 rfl rfl (b) rfl (by omega) (by decide) (v := (σ 4 b)) rfl dX4_ramp_77 ?_
        refine lv_i2l (v := ((σ 4 b)).toInt64) hx hb dX4_ramp_78 rfl ?_
        refine lv_lload_n hx hb dX4_ramp_79 rfl (lv_at hl 1 rfl) ?_
        refine lv_lsub hx hb dX4_ramp_80 ?_
        refine lv_l2i (v := (((((σ 4 b)).toInt64) - (((σ 1 b)).toInt64))).toInt32) hx hb dX4_ramp_81 rfl ?_
        exact W.iret (v := (((((σ 4 b)).toInt64) - (((σ 1 b)).toInt64))).toInt32) hx hb hr (fun t ht hW => ⟨⟨((((((σ 4 b)).toInt64) - (((σ 1 b)).toInt64))).toInt32), (), rfl, (f_ramp_dn (by rw [if_neg (Int32.not_lt.mpr c_1)]) (Or.inl ((lg_cmp_lt _ _).mp c_2)) (Int64.not_lt.mpr ((lg_cmp_le _ _).mp c_3))).symm, by rw [← ht] at hP; exact hP⟩, hS.F ht⟩) hS.2.2 dX4_ramp_82
      · refine lv_aload_n hx hb dX4_ramp_59 rfl (lv_at hl 2 rfl) ?_
        refine gw_get (C := RX4) (T := TX4) (N := 25) hx hb hL4 hown hK hP 0 0 (rDf (by decide)) rfl rfl 7 (by decide) (hts (.fieldLink RX4 25 "BlockProgramsModel" "outs" "[I") (by decide +kernel)) (fun _ h9 => h9) (v := .ref (ad 7 0)) rfl dX4_ramp_60 ?_
        refine lv_iload_n hx hb dX4_ramp_63 rfl (lv_at hl 3 rfl) ?_
        refine gw_iald hx hb hK hP 7 0 (rDf (by decide)) 0 rfl rfl (b) rfl (by omega) (by decide) (v := (σ 4 b)) rfl dX4_ramp_64 ?_
        refine lv_i2l (v := ((σ 4 b)).toInt64) hx hb dX4_ramp_65 rfl ?_
        refine lv_lload_n hx hb dX4_ramp_66 rfl (lv_at hl 1 rfl) ?_
        refine lv_ladd hx hb dX4_ramp_67 ?_
        refine lv_l2i (v := (((((σ 4 b)).toInt64) + (((σ 1 b)).toInt64))).toInt32) hx hb dX4_ramp_68 rfl ?_
        refine lv_goto (tgt := 82) hx hb dX4_ramp_69 (by decide) ?_
        exact W.iret (v := (((((σ 4 b)).toInt64) + (((σ 1 b)).toInt64))).toInt32) hx hb hr (fun t ht hW => ⟨⟨((((((σ 4 b)).toInt64) + (((σ 1 b)).toInt64))).toInt32), (), rfl, (f_ramp_up (by rw [if_neg (Int32.not_lt.mpr c_1)]) (Or.inl ((lg_cmp_lt _ _).mp c_2)) (Int64.not_le.mp (fun z => c_3 ((lg_cmp_le _ _).mpr z)))).symm, by rw [← ht] at hP; exact hP⟩, hS.F ht⟩) hS.2.2 dX4_ramp_82
    · refine lv_lload hx hb dX4_ramp_41 (lv_at hl 0 rfl) ?_
      refine lv_lload_n hx hb dX4_ramp_43 rfl (lv_at hl 1 rfl) ?_
      refine W.lcmp hx hb dX4_ramp_44 ?_
      refine lv_if_gt (tgt := 52) hx hb dX4_ramp_45 (by decide) (fun c_4 => ?_) (fun c_4 => ?_)
      · refine lv_lload hx hb dX4_ramp_52 (lv_at hl 0 rfl) ?_
        refine lv_lconst (v := 0) hx hb dX4_ramp_54 (by decide) ?_
        refine W.lcmp hx hb dX4_ramp_55 ?_
        refine lv_if_le (tgt := 72) hx hb dX4_ramp_56 (by decide) (fun c_5 => ?_) (fun c_5 => ?_)
        · refine lv_aload_n hx hb dX4_ramp_72 rfl (lv_at hl 2 rfl) ?_
          refine gw_get (C := RX4) (T := TX4) (N := 25) hx hb hL4 hown hK hP 0 0 (rDf (by decide)) rfl rfl 7 (by decide) (hts (.fieldLink RX4 25 "BlockProgramsModel" "outs" "[I") (by decide +kernel)) (fun _ h9 => h9) (v := .ref (ad 7 0)) rfl dX4_ramp_73 ?_
          refine lv_iload_n hx hb dX4_ramp_76 rfl (lv_at hl 3 rfl) ?_
          refine gw_iald hx hb hK hP 7 0 (rDf (by decide)) 0 rfl rfl (b) rfl (by omega) (by decide) (v := (σ 4 b)) rfl dX4_ramp_77 ?_
          refine lv_i2l (v := ((σ 4 b)).toInt64) hx hb dX4_ramp_78 rfl ?_
          refine lv_lload_n hx hb dX4_ramp_79 rfl (lv_at hl 1 rfl) ?_
          refine lv_lsub hx hb dX4_ramp_80 ?_
          refine lv_l2i (v := (((((σ 4 b)).toInt64) - (((σ 1 b)).toInt64))).toInt32) hx hb dX4_ramp_81 rfl ?_
          exact W.iret (v := (((((σ 4 b)).toInt64) - (((σ 1 b)).toInt64))).toInt32) hx hb hr (fun t ht hW => ⟨⟨((((((σ 4 b)).toInt64) - (((σ 1 b)).toInt64))).toInt32), (), rfl, (f_ramp_dn (by rw [if_neg (Int32.not_lt.mpr c_1)]) (Or.inr ((lg_cmp_gt _ _).mp c_4)) (Int64.not_lt.mpr ((lg_cmp_le _ _).mp c_5))).symm, by rw [← ht] at hP; exact hP⟩, hS.F ht⟩) hS.2.2 dX4_ramp_82
        · refine lv_aload_n hx hb dX4_ramp_59 rfl (lv_at hl 2 rfl) ?_
          refine gw_get (C := RX4) (T := TX4) (N := 25) hx hb hL4 hown hK hP 0 0 (rDf (by decide)) rfl rfl 7 (by decide) (hts (.fieldLink RX4 25 "BlockProgramsModel" "outs" "[I") (by decide +kernel)) (fun _ h9 => h9) (v := .ref (ad 7 0)) rfl dX4_ramp_60 ?_
          refine lv_iload_n hx hb dX4_ramp_63 rfl (lv_at hl 3 rfl) ?_
          refine gw_iald hx hb hK hP 7 0 (rDf (by decide)) 0 rfl rfl (b) rfl (by omega) (by decide) (v := (σ 4 b)) rfl dX4_ramp_64 ?_
          refine lv_i2l (v := ((σ 4 b)).toInt64) hx hb dX4_ramp_65 rfl ?_
          refine lv_lload_n hx hb dX4_ramp_66 rfl (lv_at hl 1 rfl) ?_
          refine lv_ladd hx hb dX4_ramp_67 ?_
          refine lv_l2i (v := (((((σ 4 b)).toInt64) + (((σ 1 b)).toInt64))).toInt32) hx hb dX4_ramp_68 rfl ?_
          refine lv_goto (tgt := 82) hx hb dX4_ramp_69 (by decide) ?_
          exact W.iret (v := (((((σ 4 b)).toInt64) + (((σ 1 b)).toInt64))).toInt32) hx hb hr (fun t ht hW => ⟨⟨((((((σ 4 b)).toInt64) + (((σ 1 b)).toInt64))).toInt32), (), rfl, (f_ramp_up (by rw [if_neg (Int32.not_lt.mpr c_1)]) (Or.inr ((lg_cmp_gt _ _).mp c_4)) (Int64.not_le.mp (fun z => c_5 ((lg_cmp_le _ _).mpr z)))).symm, by rw [← ht] at hP; exact hP⟩, hS.F ht⟩) hS.2.2 dX4_ramp_82
      · refine lv_iload_n hx hb dX4_ramp_48 rfl (lv_at hl 4 rfl) ?_
        refine lv_goto (tgt := 82) hx hb dX4_ramp_49 (by decide) ?_
        exact W.iret (v := y0) hx hb hr (fun t ht hW => ⟨⟨y0, (), rfl, (f_ramp_in (by rw [if_neg (Int32.not_lt.mpr c_1)]) (fun z => c_2 ((lg_cmp_lt _ _).mpr z)) (fun z => c_4 ((lg_cmp_gt _ _).mpr z))).symm, by rw [← ht] at hP; exact hP⟩, hS.F ht⟩) hS.2.2 dX4_ramp_82
  · refine lv_lconst (v := 0) hx hb dX4_ramp_9 (by decide) ?_
    refine lv_goto (tgt := 20) hx hb dX4_ramp_10 (by decide) ?_
    refine lv_lstore_n (lv' := [(3, .long 0), (0, .ref (ad 0 0)), (1, .int (nI b)), (2, .int y0)]) hx hb dX4_ramp_20 rfl hl (by decide) rfl (fun ls hl => ?_)
    refine lv_iload_n hx hb dX4_ramp_21 rfl (lv_at hl 3 rfl) ?_
    refine lv_i2l (v := (y0).toInt64) hx hb dX4_ramp_22 rfl ?_
    refine lv_aload_n hx hb dX4_ramp_23 rfl (lv_at hl 1 rfl) ?_
    refine gw_get (C := RX4) (T := TX4) (N := 25) hx hb hL4 hown hK hP 0 0 (rDf (by decide)) rfl rfl 7 (by decide) (hts (.fieldLink RX4 25 "BlockProgramsModel" "outs" "[I") (by decide +kernel)) (fun _ h9 => h9) (v := .ref (ad 7 0)) rfl dX4_ramp_24 ?_
    refine lv_iload_n hx hb dX4_ramp_27 rfl (lv_at hl 2 rfl) ?_
    refine gw_iald hx hb hK hP 7 0 (rDf (by decide)) 0 rfl rfl (b) rfl (by omega) (by decide) (v := (σ 4 b)) rfl dX4_ramp_28 ?_
    refine lv_i2l (v := ((σ 4 b)).toInt64) hx hb dX4_ramp_29 rfl ?_
    refine lv_lsub hx hb dX4_ramp_30 ?_
    refine lv_lstore (lv' := [(5, .long ((((y0).toInt64) - (((σ 4 b)).toInt64)))), (3, .long 0), (0, .ref (ad 0 0)), (1, .int (nI b)), (2, .int y0)]) hx hb dX4_ramp_31 hl (by decide) rfl (fun ls hl => ?_)
    refine lv_lload hx hb dX4_ramp_33 (lv_at hl 0 rfl) ?_
    refine lv_lload_n hx hb dX4_ramp_35 rfl (lv_at hl 1 rfl) ?_
    refine lv_lneg hx hb dX4_ramp_36 ?_
    refine W.lcmp hx hb dX4_ramp_37 ?_
    refine lv_if_lt (tgt := 52) hx hb dX4_ramp_38 (by decide) (fun c_6 => ?_) (fun c_6 => ?_)
    · refine lv_lload hx hb dX4_ramp_52 (lv_at hl 0 rfl) ?_
      refine lv_lconst (v := 0) hx hb dX4_ramp_54 (by decide) ?_
      refine W.lcmp hx hb dX4_ramp_55 ?_
      refine lv_if_le (tgt := 72) hx hb dX4_ramp_56 (by decide) (fun c_7 => ?_) (fun c_7 => ?_)
      · refine lv_aload_n hx hb dX4_ramp_72 rfl (lv_at hl 2 rfl) ?_
        refine gw_get (C := RX4) (T := TX4) (N := 25) hx hb hL4 hown hK hP 0 0 (rDf (by decide)) rfl rfl 7 (by decide) (hts (.fieldLink RX4 25 "BlockProgramsModel" "outs" "[I") (by decide +kernel)) (fun _ h9 => h9) (v := .ref (ad 7 0)) rfl dX4_ramp_73 ?_
        refine lv_iload_n hx hb dX4_ramp_76 rfl (lv_at hl 3 rfl) ?_
        refine gw_iald hx hb hK hP 7 0 (rDf (by decide)) 0 rfl rfl (b) rfl (by omega) (by decide) (v := (σ 4 b)) rfl dX4_ramp_77 ?_
        refine lv_i2l (v := ((σ 4 b)).toInt64) hx hb dX4_ramp_78 rfl ?_
        refine lv_lload_n hx hb dX4_ramp_79 rfl (lv_at hl 1 rfl) ?_
        refine lv_lsub hx hb dX4_ramp_80 ?_
        refine lv_l2i (v := (((((σ 4 b)).toInt64) - 0)).toInt32) hx hb dX4_ramp_81 rfl ?_
        exact W.iret (v := (((((σ 4 b)).toInt64) - 0)).toInt32) hx hb hr (fun t ht hW => ⟨⟨((((((σ 4 b)).toInt64) - 0)).toInt32), (), rfl, (f_ramp_dn (by rw [if_pos (Int32.not_le.mp c_1)]; rfl) (Or.inl ((lg_cmp_lt _ _).mp c_6)) (Int64.not_lt.mpr ((lg_cmp_le _ _).mp c_7))).symm, by rw [← ht] at hP; exact hP⟩, hS.F ht⟩) hS.2.2 dX4_ramp_82
      · refine lv_aload_n hx hb dX4_ramp_59 rfl (lv_at hl 2 rfl) ?_
        refine gw_get (C := RX4) (T := TX4) (N := 25) hx hb hL4 hown hK hP 0 0 (rDf (by decide)) rfl rfl 7 (by decide) (hts (.fieldLink RX4 25 "BlockProgramsModel" "outs" "[I") (by decide +kernel)) (fun _ h9 => h9) (v := .ref (ad 7 0)) rfl dX4_ramp_60 ?_
        refine lv_iload_n hx hb dX4_ramp_63 rfl (lv_at hl 3 rfl) ?_
        refine gw_iald hx hb hK hP 7 0 (rDf (by decide)) 0 rfl rfl (b) rfl (by omega) (by decide) (v := (σ 4 b)) rfl dX4_ramp_64 ?_
        refine lv_i2l (v := ((σ 4 b)).toInt64) hx hb dX4_ramp_65 rfl ?_
        refine lv_lload_n hx hb dX4_ramp_66 rfl (lv_at hl 1 rfl) ?_
        refine lv_ladd hx hb dX4_ramp_67 ?_
        refine lv_l2i (v := (((((σ 4 b)).toInt64) + 0)).toInt32) hx hb dX4_ramp_68 rfl ?_
        refine lv_goto (tgt := 82) hx hb dX4_ramp_69 (by decide) ?_
        exact W.iret (v := (((((σ 4 b)).toInt64) + 0)).toInt32) hx hb hr (fun t ht hW => ⟨⟨((((((σ 4 b)).toInt64) + 0)).toInt32), (), rfl, (f_ramp_up (by rw [if_pos (Int32.not_le.mp c_1)]; rfl) (Or.inl ((lg_cmp_lt _ _).mp c_6)) (Int64.not_le.mp (fun z => c_7 ((lg_cmp_le _ _).mpr z)))).symm, by rw [← ht] at hP; exact hP⟩, hS.F ht⟩) hS.2.2 dX4_ramp_82
    · refine lv_lload hx hb dX4_ramp_41 (lv_at hl 0 rfl) ?_
      refine lv_lload_n hx hb dX4_ramp_43 rfl (lv_at hl 1 rfl) ?_
      refine W.lcmp hx hb dX4_ramp_44 ?_
      refine lv_if_gt (tgt := 52) hx hb dX4_ramp_45 (by decide) (fun c_8 => ?_) (fun c_8 => ?_)
      · refine lv_lload hx hb dX4_ramp_52 (lv_at hl 0 rfl) ?_
        refine lv_lconst (v := 0) hx hb dX4_ramp_54 (by decide) ?_
        refine W.lcmp hx hb dX4_ramp_55 ?_
        refine lv_if_le (tgt := 72) hx hb dX4_ramp_56 (by decide) (fun c_9 => ?_) (fun c_9 => ?_)
        · refine lv_aload_n hx hb dX4_ramp_72 rfl (lv_at hl 2 rfl) ?_
          refine gw_get (C := RX4) (T := TX4) (N := 25) hx hb hL4 hown hK hP 0 0 (rDf (by decide)) rfl rfl 7 (by decide) (hts (.fieldLink RX4 25 "BlockProgramsModel" "outs" "[I") (by decide +kernel)) (fun _ h9 => h9) (v := .ref (ad 7 0)) rfl dX4_ramp_73 ?_
          refine lv_iload_n hx hb dX4_ramp_76 rfl (lv_at hl 3 rfl) ?_
          refine gw_iald hx hb hK hP 7 0 (rDf (by decide)) 0 rfl rfl (b) rfl (by omega) (by decide) (v := (σ 4 b)) rfl dX4_ramp_77 ?_
          refine lv_i2l (v := ((σ 4 b)).toInt64) hx hb dX4_ramp_78 rfl ?_
          refine lv_lload_n hx hb dX4_ramp_79 rfl (lv_at hl 1 rfl) ?_
          refine lv_lsub hx hb dX4_ramp_80 ?_
          refine lv_l2i (v := (((((σ 4 b)).toInt64) - 0)).toInt32) hx hb dX4_ramp_81 rfl ?_
          exact W.iret (v := (((((σ 4 b)).toInt64) - 0)).toInt32) hx hb hr (fun t ht hW => ⟨⟨((((((σ 4 b)).toInt64) - 0)).toInt32), (), rfl, (f_ramp_dn (by rw [if_pos (Int32.not_le.mp c_1)]; rfl) (Or.inr ((lg_cmp_gt _ _).mp c_8)) (Int64.not_lt.mpr ((lg_cmp_le _ _).mp c_9))).symm, by rw [← ht] at hP; exact hP⟩, hS.F ht⟩) hS.2.2 dX4_ramp_82
        · refine lv_aload_n hx hb dX4_ramp_59 rfl (lv_at hl 2 rfl) ?_
          refine gw_get (C := RX4) (T := TX4) (N := 25) hx hb hL4 hown hK hP 0 0 (rDf (by decide)) rfl rfl 7 (by decide) (hts (.fieldLink RX4 25 "BlockProgramsModel" "outs" "[I") (by decide +kernel)) (fun _ h9 => h9) (v := .ref (ad 7 0)) rfl dX4_ramp_60 ?_
          refine lv_iload_n hx hb dX4_ramp_63 rfl (lv_at hl 3 rfl) ?_
          refine gw_iald hx hb hK hP 7 0 (rDf (by decide)) 0 rfl rfl (b) rfl (by omega) (by decide) (v := (σ 4 b)) rfl dX4_ramp_64 ?_
          refine lv_i2l (v := ((σ 4 b)).toInt64) hx hb dX4_ramp_65 rfl ?_
          refine lv_lload_n hx hb dX4_ramp_66 rfl (lv_at hl 1 rfl) ?_
          refine lv_ladd hx hb dX4_ramp_67 ?_
          refine lv_l2i (v := (((((σ 4 b)).toInt64) + 0)).toInt32) hx hb dX4_ramp_68 rfl ?_
          refine lv_goto (tgt := 82) hx hb dX4_ramp_69 (by decide) ?_
          exact W.iret (v := (((((σ 4 b)).toInt64) + 0)).toInt32) hx hb hr (fun t ht hW => ⟨⟨((((((σ 4 b)).toInt64) + 0)).toInt32), (), rfl, (f_ramp_up (by rw [if_pos (Int32.not_le.mp c_1)]; rfl) (Or.inr ((lg_cmp_gt _ _).mp c_8)) (Int64.not_le.mp (fun z => c_9 ((lg_cmp_le _ _).mpr z)))).symm, by rw [← ht] at hP; exact hP⟩, hS.F ht⟩) hS.2.2 dX4_ramp_82
      · refine lv_iload_n hx hb dX4_ramp_48 rfl (lv_at hl 4 rfl) ?_
        refine lv_goto (tgt := 82) hx hb dX4_ramp_49 (by decide) ?_
        exact W.iret (v := y0) hx hb hr (fun t ht hW => ⟨⟨y0, (), rfl, (f_ramp_in (by rw [if_pos (Int32.not_le.mp c_1)]; rfl) (fun z => c_6 ((lg_cmp_lt _ _).mpr z)) (fun z => c_8 ((lg_cmp_gt _ _).mpr z))).symm, by rw [← ht] at hP; exact hP⟩, hS.F ht⟩) hS.2.2 dX4_ramp_82

