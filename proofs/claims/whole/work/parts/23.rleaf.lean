set_option maxHeartbeats 4000000 in
set_option maxRecDepth 100000 in
theorem k_X4_in {l : Launch} {D : va_G} {cI cZ cB cS : ClassId} {A : Nat → Prop} (dm : Nat → Nat) (en : Nat → Nat → va_E) (ad : Nat → Nat → Nat) (y0 y1 y2 : Int32) : Met l yX4_in wsX4_in ({ frames := 0, cells := 0, slots := 0, locals := 0 } : Room) (gPc D cI cZ cB cS A dm en ad [.int y0, .int y1, .int y2]) (va_Qi (fun (r : Int32) (_ : Unit) => r = if y1 ≤ y0 ∧ y0 ≤ y2 then 1 else 0) (fun _ t => gw_P D vwCl A dm en ad t.heap) A) 0 0 A := by
  refine Met.ofW (cc := cX4_in) (maxL := 3) (ret := (some .boolean)) (by decide) rfl ?_
  intro p e s m args below meth c s₁ B hml hv
  obtain ⟨rfl, hP, hE, hA⟩ := hv
  have hx := B.exec
  have hb := B.bytes
  have hr := B.returns
  have hts := atoms_spec (ws := wsX4_in) B.pre
  have hown : s.vm.findClass RX4 = some m.cls := findClass_of_methodNamed B.named
  have hlocks := B.notSynchronized
  have hK := hE.1
  have hS : va_S A s.heap s.heap [] := va_S.rf
  have hl := lv_entry ([.int y0, .int y1, .int y2]) (n := 3) (Nat.le_of_ble_eq_true rfl)
  rw [lg_entry_eq]
  generalize (lg_sl ([.int y0, .int y1, .int y2]) ++ List.replicate (3 - (lg_sl ([.int y0, .int y1, .int y2])).length) Slot.unset).toArray = ls at hl ⊢
  have hl : lv_has ls 3 [(0, .int y0), (1, .int y1), (2, .int y2)] := hl
  refine lv_iload_n hx hb dX4_in_0 rfl (lv_at hl 0 rfl) ?_
  refine lv_iload_n hx hb dX4_in_1 rfl (lv_at hl 1 rfl) ?_
  refine lv_icmp_lt (tgt := 14) hx hb dX4_in_2 (by decide) (fun c_1 => ?_) (fun c_1 => ?_)
  · refine lv_iconst (v := 0) hx hb dX4_in_14 (by decide) ?_
    exact W.zret (v := 0) (ty := .boolean) hx hb hr rfl (fun t ht hW => ⟨⟨0, (), rfl, (by rw [if_neg]; exact fun z => Int32.not_le.mpr c_1 z.1), by rw [← ht] at hP; exact hP⟩, hS.F ht⟩) hS.2.2 dX4_in_15
  · refine lv_iload_n hx hb dX4_in_5 rfl (lv_at hl 0 rfl) ?_
    refine lv_iload_n hx hb dX4_in_6 rfl (lv_at hl 2 rfl) ?_
    refine lv_icmp_gt (tgt := 14) hx hb dX4_in_7 (by decide) (fun c_2 => ?_) (fun c_2 => ?_)
    · refine lv_iconst (v := 0) hx hb dX4_in_14 (by decide) ?_
      exact W.zret (v := 0) (ty := .boolean) hx hb hr rfl (fun t ht hW => ⟨⟨0, (), rfl, (by rw [if_neg]; exact fun z => Int32.not_le.mpr c_2 z.2), by rw [← ht] at hP; exact hP⟩, hS.F ht⟩) hS.2.2 dX4_in_15
    · refine lv_iconst (v := 1) hx hb dX4_in_10 (by decide) ?_
      refine lv_goto (tgt := 15) hx hb dX4_in_11 (by decide) ?_
      exact W.zret (v := 1) (ty := .boolean) hx hb hr rfl (fun t ht hW => ⟨⟨1, (), rfl, (by rw [if_pos]; exact ⟨Int32.not_lt.mp c_1, Int32.not_lt.mp c_2⟩), by rw [← ht] at hP; exact hP⟩, hS.F ht⟩) hS.2.2 dX4_in_15

set_option maxHeartbeats 4000000 in
set_option maxRecDepth 100000 in
theorem k_X4_one {l : Launch} {D : va_G} {cI cZ cB cS : ClassId} {A : Nat → Prop} (dm : Nat → Nat) (en : Nat → Nat → va_E) (ad : Nat → Nat → Nat) (y0 : Int32) : Met l yX4_one wsX4_one ({ frames := 0, cells := 0, slots := 0, locals := 0 } : Room) (gPc D cI cZ cB cS A dm en ad [.int y0]) (va_Qi (fun (r : Int32) (_ : Unit) => r = if y0 = 0 then 0 else 1) (fun _ t => gw_P D vwCl A dm en ad t.heap) A) 0 0 A := by
  refine Met.ofW (cc := cX4_one) (maxL := 1) (ret := (some .int)) (by decide) rfl ?_
  intro p e s m args below meth c s₁ B hml hv
  obtain ⟨rfl, hP, hE, hA⟩ := hv
  have hx := B.exec
  have hb := B.bytes
  have hr := B.returns
  have hts := atoms_spec (ws := wsX4_one) B.pre
  have hown : s.vm.findClass RX4 = some m.cls := findClass_of_methodNamed B.named
  have hlocks := B.notSynchronized
  have hK := hE.1
  have hS : va_S A s.heap s.heap [] := va_S.rf
  have hl := lv_entry ([.int y0]) (n := 1) (Nat.le_of_ble_eq_true rfl)
  rw [lg_entry_eq]
  generalize (lg_sl ([.int y0]) ++ List.replicate (1 - (lg_sl ([.int y0])).length) Slot.unset).toArray = ls at hl ⊢
  have hl : lv_has ls 1 [(0, .int y0)] := hl
  refine lv_iload_n hx hb dX4_one_0 rfl (lv_at hl 0 rfl) ?_
  refine lv_if_eq (tgt := 8) hx hb dX4_one_1 (by decide) (fun c_1 => ?_) (fun c_1 => ?_)
  · refine lv_iconst (v := 0) hx hb dX4_one_8 (by decide) ?_
    exact W.iret (v := 0) hx hb hr (fun t ht hW => ⟨⟨0, (), rfl, (by simp [c_1]), by rw [← ht] at hP; exact hP⟩, hS.F ht⟩) hS.2.2 dX4_one_9
  · refine lv_iconst (v := 1) hx hb dX4_one_4 (by decide) ?_
    refine lv_goto (tgt := 9) hx hb dX4_one_5 (by decide) ?_
    exact W.iret (v := 1) hx hb hr (fun t ht hW => ⟨⟨1, (), rfl, (by simp [c_1]), by rw [← ht] at hP; exact hP⟩, hS.F ht⟩) hS.2.2 dX4_one_9

theorem iL_X4_isBlock_X4 : ∀ w ∈ u_ws RX4 TX4 25, w ∈ wsX4_isBlock := by decide +kernel
set_option maxHeartbeats 4000000 in
set_option maxRecDepth 100000 in
theorem k_X4_isBlock {l : Launch} {D : va_G} {cI cZ cB cS : ClassId} {A : Nat → Prop} (κ : Nat → Nat) (σ sc : Nat → Nat → Int32) (ad : Nat → Nat → Nat) (hn : κ 0 ≤ 40) (y0 : Int32) : Met l yX4_isBlock wsX4_isBlock ({ frames := 1, cells := 0, slots := 0, locals := 22 } : Room) (gPc D cI cZ cB cS A rDm (rEn cI cZ κ σ sc ad) ad [.ref (ad 0 0), .int y0]) (va_Qi (fun (r : Int32) (_ : Unit) => r = if okI (κ 0) y0 then 1 else 0) (fun _ t => gw_P D vwCl A rDm (rEn cI cZ κ σ sc ad) ad t.heap) A) 0 0 A := by
  refine Met.ofW (cc := cX4_isBlock) (maxL := 2) (ret := (some .boolean)) (by decide) rfl ?_
  intro p e s m args below meth c s₁ B hml hv
  obtain ⟨rfl, hP, hE, hA⟩ := hv
  have hx := B.exec
  have hb := B.bytes
  have hr := B.returns
  have hts := atoms_spec (ws := wsX4_isBlock) B.pre
  have hown : s.vm.findClass RX4 = some m.cls := findClass_of_methodNamed B.named
  have hlocks := B.notSynchronized
  have hK := hE.1
  have hS : va_S A s.heap s.heap [] := va_S.rf
  have hL4 := fun w (hw : w ∈ u_ws RX4 TX4 25) => hts w (iL_X4_isBlock_X4 w hw)
  have hl := lv_entry ([.ref (ad 0 0), .int y0]) (n := 2) (Nat.le_of_ble_eq_true rfl)
  rw [lg_entry_eq]
  generalize (lg_sl ([.ref (ad 0 0), .int y0]) ++ List.replicate (2 - (lg_sl ([.ref (ad 0 0), .int y0])).length) Slot.unset).toArray = ls at hl ⊢
  have hl : lv_has ls 2 [(0, .ref (ad 0 0)), (1, .int y0)] := hl
  refine lv_iload_n hx hb dX4_isBlock_0 rfl (lv_at hl 1 rfl) ?_
  refine lv_iconst (v := 0) hx hb dX4_isBlock_1 (by decide) ?_
  refine lv_aload_n hx hb dX4_isBlock_2 rfl (lv_at hl 0 rfl) ?_
  refine gw_get (C := RX4) (T := TX4) (N := 25) hx hb hL4 hown hK hP 0 0 (rDf (by decide)) rfl rfl 1 (by decide) (hts (.fieldLink RX4 69 "BlockProgramsModel" "blocks" "I") (by decide +kernel)) (fun _ h9 => h9) (v := .int (nI (κ 0))) rfl dX4_isBlock_3 ?_
  refine lv_iconst (v := 1) hx hb dX4_isBlock_6 (by decide) ?_
  refine lv_isub hx hb dX4_isBlock_7 ?_
  refine va_calli (va_runS (As := [.int y0, .int 0, .int ((nI (κ 0) - 1))]) (rest := []) ⟨hx, hb, hml, hown, hts⟩ (k_X4_in (l := l) (D := D) (cI := cI) (cZ := cZ) (cB := cB) (cS := cS) (A := A) rDm (rEn cI cZ κ σ sc ad) ad y0 0 ((nI (κ 0) - 1))) (va_cwS 3 hts gX4_isBlock_X4_in rfl rfl rfl (by decide +kernel) ⟨Nat.le_of_ble_eq_true rfl, Nat.le_of_ble_eq_true rfl⟩) (gPreS hE hA hS hP) rfl rfl hl.1 rfl (lv_room (Nat.le_of_ble_eq_true rfl)) dX4_isBlock_8 ⟨Nat.le_of_ble_eq_true rfl, Nat.le_of_ble_eq_true rfl⟩) hS (fun q _ h9 => h9) (fun q h9 => h9) (fun r_1 u9 t9 H locs ht9 hvm9 hw_r_1 hB9 hz9 hk9 hS => ?_)
  have hP : gw_P D vwCl A rDm (rEn cI cZ κ σ sc ad) ad H := by rw [← ht9]; exact hB9
  refine lv_toq (if okI (κ 0) y0 then 1 else 0) (hw_r_1.trans (in_i (by omega) rfl)) ?_
  exact W.zret (v := (if okI (κ 0) y0 then 1 else 0)) (ty := .boolean) hx hb hr (by first | rfl | exact zb_if) (fun t ht hW => ⟨⟨((if okI (κ 0) y0 then 1 else 0)), (), rfl, rfl, by rw [← ht] at hP; exact hP⟩, hS.F ht⟩) hS.2.2 dX4_isBlock_11

theorem iL_X4_thrown_X4 : ∀ w ∈ u_ws RX4 TX4 25, w ∈ wsX4_thrown := by decide +kernel
set_option maxHeartbeats 4000000 in
set_option maxRecDepth 100000 in
theorem k_X4_thrown {l : Launch} {D : va_G} {cI cZ cB cS : ClassId} {A : Nat → Prop} (κ : Nat → Nat) (σ sc : Nat → Nat → Int32) (ad : Nat → Nat → Nat)  : Met l yX4_thrown wsX4_thrown ({ frames := 0, cells := 0, slots := 0, locals := 0 } : Room) (gPc D cI cZ cB cS A rDm (rEn cI cZ κ σ sc ad) ad [.ref (ad 0 0)]) (va_Qi (fun (r : Int32) (_ : Unit) => r = sc 2 0) (fun _ t => gw_P D vwCl A rDm (rEn cI cZ κ σ sc ad) ad t.heap) A) 0 0 A := by
  refine Met.ofW (cc := cX4_thrown) (maxL := 1) (ret := (some .int)) (by decide) rfl ?_
  intro p e s m args below meth c s₁ B hml hv
  obtain ⟨rfl, hP, hE, hA⟩ := hv
  have hx := B.exec
  have hb := B.bytes
  have hr := B.returns
  have hts := atoms_spec (ws := wsX4_thrown) B.pre
  have hown : s.vm.findClass RX4 = some m.cls := findClass_of_methodNamed B.named
  have hlocks := B.notSynchronized
  have hK := hE.1
  have hS : va_S A s.heap s.heap [] := va_S.rf
  have hL4 := fun w (hw : w ∈ u_ws RX4 TX4 25) => hts w (iL_X4_thrown_X4 w hw)
  have hl := lv_entry ([.ref (ad 0 0)]) (n := 1) (Nat.le_of_ble_eq_true rfl)
  rw [lg_entry_eq]
  generalize (lg_sl ([.ref (ad 0 0)]) ++ List.replicate (1 - (lg_sl ([.ref (ad 0 0)])).length) Slot.unset).toArray = ls at hl ⊢
  have hl : lv_has ls 1 [(0, .ref (ad 0 0))] := hl
  refine lv_aload_n hx hb dX4_thrown_0 rfl (lv_at hl 0 rfl) ?_
  refine gw_get (C := RX4) (T := TX4) (N := 25) hx hb hL4 hown hK hP 0 0 (rDf (by decide)) rfl rfl 0 (by decide) (hts (.fieldLink RX4 65 "BlockProgramsModel" "code" "I") (by decide +kernel)) (fun _ h9 => h9) (v := .int (sc 2 0)) rfl dX4_thrown_1 ?_
  exact W.iret (v := sc 2 0) hx hb hr (fun t ht hW => ⟨⟨(sc 2 0), (), rfl, rfl, by rw [← ht] at hP; exact hP⟩, hS.F ht⟩) hS.2.2 dX4_thrown_4

set_option maxHeartbeats 4000000 in
set_option maxRecDepth 100000 in
theorem k_X4_inputsOf_0 {l : Launch} {D : va_G} {cI cZ cB cS : ClassId} {A : Nat → Prop} (dm : Nat → Nat) (en : Nat → Nat → va_E) (ad : Nat → Nat → Nat)  : Met l yX4_inputsOf wsX4_inputsOf ({ frames := 1, cells := 0, slots := 0, locals := 22 } : Room) (gPc D cI cZ cB cS A dm en ad [.int (nI 0)]) (va_Qi (fun (r : Int32) (_ : Unit) => r = nI (nmd 0)) (fun _ t => gw_P D vwCl A dm en ad t.heap) A) 0 0 A := by
  refine Met.ofW (cc := cX4_inputsOf) (maxL := 1) (ret := (some .int)) (by decide) rfl ?_
  intro p e s m args below meth c s₁ B hml hv
  obtain ⟨rfl, hP, hE, hA⟩ := hv
  have hx := B.exec
  have hb := B.bytes
  have hr := B.returns
  have hts := atoms_spec (ws := wsX4_inputsOf) B.pre
  have hown : s.vm.findClass RX4 = some m.cls := findClass_of_methodNamed B.named
  have hlocks := B.notSynchronized
  have hK := hE.1
  have hS : va_S A s.heap s.heap [] := va_S.rf
  have hl := lv_entry ([.int (nI 0)]) (n := 1) (Nat.le_of_ble_eq_true rfl)
  rw [lg_entry_eq]
  generalize (lg_sl ([.int (nI 0)]) ++ List.replicate (1 - (lg_sl ([.int (nI 0)])).length) Slot.unset).toArray = ls at hl ⊢
  have hl : lv_has ls 1 [(0, .int (nI 0))] := hl
  refine lv_iload_n hx hb dX4_inputsOf_0 rfl (lv_at hl 0 rfl) ?_
  refine lv_bipush (v := 14) hx hb dX4_inputsOf_1 (by decide) ?_
  refine lv_icmp_ne (tgt := 8) hx hb dX4_inputsOf_3 (by decide) (fun c_1 => ?_) (fun c_1 => ?_)
  · have c_1 : ¬ (0 = 14) := fun z => c_1 ((nI_eq (a := 0) (b := 14) (by omega) (by omega)).mpr z)
    refine lv_iload_n hx hb dX4_inputsOf_8 rfl (lv_at hl 0 rfl) ?_
    refine lv_iconst (v := 2) hx hb dX4_inputsOf_9 (by decide) ?_
    refine lv_bipush (v := 12) hx hb dX4_inputsOf_10 (by decide) ?_
    refine va_calli (va_runS (As := [.int (nI 0), .int 2, .int 12]) (rest := []) ⟨hx, hb, hml, hown, hts⟩ (k_X4_in (l := l) (D := D) (cI := cI) (cZ := cZ) (cB := cB) (cS := cS) (A := A) dm en ad (nI 0) 2 12) (va_cwS 3 hts gX4_inputsOf_X4_in rfl rfl rfl (by decide +kernel) ⟨Nat.le_of_ble_eq_true rfl, Nat.le_of_ble_eq_true rfl⟩) (gPreS hE hA hS hP) rfl rfl hl.1 rfl (lv_room (Nat.le_of_ble_eq_true rfl)) dX4_inputsOf_12 ⟨Nat.le_of_ble_eq_true rfl, Nat.le_of_ble_eq_true rfl⟩) hS (fun q _ h9 => h9) (fun q h9 => h9) (fun r_2 u9 t9 H locs ht9 hvm9 hw_r_2 hB9 hz9 hk9 hS => ?_)
    have hP : gw_P D vwCl A dm en ad H := by rw [← ht9]; exact hB9
    refine lv_toq 0 (hw_r_2.trans (by decide)) ?_
    refine lv_if_ne (tgt := 42) hx hb dX4_inputsOf_15 (by decide) (fun c_3 => ?_) (fun c_3 => ?_)
    · have c_3 : ¬ (0 = 0) := fun z => c_3 ((nI_eq (a := 0) (b := 0) (by omega) (by omega)).mpr z)
      exfalso; omega
    · have c_3 : 0 = 0 := (nI_eq (a := 0) (b := 0) (by omega) (by omega)).mp c_3
      refine lv_iload_n hx hb dX4_inputsOf_18 rfl (lv_at hl 0 rfl) ?_
      refine lv_bipush (v := 18) hx hb dX4_inputsOf_19 (by decide) ?_
      refine lv_icmp_eq (tgt := 42) hx hb dX4_inputsOf_21 (by decide) (fun c_4 => ?_) (fun c_4 => ?_)
      · have c_4 : 0 = 18 := (nI_eq (a := 0) (b := 18) (by omega) (by omega)).mp c_4
        exfalso; omega
      · have c_4 : ¬ (0 = 18) := fun z => c_4 ((nI_eq (a := 0) (b := 18) (by omega) (by omega)).mpr z)
        refine lv_iload_n hx hb dX4_inputsOf_24 rfl (lv_at hl 0 rfl) ?_
        refine lv_bipush (v := 19) hx hb dX4_inputsOf_25 (by decide) ?_
        refine lv_icmp_eq (tgt := 42) hx hb dX4_inputsOf_27 (by decide) (fun c_5 => ?_) (fun c_5 => ?_)
        · have c_5 : 0 = 19 := (nI_eq (a := 0) (b := 19) (by omega) (by omega)).mp c_5
          exfalso; omega
        · have c_5 : ¬ (0 = 19) := fun z => c_5 ((nI_eq (a := 0) (b := 19) (by omega) (by omega)).mpr z)
          refine lv_iload_n hx hb dX4_inputsOf_30 rfl (lv_at hl 0 rfl) ?_
          refine lv_bipush (v := 23) hx hb dX4_inputsOf_31 (by decide) ?_
          refine lv_icmp_eq (tgt := 42) hx hb dX4_inputsOf_33 (by decide) (fun c_6 => ?_) (fun c_6 => ?_)
          · have c_6 : 0 = 23 := (nI_eq (a := 0) (b := 23) (by omega) (by omega)).mp c_6
            exfalso; omega
          · have c_6 : ¬ (0 = 23) := fun z => c_6 ((nI_eq (a := 0) (b := 23) (by omega) (by omega)).mpr z)
            refine lv_iload_n hx hb dX4_inputsOf_36 rfl (lv_at hl 0 rfl) ?_
            refine lv_bipush (v := 24) hx hb dX4_inputsOf_37 (by decide) ?_
            refine lv_icmp_ne (tgt := 44) hx hb dX4_inputsOf_39 (by decide) (fun c_7 => ?_) (fun c_7 => ?_)
            · have c_7 : ¬ (0 = 24) := fun z => c_7 ((nI_eq (a := 0) (b := 24) (by omega) (by omega)).mpr z)
              refine lv_iload_n hx hb dX4_inputsOf_44 rfl (lv_at hl 0 rfl) ?_
              refine lv_iconst (v := 2) hx hb dX4_inputsOf_45 (by decide) ?_
              refine lv_icmp_lt (tgt := 55) hx hb dX4_inputsOf_46 (by decide) (fun c_8 => ?_) (fun c_8 => ?_)
              · have c_8 : 0 < 2 := (nI_ltI (a := 0) (b := 2) (by omega) (by omega)).mp c_8
                refine lv_iconst (v := 0) hx hb dX4_inputsOf_55 (by decide) ?_
                refine lv_goto (tgt := 60) hx hb dX4_inputsOf_56 (by decide) ?_
                exact W.iret (v := 0) hx hb hr (fun t ht hW => ⟨⟨0, (), rfl, (by decide), by rw [← ht] at hP; exact hP⟩, hS.F ht⟩) hS.2.2 dX4_inputsOf_60
              · have c_8 : ¬ (0 < 2) := fun z => c_8 ((nI_ltI (a := 0) (b := 2) (by omega) (by omega)).mpr z)
                exfalso; omega
            · have c_7 : 0 = 24 := (nI_eq (a := 0) (b := 24) (by omega) (by omega)).mp c_7
              exfalso; omega
  · have c_1 : 0 = 14 := (nI_eq (a := 0) (b := 14) (by omega) (by omega)).mp c_1
    exfalso; omega

set_option maxHeartbeats 4000000 in
set_option maxRecDepth 100000 in
theorem k_X4_inputsOf_1 {l : Launch} {D : va_G} {cI cZ cB cS : ClassId} {A : Nat → Prop} (dm : Nat → Nat) (en : Nat → Nat → va_E) (ad : Nat → Nat → Nat)  : Met l yX4_inputsOf wsX4_inputsOf ({ frames := 1, cells := 0, slots := 0, locals := 22 } : Room) (gPc D cI cZ cB cS A dm en ad [.int (nI 1)]) (va_Qi (fun (r : Int32) (_ : Unit) => r = nI (nmd 1)) (fun _ t => gw_P D vwCl A dm en ad t.heap) A) 0 0 A := by
  refine Met.ofW (cc := cX4_inputsOf) (maxL := 1) (ret := (some .int)) (by decide) rfl ?_
  intro p e s m args below meth c s₁ B hml hv
  obtain ⟨rfl, hP, hE, hA⟩ := hv
  have hx := B.exec
  have hb := B.bytes
  have hr := B.returns
  have hts := atoms_spec (ws := wsX4_inputsOf) B.pre
  have hown : s.vm.findClass RX4 = some m.cls := findClass_of_methodNamed B.named
  have hlocks := B.notSynchronized
  have hK := hE.1
  have hS : va_S A s.heap s.heap [] := va_S.rf
  have hl := lv_entry ([.int (nI 1)]) (n := 1) (Nat.le_of_ble_eq_true rfl)
  rw [lg_entry_eq]
  generalize (lg_sl ([.int (nI 1)]) ++ List.replicate (1 - (lg_sl ([.int (nI 1)])).length) Slot.unset).toArray = ls at hl ⊢
  have hl : lv_has ls 1 [(0, .int (nI 1))] := hl
  refine lv_iload_n hx hb dX4_inputsOf_0 rfl (lv_at hl 0 rfl) ?_
  refine lv_bipush (v := 14) hx hb dX4_inputsOf_1 (by decide) ?_
  refine lv_icmp_ne (tgt := 8) hx hb dX4_inputsOf_3 (by decide) (fun c_1 => ?_) (fun c_1 => ?_)
  · have c_1 : ¬ (1 = 14) := fun z => c_1 ((nI_eq (a := 1) (b := 14) (by omega) (by omega)).mpr z)
    refine lv_iload_n hx hb dX4_inputsOf_8 rfl (lv_at hl 0 rfl) ?_
    refine lv_iconst (v := 2) hx hb dX4_inputsOf_9 (by decide) ?_
    refine lv_bipush (v := 12) hx hb dX4_inputsOf_10 (by decide) ?_
    refine va_calli (va_runS (As := [.int (nI 1), .int 2, .int 12]) (rest := []) ⟨hx, hb, hml, hown, hts⟩ (k_X4_in (l := l) (D := D) (cI := cI) (cZ := cZ) (cB := cB) (cS := cS) (A := A) dm en ad (nI 1) 2 12) (va_cwS 3 hts gX4_inputsOf_X4_in rfl rfl rfl (by decide +kernel) ⟨Nat.le_of_ble_eq_true rfl, Nat.le_of_ble_eq_true rfl⟩) (gPreS hE hA hS hP) rfl rfl hl.1 rfl (lv_room (Nat.le_of_ble_eq_true rfl)) dX4_inputsOf_12 ⟨Nat.le_of_ble_eq_true rfl, Nat.le_of_ble_eq_true rfl⟩) hS (fun q _ h9 => h9) (fun q h9 => h9) (fun r_2 u9 t9 H locs ht9 hvm9 hw_r_2 hB9 hz9 hk9 hS => ?_)
    have hP : gw_P D vwCl A dm en ad H := by rw [← ht9]; exact hB9
    refine lv_toq 0 (hw_r_2.trans (by decide)) ?_
    refine lv_if_ne (tgt := 42) hx hb dX4_inputsOf_15 (by decide) (fun c_3 => ?_) (fun c_3 => ?_)
    · have c_3 : ¬ (0 = 0) := fun z => c_3 ((nI_eq (a := 0) (b := 0) (by omega) (by omega)).mpr z)
      exfalso; omega
    · have c_3 : 0 = 0 := (nI_eq (a := 0) (b := 0) (by omega) (by omega)).mp c_3
      refine lv_iload_n hx hb dX4_inputsOf_18 rfl (lv_at hl 0 rfl) ?_
      refine lv_bipush (v := 18) hx hb dX4_inputsOf_19 (by decide) ?_
      refine lv_icmp_eq (tgt := 42) hx hb dX4_inputsOf_21 (by decide) (fun c_4 => ?_) (fun c_4 => ?_)
      · have c_4 : 1 = 18 := (nI_eq (a := 1) (b := 18) (by omega) (by omega)).mp c_4
        exfalso; omega
      · have c_4 : ¬ (1 = 18) := fun z => c_4 ((nI_eq (a := 1) (b := 18) (by omega) (by omega)).mpr z)
        refine lv_iload_n hx hb dX4_inputsOf_24 rfl (lv_at hl 0 rfl) ?_
        refine lv_bipush (v := 19) hx hb dX4_inputsOf_25 (by decide) ?_
        refine lv_icmp_eq (tgt := 42) hx hb dX4_inputsOf_27 (by decide) (fun c_5 => ?_) (fun c_5 => ?_)
        · have c_5 : 1 = 19 := (nI_eq (a := 1) (b := 19) (by omega) (by omega)).mp c_5
          exfalso; omega
        · have c_5 : ¬ (1 = 19) := fun z => c_5 ((nI_eq (a := 1) (b := 19) (by omega) (by omega)).mpr z)
          refine lv_iload_n hx hb dX4_inputsOf_30 rfl (lv_at hl 0 rfl) ?_
          refine lv_bipush (v := 23) hx hb dX4_inputsOf_31 (by decide) ?_
          refine lv_icmp_eq (tgt := 42) hx hb dX4_inputsOf_33 (by decide) (fun c_6 => ?_) (fun c_6 => ?_)
          · have c_6 : 1 = 23 := (nI_eq (a := 1) (b := 23) (by omega) (by omega)).mp c_6
            exfalso; omega
          · have c_6 : ¬ (1 = 23) := fun z => c_6 ((nI_eq (a := 1) (b := 23) (by omega) (by omega)).mpr z)
            refine lv_iload_n hx hb dX4_inputsOf_36 rfl (lv_at hl 0 rfl) ?_
            refine lv_bipush (v := 24) hx hb dX4_inputsOf_37 (by decide) ?_
            refine lv_icmp_ne (tgt := 44) hx hb dX4_inputsOf_39 (by decide) (fun c_7 => ?_) (fun c_7 => ?_)
            · have c_7 : ¬ (1 = 24) := fun z => c_7 ((nI_eq (a := 1) (b := 24) (by omega) (by omega)).mpr z)
              refine lv_iload_n hx hb dX4_inputsOf_44 rfl (lv_at hl 0 rfl) ?_
              refine lv_iconst (v := 2) hx hb dX4_inputsOf_45 (by decide) ?_
              refine lv_icmp_lt (tgt := 55) hx hb dX4_inputsOf_46 (by decide) (fun c_8 => ?_) (fun c_8 => ?_)
              · have c_8 : 1 < 2 := (nI_ltI (a := 1) (b := 2) (by omega) (by omega)).mp c_8
                refine lv_iconst (v := 0) hx hb dX4_inputsOf_55 (by decide) ?_
                refine lv_goto (tgt := 60) hx hb dX4_inputsOf_56 (by decide) ?_
                exact W.iret (v := 0) hx hb hr (fun t ht hW => ⟨⟨0, (), rfl, (by decide), by rw [← ht] at hP; exact hP⟩, hS.F ht⟩) hS.2.2 dX4_inputsOf_60
              · have c_8 : ¬ (1 < 2) := fun z => c_8 ((nI_ltI (a := 1) (b := 2) (by omega) (by omega)).mpr z)
                exfalso; omega
            · have c_7 : 1 = 24 := (nI_eq (a := 1) (b := 24) (by omega) (by omega)).mp c_7
              exfalso; omega
  · have c_1 : 1 = 14 := (nI_eq (a := 1) (b := 14) (by omega) (by omega)).mp c_1
    exfalso; omega

set_option maxHeartbeats 4000000 in
set_option maxRecDepth 100000 in
theorem k_X4_inputsOf_2 {l : Launch} {D : va_G} {cI cZ cB cS : ClassId} {A : Nat → Prop} (dm : Nat → Nat) (en : Nat → Nat → va_E) (ad : Nat → Nat → Nat)  : Met l yX4_inputsOf wsX4_inputsOf ({ frames := 1, cells := 0, slots := 0, locals := 22 } : Room) (gPc D cI cZ cB cS A dm en ad [.int (nI 2)]) (va_Qi (fun (r : Int32) (_ : Unit) => r = nI (nmd 2)) (fun _ t => gw_P D vwCl A dm en ad t.heap) A) 0 0 A := by
  refine Met.ofW (cc := cX4_inputsOf) (maxL := 1) (ret := (some .int)) (by decide) rfl ?_
  intro p e s m args below meth c s₁ B hml hv
  obtain ⟨rfl, hP, hE, hA⟩ := hv
  have hx := B.exec
  have hb := B.bytes
  have hr := B.returns
  have hts := atoms_spec (ws := wsX4_inputsOf) B.pre
  have hown : s.vm.findClass RX4 = some m.cls := findClass_of_methodNamed B.named
  have hlocks := B.notSynchronized
  have hK := hE.1
  have hS : va_S A s.heap s.heap [] := va_S.rf
  have hl := lv_entry ([.int (nI 2)]) (n := 1) (Nat.le_of_ble_eq_true rfl)
  rw [lg_entry_eq]
  generalize (lg_sl ([.int (nI 2)]) ++ List.replicate (1 - (lg_sl ([.int (nI 2)])).length) Slot.unset).toArray = ls at hl ⊢
  have hl : lv_has ls 1 [(0, .int (nI 2))] := hl
  refine lv_iload_n hx hb dX4_inputsOf_0 rfl (lv_at hl 0 rfl) ?_
  refine lv_bipush (v := 14) hx hb dX4_inputsOf_1 (by decide) ?_
  refine lv_icmp_ne (tgt := 8) hx hb dX4_inputsOf_3 (by decide) (fun c_1 => ?_) (fun c_1 => ?_)
  · have c_1 : ¬ (2 = 14) := fun z => c_1 ((nI_eq (a := 2) (b := 14) (by omega) (by omega)).mpr z)
    refine lv_iload_n hx hb dX4_inputsOf_8 rfl (lv_at hl 0 rfl) ?_
    refine lv_iconst (v := 2) hx hb dX4_inputsOf_9 (by decide) ?_
    refine lv_bipush (v := 12) hx hb dX4_inputsOf_10 (by decide) ?_
    refine va_calli (va_runS (As := [.int (nI 2), .int 2, .int 12]) (rest := []) ⟨hx, hb, hml, hown, hts⟩ (k_X4_in (l := l) (D := D) (cI := cI) (cZ := cZ) (cB := cB) (cS := cS) (A := A) dm en ad (nI 2) 2 12) (va_cwS 3 hts gX4_inputsOf_X4_in rfl rfl rfl (by decide +kernel) ⟨Nat.le_of_ble_eq_true rfl, Nat.le_of_ble_eq_true rfl⟩) (gPreS hE hA hS hP) rfl rfl hl.1 rfl (lv_room (Nat.le_of_ble_eq_true rfl)) dX4_inputsOf_12 ⟨Nat.le_of_ble_eq_true rfl, Nat.le_of_ble_eq_true rfl⟩) hS (fun q _ h9 => h9) (fun q h9 => h9) (fun r_2 u9 t9 H locs ht9 hvm9 hw_r_2 hB9 hz9 hk9 hS => ?_)
    have hP : gw_P D vwCl A dm en ad H := by rw [← ht9]; exact hB9
    refine lv_toq 1 (hw_r_2.trans (by decide)) ?_
    refine lv_if_ne (tgt := 42) hx hb dX4_inputsOf_15 (by decide) (fun c_3 => ?_) (fun c_3 => ?_)
    · have c_3 : ¬ (1 = 0) := fun z => c_3 ((nI_eq (a := 1) (b := 0) (by omega) (by omega)).mpr z)
      refine lv_iconst (v := 2) hx hb dX4_inputsOf_42 (by decide) ?_
      exact W.iret (v := 2) hx hb hr (fun t ht hW => ⟨⟨2, (), rfl, (by decide), by rw [← ht] at hP; exact hP⟩, hS.F ht⟩) hS.2.2 dX4_inputsOf_43
    · have c_3 : 1 = 0 := (nI_eq (a := 1) (b := 0) (by omega) (by omega)).mp c_3
      exfalso; omega
  · have c_1 : 2 = 14 := (nI_eq (a := 2) (b := 14) (by omega) (by omega)).mp c_1
    exfalso; omega

set_option maxHeartbeats 4000000 in
set_option maxRecDepth 100000 in
theorem k_X4_inputsOf_3 {l : Launch} {D : va_G} {cI cZ cB cS : ClassId} {A : Nat → Prop} (dm : Nat → Nat) (en : Nat → Nat → va_E) (ad : Nat → Nat → Nat)  : Met l yX4_inputsOf wsX4_inputsOf ({ frames := 1, cells := 0, slots := 0, locals := 22 } : Room) (gPc D cI cZ cB cS A dm en ad [.int (nI 3)]) (va_Qi (fun (r : Int32) (_ : Unit) => r = nI (nmd 3)) (fun _ t => gw_P D vwCl A dm en ad t.heap) A) 0 0 A := by
  refine Met.ofW (cc := cX4_inputsOf) (maxL := 1) (ret := (some .int)) (by decide) rfl ?_
  intro p e s m args below meth c s₁ B hml hv
  obtain ⟨rfl, hP, hE, hA⟩ := hv
  have hx := B.exec
  have hb := B.bytes
  have hr := B.returns
  have hts := atoms_spec (ws := wsX4_inputsOf) B.pre
  have hown : s.vm.findClass RX4 = some m.cls := findClass_of_methodNamed B.named
  have hlocks := B.notSynchronized
  have hK := hE.1
  have hS : va_S A s.heap s.heap [] := va_S.rf
  have hl := lv_entry ([.int (nI 3)]) (n := 1) (Nat.le_of_ble_eq_true rfl)
  rw [lg_entry_eq]
  generalize (lg_sl ([.int (nI 3)]) ++ List.replicate (1 - (lg_sl ([.int (nI 3)])).length) Slot.unset).toArray = ls at hl ⊢
  have hl : lv_has ls 1 [(0, .int (nI 3))] := hl
  refine lv_iload_n hx hb dX4_inputsOf_0 rfl (lv_at hl 0 rfl) ?_
  refine lv_bipush (v := 14) hx hb dX4_inputsOf_1 (by decide) ?_
  refine lv_icmp_ne (tgt := 8) hx hb dX4_inputsOf_3 (by decide) (fun c_1 => ?_) (fun c_1 => ?_)
  · have c_1 : ¬ (3 = 14) := fun z => c_1 ((nI_eq (a := 3) (b := 14) (by omega) (by omega)).mpr z)
    refine lv_iload_n hx hb dX4_inputsOf_8 rfl (lv_at hl 0 rfl) ?_
    refine lv_iconst (v := 2) hx hb dX4_inputsOf_9 (by decide) ?_
    refine lv_bipush (v := 12) hx hb dX4_inputsOf_10 (by decide) ?_
    refine va_calli (va_runS (As := [.int (nI 3), .int 2, .int 12]) (rest := []) ⟨hx, hb, hml, hown, hts⟩ (k_X4_in (l := l) (D := D) (cI := cI) (cZ := cZ) (cB := cB) (cS := cS) (A := A) dm en ad (nI 3) 2 12) (va_cwS 3 hts gX4_inputsOf_X4_in rfl rfl rfl (by decide +kernel) ⟨Nat.le_of_ble_eq_true rfl, Nat.le_of_ble_eq_true rfl⟩) (gPreS hE hA hS hP) rfl rfl hl.1 rfl (lv_room (Nat.le_of_ble_eq_true rfl)) dX4_inputsOf_12 ⟨Nat.le_of_ble_eq_true rfl, Nat.le_of_ble_eq_true rfl⟩) hS (fun q _ h9 => h9) (fun q h9 => h9) (fun r_2 u9 t9 H locs ht9 hvm9 hw_r_2 hB9 hz9 hk9 hS => ?_)
    have hP : gw_P D vwCl A dm en ad H := by rw [← ht9]; exact hB9
    refine lv_toq 1 (hw_r_2.trans (by decide)) ?_
    refine lv_if_ne (tgt := 42) hx hb dX4_inputsOf_15 (by decide) (fun c_3 => ?_) (fun c_3 => ?_)
    · have c_3 : ¬ (1 = 0) := fun z => c_3 ((nI_eq (a := 1) (b := 0) (by omega) (by omega)).mpr z)
      refine lv_iconst (v := 2) hx hb dX4_inputsOf_42 (by decide) ?_
      exact W.iret (v := 2) hx hb hr (fun t ht hW => ⟨⟨2, (), rfl, (by decide), by rw [← ht] at hP; exact hP⟩, hS.F ht⟩) hS.2.2 dX4_inputsOf_43
    · have c_3 : 1 = 0 := (nI_eq (a := 1) (b := 0) (by omega) (by omega)).mp c_3
      exfalso; omega
  · have c_1 : 3 = 14 := (nI_eq (a := 3) (b := 14) (by omega) (by omega)).mp c_1
    exfalso; omega

set_option maxHeartbeats 4000000 in
set_option maxRecDepth 100000 in
theorem k_X4_inputsOf_4 {l : Launch} {D : va_G} {cI cZ cB cS : ClassId} {A : Nat → Prop} (dm : Nat → Nat) (en : Nat → Nat → va_E) (ad : Nat → Nat → Nat)  : Met l yX4_inputsOf wsX4_inputsOf ({ frames := 1, cells := 0, slots := 0, locals := 22 } : Room) (gPc D cI cZ cB cS A dm en ad [.int (nI 4)]) (va_Qi (fun (r : Int32) (_ : Unit) => r = nI (nmd 4)) (fun _ t => gw_P D vwCl A dm en ad t.heap) A) 0 0 A := by
  refine Met.ofW (cc := cX4_inputsOf) (maxL := 1) (ret := (some .int)) (by decide) rfl ?_
  intro p e s m args below meth c s₁ B hml hv
  obtain ⟨rfl, hP, hE, hA⟩ := hv
  have hx := B.exec
  have hb := B.bytes
  have hr := B.returns
  have hts := atoms_spec (ws := wsX4_inputsOf) B.pre
  have hown : s.vm.findClass RX4 = some m.cls := findClass_of_methodNamed B.named
  have hlocks := B.notSynchronized
  have hK := hE.1
  have hS : va_S A s.heap s.heap [] := va_S.rf
  have hl := lv_entry ([.int (nI 4)]) (n := 1) (Nat.le_of_ble_eq_true rfl)
  rw [lg_entry_eq]
  generalize (lg_sl ([.int (nI 4)]) ++ List.replicate (1 - (lg_sl ([.int (nI 4)])).length) Slot.unset).toArray = ls at hl ⊢
  have hl : lv_has ls 1 [(0, .int (nI 4))] := hl
  refine lv_iload_n hx hb dX4_inputsOf_0 rfl (lv_at hl 0 rfl) ?_
  refine lv_bipush (v := 14) hx hb dX4_inputsOf_1 (by decide) ?_
  refine lv_icmp_ne (tgt := 8) hx hb dX4_inputsOf_3 (by decide) (fun c_1 => ?_) (fun c_1 => ?_)
  · have c_1 : ¬ (4 = 14) := fun z => c_1 ((nI_eq (a := 4) (b := 14) (by omega) (by omega)).mpr z)
    refine lv_iload_n hx hb dX4_inputsOf_8 rfl (lv_at hl 0 rfl) ?_
    refine lv_iconst (v := 2) hx hb dX4_inputsOf_9 (by decide) ?_
    refine lv_bipush (v := 12) hx hb dX4_inputsOf_10 (by decide) ?_
    refine va_calli (va_runS (As := [.int (nI 4), .int 2, .int 12]) (rest := []) ⟨hx, hb, hml, hown, hts⟩ (k_X4_in (l := l) (D := D) (cI := cI) (cZ := cZ) (cB := cB) (cS := cS) (A := A) dm en ad (nI 4) 2 12) (va_cwS 3 hts gX4_inputsOf_X4_in rfl rfl rfl (by decide +kernel) ⟨Nat.le_of_ble_eq_true rfl, Nat.le_of_ble_eq_true rfl⟩) (gPreS hE hA hS hP) rfl rfl hl.1 rfl (lv_room (Nat.le_of_ble_eq_true rfl)) dX4_inputsOf_12 ⟨Nat.le_of_ble_eq_true rfl, Nat.le_of_ble_eq_true rfl⟩) hS (fun q _ h9 => h9) (fun q h9 => h9) (fun r_2 u9 t9 H locs ht9 hvm9 hw_r_2 hB9 hz9 hk9 hS => ?_)
    have hP : gw_P D vwCl A dm en ad H := by rw [← ht9]; exact hB9
    refine lv_toq 1 (hw_r_2.trans (by decide)) ?_
    refine lv_if_ne (tgt := 42) hx hb dX4_inputsOf_15 (by decide) (fun c_3 => ?_) (fun c_3 => ?_)
    · have c_3 : ¬ (1 = 0) := fun z => c_3 ((nI_eq (a := 1) (b := 0) (by omega) (by omega)).mpr z)
      refine lv_iconst (v := 2) hx hb dX4_inputsOf_42 (by decide) ?_
      exact W.iret (v := 2) hx hb hr (fun t ht hW => ⟨⟨2, (), rfl, (by decide), by rw [← ht] at hP; exact hP⟩, hS.F ht⟩) hS.2.2 dX4_inputsOf_43
    · have c_3 : 1 = 0 := (nI_eq (a := 1) (b := 0) (by omega) (by omega)).mp c_3
      exfalso; omega
  · have c_1 : 4 = 14 := (nI_eq (a := 4) (b := 14) (by omega) (by omega)).mp c_1
    exfalso; omega

set_option maxHeartbeats 4000000 in
set_option maxRecDepth 100000 in
theorem k_X4_inputsOf_5 {l : Launch} {D : va_G} {cI cZ cB cS : ClassId} {A : Nat → Prop} (dm : Nat → Nat) (en : Nat → Nat → va_E) (ad : Nat → Nat → Nat)  : Met l yX4_inputsOf wsX4_inputsOf ({ frames := 1, cells := 0, slots := 0, locals := 22 } : Room) (gPc D cI cZ cB cS A dm en ad [.int (nI 5)]) (va_Qi (fun (r : Int32) (_ : Unit) => r = nI (nmd 5)) (fun _ t => gw_P D vwCl A dm en ad t.heap) A) 0 0 A := by
  refine Met.ofW (cc := cX4_inputsOf) (maxL := 1) (ret := (some .int)) (by decide) rfl ?_
  intro p e s m args below meth c s₁ B hml hv
  obtain ⟨rfl, hP, hE, hA⟩ := hv
  have hx := B.exec
  have hb := B.bytes
  have hr := B.returns
  have hts := atoms_spec (ws := wsX4_inputsOf) B.pre
  have hown : s.vm.findClass RX4 = some m.cls := findClass_of_methodNamed B.named
  have hlocks := B.notSynchronized
  have hK := hE.1
  have hS : va_S A s.heap s.heap [] := va_S.rf
  have hl := lv_entry ([.int (nI 5)]) (n := 1) (Nat.le_of_ble_eq_true rfl)
  rw [lg_entry_eq]
  generalize (lg_sl ([.int (nI 5)]) ++ List.replicate (1 - (lg_sl ([.int (nI 5)])).length) Slot.unset).toArray = ls at hl ⊢
  have hl : lv_has ls 1 [(0, .int (nI 5))] := hl
  refine lv_iload_n hx hb dX4_inputsOf_0 rfl (lv_at hl 0 rfl) ?_
  refine lv_bipush (v := 14) hx hb dX4_inputsOf_1 (by decide) ?_
  refine lv_icmp_ne (tgt := 8) hx hb dX4_inputsOf_3 (by decide) (fun c_1 => ?_) (fun c_1 => ?_)
  · have c_1 : ¬ (5 = 14) := fun z => c_1 ((nI_eq (a := 5) (b := 14) (by omega) (by omega)).mpr z)
    refine lv_iload_n hx hb dX4_inputsOf_8 rfl (lv_at hl 0 rfl) ?_
    refine lv_iconst (v := 2) hx hb dX4_inputsOf_9 (by decide) ?_
    refine lv_bipush (v := 12) hx hb dX4_inputsOf_10 (by decide) ?_
    refine va_calli (va_runS (As := [.int (nI 5), .int 2, .int 12]) (rest := []) ⟨hx, hb, hml, hown, hts⟩ (k_X4_in (l := l) (D := D) (cI := cI) (cZ := cZ) (cB := cB) (cS := cS) (A := A) dm en ad (nI 5) 2 12) (va_cwS 3 hts gX4_inputsOf_X4_in rfl rfl rfl (by decide +kernel) ⟨Nat.le_of_ble_eq_true rfl, Nat.le_of_ble_eq_true rfl⟩) (gPreS hE hA hS hP) rfl rfl hl.1 rfl (lv_room (Nat.le_of_ble_eq_true rfl)) dX4_inputsOf_12 ⟨Nat.le_of_ble_eq_true rfl, Nat.le_of_ble_eq_true rfl⟩) hS (fun q _ h9 => h9) (fun q h9 => h9) (fun r_2 u9 t9 H locs ht9 hvm9 hw_r_2 hB9 hz9 hk9 hS => ?_)
    have hP : gw_P D vwCl A dm en ad H := by rw [← ht9]; exact hB9
    refine lv_toq 1 (hw_r_2.trans (by decide)) ?_
    refine lv_if_ne (tgt := 42) hx hb dX4_inputsOf_15 (by decide) (fun c_3 => ?_) (fun c_3 => ?_)
    · have c_3 : ¬ (1 = 0) := fun z => c_3 ((nI_eq (a := 1) (b := 0) (by omega) (by omega)).mpr z)
      refine lv_iconst (v := 2) hx hb dX4_inputsOf_42 (by decide) ?_
      exact W.iret (v := 2) hx hb hr (fun t ht hW => ⟨⟨2, (), rfl, (by decide), by rw [← ht] at hP; exact hP⟩, hS.F ht⟩) hS.2.2 dX4_inputsOf_43
    · have c_3 : 1 = 0 := (nI_eq (a := 1) (b := 0) (by omega) (by omega)).mp c_3
      exfalso; omega
  · have c_1 : 5 = 14 := (nI_eq (a := 5) (b := 14) (by omega) (by omega)).mp c_1
    exfalso; omega

set_option maxHeartbeats 4000000 in
set_option maxRecDepth 100000 in
theorem k_X4_inputsOf_6 {l : Launch} {D : va_G} {cI cZ cB cS : ClassId} {A : Nat → Prop} (dm : Nat → Nat) (en : Nat → Nat → va_E) (ad : Nat → Nat → Nat)  : Met l yX4_inputsOf wsX4_inputsOf ({ frames := 1, cells := 0, slots := 0, locals := 22 } : Room) (gPc D cI cZ cB cS A dm en ad [.int (nI 6)]) (va_Qi (fun (r : Int32) (_ : Unit) => r = nI (nmd 6)) (fun _ t => gw_P D vwCl A dm en ad t.heap) A) 0 0 A := by
  refine Met.ofW (cc := cX4_inputsOf) (maxL := 1) (ret := (some .int)) (by decide) rfl ?_
  intro p e s m args below meth c s₁ B hml hv
  obtain ⟨rfl, hP, hE, hA⟩ := hv
  have hx := B.exec
  have hb := B.bytes
  have hr := B.returns
  have hts := atoms_spec (ws := wsX4_inputsOf) B.pre
  have hown : s.vm.findClass RX4 = some m.cls := findClass_of_methodNamed B.named
  have hlocks := B.notSynchronized
  have hK := hE.1
  have hS : va_S A s.heap s.heap [] := va_S.rf
  have hl := lv_entry ([.int (nI 6)]) (n := 1) (Nat.le_of_ble_eq_true rfl)
  rw [lg_entry_eq]
  generalize (lg_sl ([.int (nI 6)]) ++ List.replicate (1 - (lg_sl ([.int (nI 6)])).length) Slot.unset).toArray = ls at hl ⊢
  have hl : lv_has ls 1 [(0, .int (nI 6))] := hl
  refine lv_iload_n hx hb dX4_inputsOf_0 rfl (lv_at hl 0 rfl) ?_
  refine lv_bipush (v := 14) hx hb dX4_inputsOf_1 (by decide) ?_
  refine lv_icmp_ne (tgt := 8) hx hb dX4_inputsOf_3 (by decide) (fun c_1 => ?_) (fun c_1 => ?_)
  · have c_1 : ¬ (6 = 14) := fun z => c_1 ((nI_eq (a := 6) (b := 14) (by omega) (by omega)).mpr z)
    refine lv_iload_n hx hb dX4_inputsOf_8 rfl (lv_at hl 0 rfl) ?_
    refine lv_iconst (v := 2) hx hb dX4_inputsOf_9 (by decide) ?_
    refine lv_bipush (v := 12) hx hb dX4_inputsOf_10 (by decide) ?_
    refine va_calli (va_runS (As := [.int (nI 6), .int 2, .int 12]) (rest := []) ⟨hx, hb, hml, hown, hts⟩ (k_X4_in (l := l) (D := D) (cI := cI) (cZ := cZ) (cB := cB) (cS := cS) (A := A) dm en ad (nI 6) 2 12) (va_cwS 3 hts gX4_inputsOf_X4_in rfl rfl rfl (by decide +kernel) ⟨Nat.le_of_ble_eq_true rfl, Nat.le_of_ble_eq_true rfl⟩) (gPreS hE hA hS hP) rfl rfl hl.1 rfl (lv_room (Nat.le_of_ble_eq_true rfl)) dX4_inputsOf_12 ⟨Nat.le_of_ble_eq_true rfl, Nat.le_of_ble_eq_true rfl⟩) hS (fun q _ h9 => h9) (fun q h9 => h9) (fun r_2 u9 t9 H locs ht9 hvm9 hw_r_2 hB9 hz9 hk9 hS => ?_)
    have hP : gw_P D vwCl A dm en ad H := by rw [← ht9]; exact hB9
    refine lv_toq 1 (hw_r_2.trans (by decide)) ?_
    refine lv_if_ne (tgt := 42) hx hb dX4_inputsOf_15 (by decide) (fun c_3 => ?_) (fun c_3 => ?_)
    · have c_3 : ¬ (1 = 0) := fun z => c_3 ((nI_eq (a := 1) (b := 0) (by omega) (by omega)).mpr z)
      refine lv_iconst (v := 2) hx hb dX4_inputsOf_42 (by decide) ?_
      exact W.iret (v := 2) hx hb hr (fun t ht hW => ⟨⟨2, (), rfl, (by decide), by rw [← ht] at hP; exact hP⟩, hS.F ht⟩) hS.2.2 dX4_inputsOf_43
    · have c_3 : 1 = 0 := (nI_eq (a := 1) (b := 0) (by omega) (by omega)).mp c_3
      exfalso; omega
  · have c_1 : 6 = 14 := (nI_eq (a := 6) (b := 14) (by omega) (by omega)).mp c_1
    exfalso; omega

set_option maxHeartbeats 4000000 in
set_option maxRecDepth 100000 in
theorem k_X4_inputsOf_7 {l : Launch} {D : va_G} {cI cZ cB cS : ClassId} {A : Nat → Prop} (dm : Nat → Nat) (en : Nat → Nat → va_E) (ad : Nat → Nat → Nat)  : Met l yX4_inputsOf wsX4_inputsOf ({ frames := 1, cells := 0, slots := 0, locals := 22 } : Room) (gPc D cI cZ cB cS A dm en ad [.int (nI 7)]) (va_Qi (fun (r : Int32) (_ : Unit) => r = nI (nmd 7)) (fun _ t => gw_P D vwCl A dm en ad t.heap) A) 0 0 A := by
  refine Met.ofW (cc := cX4_inputsOf) (maxL := 1) (ret := (some .int)) (by decide) rfl ?_
  intro p e s m args below meth c s₁ B hml hv
  obtain ⟨rfl, hP, hE, hA⟩ := hv
  have hx := B.exec
  have hb := B.bytes
  have hr := B.returns
  have hts := atoms_spec (ws := wsX4_inputsOf) B.pre
  have hown : s.vm.findClass RX4 = some m.cls := findClass_of_methodNamed B.named
  have hlocks := B.notSynchronized
  have hK := hE.1
  have hS : va_S A s.heap s.heap [] := va_S.rf
  have hl := lv_entry ([.int (nI 7)]) (n := 1) (Nat.le_of_ble_eq_true rfl)
  rw [lg_entry_eq]
  generalize (lg_sl ([.int (nI 7)]) ++ List.replicate (1 - (lg_sl ([.int (nI 7)])).length) Slot.unset).toArray = ls at hl ⊢
  have hl : lv_has ls 1 [(0, .int (nI 7))] := hl
  refine lv_iload_n hx hb dX4_inputsOf_0 rfl (lv_at hl 0 rfl) ?_
  refine lv_bipush (v := 14) hx hb dX4_inputsOf_1 (by decide) ?_
  refine lv_icmp_ne (tgt := 8) hx hb dX4_inputsOf_3 (by decide) (fun c_1 => ?_) (fun c_1 => ?_)
  · have c_1 : ¬ (7 = 14) := fun z => c_1 ((nI_eq (a := 7) (b := 14) (by omega) (by omega)).mpr z)
    refine lv_iload_n hx hb dX4_inputsOf_8 rfl (lv_at hl 0 rfl) ?_
    refine lv_iconst (v := 2) hx hb dX4_inputsOf_9 (by decide) ?_
    refine lv_bipush (v := 12) hx hb dX4_inputsOf_10 (by decide) ?_
    refine va_calli (va_runS (As := [.int (nI 7), .int 2, .int 12]) (rest := []) ⟨hx, hb, hml, hown, hts⟩ (k_X4_in (l := l) (D := D) (cI := cI) (cZ := cZ) (cB := cB) (cS := cS) (A := A) dm en ad (nI 7) 2 12) (va_cwS 3 hts gX4_inputsOf_X4_in rfl rfl rfl (by decide +kernel) ⟨Nat.le_of_ble_eq_true rfl, Nat.le_of_ble_eq_true rfl⟩) (gPreS hE hA hS hP) rfl rfl hl.1 rfl (lv_room (Nat.le_of_ble_eq_true rfl)) dX4_inputsOf_12 ⟨Nat.le_of_ble_eq_true rfl, Nat.le_of_ble_eq_true rfl⟩) hS (fun q _ h9 => h9) (fun q h9 => h9) (fun r_2 u9 t9 H locs ht9 hvm9 hw_r_2 hB9 hz9 hk9 hS => ?_)
    have hP : gw_P D vwCl A dm en ad H := by rw [← ht9]; exact hB9
    refine lv_toq 1 (hw_r_2.trans (by decide)) ?_
    refine lv_if_ne (tgt := 42) hx hb dX4_inputsOf_15 (by decide) (fun c_3 => ?_) (fun c_3 => ?_)
    · have c_3 : ¬ (1 = 0) := fun z => c_3 ((nI_eq (a := 1) (b := 0) (by omega) (by omega)).mpr z)
      refine lv_iconst (v := 2) hx hb dX4_inputsOf_42 (by decide) ?_
      exact W.iret (v := 2) hx hb hr (fun t ht hW => ⟨⟨2, (), rfl, (by decide), by rw [← ht] at hP; exact hP⟩, hS.F ht⟩) hS.2.2 dX4_inputsOf_43
    · have c_3 : 1 = 0 := (nI_eq (a := 1) (b := 0) (by omega) (by omega)).mp c_3
      exfalso; omega
  · have c_1 : 7 = 14 := (nI_eq (a := 7) (b := 14) (by omega) (by omega)).mp c_1
    exfalso; omega

set_option maxHeartbeats 4000000 in
set_option maxRecDepth 100000 in
theorem k_X4_inputsOf_8 {l : Launch} {D : va_G} {cI cZ cB cS : ClassId} {A : Nat → Prop} (dm : Nat → Nat) (en : Nat → Nat → va_E) (ad : Nat → Nat → Nat)  : Met l yX4_inputsOf wsX4_inputsOf ({ frames := 1, cells := 0, slots := 0, locals := 22 } : Room) (gPc D cI cZ cB cS A dm en ad [.int (nI 8)]) (va_Qi (fun (r : Int32) (_ : Unit) => r = nI (nmd 8)) (fun _ t => gw_P D vwCl A dm en ad t.heap) A) 0 0 A := by
  refine Met.ofW (cc := cX4_inputsOf) (maxL := 1) (ret := (some .int)) (by decide) rfl ?_
  intro p e s m args below meth c s₁ B hml hv
  obtain ⟨rfl, hP, hE, hA⟩ := hv
  have hx := B.exec
  have hb := B.bytes
  have hr := B.returns
  have hts := atoms_spec (ws := wsX4_inputsOf) B.pre
  have hown : s.vm.findClass RX4 = some m.cls := findClass_of_methodNamed B.named
  have hlocks := B.notSynchronized
  have hK := hE.1
  have hS : va_S A s.heap s.heap [] := va_S.rf
  have hl := lv_entry ([.int (nI 8)]) (n := 1) (Nat.le_of_ble_eq_true rfl)
  rw [lg_entry_eq]
  generalize (lg_sl ([.int (nI 8)]) ++ List.replicate (1 - (lg_sl ([.int (nI 8)])).length) Slot.unset).toArray = ls at hl ⊢
  have hl : lv_has ls 1 [(0, .int (nI 8))] := hl
  refine lv_iload_n hx hb dX4_inputsOf_0 rfl (lv_at hl 0 rfl) ?_
  refine lv_bipush (v := 14) hx hb dX4_inputsOf_1 (by decide) ?_
  refine lv_icmp_ne (tgt := 8) hx hb dX4_inputsOf_3 (by decide) (fun c_1 => ?_) (fun c_1 => ?_)
  · have c_1 : ¬ (8 = 14) := fun z => c_1 ((nI_eq (a := 8) (b := 14) (by omega) (by omega)).mpr z)
    refine lv_iload_n hx hb dX4_inputsOf_8 rfl (lv_at hl 0 rfl) ?_
    refine lv_iconst (v := 2) hx hb dX4_inputsOf_9 (by decide) ?_
    refine lv_bipush (v := 12) hx hb dX4_inputsOf_10 (by decide) ?_
    refine va_calli (va_runS (As := [.int (nI 8), .int 2, .int 12]) (rest := []) ⟨hx, hb, hml, hown, hts⟩ (k_X4_in (l := l) (D := D) (cI := cI) (cZ := cZ) (cB := cB) (cS := cS) (A := A) dm en ad (nI 8) 2 12) (va_cwS 3 hts gX4_inputsOf_X4_in rfl rfl rfl (by decide +kernel) ⟨Nat.le_of_ble_eq_true rfl, Nat.le_of_ble_eq_true rfl⟩) (gPreS hE hA hS hP) rfl rfl hl.1 rfl (lv_room (Nat.le_of_ble_eq_true rfl)) dX4_inputsOf_12 ⟨Nat.le_of_ble_eq_true rfl, Nat.le_of_ble_eq_true rfl⟩) hS (fun q _ h9 => h9) (fun q h9 => h9) (fun r_2 u9 t9 H locs ht9 hvm9 hw_r_2 hB9 hz9 hk9 hS => ?_)
    have hP : gw_P D vwCl A dm en ad H := by rw [← ht9]; exact hB9
    refine lv_toq 1 (hw_r_2.trans (by decide)) ?_
    refine lv_if_ne (tgt := 42) hx hb dX4_inputsOf_15 (by decide) (fun c_3 => ?_) (fun c_3 => ?_)
    · have c_3 : ¬ (1 = 0) := fun z => c_3 ((nI_eq (a := 1) (b := 0) (by omega) (by omega)).mpr z)
      refine lv_iconst (v := 2) hx hb dX4_inputsOf_42 (by decide) ?_
      exact W.iret (v := 2) hx hb hr (fun t ht hW => ⟨⟨2, (), rfl, (by decide), by rw [← ht] at hP; exact hP⟩, hS.F ht⟩) hS.2.2 dX4_inputsOf_43
    · have c_3 : 1 = 0 := (nI_eq (a := 1) (b := 0) (by omega) (by omega)).mp c_3
      exfalso; omega
  · have c_1 : 8 = 14 := (nI_eq (a := 8) (b := 14) (by omega) (by omega)).mp c_1
    exfalso; omega

set_option maxHeartbeats 4000000 in
set_option maxRecDepth 100000 in
theorem k_X4_inputsOf_9 {l : Launch} {D : va_G} {cI cZ cB cS : ClassId} {A : Nat → Prop} (dm : Nat → Nat) (en : Nat → Nat → va_E) (ad : Nat → Nat → Nat)  : Met l yX4_inputsOf wsX4_inputsOf ({ frames := 1, cells := 0, slots := 0, locals := 22 } : Room) (gPc D cI cZ cB cS A dm en ad [.int (nI 9)]) (va_Qi (fun (r : Int32) (_ : Unit) => r = nI (nmd 9)) (fun _ t => gw_P D vwCl A dm en ad t.heap) A) 0 0 A := by
  refine Met.ofW (cc := cX4_inputsOf) (maxL := 1) (ret := (some .int)) (by decide) rfl ?_
  intro p e s m args below meth c s₁ B hml hv
  obtain ⟨rfl, hP, hE, hA⟩ := hv
  have hx := B.exec
  have hb := B.bytes
  have hr := B.returns
  have hts := atoms_spec (ws := wsX4_inputsOf) B.pre
  have hown : s.vm.findClass RX4 = some m.cls := findClass_of_methodNamed B.named
  have hlocks := B.notSynchronized
  have hK := hE.1
  have hS : va_S A s.heap s.heap [] := va_S.rf
  have hl := lv_entry ([.int (nI 9)]) (n := 1) (Nat.le_of_ble_eq_true rfl)
  rw [lg_entry_eq]
  generalize (lg_sl ([.int (nI 9)]) ++ List.replicate (1 - (lg_sl ([.int (nI 9)])).length) Slot.unset).toArray = ls at hl ⊢
  have hl : lv_has ls 1 [(0, .int (nI 9))] := hl
  refine lv_iload_n hx hb dX4_inputsOf_0 rfl (lv_at hl 0 rfl) ?_
  refine lv_bipush (v := 14) hx hb dX4_inputsOf_1 (by decide) ?_
  refine lv_icmp_ne (tgt := 8) hx hb dX4_inputsOf_3 (by decide) (fun c_1 => ?_) (fun c_1 => ?_)
  · have c_1 : ¬ (9 = 14) := fun z => c_1 ((nI_eq (a := 9) (b := 14) (by omega) (by omega)).mpr z)
    refine lv_iload_n hx hb dX4_inputsOf_8 rfl (lv_at hl 0 rfl) ?_
    refine lv_iconst (v := 2) hx hb dX4_inputsOf_9 (by decide) ?_
    refine lv_bipush (v := 12) hx hb dX4_inputsOf_10 (by decide) ?_
    refine va_calli (va_runS (As := [.int (nI 9), .int 2, .int 12]) (rest := []) ⟨hx, hb, hml, hown, hts⟩ (k_X4_in (l := l) (D := D) (cI := cI) (cZ := cZ) (cB := cB) (cS := cS) (A := A) dm en ad (nI 9) 2 12) (va_cwS 3 hts gX4_inputsOf_X4_in rfl rfl rfl (by decide +kernel) ⟨Nat.le_of_ble_eq_true rfl, Nat.le_of_ble_eq_true rfl⟩) (gPreS hE hA hS hP) rfl rfl hl.1 rfl (lv_room (Nat.le_of_ble_eq_true rfl)) dX4_inputsOf_12 ⟨Nat.le_of_ble_eq_true rfl, Nat.le_of_ble_eq_true rfl⟩) hS (fun q _ h9 => h9) (fun q h9 => h9) (fun r_2 u9 t9 H locs ht9 hvm9 hw_r_2 hB9 hz9 hk9 hS => ?_)
    have hP : gw_P D vwCl A dm en ad H := by rw [← ht9]; exact hB9
    refine lv_toq 1 (hw_r_2.trans (by decide)) ?_
    refine lv_if_ne (tgt := 42) hx hb dX4_inputsOf_15 (by decide) (fun c_3 => ?_) (fun c_3 => ?_)
    · have c_3 : ¬ (1 = 0) := fun z => c_3 ((nI_eq (a := 1) (b := 0) (by omega) (by omega)).mpr z)
      refine lv_iconst (v := 2) hx hb dX4_inputsOf_42 (by decide) ?_
      exact W.iret (v := 2) hx hb hr (fun t ht hW => ⟨⟨2, (), rfl, (by decide), by rw [← ht] at hP; exact hP⟩, hS.F ht⟩) hS.2.2 dX4_inputsOf_43
    · have c_3 : 1 = 0 := (nI_eq (a := 1) (b := 0) (by omega) (by omega)).mp c_3
      exfalso; omega
  · have c_1 : 9 = 14 := (nI_eq (a := 9) (b := 14) (by omega) (by omega)).mp c_1
    exfalso; omega

set_option maxHeartbeats 4000000 in
set_option maxRecDepth 100000 in
theorem k_X4_inputsOf_10 {l : Launch} {D : va_G} {cI cZ cB cS : ClassId} {A : Nat → Prop} (dm : Nat → Nat) (en : Nat → Nat → va_E) (ad : Nat → Nat → Nat)  : Met l yX4_inputsOf wsX4_inputsOf ({ frames := 1, cells := 0, slots := 0, locals := 22 } : Room) (gPc D cI cZ cB cS A dm en ad [.int (nI 10)]) (va_Qi (fun (r : Int32) (_ : Unit) => r = nI (nmd 10)) (fun _ t => gw_P D vwCl A dm en ad t.heap) A) 0 0 A := by
  refine Met.ofW (cc := cX4_inputsOf) (maxL := 1) (ret := (some .int)) (by decide) rfl ?_
  intro p e s m args below meth c s₁ B hml hv
  obtain ⟨rfl, hP, hE, hA⟩ := hv
  have hx := B.exec
  have hb := B.bytes
  have hr := B.returns
  have hts := atoms_spec (ws := wsX4_inputsOf) B.pre
  have hown : s.vm.findClass RX4 = some m.cls := findClass_of_methodNamed B.named
  have hlocks := B.notSynchronized
  have hK := hE.1
  have hS : va_S A s.heap s.heap [] := va_S.rf
  have hl := lv_entry ([.int (nI 10)]) (n := 1) (Nat.le_of_ble_eq_true rfl)
  rw [lg_entry_eq]
  generalize (lg_sl ([.int (nI 10)]) ++ List.replicate (1 - (lg_sl ([.int (nI 10)])).length) Slot.unset).toArray = ls at hl ⊢
  have hl : lv_has ls 1 [(0, .int (nI 10))] := hl
  refine lv_iload_n hx hb dX4_inputsOf_0 rfl (lv_at hl 0 rfl) ?_
  refine lv_bipush (v := 14) hx hb dX4_inputsOf_1 (by decide) ?_
  refine lv_icmp_ne (tgt := 8) hx hb dX4_inputsOf_3 (by decide) (fun c_1 => ?_) (fun c_1 => ?_)
  · have c_1 : ¬ (10 = 14) := fun z => c_1 ((nI_eq (a := 10) (b := 14) (by omega) (by omega)).mpr z)
    refine lv_iload_n hx hb dX4_inputsOf_8 rfl (lv_at hl 0 rfl) ?_
    refine lv_iconst (v := 2) hx hb dX4_inputsOf_9 (by decide) ?_
    refine lv_bipush (v := 12) hx hb dX4_inputsOf_10 (by decide) ?_
    refine va_calli (va_runS (As := [.int (nI 10), .int 2, .int 12]) (rest := []) ⟨hx, hb, hml, hown, hts⟩ (k_X4_in (l := l) (D := D) (cI := cI) (cZ := cZ) (cB := cB) (cS := cS) (A := A) dm en ad (nI 10) 2 12) (va_cwS 3 hts gX4_inputsOf_X4_in rfl rfl rfl (by decide +kernel) ⟨Nat.le_of_ble_eq_true rfl, Nat.le_of_ble_eq_true rfl⟩) (gPreS hE hA hS hP) rfl rfl hl.1 rfl (lv_room (Nat.le_of_ble_eq_true rfl)) dX4_inputsOf_12 ⟨Nat.le_of_ble_eq_true rfl, Nat.le_of_ble_eq_true rfl⟩) hS (fun q _ h9 => h9) (fun q h9 => h9) (fun r_2 u9 t9 H locs ht9 hvm9 hw_r_2 hB9 hz9 hk9 hS => ?_)
    have hP : gw_P D vwCl A dm en ad H := by rw [← ht9]; exact hB9
    refine lv_toq 1 (hw_r_2.trans (by decide)) ?_
    refine lv_if_ne (tgt := 42) hx hb dX4_inputsOf_15 (by decide) (fun c_3 => ?_) (fun c_3 => ?_)
    · have c_3 : ¬ (1 = 0) := fun z => c_3 ((nI_eq (a := 1) (b := 0) (by omega) (by omega)).mpr z)
      refine lv_iconst (v := 2) hx hb dX4_inputsOf_42 (by decide) ?_
      exact W.iret (v := 2) hx hb hr (fun t ht hW => ⟨⟨2, (), rfl, (by decide), by rw [← ht] at hP; exact hP⟩, hS.F ht⟩) hS.2.2 dX4_inputsOf_43
    · have c_3 : 1 = 0 := (nI_eq (a := 1) (b := 0) (by omega) (by omega)).mp c_3
      exfalso; omega
  · have c_1 : 10 = 14 := (nI_eq (a := 10) (b := 14) (by omega) (by omega)).mp c_1
    exfalso; omega

set_option maxHeartbeats 4000000 in
set_option maxRecDepth 100000 in
theorem k_X4_inputsOf_11 {l : Launch} {D : va_G} {cI cZ cB cS : ClassId} {A : Nat → Prop} (dm : Nat → Nat) (en : Nat → Nat → va_E) (ad : Nat → Nat → Nat)  : Met l yX4_inputsOf wsX4_inputsOf ({ frames := 1, cells := 0, slots := 0, locals := 22 } : Room) (gPc D cI cZ cB cS A dm en ad [.int (nI 11)]) (va_Qi (fun (r : Int32) (_ : Unit) => r = nI (nmd 11)) (fun _ t => gw_P D vwCl A dm en ad t.heap) A) 0 0 A := by
  refine Met.ofW (cc := cX4_inputsOf) (maxL := 1) (ret := (some .int)) (by decide) rfl ?_
  intro p e s m args below meth c s₁ B hml hv
  obtain ⟨rfl, hP, hE, hA⟩ := hv
  have hx := B.exec
  have hb := B.bytes
  have hr := B.returns
  have hts := atoms_spec (ws := wsX4_inputsOf) B.pre
  have hown : s.vm.findClass RX4 = some m.cls := findClass_of_methodNamed B.named
  have hlocks := B.notSynchronized
  have hK := hE.1
  have hS : va_S A s.heap s.heap [] := va_S.rf
  have hl := lv_entry ([.int (nI 11)]) (n := 1) (Nat.le_of_ble_eq_true rfl)
  rw [lg_entry_eq]
  generalize (lg_sl ([.int (nI 11)]) ++ List.replicate (1 - (lg_sl ([.int (nI 11)])).length) Slot.unset).toArray = ls at hl ⊢
  have hl : lv_has ls 1 [(0, .int (nI 11))] := hl
  refine lv_iload_n hx hb dX4_inputsOf_0 rfl (lv_at hl 0 rfl) ?_
  refine lv_bipush (v := 14) hx hb dX4_inputsOf_1 (by decide) ?_
  refine lv_icmp_ne (tgt := 8) hx hb dX4_inputsOf_3 (by decide) (fun c_1 => ?_) (fun c_1 => ?_)
  · have c_1 : ¬ (11 = 14) := fun z => c_1 ((nI_eq (a := 11) (b := 14) (by omega) (by omega)).mpr z)
    refine lv_iload_n hx hb dX4_inputsOf_8 rfl (lv_at hl 0 rfl) ?_
    refine lv_iconst (v := 2) hx hb dX4_inputsOf_9 (by decide) ?_
    refine lv_bipush (v := 12) hx hb dX4_inputsOf_10 (by decide) ?_
    refine va_calli (va_runS (As := [.int (nI 11), .int 2, .int 12]) (rest := []) ⟨hx, hb, hml, hown, hts⟩ (k_X4_in (l := l) (D := D) (cI := cI) (cZ := cZ) (cB := cB) (cS := cS) (A := A) dm en ad (nI 11) 2 12) (va_cwS 3 hts gX4_inputsOf_X4_in rfl rfl rfl (by decide +kernel) ⟨Nat.le_of_ble_eq_true rfl, Nat.le_of_ble_eq_true rfl⟩) (gPreS hE hA hS hP) rfl rfl hl.1 rfl (lv_room (Nat.le_of_ble_eq_true rfl)) dX4_inputsOf_12 ⟨Nat.le_of_ble_eq_true rfl, Nat.le_of_ble_eq_true rfl⟩) hS (fun q _ h9 => h9) (fun q h9 => h9) (fun r_2 u9 t9 H locs ht9 hvm9 hw_r_2 hB9 hz9 hk9 hS => ?_)
    have hP : gw_P D vwCl A dm en ad H := by rw [← ht9]; exact hB9
    refine lv_toq 1 (hw_r_2.trans (by decide)) ?_
    refine lv_if_ne (tgt := 42) hx hb dX4_inputsOf_15 (by decide) (fun c_3 => ?_) (fun c_3 => ?_)
    · have c_3 : ¬ (1 = 0) := fun z => c_3 ((nI_eq (a := 1) (b := 0) (by omega) (by omega)).mpr z)
      refine lv_iconst (v := 2) hx hb dX4_inputsOf_42 (by decide) ?_
      exact W.iret (v := 2) hx hb hr (fun t ht hW => ⟨⟨2, (), rfl, (by decide), by rw [← ht] at hP; exact hP⟩, hS.F ht⟩) hS.2.2 dX4_inputsOf_43
    · have c_3 : 1 = 0 := (nI_eq (a := 1) (b := 0) (by omega) (by omega)).mp c_3
      exfalso; omega
  · have c_1 : 11 = 14 := (nI_eq (a := 11) (b := 14) (by omega) (by omega)).mp c_1
    exfalso; omega

set_option maxHeartbeats 4000000 in
set_option maxRecDepth 100000 in
theorem k_X4_inputsOf_12 {l : Launch} {D : va_G} {cI cZ cB cS : ClassId} {A : Nat → Prop} (dm : Nat → Nat) (en : Nat → Nat → va_E) (ad : Nat → Nat → Nat)  : Met l yX4_inputsOf wsX4_inputsOf ({ frames := 1, cells := 0, slots := 0, locals := 22 } : Room) (gPc D cI cZ cB cS A dm en ad [.int (nI 12)]) (va_Qi (fun (r : Int32) (_ : Unit) => r = nI (nmd 12)) (fun _ t => gw_P D vwCl A dm en ad t.heap) A) 0 0 A := by
  refine Met.ofW (cc := cX4_inputsOf) (maxL := 1) (ret := (some .int)) (by decide) rfl ?_
  intro p e s m args below meth c s₁ B hml hv
  obtain ⟨rfl, hP, hE, hA⟩ := hv
  have hx := B.exec
  have hb := B.bytes
  have hr := B.returns
  have hts := atoms_spec (ws := wsX4_inputsOf) B.pre
  have hown : s.vm.findClass RX4 = some m.cls := findClass_of_methodNamed B.named
  have hlocks := B.notSynchronized
  have hK := hE.1
  have hS : va_S A s.heap s.heap [] := va_S.rf
  have hl := lv_entry ([.int (nI 12)]) (n := 1) (Nat.le_of_ble_eq_true rfl)
  rw [lg_entry_eq]
  generalize (lg_sl ([.int (nI 12)]) ++ List.replicate (1 - (lg_sl ([.int (nI 12)])).length) Slot.unset).toArray = ls at hl ⊢
  have hl : lv_has ls 1 [(0, .int (nI 12))] := hl
  refine lv_iload_n hx hb dX4_inputsOf_0 rfl (lv_at hl 0 rfl) ?_
  refine lv_bipush (v := 14) hx hb dX4_inputsOf_1 (by decide) ?_
  refine lv_icmp_ne (tgt := 8) hx hb dX4_inputsOf_3 (by decide) (fun c_1 => ?_) (fun c_1 => ?_)
  · have c_1 : ¬ (12 = 14) := fun z => c_1 ((nI_eq (a := 12) (b := 14) (by omega) (by omega)).mpr z)
    refine lv_iload_n hx hb dX4_inputsOf_8 rfl (lv_at hl 0 rfl) ?_
    refine lv_iconst (v := 2) hx hb dX4_inputsOf_9 (by decide) ?_
    refine lv_bipush (v := 12) hx hb dX4_inputsOf_10 (by decide) ?_
    refine va_calli (va_runS (As := [.int (nI 12), .int 2, .int 12]) (rest := []) ⟨hx, hb, hml, hown, hts⟩ (k_X4_in (l := l) (D := D) (cI := cI) (cZ := cZ) (cB := cB) (cS := cS) (A := A) dm en ad (nI 12) 2 12) (va_cwS 3 hts gX4_inputsOf_X4_in rfl rfl rfl (by decide +kernel) ⟨Nat.le_of_ble_eq_true rfl, Nat.le_of_ble_eq_true rfl⟩) (gPreS hE hA hS hP) rfl rfl hl.1 rfl (lv_room (Nat.le_of_ble_eq_true rfl)) dX4_inputsOf_12 ⟨Nat.le_of_ble_eq_true rfl, Nat.le_of_ble_eq_true rfl⟩) hS (fun q _ h9 => h9) (fun q h9 => h9) (fun r_2 u9 t9 H locs ht9 hvm9 hw_r_2 hB9 hz9 hk9 hS => ?_)
    have hP : gw_P D vwCl A dm en ad H := by rw [← ht9]; exact hB9
    refine lv_toq 1 (hw_r_2.trans (by decide)) ?_
    refine lv_if_ne (tgt := 42) hx hb dX4_inputsOf_15 (by decide) (fun c_3 => ?_) (fun c_3 => ?_)
    · have c_3 : ¬ (1 = 0) := fun z => c_3 ((nI_eq (a := 1) (b := 0) (by omega) (by omega)).mpr z)
      refine lv_iconst (v := 2) hx hb dX4_inputsOf_42 (by decide) ?_
      exact W.iret (v := 2) hx hb hr (fun t ht hW => ⟨⟨2, (), rfl, (by decide), by rw [← ht] at hP; exact hP⟩, hS.F ht⟩) hS.2.2 dX4_inputsOf_43
    · have c_3 : 1 = 0 := (nI_eq (a := 1) (b := 0) (by omega) (by omega)).mp c_3
      exfalso; omega
  · have c_1 : 12 = 14 := (nI_eq (a := 12) (b := 14) (by omega) (by omega)).mp c_1
    exfalso; omega

set_option maxHeartbeats 4000000 in
set_option maxRecDepth 100000 in
theorem k_X4_inputsOf_13 {l : Launch} {D : va_G} {cI cZ cB cS : ClassId} {A : Nat → Prop} (dm : Nat → Nat) (en : Nat → Nat → va_E) (ad : Nat → Nat → Nat)  : Met l yX4_inputsOf wsX4_inputsOf ({ frames := 1, cells := 0, slots := 0, locals := 22 } : Room) (gPc D cI cZ cB cS A dm en ad [.int (nI 13)]) (va_Qi (fun (r : Int32) (_ : Unit) => r = nI (nmd 13)) (fun _ t => gw_P D vwCl A dm en ad t.heap) A) 0 0 A := by
  refine Met.ofW (cc := cX4_inputsOf) (maxL := 1) (ret := (some .int)) (by decide) rfl ?_
  intro p e s m args below meth c s₁ B hml hv
  obtain ⟨rfl, hP, hE, hA⟩ := hv
  have hx := B.exec
  have hb := B.bytes
  have hr := B.returns
  have hts := atoms_spec (ws := wsX4_inputsOf) B.pre
  have hown : s.vm.findClass RX4 = some m.cls := findClass_of_methodNamed B.named
  have hlocks := B.notSynchronized
  have hK := hE.1
  have hS : va_S A s.heap s.heap [] := va_S.rf
  have hl := lv_entry ([.int (nI 13)]) (n := 1) (Nat.le_of_ble_eq_true rfl)
  rw [lg_entry_eq]
  generalize (lg_sl ([.int (nI 13)]) ++ List.replicate (1 - (lg_sl ([.int (nI 13)])).length) Slot.unset).toArray = ls at hl ⊢
  have hl : lv_has ls 1 [(0, .int (nI 13))] := hl
  refine lv_iload_n hx hb dX4_inputsOf_0 rfl (lv_at hl 0 rfl) ?_
  refine lv_bipush (v := 14) hx hb dX4_inputsOf_1 (by decide) ?_
  refine lv_icmp_ne (tgt := 8) hx hb dX4_inputsOf_3 (by decide) (fun c_1 => ?_) (fun c_1 => ?_)
  · have c_1 : ¬ (13 = 14) := fun z => c_1 ((nI_eq (a := 13) (b := 14) (by omega) (by omega)).mpr z)
    refine lv_iload_n hx hb dX4_inputsOf_8 rfl (lv_at hl 0 rfl) ?_
    refine lv_iconst (v := 2) hx hb dX4_inputsOf_9 (by decide) ?_
    refine lv_bipush (v := 12) hx hb dX4_inputsOf_10 (by decide) ?_
    refine va_calli (va_runS (As := [.int (nI 13), .int 2, .int 12]) (rest := []) ⟨hx, hb, hml, hown, hts⟩ (k_X4_in (l := l) (D := D) (cI := cI) (cZ := cZ) (cB := cB) (cS := cS) (A := A) dm en ad (nI 13) 2 12) (va_cwS 3 hts gX4_inputsOf_X4_in rfl rfl rfl (by decide +kernel) ⟨Nat.le_of_ble_eq_true rfl, Nat.le_of_ble_eq_true rfl⟩) (gPreS hE hA hS hP) rfl rfl hl.1 rfl (lv_room (Nat.le_of_ble_eq_true rfl)) dX4_inputsOf_12 ⟨Nat.le_of_ble_eq_true rfl, Nat.le_of_ble_eq_true rfl⟩) hS (fun q _ h9 => h9) (fun q h9 => h9) (fun r_2 u9 t9 H locs ht9 hvm9 hw_r_2 hB9 hz9 hk9 hS => ?_)
    have hP : gw_P D vwCl A dm en ad H := by rw [← ht9]; exact hB9
    refine lv_toq 0 (hw_r_2.trans (by decide)) ?_
    refine lv_if_ne (tgt := 42) hx hb dX4_inputsOf_15 (by decide) (fun c_3 => ?_) (fun c_3 => ?_)
    · have c_3 : ¬ (0 = 0) := fun z => c_3 ((nI_eq (a := 0) (b := 0) (by omega) (by omega)).mpr z)
      exfalso; omega
    · have c_3 : 0 = 0 := (nI_eq (a := 0) (b := 0) (by omega) (by omega)).mp c_3
      refine lv_iload_n hx hb dX4_inputsOf_18 rfl (lv_at hl 0 rfl) ?_
      refine lv_bipush (v := 18) hx hb dX4_inputsOf_19 (by decide) ?_
      refine lv_icmp_eq (tgt := 42) hx hb dX4_inputsOf_21 (by decide) (fun c_4 => ?_) (fun c_4 => ?_)
      · have c_4 : 13 = 18 := (nI_eq (a := 13) (b := 18) (by omega) (by omega)).mp c_4
        exfalso; omega
      · have c_4 : ¬ (13 = 18) := fun z => c_4 ((nI_eq (a := 13) (b := 18) (by omega) (by omega)).mpr z)
        refine lv_iload_n hx hb dX4_inputsOf_24 rfl (lv_at hl 0 rfl) ?_
        refine lv_bipush (v := 19) hx hb dX4_inputsOf_25 (by decide) ?_
        refine lv_icmp_eq (tgt := 42) hx hb dX4_inputsOf_27 (by decide) (fun c_5 => ?_) (fun c_5 => ?_)
        · have c_5 : 13 = 19 := (nI_eq (a := 13) (b := 19) (by omega) (by omega)).mp c_5
          exfalso; omega
        · have c_5 : ¬ (13 = 19) := fun z => c_5 ((nI_eq (a := 13) (b := 19) (by omega) (by omega)).mpr z)
          refine lv_iload_n hx hb dX4_inputsOf_30 rfl (lv_at hl 0 rfl) ?_
          refine lv_bipush (v := 23) hx hb dX4_inputsOf_31 (by decide) ?_
          refine lv_icmp_eq (tgt := 42) hx hb dX4_inputsOf_33 (by decide) (fun c_6 => ?_) (fun c_6 => ?_)
          · have c_6 : 13 = 23 := (nI_eq (a := 13) (b := 23) (by omega) (by omega)).mp c_6
            exfalso; omega
          · have c_6 : ¬ (13 = 23) := fun z => c_6 ((nI_eq (a := 13) (b := 23) (by omega) (by omega)).mpr z)
            refine lv_iload_n hx hb dX4_inputsOf_36 rfl (lv_at hl 0 rfl) ?_
            refine lv_bipush (v := 24) hx hb dX4_inputsOf_37 (by decide) ?_
            refine lv_icmp_ne (tgt := 44) hx hb dX4_inputsOf_39 (by decide) (fun c_7 => ?_) (fun c_7 => ?_)
            · have c_7 : ¬ (13 = 24) := fun z => c_7 ((nI_eq (a := 13) (b := 24) (by omega) (by omega)).mpr z)
              refine lv_iload_n hx hb dX4_inputsOf_44 rfl (lv_at hl 0 rfl) ?_
              refine lv_iconst (v := 2) hx hb dX4_inputsOf_45 (by decide) ?_
              refine lv_icmp_lt (tgt := 55) hx hb dX4_inputsOf_46 (by decide) (fun c_8 => ?_) (fun c_8 => ?_)
              · have c_8 : 13 < 2 := (nI_ltI (a := 13) (b := 2) (by omega) (by omega)).mp c_8
                exfalso; omega
              · have c_8 : ¬ (13 < 2) := fun z => c_8 ((nI_ltI (a := 13) (b := 2) (by omega) (by omega)).mpr z)
                refine lv_iload_n hx hb dX4_inputsOf_49 rfl (lv_at hl 0 rfl) ?_
                refine lv_bipush (v := 20) hx hb dX4_inputsOf_50 (by decide) ?_
                refine lv_icmp_ne (tgt := 59) hx hb dX4_inputsOf_52 (by decide) (fun c_9 => ?_) (fun c_9 => ?_)
                · have c_9 : ¬ (13 = 20) := fun z => c_9 ((nI_eq (a := 13) (b := 20) (by omega) (by omega)).mpr z)
                  refine lv_iconst (v := 1) hx hb dX4_inputsOf_59 (by decide) ?_
                  exact W.iret (v := 1) hx hb hr (fun t ht hW => ⟨⟨1, (), rfl, (by decide), by rw [← ht] at hP; exact hP⟩, hS.F ht⟩) hS.2.2 dX4_inputsOf_60
                · have c_9 : 13 = 20 := (nI_eq (a := 13) (b := 20) (by omega) (by omega)).mp c_9
                  exfalso; omega
            · have c_7 : 13 = 24 := (nI_eq (a := 13) (b := 24) (by omega) (by omega)).mp c_7
              exfalso; omega
  · have c_1 : 13 = 14 := (nI_eq (a := 13) (b := 14) (by omega) (by omega)).mp c_1
    exfalso; omega

set_option maxHeartbeats 4000000 in
set_option maxRecDepth 100000 in
theorem k_X4_inputsOf_14 {l : Launch} {D : va_G} {cI cZ cB cS : ClassId} {A : Nat → Prop} (dm : Nat → Nat) (en : Nat → Nat → va_E) (ad : Nat → Nat → Nat)  : Met l yX4_inputsOf wsX4_inputsOf ({ frames := 1, cells := 0, slots := 0, locals := 22 } : Room) (gPc D cI cZ cB cS A dm en ad [.int (nI 14)]) (va_Qi (fun (r : Int32) (_ : Unit) => r = nI (nmd 14)) (fun _ t => gw_P D vwCl A dm en ad t.heap) A) 0 0 A := by
  refine Met.ofW (cc := cX4_inputsOf) (maxL := 1) (ret := (some .int)) (by decide) rfl ?_
  intro p e s m args below meth c s₁ B hml hv
  obtain ⟨rfl, hP, hE, hA⟩ := hv
  have hx := B.exec
  have hb := B.bytes
  have hr := B.returns
  have hts := atoms_spec (ws := wsX4_inputsOf) B.pre
  have hown : s.vm.findClass RX4 = some m.cls := findClass_of_methodNamed B.named
  have hlocks := B.notSynchronized
  have hK := hE.1
  have hS : va_S A s.heap s.heap [] := va_S.rf
  have hl := lv_entry ([.int (nI 14)]) (n := 1) (Nat.le_of_ble_eq_true rfl)
  rw [lg_entry_eq]
  generalize (lg_sl ([.int (nI 14)]) ++ List.replicate (1 - (lg_sl ([.int (nI 14)])).length) Slot.unset).toArray = ls at hl ⊢
  have hl : lv_has ls 1 [(0, .int (nI 14))] := hl
  refine lv_iload_n hx hb dX4_inputsOf_0 rfl (lv_at hl 0 rfl) ?_
  refine lv_bipush (v := 14) hx hb dX4_inputsOf_1 (by decide) ?_
  refine lv_icmp_ne (tgt := 8) hx hb dX4_inputsOf_3 (by decide) (fun c_1 => ?_) (fun c_1 => ?_)
  · have c_1 : ¬ (14 = 14) := fun z => c_1 ((nI_eq (a := 14) (b := 14) (by omega) (by omega)).mpr z)
    exfalso; omega
  · have c_1 : 14 = 14 := (nI_eq (a := 14) (b := 14) (by omega) (by omega)).mp c_1
    refine lv_iconst (v := 3) hx hb dX4_inputsOf_6 (by decide) ?_
    exact W.iret (v := 3) hx hb hr (fun t ht hW => ⟨⟨3, (), rfl, (by decide), by rw [← ht] at hP; exact hP⟩, hS.F ht⟩) hS.2.2 dX4_inputsOf_7

set_option maxHeartbeats 4000000 in
set_option maxRecDepth 100000 in
theorem k_X4_inputsOf_15 {l : Launch} {D : va_G} {cI cZ cB cS : ClassId} {A : Nat → Prop} (dm : Nat → Nat) (en : Nat → Nat → va_E) (ad : Nat → Nat → Nat)  : Met l yX4_inputsOf wsX4_inputsOf ({ frames := 1, cells := 0, slots := 0, locals := 22 } : Room) (gPc D cI cZ cB cS A dm en ad [.int (nI 15)]) (va_Qi (fun (r : Int32) (_ : Unit) => r = nI (nmd 15)) (fun _ t => gw_P D vwCl A dm en ad t.heap) A) 0 0 A := by
  refine Met.ofW (cc := cX4_inputsOf) (maxL := 1) (ret := (some .int)) (by decide) rfl ?_
  intro p e s m args below meth c s₁ B hml hv
  obtain ⟨rfl, hP, hE, hA⟩ := hv
  have hx := B.exec
  have hb := B.bytes
  have hr := B.returns
  have hts := atoms_spec (ws := wsX4_inputsOf) B.pre
  have hown : s.vm.findClass RX4 = some m.cls := findClass_of_methodNamed B.named
  have hlocks := B.notSynchronized
  have hK := hE.1
  have hS : va_S A s.heap s.heap [] := va_S.rf
  have hl := lv_entry ([.int (nI 15)]) (n := 1) (Nat.le_of_ble_eq_true rfl)
  rw [lg_entry_eq]
  generalize (lg_sl ([.int (nI 15)]) ++ List.replicate (1 - (lg_sl ([.int (nI 15)])).length) Slot.unset).toArray = ls at hl ⊢
  have hl : lv_has ls 1 [(0, .int (nI 15))] := hl
  refine lv_iload_n hx hb dX4_inputsOf_0 rfl (lv_at hl 0 rfl) ?_
  refine lv_bipush (v := 14) hx hb dX4_inputsOf_1 (by decide) ?_
  refine lv_icmp_ne (tgt := 8) hx hb dX4_inputsOf_3 (by decide) (fun c_1 => ?_) (fun c_1 => ?_)
  · have c_1 : ¬ (15 = 14) := fun z => c_1 ((nI_eq (a := 15) (b := 14) (by omega) (by omega)).mpr z)
    refine lv_iload_n hx hb dX4_inputsOf_8 rfl (lv_at hl 0 rfl) ?_
    refine lv_iconst (v := 2) hx hb dX4_inputsOf_9 (by decide) ?_
    refine lv_bipush (v := 12) hx hb dX4_inputsOf_10 (by decide) ?_
    refine va_calli (va_runS (As := [.int (nI 15), .int 2, .int 12]) (rest := []) ⟨hx, hb, hml, hown, hts⟩ (k_X4_in (l := l) (D := D) (cI := cI) (cZ := cZ) (cB := cB) (cS := cS) (A := A) dm en ad (nI 15) 2 12) (va_cwS 3 hts gX4_inputsOf_X4_in rfl rfl rfl (by decide +kernel) ⟨Nat.le_of_ble_eq_true rfl, Nat.le_of_ble_eq_true rfl⟩) (gPreS hE hA hS hP) rfl rfl hl.1 rfl (lv_room (Nat.le_of_ble_eq_true rfl)) dX4_inputsOf_12 ⟨Nat.le_of_ble_eq_true rfl, Nat.le_of_ble_eq_true rfl⟩) hS (fun q _ h9 => h9) (fun q h9 => h9) (fun r_2 u9 t9 H locs ht9 hvm9 hw_r_2 hB9 hz9 hk9 hS => ?_)
    have hP : gw_P D vwCl A dm en ad H := by rw [← ht9]; exact hB9
    refine lv_toq 0 (hw_r_2.trans (by decide)) ?_
    refine lv_if_ne (tgt := 42) hx hb dX4_inputsOf_15 (by decide) (fun c_3 => ?_) (fun c_3 => ?_)
    · have c_3 : ¬ (0 = 0) := fun z => c_3 ((nI_eq (a := 0) (b := 0) (by omega) (by omega)).mpr z)
      exfalso; omega
    · have c_3 : 0 = 0 := (nI_eq (a := 0) (b := 0) (by omega) (by omega)).mp c_3
      refine lv_iload_n hx hb dX4_inputsOf_18 rfl (lv_at hl 0 rfl) ?_
      refine lv_bipush (v := 18) hx hb dX4_inputsOf_19 (by decide) ?_
      refine lv_icmp_eq (tgt := 42) hx hb dX4_inputsOf_21 (by decide) (fun c_4 => ?_) (fun c_4 => ?_)
      · have c_4 : 15 = 18 := (nI_eq (a := 15) (b := 18) (by omega) (by omega)).mp c_4
        exfalso; omega
      · have c_4 : ¬ (15 = 18) := fun z => c_4 ((nI_eq (a := 15) (b := 18) (by omega) (by omega)).mpr z)
        refine lv_iload_n hx hb dX4_inputsOf_24 rfl (lv_at hl 0 rfl) ?_
        refine lv_bipush (v := 19) hx hb dX4_inputsOf_25 (by decide) ?_
        refine lv_icmp_eq (tgt := 42) hx hb dX4_inputsOf_27 (by decide) (fun c_5 => ?_) (fun c_5 => ?_)
        · have c_5 : 15 = 19 := (nI_eq (a := 15) (b := 19) (by omega) (by omega)).mp c_5
          exfalso; omega
        · have c_5 : ¬ (15 = 19) := fun z => c_5 ((nI_eq (a := 15) (b := 19) (by omega) (by omega)).mpr z)
          refine lv_iload_n hx hb dX4_inputsOf_30 rfl (lv_at hl 0 rfl) ?_
          refine lv_bipush (v := 23) hx hb dX4_inputsOf_31 (by decide) ?_
          refine lv_icmp_eq (tgt := 42) hx hb dX4_inputsOf_33 (by decide) (fun c_6 => ?_) (fun c_6 => ?_)
          · have c_6 : 15 = 23 := (nI_eq (a := 15) (b := 23) (by omega) (by omega)).mp c_6
            exfalso; omega
          · have c_6 : ¬ (15 = 23) := fun z => c_6 ((nI_eq (a := 15) (b := 23) (by omega) (by omega)).mpr z)
            refine lv_iload_n hx hb dX4_inputsOf_36 rfl (lv_at hl 0 rfl) ?_
            refine lv_bipush (v := 24) hx hb dX4_inputsOf_37 (by decide) ?_
            refine lv_icmp_ne (tgt := 44) hx hb dX4_inputsOf_39 (by decide) (fun c_7 => ?_) (fun c_7 => ?_)
            · have c_7 : ¬ (15 = 24) := fun z => c_7 ((nI_eq (a := 15) (b := 24) (by omega) (by omega)).mpr z)
              refine lv_iload_n hx hb dX4_inputsOf_44 rfl (lv_at hl 0 rfl) ?_
              refine lv_iconst (v := 2) hx hb dX4_inputsOf_45 (by decide) ?_
              refine lv_icmp_lt (tgt := 55) hx hb dX4_inputsOf_46 (by decide) (fun c_8 => ?_) (fun c_8 => ?_)
              · have c_8 : 15 < 2 := (nI_ltI (a := 15) (b := 2) (by omega) (by omega)).mp c_8
                exfalso; omega
              · have c_8 : ¬ (15 < 2) := fun z => c_8 ((nI_ltI (a := 15) (b := 2) (by omega) (by omega)).mpr z)
                refine lv_iload_n hx hb dX4_inputsOf_49 rfl (lv_at hl 0 rfl) ?_
                refine lv_bipush (v := 20) hx hb dX4_inputsOf_50 (by decide) ?_
                refine lv_icmp_ne (tgt := 59) hx hb dX4_inputsOf_52 (by decide) (fun c_9 => ?_) (fun c_9 => ?_)
                · have c_9 : ¬ (15 = 20) := fun z => c_9 ((nI_eq (a := 15) (b := 20) (by omega) (by omega)).mpr z)
                  refine lv_iconst (v := 1) hx hb dX4_inputsOf_59 (by decide) ?_
                  exact W.iret (v := 1) hx hb hr (fun t ht hW => ⟨⟨1, (), rfl, (by decide), by rw [← ht] at hP; exact hP⟩, hS.F ht⟩) hS.2.2 dX4_inputsOf_60
                · have c_9 : 15 = 20 := (nI_eq (a := 15) (b := 20) (by omega) (by omega)).mp c_9
                  exfalso; omega
            · have c_7 : 15 = 24 := (nI_eq (a := 15) (b := 24) (by omega) (by omega)).mp c_7
              exfalso; omega
  · have c_1 : 15 = 14 := (nI_eq (a := 15) (b := 14) (by omega) (by omega)).mp c_1
    exfalso; omega

set_option maxHeartbeats 4000000 in
set_option maxRecDepth 100000 in
theorem k_X4_inputsOf_16 {l : Launch} {D : va_G} {cI cZ cB cS : ClassId} {A : Nat → Prop} (dm : Nat → Nat) (en : Nat → Nat → va_E) (ad : Nat → Nat → Nat)  : Met l yX4_inputsOf wsX4_inputsOf ({ frames := 1, cells := 0, slots := 0, locals := 22 } : Room) (gPc D cI cZ cB cS A dm en ad [.int (nI 16)]) (va_Qi (fun (r : Int32) (_ : Unit) => r = nI (nmd 16)) (fun _ t => gw_P D vwCl A dm en ad t.heap) A) 0 0 A := by
  refine Met.ofW (cc := cX4_inputsOf) (maxL := 1) (ret := (some .int)) (by decide) rfl ?_
  intro p e s m args below meth c s₁ B hml hv
  obtain ⟨rfl, hP, hE, hA⟩ := hv
  have hx := B.exec
  have hb := B.bytes
  have hr := B.returns
  have hts := atoms_spec (ws := wsX4_inputsOf) B.pre
  have hown : s.vm.findClass RX4 = some m.cls := findClass_of_methodNamed B.named
  have hlocks := B.notSynchronized
  have hK := hE.1
  have hS : va_S A s.heap s.heap [] := va_S.rf
  have hl := lv_entry ([.int (nI 16)]) (n := 1) (Nat.le_of_ble_eq_true rfl)
  rw [lg_entry_eq]
  generalize (lg_sl ([.int (nI 16)]) ++ List.replicate (1 - (lg_sl ([.int (nI 16)])).length) Slot.unset).toArray = ls at hl ⊢
  have hl : lv_has ls 1 [(0, .int (nI 16))] := hl
  refine lv_iload_n hx hb dX4_inputsOf_0 rfl (lv_at hl 0 rfl) ?_
  refine lv_bipush (v := 14) hx hb dX4_inputsOf_1 (by decide) ?_
  refine lv_icmp_ne (tgt := 8) hx hb dX4_inputsOf_3 (by decide) (fun c_1 => ?_) (fun c_1 => ?_)
  · have c_1 : ¬ (16 = 14) := fun z => c_1 ((nI_eq (a := 16) (b := 14) (by omega) (by omega)).mpr z)
    refine lv_iload_n hx hb dX4_inputsOf_8 rfl (lv_at hl 0 rfl) ?_
    refine lv_iconst (v := 2) hx hb dX4_inputsOf_9 (by decide) ?_
    refine lv_bipush (v := 12) hx hb dX4_inputsOf_10 (by decide) ?_
    refine va_calli (va_runS (As := [.int (nI 16), .int 2, .int 12]) (rest := []) ⟨hx, hb, hml, hown, hts⟩ (k_X4_in (l := l) (D := D) (cI := cI) (cZ := cZ) (cB := cB) (cS := cS) (A := A) dm en ad (nI 16) 2 12) (va_cwS 3 hts gX4_inputsOf_X4_in rfl rfl rfl (by decide +kernel) ⟨Nat.le_of_ble_eq_true rfl, Nat.le_of_ble_eq_true rfl⟩) (gPreS hE hA hS hP) rfl rfl hl.1 rfl (lv_room (Nat.le_of_ble_eq_true rfl)) dX4_inputsOf_12 ⟨Nat.le_of_ble_eq_true rfl, Nat.le_of_ble_eq_true rfl⟩) hS (fun q _ h9 => h9) (fun q h9 => h9) (fun r_2 u9 t9 H locs ht9 hvm9 hw_r_2 hB9 hz9 hk9 hS => ?_)
    have hP : gw_P D vwCl A dm en ad H := by rw [← ht9]; exact hB9
    refine lv_toq 0 (hw_r_2.trans (by decide)) ?_
    refine lv_if_ne (tgt := 42) hx hb dX4_inputsOf_15 (by decide) (fun c_3 => ?_) (fun c_3 => ?_)
    · have c_3 : ¬ (0 = 0) := fun z => c_3 ((nI_eq (a := 0) (b := 0) (by omega) (by omega)).mpr z)
      exfalso; omega
    · have c_3 : 0 = 0 := (nI_eq (a := 0) (b := 0) (by omega) (by omega)).mp c_3
      refine lv_iload_n hx hb dX4_inputsOf_18 rfl (lv_at hl 0 rfl) ?_
      refine lv_bipush (v := 18) hx hb dX4_inputsOf_19 (by decide) ?_
      refine lv_icmp_eq (tgt := 42) hx hb dX4_inputsOf_21 (by decide) (fun c_4 => ?_) (fun c_4 => ?_)
      · have c_4 : 16 = 18 := (nI_eq (a := 16) (b := 18) (by omega) (by omega)).mp c_4
        exfalso; omega
      · have c_4 : ¬ (16 = 18) := fun z => c_4 ((nI_eq (a := 16) (b := 18) (by omega) (by omega)).mpr z)
        refine lv_iload_n hx hb dX4_inputsOf_24 rfl (lv_at hl 0 rfl) ?_
        refine lv_bipush (v := 19) hx hb dX4_inputsOf_25 (by decide) ?_
        refine lv_icmp_eq (tgt := 42) hx hb dX4_inputsOf_27 (by decide) (fun c_5 => ?_) (fun c_5 => ?_)
        · have c_5 : 16 = 19 := (nI_eq (a := 16) (b := 19) (by omega) (by omega)).mp c_5
          exfalso; omega
        · have c_5 : ¬ (16 = 19) := fun z => c_5 ((nI_eq (a := 16) (b := 19) (by omega) (by omega)).mpr z)
          refine lv_iload_n hx hb dX4_inputsOf_30 rfl (lv_at hl 0 rfl) ?_
          refine lv_bipush (v := 23) hx hb dX4_inputsOf_31 (by decide) ?_
          refine lv_icmp_eq (tgt := 42) hx hb dX4_inputsOf_33 (by decide) (fun c_6 => ?_) (fun c_6 => ?_)
          · have c_6 : 16 = 23 := (nI_eq (a := 16) (b := 23) (by omega) (by omega)).mp c_6
            exfalso; omega
          · have c_6 : ¬ (16 = 23) := fun z => c_6 ((nI_eq (a := 16) (b := 23) (by omega) (by omega)).mpr z)
            refine lv_iload_n hx hb dX4_inputsOf_36 rfl (lv_at hl 0 rfl) ?_
            refine lv_bipush (v := 24) hx hb dX4_inputsOf_37 (by decide) ?_
            refine lv_icmp_ne (tgt := 44) hx hb dX4_inputsOf_39 (by decide) (fun c_7 => ?_) (fun c_7 => ?_)
            · have c_7 : ¬ (16 = 24) := fun z => c_7 ((nI_eq (a := 16) (b := 24) (by omega) (by omega)).mpr z)
              refine lv_iload_n hx hb dX4_inputsOf_44 rfl (lv_at hl 0 rfl) ?_
              refine lv_iconst (v := 2) hx hb dX4_inputsOf_45 (by decide) ?_
              refine lv_icmp_lt (tgt := 55) hx hb dX4_inputsOf_46 (by decide) (fun c_8 => ?_) (fun c_8 => ?_)
              · have c_8 : 16 < 2 := (nI_ltI (a := 16) (b := 2) (by omega) (by omega)).mp c_8
                exfalso; omega
              · have c_8 : ¬ (16 < 2) := fun z => c_8 ((nI_ltI (a := 16) (b := 2) (by omega) (by omega)).mpr z)
                refine lv_iload_n hx hb dX4_inputsOf_49 rfl (lv_at hl 0 rfl) ?_
                refine lv_bipush (v := 20) hx hb dX4_inputsOf_50 (by decide) ?_
                refine lv_icmp_ne (tgt := 59) hx hb dX4_inputsOf_52 (by decide) (fun c_9 => ?_) (fun c_9 => ?_)
                · have c_9 : ¬ (16 = 20) := fun z => c_9 ((nI_eq (a := 16) (b := 20) (by omega) (by omega)).mpr z)
                  refine lv_iconst (v := 1) hx hb dX4_inputsOf_59 (by decide) ?_
                  exact W.iret (v := 1) hx hb hr (fun t ht hW => ⟨⟨1, (), rfl, (by decide), by rw [← ht] at hP; exact hP⟩, hS.F ht⟩) hS.2.2 dX4_inputsOf_60
                · have c_9 : 16 = 20 := (nI_eq (a := 16) (b := 20) (by omega) (by omega)).mp c_9
                  exfalso; omega
            · have c_7 : 16 = 24 := (nI_eq (a := 16) (b := 24) (by omega) (by omega)).mp c_7
              exfalso; omega
  · have c_1 : 16 = 14 := (nI_eq (a := 16) (b := 14) (by omega) (by omega)).mp c_1
    exfalso; omega

set_option maxHeartbeats 4000000 in
set_option maxRecDepth 100000 in
theorem k_X4_inputsOf_17 {l : Launch} {D : va_G} {cI cZ cB cS : ClassId} {A : Nat → Prop} (dm : Nat → Nat) (en : Nat → Nat → va_E) (ad : Nat → Nat → Nat)  : Met l yX4_inputsOf wsX4_inputsOf ({ frames := 1, cells := 0, slots := 0, locals := 22 } : Room) (gPc D cI cZ cB cS A dm en ad [.int (nI 17)]) (va_Qi (fun (r : Int32) (_ : Unit) => r = nI (nmd 17)) (fun _ t => gw_P D vwCl A dm en ad t.heap) A) 0 0 A := by
  refine Met.ofW (cc := cX4_inputsOf) (maxL := 1) (ret := (some .int)) (by decide) rfl ?_
  intro p e s m args below meth c s₁ B hml hv
  obtain ⟨rfl, hP, hE, hA⟩ := hv
  have hx := B.exec
  have hb := B.bytes
  have hr := B.returns
  have hts := atoms_spec (ws := wsX4_inputsOf) B.pre
  have hown : s.vm.findClass RX4 = some m.cls := findClass_of_methodNamed B.named
  have hlocks := B.notSynchronized
  have hK := hE.1
  have hS : va_S A s.heap s.heap [] := va_S.rf
  have hl := lv_entry ([.int (nI 17)]) (n := 1) (Nat.le_of_ble_eq_true rfl)
  rw [lg_entry_eq]
  generalize (lg_sl ([.int (nI 17)]) ++ List.replicate (1 - (lg_sl ([.int (nI 17)])).length) Slot.unset).toArray = ls at hl ⊢
  have hl : lv_has ls 1 [(0, .int (nI 17))] := hl
  refine lv_iload_n hx hb dX4_inputsOf_0 rfl (lv_at hl 0 rfl) ?_
  refine lv_bipush (v := 14) hx hb dX4_inputsOf_1 (by decide) ?_
  refine lv_icmp_ne (tgt := 8) hx hb dX4_inputsOf_3 (by decide) (fun c_1 => ?_) (fun c_1 => ?_)
  · have c_1 : ¬ (17 = 14) := fun z => c_1 ((nI_eq (a := 17) (b := 14) (by omega) (by omega)).mpr z)
    refine lv_iload_n hx hb dX4_inputsOf_8 rfl (lv_at hl 0 rfl) ?_
    refine lv_iconst (v := 2) hx hb dX4_inputsOf_9 (by decide) ?_
    refine lv_bipush (v := 12) hx hb dX4_inputsOf_10 (by decide) ?_
    refine va_calli (va_runS (As := [.int (nI 17), .int 2, .int 12]) (rest := []) ⟨hx, hb, hml, hown, hts⟩ (k_X4_in (l := l) (D := D) (cI := cI) (cZ := cZ) (cB := cB) (cS := cS) (A := A) dm en ad (nI 17) 2 12) (va_cwS 3 hts gX4_inputsOf_X4_in rfl rfl rfl (by decide +kernel) ⟨Nat.le_of_ble_eq_true rfl, Nat.le_of_ble_eq_true rfl⟩) (gPreS hE hA hS hP) rfl rfl hl.1 rfl (lv_room (Nat.le_of_ble_eq_true rfl)) dX4_inputsOf_12 ⟨Nat.le_of_ble_eq_true rfl, Nat.le_of_ble_eq_true rfl⟩) hS (fun q _ h9 => h9) (fun q h9 => h9) (fun r_2 u9 t9 H locs ht9 hvm9 hw_r_2 hB9 hz9 hk9 hS => ?_)
    have hP : gw_P D vwCl A dm en ad H := by rw [← ht9]; exact hB9
    refine lv_toq 0 (hw_r_2.trans (by decide)) ?_
    refine lv_if_ne (tgt := 42) hx hb dX4_inputsOf_15 (by decide) (fun c_3 => ?_) (fun c_3 => ?_)
    · have c_3 : ¬ (0 = 0) := fun z => c_3 ((nI_eq (a := 0) (b := 0) (by omega) (by omega)).mpr z)
      exfalso; omega
    · have c_3 : 0 = 0 := (nI_eq (a := 0) (b := 0) (by omega) (by omega)).mp c_3
      refine lv_iload_n hx hb dX4_inputsOf_18 rfl (lv_at hl 0 rfl) ?_
      refine lv_bipush (v := 18) hx hb dX4_inputsOf_19 (by decide) ?_
      refine lv_icmp_eq (tgt := 42) hx hb dX4_inputsOf_21 (by decide) (fun c_4 => ?_) (fun c_4 => ?_)
      · have c_4 : 17 = 18 := (nI_eq (a := 17) (b := 18) (by omega) (by omega)).mp c_4
        exfalso; omega
      · have c_4 : ¬ (17 = 18) := fun z => c_4 ((nI_eq (a := 17) (b := 18) (by omega) (by omega)).mpr z)
        refine lv_iload_n hx hb dX4_inputsOf_24 rfl (lv_at hl 0 rfl) ?_
        refine lv_bipush (v := 19) hx hb dX4_inputsOf_25 (by decide) ?_
        refine lv_icmp_eq (tgt := 42) hx hb dX4_inputsOf_27 (by decide) (fun c_5 => ?_) (fun c_5 => ?_)
        · have c_5 : 17 = 19 := (nI_eq (a := 17) (b := 19) (by omega) (by omega)).mp c_5
          exfalso; omega
        · have c_5 : ¬ (17 = 19) := fun z => c_5 ((nI_eq (a := 17) (b := 19) (by omega) (by omega)).mpr z)
          refine lv_iload_n hx hb dX4_inputsOf_30 rfl (lv_at hl 0 rfl) ?_
          refine lv_bipush (v := 23) hx hb dX4_inputsOf_31 (by decide) ?_
          refine lv_icmp_eq (tgt := 42) hx hb dX4_inputsOf_33 (by decide) (fun c_6 => ?_) (fun c_6 => ?_)
          · have c_6 : 17 = 23 := (nI_eq (a := 17) (b := 23) (by omega) (by omega)).mp c_6
            exfalso; omega
          · have c_6 : ¬ (17 = 23) := fun z => c_6 ((nI_eq (a := 17) (b := 23) (by omega) (by omega)).mpr z)
            refine lv_iload_n hx hb dX4_inputsOf_36 rfl (lv_at hl 0 rfl) ?_
            refine lv_bipush (v := 24) hx hb dX4_inputsOf_37 (by decide) ?_
            refine lv_icmp_ne (tgt := 44) hx hb dX4_inputsOf_39 (by decide) (fun c_7 => ?_) (fun c_7 => ?_)
            · have c_7 : ¬ (17 = 24) := fun z => c_7 ((nI_eq (a := 17) (b := 24) (by omega) (by omega)).mpr z)
              refine lv_iload_n hx hb dX4_inputsOf_44 rfl (lv_at hl 0 rfl) ?_
              refine lv_iconst (v := 2) hx hb dX4_inputsOf_45 (by decide) ?_
              refine lv_icmp_lt (tgt := 55) hx hb dX4_inputsOf_46 (by decide) (fun c_8 => ?_) (fun c_8 => ?_)
              · have c_8 : 17 < 2 := (nI_ltI (a := 17) (b := 2) (by omega) (by omega)).mp c_8
                exfalso; omega
              · have c_8 : ¬ (17 < 2) := fun z => c_8 ((nI_ltI (a := 17) (b := 2) (by omega) (by omega)).mpr z)
                refine lv_iload_n hx hb dX4_inputsOf_49 rfl (lv_at hl 0 rfl) ?_
                refine lv_bipush (v := 20) hx hb dX4_inputsOf_50 (by decide) ?_
                refine lv_icmp_ne (tgt := 59) hx hb dX4_inputsOf_52 (by decide) (fun c_9 => ?_) (fun c_9 => ?_)
                · have c_9 : ¬ (17 = 20) := fun z => c_9 ((nI_eq (a := 17) (b := 20) (by omega) (by omega)).mpr z)
                  refine lv_iconst (v := 1) hx hb dX4_inputsOf_59 (by decide) ?_
                  exact W.iret (v := 1) hx hb hr (fun t ht hW => ⟨⟨1, (), rfl, (by decide), by rw [← ht] at hP; exact hP⟩, hS.F ht⟩) hS.2.2 dX4_inputsOf_60
                · have c_9 : 17 = 20 := (nI_eq (a := 17) (b := 20) (by omega) (by omega)).mp c_9
                  exfalso; omega
            · have c_7 : 17 = 24 := (nI_eq (a := 17) (b := 24) (by omega) (by omega)).mp c_7
              exfalso; omega
  · have c_1 : 17 = 14 := (nI_eq (a := 17) (b := 14) (by omega) (by omega)).mp c_1
    exfalso; omega

set_option maxHeartbeats 4000000 in
set_option maxRecDepth 100000 in
theorem k_X4_inputsOf_18 {l : Launch} {D : va_G} {cI cZ cB cS : ClassId} {A : Nat → Prop} (dm : Nat → Nat) (en : Nat → Nat → va_E) (ad : Nat → Nat → Nat)  : Met l yX4_inputsOf wsX4_inputsOf ({ frames := 1, cells := 0, slots := 0, locals := 22 } : Room) (gPc D cI cZ cB cS A dm en ad [.int (nI 18)]) (va_Qi (fun (r : Int32) (_ : Unit) => r = nI (nmd 18)) (fun _ t => gw_P D vwCl A dm en ad t.heap) A) 0 0 A := by
  refine Met.ofW (cc := cX4_inputsOf) (maxL := 1) (ret := (some .int)) (by decide) rfl ?_
  intro p e s m args below meth c s₁ B hml hv
  obtain ⟨rfl, hP, hE, hA⟩ := hv
  have hx := B.exec
  have hb := B.bytes
  have hr := B.returns
  have hts := atoms_spec (ws := wsX4_inputsOf) B.pre
  have hown : s.vm.findClass RX4 = some m.cls := findClass_of_methodNamed B.named
  have hlocks := B.notSynchronized
  have hK := hE.1
  have hS : va_S A s.heap s.heap [] := va_S.rf
  have hl := lv_entry ([.int (nI 18)]) (n := 1) (Nat.le_of_ble_eq_true rfl)
  rw [lg_entry_eq]
  generalize (lg_sl ([.int (nI 18)]) ++ List.replicate (1 - (lg_sl ([.int (nI 18)])).length) Slot.unset).toArray = ls at hl ⊢
  have hl : lv_has ls 1 [(0, .int (nI 18))] := hl
  refine lv_iload_n hx hb dX4_inputsOf_0 rfl (lv_at hl 0 rfl) ?_
  refine lv_bipush (v := 14) hx hb dX4_inputsOf_1 (by decide) ?_
  refine lv_icmp_ne (tgt := 8) hx hb dX4_inputsOf_3 (by decide) (fun c_1 => ?_) (fun c_1 => ?_)
  · have c_1 : ¬ (18 = 14) := fun z => c_1 ((nI_eq (a := 18) (b := 14) (by omega) (by omega)).mpr z)
    refine lv_iload_n hx hb dX4_inputsOf_8 rfl (lv_at hl 0 rfl) ?_
    refine lv_iconst (v := 2) hx hb dX4_inputsOf_9 (by decide) ?_
    refine lv_bipush (v := 12) hx hb dX4_inputsOf_10 (by decide) ?_
    refine va_calli (va_runS (As := [.int (nI 18), .int 2, .int 12]) (rest := []) ⟨hx, hb, hml, hown, hts⟩ (k_X4_in (l := l) (D := D) (cI := cI) (cZ := cZ) (cB := cB) (cS := cS) (A := A) dm en ad (nI 18) 2 12) (va_cwS 3 hts gX4_inputsOf_X4_in rfl rfl rfl (by decide +kernel) ⟨Nat.le_of_ble_eq_true rfl, Nat.le_of_ble_eq_true rfl⟩) (gPreS hE hA hS hP) rfl rfl hl.1 rfl (lv_room (Nat.le_of_ble_eq_true rfl)) dX4_inputsOf_12 ⟨Nat.le_of_ble_eq_true rfl, Nat.le_of_ble_eq_true rfl⟩) hS (fun q _ h9 => h9) (fun q h9 => h9) (fun r_2 u9 t9 H locs ht9 hvm9 hw_r_2 hB9 hz9 hk9 hS => ?_)
    have hP : gw_P D vwCl A dm en ad H := by rw [← ht9]; exact hB9
    refine lv_toq 0 (hw_r_2.trans (by decide)) ?_
    refine lv_if_ne (tgt := 42) hx hb dX4_inputsOf_15 (by decide) (fun c_3 => ?_) (fun c_3 => ?_)
    · have c_3 : ¬ (0 = 0) := fun z => c_3 ((nI_eq (a := 0) (b := 0) (by omega) (by omega)).mpr z)
      exfalso; omega
    · have c_3 : 0 = 0 := (nI_eq (a := 0) (b := 0) (by omega) (by omega)).mp c_3
      refine lv_iload_n hx hb dX4_inputsOf_18 rfl (lv_at hl 0 rfl) ?_
      refine lv_bipush (v := 18) hx hb dX4_inputsOf_19 (by decide) ?_
      refine lv_icmp_eq (tgt := 42) hx hb dX4_inputsOf_21 (by decide) (fun c_4 => ?_) (fun c_4 => ?_)
      · have c_4 : 18 = 18 := (nI_eq (a := 18) (b := 18) (by omega) (by omega)).mp c_4
        refine lv_iconst (v := 2) hx hb dX4_inputsOf_42 (by decide) ?_
        exact W.iret (v := 2) hx hb hr (fun t ht hW => ⟨⟨2, (), rfl, (by decide), by rw [← ht] at hP; exact hP⟩, hS.F ht⟩) hS.2.2 dX4_inputsOf_43
      · have c_4 : ¬ (18 = 18) := fun z => c_4 ((nI_eq (a := 18) (b := 18) (by omega) (by omega)).mpr z)
        exfalso; omega
  · have c_1 : 18 = 14 := (nI_eq (a := 18) (b := 14) (by omega) (by omega)).mp c_1
    exfalso; omega

set_option maxHeartbeats 4000000 in
set_option maxRecDepth 100000 in
theorem k_X4_inputsOf_19 {l : Launch} {D : va_G} {cI cZ cB cS : ClassId} {A : Nat → Prop} (dm : Nat → Nat) (en : Nat → Nat → va_E) (ad : Nat → Nat → Nat)  : Met l yX4_inputsOf wsX4_inputsOf ({ frames := 1, cells := 0, slots := 0, locals := 22 } : Room) (gPc D cI cZ cB cS A dm en ad [.int (nI 19)]) (va_Qi (fun (r : Int32) (_ : Unit) => r = nI (nmd 19)) (fun _ t => gw_P D vwCl A dm en ad t.heap) A) 0 0 A := by
  refine Met.ofW (cc := cX4_inputsOf) (maxL := 1) (ret := (some .int)) (by decide) rfl ?_
  intro p e s m args below meth c s₁ B hml hv
  obtain ⟨rfl, hP, hE, hA⟩ := hv
  have hx := B.exec
  have hb := B.bytes
  have hr := B.returns
  have hts := atoms_spec (ws := wsX4_inputsOf) B.pre
  have hown : s.vm.findClass RX4 = some m.cls := findClass_of_methodNamed B.named
  have hlocks := B.notSynchronized
  have hK := hE.1
  have hS : va_S A s.heap s.heap [] := va_S.rf
  have hl := lv_entry ([.int (nI 19)]) (n := 1) (Nat.le_of_ble_eq_true rfl)
  rw [lg_entry_eq]
  generalize (lg_sl ([.int (nI 19)]) ++ List.replicate (1 - (lg_sl ([.int (nI 19)])).length) Slot.unset).toArray = ls at hl ⊢
  have hl : lv_has ls 1 [(0, .int (nI 19))] := hl
  refine lv_iload_n hx hb dX4_inputsOf_0 rfl (lv_at hl 0 rfl) ?_
  refine lv_bipush (v := 14) hx hb dX4_inputsOf_1 (by decide) ?_
  refine lv_icmp_ne (tgt := 8) hx hb dX4_inputsOf_3 (by decide) (fun c_1 => ?_) (fun c_1 => ?_)
  · have c_1 : ¬ (19 = 14) := fun z => c_1 ((nI_eq (a := 19) (b := 14) (by omega) (by omega)).mpr z)
    refine lv_iload_n hx hb dX4_inputsOf_8 rfl (lv_at hl 0 rfl) ?_
    refine lv_iconst (v := 2) hx hb dX4_inputsOf_9 (by decide) ?_
    refine lv_bipush (v := 12) hx hb dX4_inputsOf_10 (by decide) ?_
    refine va_calli (va_runS (As := [.int (nI 19), .int 2, .int 12]) (rest := []) ⟨hx, hb, hml, hown, hts⟩ (k_X4_in (l := l) (D := D) (cI := cI) (cZ := cZ) (cB := cB) (cS := cS) (A := A) dm en ad (nI 19) 2 12) (va_cwS 3 hts gX4_inputsOf_X4_in rfl rfl rfl (by decide +kernel) ⟨Nat.le_of_ble_eq_true rfl, Nat.le_of_ble_eq_true rfl⟩) (gPreS hE hA hS hP) rfl rfl hl.1 rfl (lv_room (Nat.le_of_ble_eq_true rfl)) dX4_inputsOf_12 ⟨Nat.le_of_ble_eq_true rfl, Nat.le_of_ble_eq_true rfl⟩) hS (fun q _ h9 => h9) (fun q h9 => h9) (fun r_2 u9 t9 H locs ht9 hvm9 hw_r_2 hB9 hz9 hk9 hS => ?_)
    have hP : gw_P D vwCl A dm en ad H := by rw [← ht9]; exact hB9
    refine lv_toq 0 (hw_r_2.trans (by decide)) ?_
    refine lv_if_ne (tgt := 42) hx hb dX4_inputsOf_15 (by decide) (fun c_3 => ?_) (fun c_3 => ?_)
    · have c_3 : ¬ (0 = 0) := fun z => c_3 ((nI_eq (a := 0) (b := 0) (by omega) (by omega)).mpr z)
      exfalso; omega
    · have c_3 : 0 = 0 := (nI_eq (a := 0) (b := 0) (by omega) (by omega)).mp c_3
      refine lv_iload_n hx hb dX4_inputsOf_18 rfl (lv_at hl 0 rfl) ?_
      refine lv_bipush (v := 18) hx hb dX4_inputsOf_19 (by decide) ?_
      refine lv_icmp_eq (tgt := 42) hx hb dX4_inputsOf_21 (by decide) (fun c_4 => ?_) (fun c_4 => ?_)
      · have c_4 : 19 = 18 := (nI_eq (a := 19) (b := 18) (by omega) (by omega)).mp c_4
        exfalso; omega
      · have c_4 : ¬ (19 = 18) := fun z => c_4 ((nI_eq (a := 19) (b := 18) (by omega) (by omega)).mpr z)
        refine lv_iload_n hx hb dX4_inputsOf_24 rfl (lv_at hl 0 rfl) ?_
        refine lv_bipush (v := 19) hx hb dX4_inputsOf_25 (by decide) ?_
        refine lv_icmp_eq (tgt := 42) hx hb dX4_inputsOf_27 (by decide) (fun c_5 => ?_) (fun c_5 => ?_)
        · have c_5 : 19 = 19 := (nI_eq (a := 19) (b := 19) (by omega) (by omega)).mp c_5
          refine lv_iconst (v := 2) hx hb dX4_inputsOf_42 (by decide) ?_
          exact W.iret (v := 2) hx hb hr (fun t ht hW => ⟨⟨2, (), rfl, (by decide), by rw [← ht] at hP; exact hP⟩, hS.F ht⟩) hS.2.2 dX4_inputsOf_43
        · have c_5 : ¬ (19 = 19) := fun z => c_5 ((nI_eq (a := 19) (b := 19) (by omega) (by omega)).mpr z)
          exfalso; omega
  · have c_1 : 19 = 14 := (nI_eq (a := 19) (b := 14) (by omega) (by omega)).mp c_1
    exfalso; omega

set_option maxHeartbeats 4000000 in
set_option maxRecDepth 100000 in
theorem k_X4_inputsOf_20 {l : Launch} {D : va_G} {cI cZ cB cS : ClassId} {A : Nat → Prop} (dm : Nat → Nat) (en : Nat → Nat → va_E) (ad : Nat → Nat → Nat)  : Met l yX4_inputsOf wsX4_inputsOf ({ frames := 1, cells := 0, slots := 0, locals := 22 } : Room) (gPc D cI cZ cB cS A dm en ad [.int (nI 20)]) (va_Qi (fun (r : Int32) (_ : Unit) => r = nI (nmd 20)) (fun _ t => gw_P D vwCl A dm en ad t.heap) A) 0 0 A := by
  refine Met.ofW (cc := cX4_inputsOf) (maxL := 1) (ret := (some .int)) (by decide) rfl ?_
  intro p e s m args below meth c s₁ B hml hv
  obtain ⟨rfl, hP, hE, hA⟩ := hv
  have hx := B.exec
  have hb := B.bytes
  have hr := B.returns
  have hts := atoms_spec (ws := wsX4_inputsOf) B.pre
  have hown : s.vm.findClass RX4 = some m.cls := findClass_of_methodNamed B.named
  have hlocks := B.notSynchronized
  have hK := hE.1
  have hS : va_S A s.heap s.heap [] := va_S.rf
  have hl := lv_entry ([.int (nI 20)]) (n := 1) (Nat.le_of_ble_eq_true rfl)
  rw [lg_entry_eq]
  generalize (lg_sl ([.int (nI 20)]) ++ List.replicate (1 - (lg_sl ([.int (nI 20)])).length) Slot.unset).toArray = ls at hl ⊢
  have hl : lv_has ls 1 [(0, .int (nI 20))] := hl
  refine lv_iload_n hx hb dX4_inputsOf_0 rfl (lv_at hl 0 rfl) ?_
  refine lv_bipush (v := 14) hx hb dX4_inputsOf_1 (by decide) ?_
  refine lv_icmp_ne (tgt := 8) hx hb dX4_inputsOf_3 (by decide) (fun c_1 => ?_) (fun c_1 => ?_)
  · have c_1 : ¬ (20 = 14) := fun z => c_1 ((nI_eq (a := 20) (b := 14) (by omega) (by omega)).mpr z)
    refine lv_iload_n hx hb dX4_inputsOf_8 rfl (lv_at hl 0 rfl) ?_
    refine lv_iconst (v := 2) hx hb dX4_inputsOf_9 (by decide) ?_
    refine lv_bipush (v := 12) hx hb dX4_inputsOf_10 (by decide) ?_
    refine va_calli (va_runS (As := [.int (nI 20), .int 2, .int 12]) (rest := []) ⟨hx, hb, hml, hown, hts⟩ (k_X4_in (l := l) (D := D) (cI := cI) (cZ := cZ) (cB := cB) (cS := cS) (A := A) dm en ad (nI 20) 2 12) (va_cwS 3 hts gX4_inputsOf_X4_in rfl rfl rfl (by decide +kernel) ⟨Nat.le_of_ble_eq_true rfl, Nat.le_of_ble_eq_true rfl⟩) (gPreS hE hA hS hP) rfl rfl hl.1 rfl (lv_room (Nat.le_of_ble_eq_true rfl)) dX4_inputsOf_12 ⟨Nat.le_of_ble_eq_true rfl, Nat.le_of_ble_eq_true rfl⟩) hS (fun q _ h9 => h9) (fun q h9 => h9) (fun r_2 u9 t9 H locs ht9 hvm9 hw_r_2 hB9 hz9 hk9 hS => ?_)
    have hP : gw_P D vwCl A dm en ad H := by rw [← ht9]; exact hB9
    refine lv_toq 0 (hw_r_2.trans (by decide)) ?_
    refine lv_if_ne (tgt := 42) hx hb dX4_inputsOf_15 (by decide) (fun c_3 => ?_) (fun c_3 => ?_)
    · have c_3 : ¬ (0 = 0) := fun z => c_3 ((nI_eq (a := 0) (b := 0) (by omega) (by omega)).mpr z)
      exfalso; omega
    · have c_3 : 0 = 0 := (nI_eq (a := 0) (b := 0) (by omega) (by omega)).mp c_3
      refine lv_iload_n hx hb dX4_inputsOf_18 rfl (lv_at hl 0 rfl) ?_
      refine lv_bipush (v := 18) hx hb dX4_inputsOf_19 (by decide) ?_
      refine lv_icmp_eq (tgt := 42) hx hb dX4_inputsOf_21 (by decide) (fun c_4 => ?_) (fun c_4 => ?_)
      · have c_4 : 20 = 18 := (nI_eq (a := 20) (b := 18) (by omega) (by omega)).mp c_4
        exfalso; omega
      · have c_4 : ¬ (20 = 18) := fun z => c_4 ((nI_eq (a := 20) (b := 18) (by omega) (by omega)).mpr z)
        refine lv_iload_n hx hb dX4_inputsOf_24 rfl (lv_at hl 0 rfl) ?_
        refine lv_bipush (v := 19) hx hb dX4_inputsOf_25 (by decide) ?_
        refine lv_icmp_eq (tgt := 42) hx hb dX4_inputsOf_27 (by decide) (fun c_5 => ?_) (fun c_5 => ?_)
        · have c_5 : 20 = 19 := (nI_eq (a := 20) (b := 19) (by omega) (by omega)).mp c_5
          exfalso; omega
        · have c_5 : ¬ (20 = 19) := fun z => c_5 ((nI_eq (a := 20) (b := 19) (by omega) (by omega)).mpr z)
          refine lv_iload_n hx hb dX4_inputsOf_30 rfl (lv_at hl 0 rfl) ?_
          refine lv_bipush (v := 23) hx hb dX4_inputsOf_31 (by decide) ?_
          refine lv_icmp_eq (tgt := 42) hx hb dX4_inputsOf_33 (by decide) (fun c_6 => ?_) (fun c_6 => ?_)
          · have c_6 : 20 = 23 := (nI_eq (a := 20) (b := 23) (by omega) (by omega)).mp c_6
            exfalso; omega
          · have c_6 : ¬ (20 = 23) := fun z => c_6 ((nI_eq (a := 20) (b := 23) (by omega) (by omega)).mpr z)
            refine lv_iload_n hx hb dX4_inputsOf_36 rfl (lv_at hl 0 rfl) ?_
            refine lv_bipush (v := 24) hx hb dX4_inputsOf_37 (by decide) ?_
            refine lv_icmp_ne (tgt := 44) hx hb dX4_inputsOf_39 (by decide) (fun c_7 => ?_) (fun c_7 => ?_)
            · have c_7 : ¬ (20 = 24) := fun z => c_7 ((nI_eq (a := 20) (b := 24) (by omega) (by omega)).mpr z)
              refine lv_iload_n hx hb dX4_inputsOf_44 rfl (lv_at hl 0 rfl) ?_
              refine lv_iconst (v := 2) hx hb dX4_inputsOf_45 (by decide) ?_
              refine lv_icmp_lt (tgt := 55) hx hb dX4_inputsOf_46 (by decide) (fun c_8 => ?_) (fun c_8 => ?_)
              · have c_8 : 20 < 2 := (nI_ltI (a := 20) (b := 2) (by omega) (by omega)).mp c_8
                exfalso; omega
              · have c_8 : ¬ (20 < 2) := fun z => c_8 ((nI_ltI (a := 20) (b := 2) (by omega) (by omega)).mpr z)
                refine lv_iload_n hx hb dX4_inputsOf_49 rfl (lv_at hl 0 rfl) ?_
                refine lv_bipush (v := 20) hx hb dX4_inputsOf_50 (by decide) ?_
                refine lv_icmp_ne (tgt := 59) hx hb dX4_inputsOf_52 (by decide) (fun c_9 => ?_) (fun c_9 => ?_)
                · have c_9 : ¬ (20 = 20) := fun z => c_9 ((nI_eq (a := 20) (b := 20) (by omega) (by omega)).mpr z)
                  exfalso; omega
                · have c_9 : 20 = 20 := (nI_eq (a := 20) (b := 20) (by omega) (by omega)).mp c_9
                  refine lv_iconst (v := 0) hx hb dX4_inputsOf_55 (by decide) ?_
                  refine lv_goto (tgt := 60) hx hb dX4_inputsOf_56 (by decide) ?_
                  exact W.iret (v := 0) hx hb hr (fun t ht hW => ⟨⟨0, (), rfl, (by decide), by rw [← ht] at hP; exact hP⟩, hS.F ht⟩) hS.2.2 dX4_inputsOf_60
            · have c_7 : 20 = 24 := (nI_eq (a := 20) (b := 24) (by omega) (by omega)).mp c_7
              exfalso; omega
  · have c_1 : 20 = 14 := (nI_eq (a := 20) (b := 14) (by omega) (by omega)).mp c_1
    exfalso; omega

set_option maxHeartbeats 4000000 in
set_option maxRecDepth 100000 in
theorem k_X4_inputsOf_21 {l : Launch} {D : va_G} {cI cZ cB cS : ClassId} {A : Nat → Prop} (dm : Nat → Nat) (en : Nat → Nat → va_E) (ad : Nat → Nat → Nat)  : Met l yX4_inputsOf wsX4_inputsOf ({ frames := 1, cells := 0, slots := 0, locals := 22 } : Room) (gPc D cI cZ cB cS A dm en ad [.int (nI 21)]) (va_Qi (fun (r : Int32) (_ : Unit) => r = nI (nmd 21)) (fun _ t => gw_P D vwCl A dm en ad t.heap) A) 0 0 A := by
  refine Met.ofW (cc := cX4_inputsOf) (maxL := 1) (ret := (some .int)) (by decide) rfl ?_
  intro p e s m args below meth c s₁ B hml hv
  obtain ⟨rfl, hP, hE, hA⟩ := hv
  have hx := B.exec
  have hb := B.bytes
  have hr := B.returns
  have hts := atoms_spec (ws := wsX4_inputsOf) B.pre
  have hown : s.vm.findClass RX4 = some m.cls := findClass_of_methodNamed B.named
  have hlocks := B.notSynchronized
  have hK := hE.1
  have hS : va_S A s.heap s.heap [] := va_S.rf
  have hl := lv_entry ([.int (nI 21)]) (n := 1) (Nat.le_of_ble_eq_true rfl)
  rw [lg_entry_eq]
  generalize (lg_sl ([.int (nI 21)]) ++ List.replicate (1 - (lg_sl ([.int (nI 21)])).length) Slot.unset).toArray = ls at hl ⊢
  have hl : lv_has ls 1 [(0, .int (nI 21))] := hl
  refine lv_iload_n hx hb dX4_inputsOf_0 rfl (lv_at hl 0 rfl) ?_
  refine lv_bipush (v := 14) hx hb dX4_inputsOf_1 (by decide) ?_
  refine lv_icmp_ne (tgt := 8) hx hb dX4_inputsOf_3 (by decide) (fun c_1 => ?_) (fun c_1 => ?_)
  · have c_1 : ¬ (21 = 14) := fun z => c_1 ((nI_eq (a := 21) (b := 14) (by omega) (by omega)).mpr z)
    refine lv_iload_n hx hb dX4_inputsOf_8 rfl (lv_at hl 0 rfl) ?_
    refine lv_iconst (v := 2) hx hb dX4_inputsOf_9 (by decide) ?_
    refine lv_bipush (v := 12) hx hb dX4_inputsOf_10 (by decide) ?_
    refine va_calli (va_runS (As := [.int (nI 21), .int 2, .int 12]) (rest := []) ⟨hx, hb, hml, hown, hts⟩ (k_X4_in (l := l) (D := D) (cI := cI) (cZ := cZ) (cB := cB) (cS := cS) (A := A) dm en ad (nI 21) 2 12) (va_cwS 3 hts gX4_inputsOf_X4_in rfl rfl rfl (by decide +kernel) ⟨Nat.le_of_ble_eq_true rfl, Nat.le_of_ble_eq_true rfl⟩) (gPreS hE hA hS hP) rfl rfl hl.1 rfl (lv_room (Nat.le_of_ble_eq_true rfl)) dX4_inputsOf_12 ⟨Nat.le_of_ble_eq_true rfl, Nat.le_of_ble_eq_true rfl⟩) hS (fun q _ h9 => h9) (fun q h9 => h9) (fun r_2 u9 t9 H locs ht9 hvm9 hw_r_2 hB9 hz9 hk9 hS => ?_)
    have hP : gw_P D vwCl A dm en ad H := by rw [← ht9]; exact hB9
    refine lv_toq 0 (hw_r_2.trans (by decide)) ?_
    refine lv_if_ne (tgt := 42) hx hb dX4_inputsOf_15 (by decide) (fun c_3 => ?_) (fun c_3 => ?_)
    · have c_3 : ¬ (0 = 0) := fun z => c_3 ((nI_eq (a := 0) (b := 0) (by omega) (by omega)).mpr z)
      exfalso; omega
    · have c_3 : 0 = 0 := (nI_eq (a := 0) (b := 0) (by omega) (by omega)).mp c_3
      refine lv_iload_n hx hb dX4_inputsOf_18 rfl (lv_at hl 0 rfl) ?_
      refine lv_bipush (v := 18) hx hb dX4_inputsOf_19 (by decide) ?_
      refine lv_icmp_eq (tgt := 42) hx hb dX4_inputsOf_21 (by decide) (fun c_4 => ?_) (fun c_4 => ?_)
      · have c_4 : 21 = 18 := (nI_eq (a := 21) (b := 18) (by omega) (by omega)).mp c_4
        exfalso; omega
      · have c_4 : ¬ (21 = 18) := fun z => c_4 ((nI_eq (a := 21) (b := 18) (by omega) (by omega)).mpr z)
        refine lv_iload_n hx hb dX4_inputsOf_24 rfl (lv_at hl 0 rfl) ?_
        refine lv_bipush (v := 19) hx hb dX4_inputsOf_25 (by decide) ?_
        refine lv_icmp_eq (tgt := 42) hx hb dX4_inputsOf_27 (by decide) (fun c_5 => ?_) (fun c_5 => ?_)
        · have c_5 : 21 = 19 := (nI_eq (a := 21) (b := 19) (by omega) (by omega)).mp c_5
          exfalso; omega
        · have c_5 : ¬ (21 = 19) := fun z => c_5 ((nI_eq (a := 21) (b := 19) (by omega) (by omega)).mpr z)
          refine lv_iload_n hx hb dX4_inputsOf_30 rfl (lv_at hl 0 rfl) ?_
          refine lv_bipush (v := 23) hx hb dX4_inputsOf_31 (by decide) ?_
          refine lv_icmp_eq (tgt := 42) hx hb dX4_inputsOf_33 (by decide) (fun c_6 => ?_) (fun c_6 => ?_)
          · have c_6 : 21 = 23 := (nI_eq (a := 21) (b := 23) (by omega) (by omega)).mp c_6
            exfalso; omega
          · have c_6 : ¬ (21 = 23) := fun z => c_6 ((nI_eq (a := 21) (b := 23) (by omega) (by omega)).mpr z)
            refine lv_iload_n hx hb dX4_inputsOf_36 rfl (lv_at hl 0 rfl) ?_
            refine lv_bipush (v := 24) hx hb dX4_inputsOf_37 (by decide) ?_
            refine lv_icmp_ne (tgt := 44) hx hb dX4_inputsOf_39 (by decide) (fun c_7 => ?_) (fun c_7 => ?_)
            · have c_7 : ¬ (21 = 24) := fun z => c_7 ((nI_eq (a := 21) (b := 24) (by omega) (by omega)).mpr z)
              refine lv_iload_n hx hb dX4_inputsOf_44 rfl (lv_at hl 0 rfl) ?_
              refine lv_iconst (v := 2) hx hb dX4_inputsOf_45 (by decide) ?_
              refine lv_icmp_lt (tgt := 55) hx hb dX4_inputsOf_46 (by decide) (fun c_8 => ?_) (fun c_8 => ?_)
              · have c_8 : 21 < 2 := (nI_ltI (a := 21) (b := 2) (by omega) (by omega)).mp c_8
                exfalso; omega
              · have c_8 : ¬ (21 < 2) := fun z => c_8 ((nI_ltI (a := 21) (b := 2) (by omega) (by omega)).mpr z)
                refine lv_iload_n hx hb dX4_inputsOf_49 rfl (lv_at hl 0 rfl) ?_
                refine lv_bipush (v := 20) hx hb dX4_inputsOf_50 (by decide) ?_
                refine lv_icmp_ne (tgt := 59) hx hb dX4_inputsOf_52 (by decide) (fun c_9 => ?_) (fun c_9 => ?_)
                · have c_9 : ¬ (21 = 20) := fun z => c_9 ((nI_eq (a := 21) (b := 20) (by omega) (by omega)).mpr z)
                  refine lv_iconst (v := 1) hx hb dX4_inputsOf_59 (by decide) ?_
                  exact W.iret (v := 1) hx hb hr (fun t ht hW => ⟨⟨1, (), rfl, (by decide), by rw [← ht] at hP; exact hP⟩, hS.F ht⟩) hS.2.2 dX4_inputsOf_60
                · have c_9 : 21 = 20 := (nI_eq (a := 21) (b := 20) (by omega) (by omega)).mp c_9
                  exfalso; omega
            · have c_7 : 21 = 24 := (nI_eq (a := 21) (b := 24) (by omega) (by omega)).mp c_7
              exfalso; omega
  · have c_1 : 21 = 14 := (nI_eq (a := 21) (b := 14) (by omega) (by omega)).mp c_1
    exfalso; omega

set_option maxHeartbeats 4000000 in
set_option maxRecDepth 100000 in
theorem k_X4_inputsOf_22 {l : Launch} {D : va_G} {cI cZ cB cS : ClassId} {A : Nat → Prop} (dm : Nat → Nat) (en : Nat → Nat → va_E) (ad : Nat → Nat → Nat)  : Met l yX4_inputsOf wsX4_inputsOf ({ frames := 1, cells := 0, slots := 0, locals := 22 } : Room) (gPc D cI cZ cB cS A dm en ad [.int (nI 22)]) (va_Qi (fun (r : Int32) (_ : Unit) => r = nI (nmd 22)) (fun _ t => gw_P D vwCl A dm en ad t.heap) A) 0 0 A := by
  refine Met.ofW (cc := cX4_inputsOf) (maxL := 1) (ret := (some .int)) (by decide) rfl ?_
  intro p e s m args below meth c s₁ B hml hv
  obtain ⟨rfl, hP, hE, hA⟩ := hv
  have hx := B.exec
  have hb := B.bytes
  have hr := B.returns
  have hts := atoms_spec (ws := wsX4_inputsOf) B.pre
  have hown : s.vm.findClass RX4 = some m.cls := findClass_of_methodNamed B.named
  have hlocks := B.notSynchronized
  have hK := hE.1
  have hS : va_S A s.heap s.heap [] := va_S.rf
  have hl := lv_entry ([.int (nI 22)]) (n := 1) (Nat.le_of_ble_eq_true rfl)
  rw [lg_entry_eq]
  generalize (lg_sl ([.int (nI 22)]) ++ List.replicate (1 - (lg_sl ([.int (nI 22)])).length) Slot.unset).toArray = ls at hl ⊢
  have hl : lv_has ls 1 [(0, .int (nI 22))] := hl
  refine lv_iload_n hx hb dX4_inputsOf_0 rfl (lv_at hl 0 rfl) ?_
  refine lv_bipush (v := 14) hx hb dX4_inputsOf_1 (by decide) ?_
  refine lv_icmp_ne (tgt := 8) hx hb dX4_inputsOf_3 (by decide) (fun c_1 => ?_) (fun c_1 => ?_)
  · have c_1 : ¬ (22 = 14) := fun z => c_1 ((nI_eq (a := 22) (b := 14) (by omega) (by omega)).mpr z)
    refine lv_iload_n hx hb dX4_inputsOf_8 rfl (lv_at hl 0 rfl) ?_
    refine lv_iconst (v := 2) hx hb dX4_inputsOf_9 (by decide) ?_
    refine lv_bipush (v := 12) hx hb dX4_inputsOf_10 (by decide) ?_
    refine va_calli (va_runS (As := [.int (nI 22), .int 2, .int 12]) (rest := []) ⟨hx, hb, hml, hown, hts⟩ (k_X4_in (l := l) (D := D) (cI := cI) (cZ := cZ) (cB := cB) (cS := cS) (A := A) dm en ad (nI 22) 2 12) (va_cwS 3 hts gX4_inputsOf_X4_in rfl rfl rfl (by decide +kernel) ⟨Nat.le_of_ble_eq_true rfl, Nat.le_of_ble_eq_true rfl⟩) (gPreS hE hA hS hP) rfl rfl hl.1 rfl (lv_room (Nat.le_of_ble_eq_true rfl)) dX4_inputsOf_12 ⟨Nat.le_of_ble_eq_true rfl, Nat.le_of_ble_eq_true rfl⟩) hS (fun q _ h9 => h9) (fun q h9 => h9) (fun r_2 u9 t9 H locs ht9 hvm9 hw_r_2 hB9 hz9 hk9 hS => ?_)
    have hP : gw_P D vwCl A dm en ad H := by rw [← ht9]; exact hB9
    refine lv_toq 0 (hw_r_2.trans (by decide)) ?_
    refine lv_if_ne (tgt := 42) hx hb dX4_inputsOf_15 (by decide) (fun c_3 => ?_) (fun c_3 => ?_)
    · have c_3 : ¬ (0 = 0) := fun z => c_3 ((nI_eq (a := 0) (b := 0) (by omega) (by omega)).mpr z)
      exfalso; omega
    · have c_3 : 0 = 0 := (nI_eq (a := 0) (b := 0) (by omega) (by omega)).mp c_3
      refine lv_iload_n hx hb dX4_inputsOf_18 rfl (lv_at hl 0 rfl) ?_
      refine lv_bipush (v := 18) hx hb dX4_inputsOf_19 (by decide) ?_
      refine lv_icmp_eq (tgt := 42) hx hb dX4_inputsOf_21 (by decide) (fun c_4 => ?_) (fun c_4 => ?_)
      · have c_4 : 22 = 18 := (nI_eq (a := 22) (b := 18) (by omega) (by omega)).mp c_4
        exfalso; omega
      · have c_4 : ¬ (22 = 18) := fun z => c_4 ((nI_eq (a := 22) (b := 18) (by omega) (by omega)).mpr z)
        refine lv_iload_n hx hb dX4_inputsOf_24 rfl (lv_at hl 0 rfl) ?_
        refine lv_bipush (v := 19) hx hb dX4_inputsOf_25 (by decide) ?_
        refine lv_icmp_eq (tgt := 42) hx hb dX4_inputsOf_27 (by decide) (fun c_5 => ?_) (fun c_5 => ?_)
        · have c_5 : 22 = 19 := (nI_eq (a := 22) (b := 19) (by omega) (by omega)).mp c_5
          exfalso; omega
        · have c_5 : ¬ (22 = 19) := fun z => c_5 ((nI_eq (a := 22) (b := 19) (by omega) (by omega)).mpr z)
          refine lv_iload_n hx hb dX4_inputsOf_30 rfl (lv_at hl 0 rfl) ?_
          refine lv_bipush (v := 23) hx hb dX4_inputsOf_31 (by decide) ?_
          refine lv_icmp_eq (tgt := 42) hx hb dX4_inputsOf_33 (by decide) (fun c_6 => ?_) (fun c_6 => ?_)
          · have c_6 : 22 = 23 := (nI_eq (a := 22) (b := 23) (by omega) (by omega)).mp c_6
            exfalso; omega
          · have c_6 : ¬ (22 = 23) := fun z => c_6 ((nI_eq (a := 22) (b := 23) (by omega) (by omega)).mpr z)
            refine lv_iload_n hx hb dX4_inputsOf_36 rfl (lv_at hl 0 rfl) ?_
            refine lv_bipush (v := 24) hx hb dX4_inputsOf_37 (by decide) ?_
            refine lv_icmp_ne (tgt := 44) hx hb dX4_inputsOf_39 (by decide) (fun c_7 => ?_) (fun c_7 => ?_)
            · have c_7 : ¬ (22 = 24) := fun z => c_7 ((nI_eq (a := 22) (b := 24) (by omega) (by omega)).mpr z)
              refine lv_iload_n hx hb dX4_inputsOf_44 rfl (lv_at hl 0 rfl) ?_
              refine lv_iconst (v := 2) hx hb dX4_inputsOf_45 (by decide) ?_
              refine lv_icmp_lt (tgt := 55) hx hb dX4_inputsOf_46 (by decide) (fun c_8 => ?_) (fun c_8 => ?_)
              · have c_8 : 22 < 2 := (nI_ltI (a := 22) (b := 2) (by omega) (by omega)).mp c_8
                exfalso; omega
              · have c_8 : ¬ (22 < 2) := fun z => c_8 ((nI_ltI (a := 22) (b := 2) (by omega) (by omega)).mpr z)
                refine lv_iload_n hx hb dX4_inputsOf_49 rfl (lv_at hl 0 rfl) ?_
                refine lv_bipush (v := 20) hx hb dX4_inputsOf_50 (by decide) ?_
                refine lv_icmp_ne (tgt := 59) hx hb dX4_inputsOf_52 (by decide) (fun c_9 => ?_) (fun c_9 => ?_)
                · have c_9 : ¬ (22 = 20) := fun z => c_9 ((nI_eq (a := 22) (b := 20) (by omega) (by omega)).mpr z)
                  refine lv_iconst (v := 1) hx hb dX4_inputsOf_59 (by decide) ?_
                  exact W.iret (v := 1) hx hb hr (fun t ht hW => ⟨⟨1, (), rfl, (by decide), by rw [← ht] at hP; exact hP⟩, hS.F ht⟩) hS.2.2 dX4_inputsOf_60
                · have c_9 : 22 = 20 := (nI_eq (a := 22) (b := 20) (by omega) (by omega)).mp c_9
                  exfalso; omega
            · have c_7 : 22 = 24 := (nI_eq (a := 22) (b := 24) (by omega) (by omega)).mp c_7
              exfalso; omega
  · have c_1 : 22 = 14 := (nI_eq (a := 22) (b := 14) (by omega) (by omega)).mp c_1
    exfalso; omega

set_option maxHeartbeats 4000000 in
set_option maxRecDepth 100000 in
theorem k_X4_inputsOf_23 {l : Launch} {D : va_G} {cI cZ cB cS : ClassId} {A : Nat → Prop} (dm : Nat → Nat) (en : Nat → Nat → va_E) (ad : Nat → Nat → Nat)  : Met l yX4_inputsOf wsX4_inputsOf ({ frames := 1, cells := 0, slots := 0, locals := 22 } : Room) (gPc D cI cZ cB cS A dm en ad [.int (nI 23)]) (va_Qi (fun (r : Int32) (_ : Unit) => r = nI (nmd 23)) (fun _ t => gw_P D vwCl A dm en ad t.heap) A) 0 0 A := by
  refine Met.ofW (cc := cX4_inputsOf) (maxL := 1) (ret := (some .int)) (by decide) rfl ?_
  intro p e s m args below meth c s₁ B hml hv
  obtain ⟨rfl, hP, hE, hA⟩ := hv
  have hx := B.exec
  have hb := B.bytes
  have hr := B.returns
  have hts := atoms_spec (ws := wsX4_inputsOf) B.pre
  have hown : s.vm.findClass RX4 = some m.cls := findClass_of_methodNamed B.named
  have hlocks := B.notSynchronized
  have hK := hE.1
  have hS : va_S A s.heap s.heap [] := va_S.rf
  have hl := lv_entry ([.int (nI 23)]) (n := 1) (Nat.le_of_ble_eq_true rfl)
  rw [lg_entry_eq]
  generalize (lg_sl ([.int (nI 23)]) ++ List.replicate (1 - (lg_sl ([.int (nI 23)])).length) Slot.unset).toArray = ls at hl ⊢
  have hl : lv_has ls 1 [(0, .int (nI 23))] := hl
  refine lv_iload_n hx hb dX4_inputsOf_0 rfl (lv_at hl 0 rfl) ?_
  refine lv_bipush (v := 14) hx hb dX4_inputsOf_1 (by decide) ?_
  refine lv_icmp_ne (tgt := 8) hx hb dX4_inputsOf_3 (by decide) (fun c_1 => ?_) (fun c_1 => ?_)
  · have c_1 : ¬ (23 = 14) := fun z => c_1 ((nI_eq (a := 23) (b := 14) (by omega) (by omega)).mpr z)
    refine lv_iload_n hx hb dX4_inputsOf_8 rfl (lv_at hl 0 rfl) ?_
    refine lv_iconst (v := 2) hx hb dX4_inputsOf_9 (by decide) ?_
    refine lv_bipush (v := 12) hx hb dX4_inputsOf_10 (by decide) ?_
    refine va_calli (va_runS (As := [.int (nI 23), .int 2, .int 12]) (rest := []) ⟨hx, hb, hml, hown, hts⟩ (k_X4_in (l := l) (D := D) (cI := cI) (cZ := cZ) (cB := cB) (cS := cS) (A := A) dm en ad (nI 23) 2 12) (va_cwS 3 hts gX4_inputsOf_X4_in rfl rfl rfl (by decide +kernel) ⟨Nat.le_of_ble_eq_true rfl, Nat.le_of_ble_eq_true rfl⟩) (gPreS hE hA hS hP) rfl rfl hl.1 rfl (lv_room (Nat.le_of_ble_eq_true rfl)) dX4_inputsOf_12 ⟨Nat.le_of_ble_eq_true rfl, Nat.le_of_ble_eq_true rfl⟩) hS (fun q _ h9 => h9) (fun q h9 => h9) (fun r_2 u9 t9 H locs ht9 hvm9 hw_r_2 hB9 hz9 hk9 hS => ?_)
    have hP : gw_P D vwCl A dm en ad H := by rw [← ht9]; exact hB9
    refine lv_toq 0 (hw_r_2.trans (by decide)) ?_
    refine lv_if_ne (tgt := 42) hx hb dX4_inputsOf_15 (by decide) (fun c_3 => ?_) (fun c_3 => ?_)
    · have c_3 : ¬ (0 = 0) := fun z => c_3 ((nI_eq (a := 0) (b := 0) (by omega) (by omega)).mpr z)
      exfalso; omega
    · have c_3 : 0 = 0 := (nI_eq (a := 0) (b := 0) (by omega) (by omega)).mp c_3
      refine lv_iload_n hx hb dX4_inputsOf_18 rfl (lv_at hl 0 rfl) ?_
      refine lv_bipush (v := 18) hx hb dX4_inputsOf_19 (by decide) ?_
      refine lv_icmp_eq (tgt := 42) hx hb dX4_inputsOf_21 (by decide) (fun c_4 => ?_) (fun c_4 => ?_)
      · have c_4 : 23 = 18 := (nI_eq (a := 23) (b := 18) (by omega) (by omega)).mp c_4
        exfalso; omega
      · have c_4 : ¬ (23 = 18) := fun z => c_4 ((nI_eq (a := 23) (b := 18) (by omega) (by omega)).mpr z)
        refine lv_iload_n hx hb dX4_inputsOf_24 rfl (lv_at hl 0 rfl) ?_
        refine lv_bipush (v := 19) hx hb dX4_inputsOf_25 (by decide) ?_
        refine lv_icmp_eq (tgt := 42) hx hb dX4_inputsOf_27 (by decide) (fun c_5 => ?_) (fun c_5 => ?_)
        · have c_5 : 23 = 19 := (nI_eq (a := 23) (b := 19) (by omega) (by omega)).mp c_5
          exfalso; omega
        · have c_5 : ¬ (23 = 19) := fun z => c_5 ((nI_eq (a := 23) (b := 19) (by omega) (by omega)).mpr z)
          refine lv_iload_n hx hb dX4_inputsOf_30 rfl (lv_at hl 0 rfl) ?_
          refine lv_bipush (v := 23) hx hb dX4_inputsOf_31 (by decide) ?_
          refine lv_icmp_eq (tgt := 42) hx hb dX4_inputsOf_33 (by decide) (fun c_6 => ?_) (fun c_6 => ?_)
          · have c_6 : 23 = 23 := (nI_eq (a := 23) (b := 23) (by omega) (by omega)).mp c_6
            refine lv_iconst (v := 2) hx hb dX4_inputsOf_42 (by decide) ?_
            exact W.iret (v := 2) hx hb hr (fun t ht hW => ⟨⟨2, (), rfl, (by decide), by rw [← ht] at hP; exact hP⟩, hS.F ht⟩) hS.2.2 dX4_inputsOf_43
          · have c_6 : ¬ (23 = 23) := fun z => c_6 ((nI_eq (a := 23) (b := 23) (by omega) (by omega)).mpr z)
            exfalso; omega
  · have c_1 : 23 = 14 := (nI_eq (a := 23) (b := 14) (by omega) (by omega)).mp c_1
    exfalso; omega

set_option maxHeartbeats 4000000 in
set_option maxRecDepth 100000 in
theorem k_X4_inputsOf_24 {l : Launch} {D : va_G} {cI cZ cB cS : ClassId} {A : Nat → Prop} (dm : Nat → Nat) (en : Nat → Nat → va_E) (ad : Nat → Nat → Nat)  : Met l yX4_inputsOf wsX4_inputsOf ({ frames := 1, cells := 0, slots := 0, locals := 22 } : Room) (gPc D cI cZ cB cS A dm en ad [.int (nI 24)]) (va_Qi (fun (r : Int32) (_ : Unit) => r = nI (nmd 24)) (fun _ t => gw_P D vwCl A dm en ad t.heap) A) 0 0 A := by
  refine Met.ofW (cc := cX4_inputsOf) (maxL := 1) (ret := (some .int)) (by decide) rfl ?_
  intro p e s m args below meth c s₁ B hml hv
  obtain ⟨rfl, hP, hE, hA⟩ := hv
  have hx := B.exec
  have hb := B.bytes
  have hr := B.returns
  have hts := atoms_spec (ws := wsX4_inputsOf) B.pre
  have hown : s.vm.findClass RX4 = some m.cls := findClass_of_methodNamed B.named
  have hlocks := B.notSynchronized
  have hK := hE.1
  have hS : va_S A s.heap s.heap [] := va_S.rf
  have hl := lv_entry ([.int (nI 24)]) (n := 1) (Nat.le_of_ble_eq_true rfl)
  rw [lg_entry_eq]
  generalize (lg_sl ([.int (nI 24)]) ++ List.replicate (1 - (lg_sl ([.int (nI 24)])).length) Slot.unset).toArray = ls at hl ⊢
  have hl : lv_has ls 1 [(0, .int (nI 24))] := hl
  refine lv_iload_n hx hb dX4_inputsOf_0 rfl (lv_at hl 0 rfl) ?_
  refine lv_bipush (v := 14) hx hb dX4_inputsOf_1 (by decide) ?_
  refine lv_icmp_ne (tgt := 8) hx hb dX4_inputsOf_3 (by decide) (fun c_1 => ?_) (fun c_1 => ?_)
  · have c_1 : ¬ (24 = 14) := fun z => c_1 ((nI_eq (a := 24) (b := 14) (by omega) (by omega)).mpr z)
    refine lv_iload_n hx hb dX4_inputsOf_8 rfl (lv_at hl 0 rfl) ?_
    refine lv_iconst (v := 2) hx hb dX4_inputsOf_9 (by decide) ?_
    refine lv_bipush (v := 12) hx hb dX4_inputsOf_10 (by decide) ?_
    refine va_calli (va_runS (As := [.int (nI 24), .int 2, .int 12]) (rest := []) ⟨hx, hb, hml, hown, hts⟩ (k_X4_in (l := l) (D := D) (cI := cI) (cZ := cZ) (cB := cB) (cS := cS) (A := A) dm en ad (nI 24) 2 12) (va_cwS 3 hts gX4_inputsOf_X4_in rfl rfl rfl (by decide +kernel) ⟨Nat.le_of_ble_eq_true rfl, Nat.le_of_ble_eq_true rfl⟩) (gPreS hE hA hS hP) rfl rfl hl.1 rfl (lv_room (Nat.le_of_ble_eq_true rfl)) dX4_inputsOf_12 ⟨Nat.le_of_ble_eq_true rfl, Nat.le_of_ble_eq_true rfl⟩) hS (fun q _ h9 => h9) (fun q h9 => h9) (fun r_2 u9 t9 H locs ht9 hvm9 hw_r_2 hB9 hz9 hk9 hS => ?_)
    have hP : gw_P D vwCl A dm en ad H := by rw [← ht9]; exact hB9
    refine lv_toq 0 (hw_r_2.trans (by decide)) ?_
    refine lv_if_ne (tgt := 42) hx hb dX4_inputsOf_15 (by decide) (fun c_3 => ?_) (fun c_3 => ?_)
    · have c_3 : ¬ (0 = 0) := fun z => c_3 ((nI_eq (a := 0) (b := 0) (by omega) (by omega)).mpr z)
      exfalso; omega
    · have c_3 : 0 = 0 := (nI_eq (a := 0) (b := 0) (by omega) (by omega)).mp c_3
      refine lv_iload_n hx hb dX4_inputsOf_18 rfl (lv_at hl 0 rfl) ?_
      refine lv_bipush (v := 18) hx hb dX4_inputsOf_19 (by decide) ?_
      refine lv_icmp_eq (tgt := 42) hx hb dX4_inputsOf_21 (by decide) (fun c_4 => ?_) (fun c_4 => ?_)
      · have c_4 : 24 = 18 := (nI_eq (a := 24) (b := 18) (by omega) (by omega)).mp c_4
        exfalso; omega
      · have c_4 : ¬ (24 = 18) := fun z => c_4 ((nI_eq (a := 24) (b := 18) (by omega) (by omega)).mpr z)
        refine lv_iload_n hx hb dX4_inputsOf_24 rfl (lv_at hl 0 rfl) ?_
        refine lv_bipush (v := 19) hx hb dX4_inputsOf_25 (by decide) ?_
        refine lv_icmp_eq (tgt := 42) hx hb dX4_inputsOf_27 (by decide) (fun c_5 => ?_) (fun c_5 => ?_)
        · have c_5 : 24 = 19 := (nI_eq (a := 24) (b := 19) (by omega) (by omega)).mp c_5
          exfalso; omega
        · have c_5 : ¬ (24 = 19) := fun z => c_5 ((nI_eq (a := 24) (b := 19) (by omega) (by omega)).mpr z)
          refine lv_iload_n hx hb dX4_inputsOf_30 rfl (lv_at hl 0 rfl) ?_
          refine lv_bipush (v := 23) hx hb dX4_inputsOf_31 (by decide) ?_
          refine lv_icmp_eq (tgt := 42) hx hb dX4_inputsOf_33 (by decide) (fun c_6 => ?_) (fun c_6 => ?_)
          · have c_6 : 24 = 23 := (nI_eq (a := 24) (b := 23) (by omega) (by omega)).mp c_6
            exfalso; omega
          · have c_6 : ¬ (24 = 23) := fun z => c_6 ((nI_eq (a := 24) (b := 23) (by omega) (by omega)).mpr z)
            refine lv_iload_n hx hb dX4_inputsOf_36 rfl (lv_at hl 0 rfl) ?_
            refine lv_bipush (v := 24) hx hb dX4_inputsOf_37 (by decide) ?_
            refine lv_icmp_ne (tgt := 44) hx hb dX4_inputsOf_39 (by decide) (fun c_7 => ?_) (fun c_7 => ?_)
            · have c_7 : ¬ (24 = 24) := fun z => c_7 ((nI_eq (a := 24) (b := 24) (by omega) (by omega)).mpr z)
              exfalso; omega
            · have c_7 : 24 = 24 := (nI_eq (a := 24) (b := 24) (by omega) (by omega)).mp c_7
              refine lv_iconst (v := 2) hx hb dX4_inputsOf_42 (by decide) ?_
              exact W.iret (v := 2) hx hb hr (fun t ht hW => ⟨⟨2, (), rfl, (by decide), by rw [← ht] at hP; exact hP⟩, hS.F ht⟩) hS.2.2 dX4_inputsOf_43
  · have c_1 : 24 = 14 := (nI_eq (a := 24) (b := 14) (by omega) (by omega)).mp c_1
    exfalso; omega

set_option maxHeartbeats 4000000 in
set_option maxRecDepth 100000 in
theorem k_X4_inputsOf_25 {l : Launch} {D : va_G} {cI cZ cB cS : ClassId} {A : Nat → Prop} (dm : Nat → Nat) (en : Nat → Nat → va_E) (ad : Nat → Nat → Nat)  : Met l yX4_inputsOf wsX4_inputsOf ({ frames := 1, cells := 0, slots := 0, locals := 22 } : Room) (gPc D cI cZ cB cS A dm en ad [.int (nI 25)]) (va_Qi (fun (r : Int32) (_ : Unit) => r = nI (nmd 25)) (fun _ t => gw_P D vwCl A dm en ad t.heap) A) 0 0 A := by
  refine Met.ofW (cc := cX4_inputsOf) (maxL := 1) (ret := (some .int)) (by decide) rfl ?_
  intro p e s m args below meth c s₁ B hml hv
  obtain ⟨rfl, hP, hE, hA⟩ := hv
  have hx := B.exec
  have hb := B.bytes
  have hr := B.returns
  have hts := atoms_spec (ws := wsX4_inputsOf) B.pre
  have hown : s.vm.findClass RX4 = some m.cls := findClass_of_methodNamed B.named
  have hlocks := B.notSynchronized
  have hK := hE.1
  have hS : va_S A s.heap s.heap [] := va_S.rf
  have hl := lv_entry ([.int (nI 25)]) (n := 1) (Nat.le_of_ble_eq_true rfl)
  rw [lg_entry_eq]
  generalize (lg_sl ([.int (nI 25)]) ++ List.replicate (1 - (lg_sl ([.int (nI 25)])).length) Slot.unset).toArray = ls at hl ⊢
  have hl : lv_has ls 1 [(0, .int (nI 25))] := hl
  refine lv_iload_n hx hb dX4_inputsOf_0 rfl (lv_at hl 0 rfl) ?_
  refine lv_bipush (v := 14) hx hb dX4_inputsOf_1 (by decide) ?_
  refine lv_icmp_ne (tgt := 8) hx hb dX4_inputsOf_3 (by decide) (fun c_1 => ?_) (fun c_1 => ?_)
  · have c_1 : ¬ (25 = 14) := fun z => c_1 ((nI_eq (a := 25) (b := 14) (by omega) (by omega)).mpr z)
    refine lv_iload_n hx hb dX4_inputsOf_8 rfl (lv_at hl 0 rfl) ?_
    refine lv_iconst (v := 2) hx hb dX4_inputsOf_9 (by decide) ?_
    refine lv_bipush (v := 12) hx hb dX4_inputsOf_10 (by decide) ?_
    refine va_calli (va_runS (As := [.int (nI 25), .int 2, .int 12]) (rest := []) ⟨hx, hb, hml, hown, hts⟩ (k_X4_in (l := l) (D := D) (cI := cI) (cZ := cZ) (cB := cB) (cS := cS) (A := A) dm en ad (nI 25) 2 12) (va_cwS 3 hts gX4_inputsOf_X4_in rfl rfl rfl (by decide +kernel) ⟨Nat.le_of_ble_eq_true rfl, Nat.le_of_ble_eq_true rfl⟩) (gPreS hE hA hS hP) rfl rfl hl.1 rfl (lv_room (Nat.le_of_ble_eq_true rfl)) dX4_inputsOf_12 ⟨Nat.le_of_ble_eq_true rfl, Nat.le_of_ble_eq_true rfl⟩) hS (fun q _ h9 => h9) (fun q h9 => h9) (fun r_2 u9 t9 H locs ht9 hvm9 hw_r_2 hB9 hz9 hk9 hS => ?_)
    have hP : gw_P D vwCl A dm en ad H := by rw [← ht9]; exact hB9
    refine lv_toq 0 (hw_r_2.trans (by decide)) ?_
    refine lv_if_ne (tgt := 42) hx hb dX4_inputsOf_15 (by decide) (fun c_3 => ?_) (fun c_3 => ?_)
    · have c_3 : ¬ (0 = 0) := fun z => c_3 ((nI_eq (a := 0) (b := 0) (by omega) (by omega)).mpr z)
      exfalso; omega
    · have c_3 : 0 = 0 := (nI_eq (a := 0) (b := 0) (by omega) (by omega)).mp c_3
      refine lv_iload_n hx hb dX4_inputsOf_18 rfl (lv_at hl 0 rfl) ?_
      refine lv_bipush (v := 18) hx hb dX4_inputsOf_19 (by decide) ?_
      refine lv_icmp_eq (tgt := 42) hx hb dX4_inputsOf_21 (by decide) (fun c_4 => ?_) (fun c_4 => ?_)
      · have c_4 : 25 = 18 := (nI_eq (a := 25) (b := 18) (by omega) (by omega)).mp c_4
        exfalso; omega
      · have c_4 : ¬ (25 = 18) := fun z => c_4 ((nI_eq (a := 25) (b := 18) (by omega) (by omega)).mpr z)
        refine lv_iload_n hx hb dX4_inputsOf_24 rfl (lv_at hl 0 rfl) ?_
        refine lv_bipush (v := 19) hx hb dX4_inputsOf_25 (by decide) ?_
        refine lv_icmp_eq (tgt := 42) hx hb dX4_inputsOf_27 (by decide) (fun c_5 => ?_) (fun c_5 => ?_)
        · have c_5 : 25 = 19 := (nI_eq (a := 25) (b := 19) (by omega) (by omega)).mp c_5
          exfalso; omega
        · have c_5 : ¬ (25 = 19) := fun z => c_5 ((nI_eq (a := 25) (b := 19) (by omega) (by omega)).mpr z)
          refine lv_iload_n hx hb dX4_inputsOf_30 rfl (lv_at hl 0 rfl) ?_
          refine lv_bipush (v := 23) hx hb dX4_inputsOf_31 (by decide) ?_
          refine lv_icmp_eq (tgt := 42) hx hb dX4_inputsOf_33 (by decide) (fun c_6 => ?_) (fun c_6 => ?_)
          · have c_6 : 25 = 23 := (nI_eq (a := 25) (b := 23) (by omega) (by omega)).mp c_6
            exfalso; omega
          · have c_6 : ¬ (25 = 23) := fun z => c_6 ((nI_eq (a := 25) (b := 23) (by omega) (by omega)).mpr z)
            refine lv_iload_n hx hb dX4_inputsOf_36 rfl (lv_at hl 0 rfl) ?_
            refine lv_bipush (v := 24) hx hb dX4_inputsOf_37 (by decide) ?_
            refine lv_icmp_ne (tgt := 44) hx hb dX4_inputsOf_39 (by decide) (fun c_7 => ?_) (fun c_7 => ?_)
            · have c_7 : ¬ (25 = 24) := fun z => c_7 ((nI_eq (a := 25) (b := 24) (by omega) (by omega)).mpr z)
              refine lv_iload_n hx hb dX4_inputsOf_44 rfl (lv_at hl 0 rfl) ?_
              refine lv_iconst (v := 2) hx hb dX4_inputsOf_45 (by decide) ?_
              refine lv_icmp_lt (tgt := 55) hx hb dX4_inputsOf_46 (by decide) (fun c_8 => ?_) (fun c_8 => ?_)
              · have c_8 : 25 < 2 := (nI_ltI (a := 25) (b := 2) (by omega) (by omega)).mp c_8
                exfalso; omega
              · have c_8 : ¬ (25 < 2) := fun z => c_8 ((nI_ltI (a := 25) (b := 2) (by omega) (by omega)).mpr z)
                refine lv_iload_n hx hb dX4_inputsOf_49 rfl (lv_at hl 0 rfl) ?_
                refine lv_bipush (v := 20) hx hb dX4_inputsOf_50 (by decide) ?_
                refine lv_icmp_ne (tgt := 59) hx hb dX4_inputsOf_52 (by decide) (fun c_9 => ?_) (fun c_9 => ?_)
                · have c_9 : ¬ (25 = 20) := fun z => c_9 ((nI_eq (a := 25) (b := 20) (by omega) (by omega)).mpr z)
                  refine lv_iconst (v := 1) hx hb dX4_inputsOf_59 (by decide) ?_
                  exact W.iret (v := 1) hx hb hr (fun t ht hW => ⟨⟨1, (), rfl, (by decide), by rw [← ht] at hP; exact hP⟩, hS.F ht⟩) hS.2.2 dX4_inputsOf_60
                · have c_9 : 25 = 20 := (nI_eq (a := 25) (b := 20) (by omega) (by omega)).mp c_9
                  exfalso; omega
            · have c_7 : 25 = 24 := (nI_eq (a := 25) (b := 24) (by omega) (by omega)).mp c_7
              exfalso; omega
  · have c_1 : 25 = 14 := (nI_eq (a := 25) (b := 14) (by omega) (by omega)).mp c_1
    exfalso; omega

theorem k_X4_inputsOf {l : Launch} {D : va_G} {cI cZ cB cS : ClassId} {A : Nat → Prop} (dm : Nat → Nat) (en : Nat → Nat → va_E) (ad : Nat → Nat → Nat) (k : Nat) (hk : k < 26) : Met l yX4_inputsOf wsX4_inputsOf ({ frames := 1, cells := 0, slots := 0, locals := 22 } : Room) (gPc D cI cZ cB cS A dm en ad [.int (nI k)]) (va_Qi (fun (r : Int32) (_ : Unit) => r = nI (nmd k)) (fun _ t => gw_P D vwCl A dm en ad t.heap) A) 0 0 A := by
  rcases (show k = 0 ∨ k = 1 ∨ k = 2 ∨ k = 3 ∨ k = 4 ∨ k = 5 ∨ k = 6 ∨ k = 7 ∨ k = 8 ∨ k = 9 ∨ k = 10 ∨ k = 11 ∨ k = 12 ∨ k = 13 ∨ k = 14 ∨ k = 15 ∨ k = 16 ∨ k = 17 ∨ k = 18 ∨ k = 19 ∨ k = 20 ∨ k = 21 ∨ k = 22 ∨ k = 23 ∨ k = 24 ∨ k = 25 by omega) with rfl | rfl | rfl | rfl | rfl | rfl | rfl | rfl | rfl | rfl | rfl | rfl | rfl | rfl | rfl | rfl | rfl | rfl | rfl | rfl | rfl | rfl | rfl | rfl | rfl | rfl
  · exact k_X4_inputsOf_0 dm en ad
  · exact k_X4_inputsOf_1 dm en ad
  · exact k_X4_inputsOf_2 dm en ad
  · exact k_X4_inputsOf_3 dm en ad
  · exact k_X4_inputsOf_4 dm en ad
  · exact k_X4_inputsOf_5 dm en ad
  · exact k_X4_inputsOf_6 dm en ad
  · exact k_X4_inputsOf_7 dm en ad
  · exact k_X4_inputsOf_8 dm en ad
  · exact k_X4_inputsOf_9 dm en ad
  · exact k_X4_inputsOf_10 dm en ad
  · exact k_X4_inputsOf_11 dm en ad
  · exact k_X4_inputsOf_12 dm en ad
  · exact k_X4_inputsOf_13 dm en ad
  · exact k_X4_inputsOf_14 dm en ad
  · exact k_X4_inputsOf_15 dm en ad
  · exact k_X4_inputsOf_16 dm en ad
  · exact k_X4_inputsOf_17 dm en ad
  · exact k_X4_inputsOf_18 dm en ad
  · exact k_X4_inputsOf_19 dm en ad
  · exact k_X4_inputsOf_20 dm en ad
  · exact k_X4_inputsOf_21 dm en ad
  · exact k_X4_inputsOf_22 dm en ad
  · exact k_X4_inputsOf_23 dm en ad
  · exact k_X4_inputsOf_24 dm en ad
  · exact k_X4_inputsOf_25 dm en ad
