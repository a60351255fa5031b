theorem iL_X3_outputOf_X0 : ∀ w ∈ u_ws RX0 TX0 11, w ∈ wsX3_outputOf := by decide +kernel
theorem iL_X3_outputOf_X3 : ∀ w ∈ u_ws RX3 TX3 9, w ∈ wsX3_outputOf := by decide +kernel
set_option maxHeartbeats 4000000 in
set_option maxRecDepth 100000 in
theorem k_X3_outputOf {l : Launch} {D : va_G} {cI cZ cB cS : ClassId} {A : Nat → Prop} (κ : Nat → Nat) (σ sc : Nat → Nat → Int32) (ad : Nat → Nat → Nat) (hn : κ 0 ≤ 40) (y0 : Int32) : Met l yX3_outputOf wsX3_outputOf ({ frames := 0, cells := 0, slots := 0, locals := 0 } : Room) (gPc D cI cZ cB cS A (cDm κ) (cEn cI cZ cB cS κ σ sc ad) ad [.ref (ad 0 0), .int y0]) (va_Qi (fun (r : Int32) (_ : Unit) => r = outV (κ 0) σ y0) (fun _ t => gw_P D vwCl A (cDm κ) (cEn cI cZ cB cS κ σ sc ad) ad t.heap) A) 0 0 A := by
  refine Met.ofW (cc := cX3_outputOf) (maxL := 2) (ret := (some .int)) (by decide) rfl ?_
  intro p e s m args below meth c s₁ B hml hv
  obtain ⟨rfl, hP, hE, hA⟩ := hv
  have hx := B.exec
  have hb := B.bytes
  have hr := B.returns
  have hts := atoms_spec (ws := wsX3_outputOf) B.pre
  have hown : s.vm.findClass RX3 = some m.cls := findClass_of_methodNamed B.named
  have hlocks := B.notSynchronized
  have hK := hE.1
  have hS : va_S A s.heap s.heap [] := va_S.rf
  have hL0 := fun w (hw : w ∈ u_ws RX0 TX0 11) => hts w (iL_X3_outputOf_X0 w hw)
  have hL3 := fun w (hw : w ∈ u_ws RX3 TX3 9) => hts w (iL_X3_outputOf_X3 w hw)
  have hl := lv_entry ([.ref (ad 0 0), .int y0]) (n := 2) (Nat.le_of_ble_eq_true rfl)
  rw [lg_entry_eq]
  generalize (lg_sl ([.ref (ad 0 0), .int y0]) ++ List.replicate (2 - (lg_sl ([.ref (ad 0 0), .int y0])).length) Slot.unset).toArray = ls at hl ⊢
  have hl : lv_has ls 2 [(0, .ref (ad 0 0)), (1, .int y0)] := hl
  refine lv_iload_n hx hb dX3_outputOf_0 rfl (lv_at hl 1 rfl) ?_
  refine lv_if_lt (tgt := 24) hx hb dX3_outputOf_1 (by decide) (fun c_1 => ?_) (fun c_1 => ?_)
  · refine lv_iconst (v := 0) hx hb dX3_outputOf_24 (by decide) ?_
    exact W.iret (v := 0) hx hb hr (fun t ht hW => ⟨⟨0, (), rfl, (by unfold outV; rw [if_neg]; exact fun z => z.1 c_1), by rw [← ht] at hP; exact hP⟩, hS.F ht⟩) hS.2.2 dX3_outputOf_25
  · refine lv_iload_n hx hb dX3_outputOf_4 rfl (lv_at hl 1 rfl) ?_
    refine lv_aload_n hx hb dX3_outputOf_5 rfl (lv_at hl 0 rfl) ?_
    refine gw_get (C := RX3) (T := TX3) (N := 9) hx hb hL3 hown hK hP 0 0 (cDf (by decide)) rfl rfl 1 (by decide) (hts (.fieldLink RX3 15 "BlockPrograms" "count" "I") (by decide +kernel)) (fun _ h9 => h9) (v := .int (nI (κ 0))) rfl dX3_outputOf_6 ?_
    refine lv_icmp_ge (tgt := 24) hx hb dX3_outputOf_9 (by decide) (fun c_2 => ?_) (fun c_2 => ?_)
    · refine lv_iconst (v := 0) hx hb dX3_outputOf_24 (by decide) ?_
      exact W.iret (v := 0) hx hb hr (fun t ht hW => ⟨⟨0, (), rfl, (by unfold outV; rw [if_neg]; exact fun z => z.2 c_2), by rw [← ht] at hP; exact hP⟩, hS.F ht⟩) hS.2.2 dX3_outputOf_25
    · obtain ⟨j, hj, rfl⟩ := ix_of (n := κ 0) (by omega) c_1 c_2
      refine lv_aload_n hx hb dX3_outputOf_12 rfl (lv_at hl 0 rfl) ?_
      refine gw_get (C := RX3) (T := TX3) (N := 9) hx hb hL3 hown hK hP 0 0 (cDf (by decide)) rfl rfl 0 (by decide) (hts (.fieldLink RX3 11 "BlockPrograms" "blocks" "[LBlockPrograms$Block;") (by decide +kernel)) (fun _ h9 => h9) (v := .ref (ad 1 0)) rfl dX3_outputOf_13 ?_
      refine lv_iload_n hx hb dX3_outputOf_16 rfl (lv_at hl 1 rfl) ?_
      refine gw_aald hx hb hK hP 1 0 (cDf (by decide)) 2 rfl rfl (j) rfl (by omega) (by decide) (a := ad 11 j) (if_pos (by omega)) dX3_outputOf_17 ?_
      refine gw_get (C := RX0) (T := TX0) (N := 11) hx hb hL0 hown hK hP 11 j (cDb (by omega) (by decide) (by decide)) rfl rfl 4 (by decide) (hts (.fieldLink RX3 124 "BlockPrograms$Block" "output" "I") (by decide +kernel)) (fun _ h9 => h9) (v := .int ((σ 4 j))) rfl dX3_outputOf_18 ?_
      refine lv_goto (tgt := 25) hx hb dX3_outputOf_21 (by decide) ?_
      exact W.iret (v := (σ 4 j)) hx hb hr (fun t ht hW => ⟨⟨((σ 4 j)), (), rfl, (outV_at (by omega) (by omega)).symm, by rw [← ht] at hP; exact hP⟩, hS.F ht⟩) hS.2.2 dX3_outputOf_25

theorem iL_X1_note_X1 : ∀ w ∈ u_ws RX1 TX1 5, w ∈ wsX1_note := by decide +kernel
set_option maxHeartbeats 4000000 in
set_option maxRecDepth 100000 in
theorem k_X1_note {l : Launch} {D : va_G} {cI cZ cB cS : ClassId} {A : Nat → Prop} (κ : Nat → Nat) (σ sc : Nat → Nat → Int32) (ad : Nat → Nat → Nat) (y0 y1 : Int32) (k : Nat) (hk : k < 4) : Met l yX1_note wsX1_note ({ frames := 0, cells := 0, slots := 0, locals := 0 } : Room) (gPc D cI cZ cB cS A (cDm κ) (cEn cI cZ cB cS κ σ sc ad) ad [.ref (ad 5 0), .int y0, .int y1, .int (nI k)]) (va_Qv (fun _ : Unit => True) (fun _ t => gw_P D vwCl A (cDm (noteK κ)) (cEn cI cZ cB cS (noteK κ) (noteS κ σ y0 y1 k) sc ad) ad t.heap) A) 0 0 A := by
  refine Met.ofW (cc := cX1_note) (maxL := 4) (ret := none) (by decide) rfl ?_
  intro p e s m args below meth c s₁ B hml hv
  obtain ⟨rfl, hP, hE, hA⟩ := hv
  have hx := B.exec
  have hb := B.bytes
  have hr := B.returns
  have hts := atoms_spec (ws := wsX1_note) B.pre
  have hown : s.vm.findClass RX1 = some m.cls := findClass_of_methodNamed B.named
  have hlocks := B.notSynchronized
  have hK := hE.1
  have hS : va_S A s.heap s.heap [] := va_S.rf
  have hL1 := fun w (hw : w ∈ u_ws RX1 TX1 5) => hts w (iL_X1_note_X1 w hw)
  have hl := lv_entry ([.ref (ad 5 0), .int y0, .int y1, .int (nI k)]) (n := 4) (Nat.le_of_ble_eq_true rfl)
  rw [lg_entry_eq]
  generalize (lg_sl ([.ref (ad 5 0), .int y0, .int y1, .int (nI k)]) ++ List.replicate (4 - (lg_sl ([.ref (ad 5 0), .int y0, .int y1, .int (nI k)])).length) Slot.unset).toArray = ls at hl ⊢
  have hl : lv_has ls 4 [(0, .ref (ad 5 0)), (1, .int y0), (2, .int y1), (3, .int (nI k))] := hl
  refine lv_aload_n hx hb dX1_note_0 rfl (lv_at hl 0 rfl) ?_
  refine gw_get (C := RX1) (T := TX1) (N := 5) hx hb hL1 hown hK hP 5 0 (cDf (by decide)) rfl rfl 1 (by decide) (hts (.fieldLink RX1 15 "BlockPrograms$Failures" "ticks" "[I") (by decide +kernel)) (fun _ h9 => h9) (v := .ref (ad 7 0)) rfl dX1_note_1 ?_
  refine lv_aload_n hx hb dX1_note_4 rfl (lv_at hl 0 rfl) ?_
  refine gw_get (C := RX1) (T := TX1) (N := 5) hx hb hL1 hown hK hP 5 0 (cDf (by decide)) rfl rfl 4 (by decide) (hts (.fieldLink RX1 24 "BlockPrograms$Failures" "next" "I") (by decide +kernel)) (fun _ h9 => h9) (v := .int (nI ((κ 2) % 32))) rfl dX1_note_5 ?_
  refine lv_iload_n hx hb dX1_note_8 rfl (lv_at hl 1 rfl) ?_
  refine gw_iast hx hb hK hP hS 7 0 (cDf (by decide)) 0 rfl rfl ((κ 2) % 32) rfl (by omega) (by decide) dX1_note_9 ((cEn cI cZ cB cS κ (wr σ 23 ((κ 2) % 32) y0) sc ad)) cUs_7 (fun t9 i9 z9 h9 => cU7 _ t9 i9 h9 (by first | exact z9 | simpa [cDm_up] using z9)) (fun H locs hP hS => ?_)
  refine lv_aload_n hx hb dX1_note_10 rfl (lv_at hl 0 rfl) ?_
  refine gw_get (C := RX1) (T := TX1) (N := 5) hx hb hL1 hown hK hP 5 0 (cDf (by decide)) rfl rfl 2 (by decide) (hts (.fieldLink RX1 18 "BlockPrograms$Failures" "numbers" "[I") (by decide +kernel)) (fun _ h9 => h9) (v := .ref (ad 8 0)) rfl dX1_note_11 ?_
  refine lv_aload_n hx hb dX1_note_14 rfl (lv_at hl 0 rfl) ?_
  refine gw_get (C := RX1) (T := TX1) (N := 5) hx hb hL1 hown hK hP 5 0 (cDf (by decide)) rfl rfl 4 (by decide) (hts (.fieldLink RX1 24 "BlockPrograms$Failures" "next" "I") (by decide +kernel)) (fun _ h9 => h9) (v := .int (nI ((κ 2) % 32))) rfl dX1_note_15 ?_
  refine lv_iload_n hx hb dX1_note_18 rfl (lv_at hl 2 rfl) ?_
  refine gw_iast hx hb hK hP hS 8 0 (cDf (by decide)) 0 rfl rfl ((κ 2) % 32) rfl (by omega) (by decide) dX1_note_19 ((cEn cI cZ cB cS κ (wr (wr σ 23 ((κ 2) % 32) y0) 24 ((κ 2) % 32) y1) sc ad)) cUs_8 (fun t9 i9 z9 h9 => cU8 _ t9 i9 h9 (by first | exact z9 | simpa [cDm_up] using z9)) (fun H locs hP hS => ?_)
  refine lv_aload_n hx hb dX1_note_20 rfl (lv_at hl 0 rfl) ?_
  refine gw_get (C := RX1) (T := TX1) (N := 5) hx hb hL1 hown hK hP 5 0 (cDf (by decide)) rfl rfl 3 (by decide) (hts (.fieldLink RX1 21 "BlockPrograms$Failures" "kinds" "[I") (by decide +kernel)) (fun _ h9 => h9) (v := .ref (ad 9 0)) rfl dX1_note_21 ?_
  refine lv_aload_n hx hb dX1_note_24 rfl (lv_at hl 0 rfl) ?_
  refine gw_get (C := RX1) (T := TX1) (N := 5) hx hb hL1 hown hK hP 5 0 (cDf (by decide)) rfl rfl 4 (by decide) (hts (.fieldLink RX1 24 "BlockPrograms$Failures" "next" "I") (by decide +kernel)) (fun _ h9 => h9) (v := .int (nI ((κ 2) % 32))) rfl dX1_note_25 ?_
  refine lv_iload_n hx hb dX1_note_28 rfl (lv_at hl 3 rfl) ?_
  refine gw_iast hx hb hK hP hS 9 0 (cDf (by decide)) 0 rfl rfl ((κ 2) % 32) rfl (by omega) (by decide) dX1_note_29 ((cEn cI cZ cB cS κ (wr (wr (wr σ 23 ((κ 2) % 32) y0) 24 ((κ 2) % 32) y1) 25 ((κ 2) % 32) (nI k)) sc ad)) cUs_9 (fun t9 i9 z9 h9 => cU9 _ t9 i9 h9 (by first | exact z9 | simpa [cDm_up] using z9)) (fun H locs hP hS => ?_)
  refine lv_aload_n hx hb dX1_note_30 rfl (lv_at hl 0 rfl) ?_
  refine lv_aload_n hx hb dX1_note_31 rfl (lv_at hl 0 rfl) ?_
  refine gw_get (C := RX1) (T := TX1) (N := 5) hx hb hL1 hown hK hP 5 0 (cDf (by decide)) rfl rfl 4 (by decide) (hts (.fieldLink RX1 24 "BlockPrograms$Failures" "next" "I") (by decide +kernel)) (fun _ h9 => h9) (v := .int (nI ((κ 2) % 32))) rfl dX1_note_32 ?_
  refine lv_iconst (v := 1) hx hb dX1_note_35 (by decide) ?_
  refine lv_iadd hx hb dX1_note_36 ?_
  refine lv_toq (nI ((κ 2) % 32 + 1)) (nI_add ((κ 2) % 32) 1) ?_
  refine lv_bipush (v := 32) hx hb dX1_note_37 (by decide) ?_
  refine lv_irem hx hb dX1_note_39 (by decide) ?_
  refine lv_toq (nI (((κ 2) % 32 + 1) % 32)) (pk_rem (a := (κ 2) % 32 + 1) (d := 32) (by omega) (by decide) (by decide)) ?_
  refine lv_toq (nI ((κ 2 + 1) % 32)) (congrArg nI (by omega)) ?_
  refine gw_put (ty := .int) (C := RX1) (T := TX1) (N := 5) hx hb hL1 tyX1 tyX1_ok nmX1 hown hK hP hS 5 0 (cDf (by decide)) rfl rfl 4 (by decide) (hts (.fieldLink RX1 24 "BlockPrograms$Failures" "next" "I") (by decide +kernel)) (fun _ h9 => h9) rfl (by decide +kernel) rfl rfl (Nat.le_of_ble_eq_true rfl) dX1_note_40 (cEn cI cZ cB cS (va_up κ 2 (κ 2 + 1)) (wr (wr (wr σ 23 ((κ 2) % 32) y0) 24 ((κ 2) % 32) y1) 25 ((κ 2) % 32) (nI k)) sc ad) (rfl) (fun t9 i9 z9 h9 => cU5f _ t9 i9 h9 (by simpa [cDm_up] using z9)) (fun H locs hP hS => ?_)
  refine lv_aload_n hx hb dX1_note_43 rfl (lv_at hl 0 rfl) ?_
  refine gw_get (C := RX1) (T := TX1) (N := 5) hx hb hL1 hown hK hP 5 0 (cDf (by decide)) rfl rfl 0 (by decide) (hts (.fieldLink RX1 9 "BlockPrograms$Failures" "totals" "[I") (by decide +kernel)) (fun _ h9 => h9) (v := .ref (ad 6 0)) rfl dX1_note_44 ?_
  refine lv_iconst (v := 0) hx hb dX1_note_47 (by decide) ?_
  refine lv_dup2_11 hx hb dX1_note_48 rfl rfl ?_
  refine gw_iald hx hb hK hP 6 0 (cDf (by decide)) 0 rfl rfl (0) rfl (by omega) (by decide) (v := (σ 22 0)) (by simp [wr]) dX1_note_49 ?_
  refine lv_iconst (v := 1) hx hb dX1_note_50 (by decide) ?_
  refine lv_iadd hx hb dX1_note_51 ?_
  refine gw_iast hx hb hK hP hS 6 0 (cDf (by decide)) 0 rfl rfl (0) rfl (by omega) (by decide) dX1_note_52 ((cEn cI cZ cB cS (va_up κ 2 (κ 2 + 1)) (wr (wr (wr (wr σ 23 ((κ 2) % 32) y0) 24 ((κ 2) % 32) y1) 25 ((κ 2) % 32) (nI k)) 22 0 (((σ 22 0) + 1))) sc ad)) cUs_6 (fun t9 i9 z9 h9 => cU6 _ t9 i9 h9 (by first | exact z9 | simpa [cDm_up] using z9)) (fun H locs hP hS => ?_)
  refine lv_aload_n hx hb dX1_note_53 rfl (lv_at hl 0 rfl) ?_
  refine gw_get (C := RX1) (T := TX1) (N := 5) hx hb hL1 hown hK hP 5 0 (cDf (by decide)) rfl rfl 0 (by decide) (hts (.fieldLink RX1 9 "BlockPrograms$Failures" "totals" "[I") (by decide +kernel)) (fun _ h9 => h9) (v := .ref (ad 6 0)) rfl dX1_note_54 ?_
  refine lv_iload_n hx hb dX1_note_57 rfl (lv_at hl 3 rfl) ?_
  refine lv_dup2_11 hx hb dX1_note_58 rfl rfl ?_
  refine gw_iald hx hb hK hP 6 0 (cDf (by decide)) 0 rfl rfl (k) rfl (by omega) (by decide) (v := ((wr (wr (wr (wr σ 23 ((κ 2) % 32) y0) 24 ((κ 2) % 32) y1) 25 ((κ 2) % 32) (nI k)) 22 0 (((σ 22 0) + 1))) 22 k)) (by simp [wr]) dX1_note_59 ?_
  refine lv_iconst (v := 1) hx hb dX1_note_60 (by decide) ?_
  refine lv_iadd hx hb dX1_note_61 ?_
  refine gw_iast hx hb hK hP hS 6 0 (cDf (by decide)) 0 rfl rfl (k) rfl (by omega) (by decide) dX1_note_62 ((cEn cI cZ cB cS (va_up κ 2 (κ 2 + 1)) (wr (wr (wr (wr (wr σ 23 ((κ 2) % 32) y0) 24 ((κ 2) % 32) y1) 25 ((κ 2) % 32) (nI k)) 22 0 (((σ 22 0) + 1))) 22 k ((((wr (wr (wr (wr σ 23 ((κ 2) % 32) y0) 24 ((κ 2) % 32) y1) 25 ((κ 2) % 32) (nI k)) 22 0 (((σ 22 0) + 1))) 22 k) + 1))) sc ad)) cUs_6 (fun t9 i9 z9 h9 => cU6 _ t9 i9 h9 (by first | exact z9 | simpa [cDm_up] using z9)) (fun H locs hP hS => ?_)
  have hd : cDm (noteK κ) = cDm κ := cDm_up (by decide) (by decide)
  exact W.vret hx hb hr (fun t ht hW => ⟨⟨(), rfl, trivial, by rw [hd]; rw [← ht] at hP; exact hP⟩, hS.F ht⟩) hS.2.2 dX1_note_63

theorem iL_X3_fail_X0 : ∀ w ∈ u_ws RX0 TX0 11, w ∈ wsX3_fail := by decide +kernel
theorem iL_X3_fail_X3 : ∀ w ∈ u_ws RX3 TX3 9, w ∈ wsX3_fail := by decide +kernel
set_option maxHeartbeats 4000000 in
set_option maxRecDepth 100000 in
theorem k_X3_fail {l : Launch} {D : va_G} {cI cZ cB cS : ClassId} {A : Nat → Prop} (κ : Nat → Nat) (σ sc : Nat → Nat → Int32) (ad : Nat → Nat → Nat) (b ff : Nat) (hb0 : b < κ 0) (hn : κ 0 ≤ 40) (hf : ff < 4) : Met l yX3_fail wsX3_fail ({ frames := 1, cells := 0, slots := 0, locals := 23 } : Room) (gPc D cI cZ cB cS A (cDm κ) (cEn cI cZ cB cS κ σ sc ad) ad [.ref (ad 0 0), .int (nI b), .int (nI ff)]) (va_Qv (fun _ : Unit => True) (fun _ t => gw_P D vwCl A (cDm (noteK κ)) (cEn cI cZ cB cS (noteK κ) (failS κ σ b ff) sc ad) ad t.heap) A) 0 0 A := by
  refine Met.ofW (cc := cX3_fail) (maxL := 3) (ret := none) (by decide) rfl ?_
  intro p e s m args below meth c s₁ B hml hv
  obtain ⟨rfl, hP, hE, hA⟩ := hv
  have hx := B.exec
  have hb := B.bytes
  have hr := B.returns
  have hts := atoms_spec (ws := wsX3_fail) B.pre
  have hown : s.vm.findClass RX3 = some m.cls := findClass_of_methodNamed B.named
  have hlocks := B.notSynchronized
  have hK := hE.1
  have hS : va_S A s.heap s.heap [] := va_S.rf
  have hL0 := fun w (hw : w ∈ u_ws RX0 TX0 11) => hts w (iL_X3_fail_X0 w hw)
  have hL3 := fun w (hw : w ∈ u_ws RX3 TX3 9) => hts w (iL_X3_fail_X3 w hw)
  have hl := lv_entry ([.ref (ad 0 0), .int (nI b), .int (nI ff)]) (n := 3) (Nat.le_of_ble_eq_true rfl)
  rw [lg_entry_eq]
  generalize (lg_sl ([.ref (ad 0 0), .int (nI b), .int (nI ff)]) ++ List.replicate (3 - (lg_sl ([.ref (ad 0 0), .int (nI b), .int (nI ff)])).length) Slot.unset).toArray = ls at hl ⊢
  have hl : lv_has ls 3 [(0, .ref (ad 0 0)), (1, .int (nI b)), (2, .int (nI ff))] := hl
  refine lv_aload_n hx hb dX3_fail_0 rfl (lv_at hl 0 rfl) ?_
  refine gw_get (C := RX3) (T := TX3) (N := 9) hx hb hL3 hown hK hP 0 0 (cDf (by decide)) rfl rfl 6 (by decide) (hts (.fieldLink RX3 36 "BlockPrograms" "failures" "LBlockPrograms$Failures;") (by decide +kernel)) (fun _ h9 => h9) (v := .ref (ad 5 0)) rfl dX3_fail_1 ?_
  refine lv_aload_n hx hb dX3_fail_4 rfl (lv_at hl 0 rfl) ?_
  refine gw_get (C := RX3) (T := TX3) (N := 9) hx hb hL3 hown hK hP 0 0 (cDf (by decide)) rfl rfl 3 (by decide) (hts (.fieldLink RX3 23 "BlockPrograms" "time" "I") (by decide +kernel)) (fun _ h9 => h9) (v := .int (nI (κ 3))) rfl dX3_fail_5 ?_
  refine lv_iload_n hx hb dX3_fail_8 rfl (lv_at hl 1 rfl) ?_
  refine lv_iload_n hx hb dX3_fail_9 rfl (lv_at hl 2 rfl) ?_
  refine va_callv (va_runV (As := [.int (nI (κ 3)), .int (nI b), .int (nI ff)]) (rest := []) ⟨hx, hb, hml, hown, hts⟩ (k_X1_note (l := l) (D := D) (cI := cI) (cZ := cZ) (cB := cB) (cS := cS) (A := A) κ σ sc ad (nI (κ 3)) (nI b) ff hf) (cwV 3 hts gX3_fail_X1_note rfl rfl rfl (by decide +kernel) ⟨Nat.le_of_ble_eq_true rfl, Nat.le_of_ble_eq_true rfl⟩) (gPreV hE hA hS hP (gw_recv hK hP 5 0 (cDf (by decide)) rfl rfl)) rfl rfl hl.1 rfl (lv_room (Nat.le_of_ble_eq_true rfl)) dX3_fail_10 ⟨Nat.le_of_ble_eq_true rfl, Nat.le_of_ble_eq_true rfl⟩) hS (fun q _ h9 => h9) (fun q h9 => h9) (fun u9 t9 H locs ht9 hvm9 hw_1 hB9 hz9 hk9 hS => ?_)
  have hP : gw_P D vwCl A (cDm (noteK κ)) (cEn cI cZ cB cS (noteK κ) (noteS κ σ (nI (κ 3)) (nI b) ff) sc ad) ad H := by rw [← ht9]; exact hB9
  have hb1 : b < noteK κ 0 := by rw [noteK_k (by decide)]; exact hb0
  have hk1 : noteK κ 0 = κ 0 := noteK_k (by decide)
  have eq3 : noteS κ σ (nI (κ 3)) (nI b) ff 3 b = σ 3 b := noteS_q (by decide)
  refine lv_aload_n hx hb dX3_fail_13 rfl (lv_at hl 0 rfl) ?_
  refine gw_get (C := RX3) (T := TX3) (N := 9) hx hb hL3 hown hK hP 0 0 (cDf (by decide)) rfl rfl 0 (by decide) (hts (.fieldLink RX3 11 "BlockPrograms" "blocks" "[LBlockPrograms$Block;") (by decide +kernel)) (fun _ h9 => h9) (v := .ref (ad 1 0)) rfl dX3_fail_14 ?_
  refine lv_iload_n hx hb dX3_fail_17 rfl (lv_at hl 1 rfl) ?_
  refine gw_aald hx hb hK hP 1 0 (cDf (by decide)) 2 rfl rfl (b) rfl (by omega) (by decide) (a := ad 11 b) (if_pos (by omega)) dX3_fail_18 ?_
  refine lv_aload_n hx hb dX3_fail_19 rfl (lv_at hl 0 rfl) ?_
  refine gw_get (C := RX3) (T := TX3) (N := 9) hx hb hL3 hown hK hP 0 0 (cDf (by decide)) rfl rfl 0 (by decide) (hts (.fieldLink RX3 11 "BlockPrograms" "blocks" "[LBlockPrograms$Block;") (by decide +kernel)) (fun _ h9 => h9) (v := .ref (ad 1 0)) rfl dX3_fail_20 ?_
  refine lv_iload_n hx hb dX3_fail_23 rfl (lv_at hl 1 rfl) ?_
  refine gw_aald hx hb hK hP 1 0 (cDf (by decide)) 2 rfl rfl (b) rfl (by omega) (by decide) (a := ad 11 b) (if_pos (by omega)) dX3_fail_24 ?_
  refine gw_get (C := RX0) (T := TX0) (N := 11) hx hb hL0 hown hK hP 11 b (cDb (by omega) (by decide) (by decide)) rfl rfl 3 (by decide) (hts (.fieldLink RX3 94 "BlockPrograms$Block" "safeValue" "I") (by decide +kernel)) (fun _ h9 => h9) (v := .int ((σ 3 b))) (congrArg (fun z : Int32 => some (Value.int z)) eq3) dX3_fail_25 ?_
  refine va_callv (va_runV (As := [.int ((σ 3 b))]) (rest := []) ⟨hx, hb, hml, hown, hts⟩ (k_X0_say (l := l) (D := D) (cI := cI) (cZ := cZ) (cB := cB) (cS := cS) (A := A) (noteK κ) (noteS κ σ (nI (κ 3)) (nI b) ff) sc ad b hb1 (σ 3 b)) (cwV 1 hts gX3_fail_X0_say rfl rfl rfl (by decide +kernel) ⟨Nat.le_of_ble_eq_true rfl, Nat.le_of_ble_eq_true rfl⟩) (gPreV hE hA hS hP (gw_recv hK hP 11 b (cDb (by omega) (by decide) (by decide)) rfl rfl)) rfl rfl hl.1 rfl (lv_room (Nat.le_of_ble_eq_true rfl)) dX3_fail_28 ⟨Nat.le_of_ble_eq_true rfl, Nat.le_of_ble_eq_true rfl⟩) hS (fun q _ h9 => h9) (fun q h9 => h9) (fun u9 t9 H locs ht9 hvm9 hw_2 hB9 hz9 hk9 hS => ?_)
  have hP : gw_P D vwCl A (cDm (noteK κ)) (cEn cI cZ cB cS (noteK κ) (failS κ σ b ff) sc ad) ad H := by rw [← ht9]; exact hB9
  exact W.vret hx hb hr (fun t ht hW => ⟨⟨(), rfl, trivial, by rw [← ht] at hP; exact hP⟩, hS.F ht⟩) hS.2.2 dX3_fail_31

theorem iL_X3_reckon_X0 : ∀ w ∈ u_ws RX0 TX0 11, w ∈ wsX3_reckon := by decide +kernel
theorem iL_X3_reckon_X3 : ∀ w ∈ u_ws RX3 TX3 9, w ∈ wsX3_reckon := by decide +kernel
set_option maxHeartbeats 4000000 in
set_option maxRecDepth 100000 in
theorem k_X3_reckon {l : Launch} {D : va_G} {cI cZ cB cS : ClassId} {A : Nat → Prop} (κ : Nat → Nat) (σ sc : Nat → Nat → Int32) (ad : Nat → Nat → Nat) (b k : Nat) (hb0 : b < κ 0) (hn : κ 0 ≤ 40) (h3 : κ 3 ≤ 3000) (hk0 : k < 26) (ek : σ 0 b = nI k) : Met l yX3_reckon wsX3_reckon ({ frames := 3, cells := 0, slots := 0, locals := 66 } : Room) (gPc D cI cZ cB cS A (cDm κ) (cEn cI cZ cB cS κ σ sc ad) ad [.ref (ad 0 0), .int (nI b)]) (va_Qv (fun _ : Unit => True) (fun _ t => gw_P D vwCl A (cDm κ) (cEn cI cZ cB cS (reckonK κ σ b k) (reckonS κ σ b k) sc ad) ad t.heap) A) 0 0 A := by
  refine Met.ofW (cc := cX3_reckon) (maxL := 7) (ret := none) (by decide) rfl ?_
  intro p e s m args below meth c s₁ B hml hv
  obtain ⟨rfl, hP, hE, hA⟩ := hv
  have hx := B.exec
  have hb := B.bytes
  have hr := B.returns
  have hts := atoms_spec (ws := wsX3_reckon) B.pre
  have hown : s.vm.findClass RX3 = some m.cls := findClass_of_methodNamed B.named
  have hlocks := B.notSynchronized
  have hK := hE.1
  have hS : va_S A s.heap s.heap [] := va_S.rf
  have hL0 := fun w (hw : w ∈ u_ws RX0 TX0 11) => hts w (iL_X3_reckon_X0 w hw)
  have hL3 := fun w (hw : w ∈ u_ws RX3 TX3 9) => hts w (iL_X3_reckon_X3 w hw)
  have hl := lv_entry ([.ref (ad 0 0), .int (nI b)]) (n := 7) (Nat.le_of_ble_eq_true rfl)
  rw [lg_entry_eq]
  generalize (lg_sl ([.ref (ad 0 0), .int (nI b)]) ++ List.replicate (7 - (lg_sl ([.ref (ad 0 0), .int (nI b)])).length) Slot.unset).toArray = ls at hl ⊢
  have hl : lv_has ls 7 [(0, .ref (ad 0 0)), (1, .int (nI b))] := hl
  refine lv_aload_n hx hb dX3_reckon_0 rfl (lv_at hl 0 rfl) ?_
  refine gw_get (C := RX3) (T := TX3) (N := 9) hx hb hL3 hown hK hP 0 0 (cDf (by decide)) rfl rfl 0 (by decide) (hts (.fieldLink RX3 11 "BlockPrograms" "blocks" "[LBlockPrograms$Block;") (by decide +kernel)) (fun _ h9 => h9) (v := .ref (ad 1 0)) rfl dX3_reckon_1 ?_
  refine lv_iload_n hx hb dX3_reckon_4 rfl (lv_at hl 1 rfl) ?_
  refine gw_aald hx hb hK hP 1 0 (cDf (by decide)) 2 rfl rfl (b) rfl (by omega) (by decide) (a := ad 11 b) (if_pos (by omega)) dX3_reckon_5 ?_
  refine lv_astore_n (lv' := [(2, .ref (ad 11 b)), (0, .ref (ad 0 0)), (1, .int (nI b))]) hx hb dX3_reckon_6 rfl hl (by decide) rfl (fun ls hl => ?_)
  refine lv_aload_n hx hb dX3_reckon_7 rfl (lv_at hl 1 rfl) ?_
  refine lv_aload_n hx hb dX3_reckon_8 rfl (lv_at hl 0 rfl) ?_
  refine gw_get (C := RX0) (T := TX0) (N := 11) hx hb hL0 hown hK hP 11 b (cDb (by omega) (by decide) (by decide)) rfl rfl 9 (by decide) (hts (.fieldLink RX3 71 "BlockPrograms$Block" "wires" "[I") (by decide +kernel)) (fun _ h9 => h9) (v := .ref (ad 12 b)) rfl dX3_reckon_9 ?_
  refine lv_iconst (v := 0) hx hb dX3_reckon_12 (by decide) ?_
  refine gw_iald hx hb hK hP 12 b (cDb (by omega) (by decide) (by decide)) 0 rfl rfl (0) rfl (by omega) (by decide) (v := (σ 9 (3 * b + 0))) (if_pos (by omega)) dX3_reckon_13 ?_
  refine va_calli (va_runV (As := [.int ((σ 9 (3 * b + 0)))]) (rest := []) ⟨hx, hb, hml, hown, hts⟩ (k_X3_outputOf (l := l) (D := D) (cI := cI) (cZ := cZ) (cB := cB) (cS := cS) (A := A) κ σ sc ad hn (σ 9 (3 * b + 0))) (cwV 1 hts gX3_reckon_X3_outputOf rfl rfl rfl (by decide +kernel) ⟨Nat.le_of_ble_eq_true rfl, Nat.le_of_ble_eq_true rfl⟩) (gPreV hE hA hS hP (gw_recv hK hP 0 0 (cDf (by decide)) rfl rfl)) rfl rfl hl.1 rfl (lv_room (Nat.le_of_ble_eq_true rfl)) dX3_reckon_14 ⟨Nat.le_of_ble_eq_true rfl, Nat.le_of_ble_eq_true rfl⟩) hS (fun q _ h9 => h9) (fun q h9 => h9) (fun r_1 u9 t9 H locs ht9 hvm9 hw_r_1 hB9 hz9 hk9 hS => ?_)
  have hP : gw_P D vwCl A (cDm κ) (cEn cI cZ cB cS κ σ sc ad) ad H := by rw [← ht9]; exact hB9
  refine lv_toq (rkX κ σ b 0) hw_r_1 ?_
  refine lv_istore_n (lv' := [(3, .int (rkX κ σ b 0)), (2, .ref (ad 11 b)), (0, .ref (ad 0 0)), (1, .int (nI b))]) hx hb dX3_reckon_17 rfl hl (by decide) rfl (fun ls hl => ?_)
  refine lv_aload_n hx hb dX3_reckon_18 rfl (lv_at hl 2 rfl) ?_
  refine lv_aload_n hx hb dX3_reckon_19 rfl (lv_at hl 1 rfl) ?_
  refine gw_get (C := RX0) (T := TX0) (N := 11) hx hb hL0 hown hK hP 11 b (cDb (by omega) (by decide) (by decide)) rfl rfl 9 (by decide) (hts (.fieldLink RX3 71 "BlockPrograms$Block" "wires" "[I") (by decide +kernel)) (fun _ h9 => h9) (v := .ref (ad 12 b)) rfl dX3_reckon_20 ?_
  refine lv_iconst (v := 1) hx hb dX3_reckon_23 (by decide) ?_
  refine gw_iald hx hb hK hP 12 b (cDb (by omega) (by decide) (by decide)) 0 rfl rfl (1) rfl (by omega) (by decide) (v := (σ 9 (3 * b + 1))) (if_pos (by omega)) dX3_reckon_24 ?_
  refine va_calli (va_runV (As := [.int ((σ 9 (3 * b + 1)))]) (rest := []) ⟨hx, hb, hml, hown, hts⟩ (k_X3_outputOf (l := l) (D := D) (cI := cI) (cZ := cZ) (cB := cB) (cS := cS) (A := A) κ σ sc ad hn (σ 9 (3 * b + 1))) (cwV 1 hts gX3_reckon_X3_outputOf rfl rfl rfl (by decide +kernel) ⟨Nat.le_of_ble_eq_true rfl, Nat.le_of_ble_eq_true rfl⟩) (gPreV hE hA hS hP (gw_recv hK hP 0 0 (cDf (by decide)) rfl rfl)) rfl rfl hl.1 rfl (lv_room (Nat.le_of_ble_eq_true rfl)) dX3_reckon_25 ⟨Nat.le_of_ble_eq_true rfl, Nat.le_of_ble_eq_true rfl⟩) hS (fun q _ h9 => h9) (fun q h9 => h9) (fun r_2 u9 t9 H locs ht9 hvm9 hw_r_2 hB9 hz9 hk9 hS => ?_)
  have hP : gw_P D vwCl A (cDm κ) (cEn cI cZ cB cS κ σ sc ad) ad H := by rw [← ht9]; exact hB9
  refine lv_toq (rkX κ σ b 1) hw_r_2 ?_
  refine lv_istore (lv' := [(4, .int (rkX κ σ b 1)), (3, .int (rkX κ σ b 0)), (2, .ref (ad 11 b)), (0, .ref (ad 0 0)), (1, .int (nI b))]) hx hb dX3_reckon_28 hl (by decide) rfl (fun ls hl => ?_)
  refine lv_aload_n hx hb dX3_reckon_30 rfl (lv_at hl 3 rfl) ?_
  refine lv_aload_n hx hb dX3_reckon_31 rfl (lv_at hl 2 rfl) ?_
  refine gw_get (C := RX0) (T := TX0) (N := 11) hx hb hL0 hown hK hP 11 b (cDb (by omega) (by decide) (by decide)) rfl rfl 9 (by decide) (hts (.fieldLink RX3 71 "BlockPrograms$Block" "wires" "[I") (by decide +kernel)) (fun _ h9 => h9) (v := .ref (ad 12 b)) rfl dX3_reckon_32 ?_
  refine lv_iconst (v := 2) hx hb dX3_reckon_35 (by decide) ?_
  refine gw_iald hx hb hK hP 12 b (cDb (by omega) (by decide) (by decide)) 0 rfl rfl (2) rfl (by omega) (by decide) (v := (σ 9 (3 * b + 2))) (if_pos (by omega)) dX3_reckon_36 ?_
  refine va_calli (va_runV (As := [.int ((σ 9 (3 * b + 2)))]) (rest := []) ⟨hx, hb, hml, hown, hts⟩ (k_X3_outputOf (l := l) (D := D) (cI := cI) (cZ := cZ) (cB := cB) (cS := cS) (A := A) κ σ sc ad hn (σ 9 (3 * b + 2))) (cwV 1 hts gX3_reckon_X3_outputOf rfl rfl rfl (by decide +kernel) ⟨Nat.le_of_ble_eq_true rfl, Nat.le_of_ble_eq_true rfl⟩) (gPreV hE hA hS hP (gw_recv hK hP 0 0 (cDf (by decide)) rfl rfl)) rfl rfl hl.1 rfl (lv_room (Nat.le_of_ble_eq_true rfl)) dX3_reckon_37 ⟨Nat.le_of_ble_eq_true rfl, Nat.le_of_ble_eq_true rfl⟩) hS (fun q _ h9 => h9) (fun q h9 => h9) (fun r_3 u9 t9 H locs ht9 hvm9 hw_r_3 hB9 hz9 hk9 hS => ?_)
  have hP : gw_P D vwCl A (cDm κ) (cEn cI cZ cB cS κ σ sc ad) ad H := by rw [← ht9]; exact hB9
  refine lv_toq (rkX κ σ b 2) hw_r_3 ?_
  refine lv_istore (lv' := [(5, .int (rkX κ σ b 2)), (4, .int (rkX κ σ b 1)), (3, .int (rkX κ σ b 0)), (2, .ref (ad 11 b)), (0, .ref (ad 0 0)), (1, .int (nI b))]) hx hb dX3_reckon_40 hl (by decide) rfl (fun ls hl => ?_)
  refine lv_aload_n hx hb dX3_reckon_42 rfl (lv_at hl 3 rfl) ?_
  refine lv_iload_n hx hb dX3_reckon_43 rfl (lv_at hl 2 rfl) ?_
  refine lv_iload hx hb dX3_reckon_44 (lv_at hl 1 rfl) ?_
  refine va_calli (va_runS (As := [.ref (ad 11 b), .int (rkX κ σ b 0), .int (rkX κ σ b 1)]) (rest := []) ⟨hx, hb, hml, hown, hts⟩ (k_X3_failureOf (l := l) (D := D) (cI := cI) (cZ := cZ) (cB := cB) (cS := cS) (A := A) κ σ sc ad b k hb0 hk0 ek (rkX κ σ b 0) (rkX κ σ b 1)) (va_cwS 3 hts gX3_reckon_X3_failureOf rfl rfl rfl (by decide +kernel) ⟨Nat.le_of_ble_eq_true rfl, Nat.le_of_ble_eq_true rfl⟩) (gPreS hE hA hS hP) rfl rfl hl.1 rfl (lv_room (Nat.le_of_ble_eq_true rfl)) dX3_reckon_46 ⟨Nat.le_of_ble_eq_true rfl, Nat.le_of_ble_eq_true rfl⟩) hS (fun q _ h9 => h9) (fun q h9 => h9) (fun r_4 u9 t9 H locs ht9 hvm9 hw_r_4 hB9 hz9 hk9 hS => ?_)
  have hP : gw_P D vwCl A (cDm κ) (cEn cI cZ cB cS κ σ sc ad) ad H := by rw [← ht9]; exact hB9
  obtain ⟨ff, eff⟩ : ∃ z, z = rkF κ σ b k := ⟨_, rfl⟩
  have hff : ff ≤ 3 := by rw [eff]; exact f_fail_le _ _ _ _ _
  refine lv_toq (nI ff) (hw_r_4.trans (congrArg nI eff.symm)) ?_
  refine lv_istore (lv' := [(6, .int (nI ff)), (5, .int (rkX κ σ b 2)), (4, .int (rkX κ σ b 1)), (3, .int (rkX κ σ b 0)), (2, .ref (ad 11 b)), (0, .ref (ad 0 0)), (1, .int (nI b))]) hx hb dX3_reckon_49 hl (by decide) rfl (fun ls hl => ?_)
  refine lv_iload hx hb dX3_reckon_51 (lv_at hl 0 rfl) ?_
  refine lv_if_eq (tgt := 66) hx hb dX3_reckon_53 (by decide) (fun c_5 => ?_) (fun c_5 => ?_)
  · have c_5 : ff = 0 := (nI_eq (a := ff) (b := 0) (by omega) (by omega)).mp c_5
    refine lv_aload_n hx hb dX3_reckon_66 rfl (lv_at hl 4 rfl) ?_
    refine gw_get (C := RX0) (T := TX0) (N := 11) hx hb hL0 hown hK hP 11 b (cDb (by omega) (by decide) (by decide)) rfl rfl 0 (by decide) (hts (.fieldLink RX3 86 "BlockPrograms$Block" "kind" "I") (by decide +kernel)) (fun _ h9 => h9) (v := .int (nI k)) (congrArg (fun z : Int32 => some (Value.int z)) ek) dX3_reckon_67 ?_
    refine lv_if_ne (tgt := 103) hx hb dX3_reckon_70 (by decide) (fun c_6 => ?_) (fun c_6 => ?_)
    · have c_6 : ¬ (k = 0) := fun z => c_6 ((nI_eq (a := k) (b := 0) (by omega) (by omega)).mpr z)
      refine lv_aload_n hx hb dX3_reckon_103 rfl (lv_at hl 4 rfl) ?_
      refine gw_get (C := RX0) (T := TX0) (N := 11) hx hb hL0 hown hK hP 11 b (cDb (by omega) (by decide) (by decide)) rfl rfl 0 (by decide) (hts (.fieldLink RX3 86 "BlockPrograms$Block" "kind" "I") (by decide +kernel)) (fun _ h9 => h9) (v := .int (nI k)) (congrArg (fun z : Int32 => some (Value.int z)) ek) dX3_reckon_104 ?_
      refine lv_iconst (v := 2) hx hb dX3_reckon_107 (by decide) ?_
      refine lv_icmp_lt (tgt := 139) hx hb dX3_reckon_108 (by decide) (fun c_7 => ?_) (fun c_7 => ?_)
      · have c_7 : k < 2 := (nI_ltI (a := k) (b := 2) (by omega) (by omega)).mp c_7
        refine lv_aload_n hx hb dX3_reckon_139 rfl (lv_at hl 4 rfl) ?_
        refine lv_aload_n hx hb dX3_reckon_140 rfl (lv_at hl 4 rfl) ?_
        refine lv_iload_n hx hb dX3_reckon_141 rfl (lv_at hl 3 rfl) ?_
        refine lv_iload hx hb dX3_reckon_142 (lv_at hl 2 rfl) ?_
        refine lv_aload_n hx hb dX3_reckon_144 rfl (lv_at hl 5 rfl) ?_
        refine gw_get (C := RX3) (T := TX3) (N := 9) hx hb hL3 hown hK hP 0 0 (cDf (by decide)) rfl rfl 3 (by decide) (hts (.fieldLink RX3 23 "BlockPrograms" "time" "I") (by decide +kernel)) (fun _ h9 => h9) (v := .int (nI (κ 3))) rfl dX3_reckon_145 ?_
        have h15 : k = 15 → okI 8 (rkX κ σ b 0) := fun z => by subst z; exact f_fail15 (eff.symm.trans (by omega))
        refine va_calli (va_runV (As := [.int (rkX κ σ b 0), .int (rkX κ σ b 1), .int (nI (κ 3))]) (rest := [.ref (ad 11 b)]) ⟨hx, hb, hml, hown, hts⟩ (k_X0_ownReckoning (l := l) (D := D) (cI := cI) (cZ := cZ) (cB := cB) (cS := cS) (A := A) κ σ sc ad b k hb0 hk0 (by omega) ek (rkX κ σ b 0) (rkX κ σ b 1) (κ 3) (by omega) h15) (cwV 3 hts gX3_reckon_X0_ownReckoning rfl rfl rfl (by decide +kernel) ⟨Nat.le_of_ble_eq_true rfl, Nat.le_of_ble_eq_true rfl⟩) (gPreV hE hA hS hP (gw_recv hK hP 11 b (cDb (by omega) (by decide) (by decide)) rfl rfl)) rfl rfl hl.1 rfl (lv_room (Nat.le_of_ble_eq_true rfl)) dX3_reckon_148 ⟨Nat.le_of_ble_eq_true rfl, Nat.le_of_ble_eq_true rfl⟩) hS (fun q _ h9 => h9) (fun q h9 => h9) (fun r_8 u9 t9 H locs ht9 hvm9 hw_r_8 hB9 hz9 hk9 hS => ?_)
        have hP : gw_P D vwCl A (cDm κ) (cEn cI cZ cB cS κ (ownS σ k b (rkX κ σ b 0) (rkX κ σ b 1)) sc ad) ad H := by rw [← ht9]; exact hB9
        refine lv_toq ((f_own σ k b (rkX κ σ b 0) (rkX κ σ b 1) (nI (κ 3 % 1440)))) hw_r_8 ?_
        refine va_callv (va_runV (As := [.int ((f_own σ k b (rkX κ σ b 0) (rkX κ σ b 1) (nI (κ 3 % 1440))))]) (rest := []) ⟨hx, hb, hml, hown, hts⟩ (k_X0_say (l := l) (D := D) (cI := cI) (cZ := cZ) (cB := cB) (cS := cS) (A := A) κ (ownS σ k b (rkX κ σ b 0) (rkX κ σ b 1)) sc ad b hb0 ((f_own σ k b (rkX κ σ b 0) (rkX κ σ b 1) (nI (κ 3 % 1440))))) (cwV 1 hts gX3_reckon_X0_say rfl rfl rfl (by decide +kernel) ⟨Nat.le_of_ble_eq_true rfl, Nat.le_of_ble_eq_true rfl⟩) (gPreV hE hA hS hP (gw_recv hK hP 11 b (cDb (by omega) (by decide) (by decide)) rfl rfl)) rfl rfl hl.1 rfl (lv_room (Nat.le_of_ble_eq_true rfl)) dX3_reckon_151 ⟨Nat.le_of_ble_eq_true rfl, Nat.le_of_ble_eq_true rfl⟩) hS (fun q _ h9 => h9) (fun q h9 => h9) (fun u9 t9 H locs ht9 hvm9 hw_9 hB9 hz9 hk9 hS => ?_)
        have hP : gw_P D vwCl A (cDm κ) (cEn cI cZ cB cS κ (say (ownS σ k b (rkX κ σ b 0) (rkX κ σ b 1)) b ((f_own σ k b (rkX κ σ b 0) (rkX κ σ b 1) (nI (κ 3 % 1440))))) sc ad) ad H := by rw [← ht9]; exact hB9
        have h0 : rkF κ σ b k = 0 := by rw [← eff]; omega
        have eK : reckonK κ σ b k = κ := if_pos h0
        have eS : reckonS κ σ b k = say (ownS σ k b (rkX κ σ b 0) (rkX κ σ b 1)) b ((f_own σ k b (rkX κ σ b 0) (rkX κ σ b 1) (nI (κ 3 % 1440)))) := (if_pos h0).trans (by unfold rkV; rw [if_neg (by omega), if_neg (by omega)])
        exact W.vret hx hb hr (fun t ht hW => ⟨⟨(), rfl, trivial, by rw [eK, eS]; rw [← ht] at hP; exact hP⟩, hS.F ht⟩) hS.2.2 dX3_reckon_154
      · have c_7 : ¬ (k < 2) := fun z => c_7 ((nI_ltI (a := k) (b := 2) (by omega) (by omega)).mpr z)
        refine lv_aload_n hx hb dX3_reckon_111 rfl (lv_at hl 4 rfl) ?_
        refine gw_get (C := RX0) (T := TX0) (N := 11) hx hb hL0 hown hK hP 11 b (cDb (by omega) (by decide) (by decide)) rfl rfl 0 (by decide) (hts (.fieldLink RX3 86 "BlockPrograms$Block" "kind" "I") (by decide +kernel)) (fun _ h9 => h9) (v := .int (nI k)) (congrArg (fun z : Int32 => some (Value.int z)) ek) dX3_reckon_112 ?_
        refine lv_bipush (v := 14) hx hb dX3_reckon_115 (by decide) ?_
        refine lv_icmp_gt (tgt := 139) hx hb dX3_reckon_117 (by decide) (fun c_10 => ?_) (fun c_10 => ?_)
        · have c_10 : 14 < k := (nI_ltI (a := 14) (b := k) (by omega) (by omega)).mp c_10
          refine lv_aload_n hx hb dX3_reckon_139 rfl (lv_at hl 4 rfl) ?_
          refine lv_aload_n hx hb dX3_reckon_140 rfl (lv_at hl 4 rfl) ?_
          refine lv_iload_n hx hb dX3_reckon_141 rfl (lv_at hl 3 rfl) ?_
          refine lv_iload hx hb dX3_reckon_142 (lv_at hl 2 rfl) ?_
          refine lv_aload_n hx hb dX3_reckon_144 rfl (lv_at hl 5 rfl) ?_
          refine gw_get (C := RX3) (T := TX3) (N := 9) hx hb hL3 hown hK hP 0 0 (cDf (by decide)) rfl rfl 3 (by decide) (hts (.fieldLink RX3 23 "BlockPrograms" "time" "I") (by decide +kernel)) (fun _ h9 => h9) (v := .int (nI (κ 3))) rfl dX3_reckon_145 ?_
          have h15 : k = 15 → okI 8 (rkX κ σ b 0) := fun z => by subst z; exact f_fail15 (eff.symm.trans (by omega))
          refine va_calli (va_runV (As := [.int (rkX κ σ b 0), .int (rkX κ σ b 1), .int (nI (κ 3))]) (rest := [.ref (ad 11 b)]) ⟨hx, hb, hml, hown, hts⟩ (k_X0_ownReckoning (l := l) (D := D) (cI := cI) (cZ := cZ) (cB := cB) (cS := cS) (A := A) κ σ sc ad b k hb0 hk0 (by omega) ek (rkX κ σ b 0) (rkX κ σ b 1) (κ 3) (by omega) h15) (cwV 3 hts gX3_reckon_X0_ownReckoning rfl rfl rfl (by decide +kernel) ⟨Nat.le_of_ble_eq_true rfl, Nat.le_of_ble_eq_true rfl⟩) (gPreV hE hA hS hP (gw_recv hK hP 11 b (cDb (by omega) (by decide) (by decide)) rfl rfl)) rfl rfl hl.1 rfl (lv_room (Nat.le_of_ble_eq_true rfl)) dX3_reckon_148 ⟨Nat.le_of_ble_eq_true rfl, Nat.le_of_ble_eq_true rfl⟩) hS (fun q _ h9 => h9) (fun q h9 => h9) (fun r_11 u9 t9 H locs ht9 hvm9 hw_r_11 hB9 hz9 hk9 hS => ?_)
          have hP : gw_P D vwCl A (cDm κ) (cEn cI cZ cB cS κ (ownS σ k b (rkX κ σ b 0) (rkX κ σ b 1)) sc ad) ad H := by rw [← ht9]; exact hB9
          refine lv_toq ((f_own σ k b (rkX κ σ b 0) (rkX κ σ b 1) (nI (κ 3 % 1440)))) hw_r_11 ?_
          refine va_callv (va_runV (As := [.int ((f_own σ k b (rkX κ σ b 0) (rkX κ σ b 1) (nI (κ 3 % 1440))))]) (rest := []) ⟨hx, hb, hml, hown, hts⟩ (k_X0_say (l := l) (D := D) (cI := cI) (cZ := cZ) (cB := cB) (cS := cS) (A := A) κ (ownS σ k b (rkX κ σ b 0) (rkX κ σ b 1)) sc ad b hb0 ((f_own σ k b (rkX κ σ b 0) (rkX κ σ b 1) (nI (κ 3 % 1440))))) (cwV 1 hts gX3_reckon_X0_say rfl rfl rfl (by decide +kernel) ⟨Nat.le_of_ble_eq_true rfl, Nat.le_of_ble_eq_true rfl⟩) (gPreV hE hA hS hP (gw_recv hK hP 11 b (cDb (by omega) (by decide) (by decide)) rfl rfl)) rfl rfl hl.1 rfl (lv_room (Nat.le_of_ble_eq_true rfl)) dX3_reckon_151 ⟨Nat.le_of_ble_eq_true rfl, Nat.le_of_ble_eq_true rfl⟩) hS (fun q _ h9 => h9) (fun q h9 => h9) (fun u9 t9 H locs ht9 hvm9 hw_12 hB9 hz9 hk9 hS => ?_)
          have hP : gw_P D vwCl A (cDm κ) (cEn cI cZ cB cS κ (say (ownS σ k b (rkX κ σ b 0) (rkX κ σ b 1)) b ((f_own σ k b (rkX κ σ b 0) (rkX κ σ b 1) (nI (κ 3 % 1440))))) sc ad) ad H := by rw [← ht9]; exact hB9
          have h0 : rkF κ σ b k = 0 := by rw [← eff]; omega
          have eK : reckonK κ σ b k = κ := if_pos h0
          have eS : reckonS κ σ b k = say (ownS σ k b (rkX κ σ b 0) (rkX κ σ b 1)) b ((f_own σ k b (rkX κ σ b 0) (rkX κ σ b 1) (nI (κ 3 % 1440)))) := (if_pos h0).trans (by unfold rkV; rw [if_neg (by omega), if_neg (by omega)])
          exact W.vret hx hb hr (fun t ht hW => ⟨⟨(), rfl, trivial, by rw [eK, eS]; rw [← ht] at hP; exact hP⟩, hS.F ht⟩) hS.2.2 dX3_reckon_154
        · have c_10 : ¬ (14 < k) := fun z => c_10 ((nI_ltI (a := 14) (b := k) (by omega) (by omega)).mpr z)
          refine lv_aload_n hx hb dX3_reckon_120 rfl (lv_at hl 4 rfl) ?_
          refine lv_aload_n hx hb dX3_reckon_121 rfl (lv_at hl 4 rfl) ?_
          refine gw_get (C := RX0) (T := TX0) (N := 11) hx hb hL0 hown hK hP 11 b (cDb (by omega) (by decide) (by decide)) rfl rfl 0 (by decide) (hts (.fieldLink RX3 86 "BlockPrograms$Block" "kind" "I") (by decide +kernel)) (fun _ h9 => h9) (v := .int (nI k)) (congrArg (fun z : Int32 => some (Value.int z)) ek) dX3_reckon_122 ?_
          refine lv_iload_n hx hb dX3_reckon_125 rfl (lv_at hl 3 rfl) ?_
          refine lv_iload hx hb dX3_reckon_126 (lv_at hl 2 rfl) ?_
          refine lv_iload hx hb dX3_reckon_128 (lv_at hl 1 rfl) ?_
          refine va_calli (va_runS (As := [.int (nI k), .int (rkX κ σ b 0), .int (rkX κ σ b 1), .int (rkX κ σ b 2)]) (rest := [.ref (ad 11 b)]) ⟨hx, hb, hml, hown, hts⟩ (k_X3_combined (l := l) (D := D) (cI := cI) (cZ := cZ) (cB := cB) (cS := cS) (A := A) (cDm κ) (cEn cI cZ cB cS κ σ sc ad) ad k (by omega) (by omega) (rkX κ σ b 0) (rkX κ σ b 1) (rkX κ σ b 2)) (va_cwS 4 hts gX3_reckon_X3_combined rfl rfl rfl (by decide +kernel) ⟨Nat.le_of_ble_eq_true rfl, Nat.le_of_ble_eq_true rfl⟩) (gPreS hE hA hS hP) rfl rfl hl.1 rfl (lv_room (Nat.le_of_ble_eq_true rfl)) dX3_reckon_130 ⟨Nat.le_of_ble_eq_true rfl, Nat.le_of_ble_eq_true rfl⟩) hS (fun q _ h9 => h9) (fun q h9 => h9) (fun r_13 u9 t9 H locs ht9 hvm9 hw_r_13 hB9 hz9 hk9 hS => ?_)
          have hP : gw_P D vwCl A (cDm κ) (cEn cI cZ cB cS κ σ sc ad) ad H := by rw [← ht9]; exact hB9
          refine lv_toq ((f_comb k (rkX κ σ b 0) (rkX κ σ b 1) (rkX κ σ b 2))) hw_r_13 ?_
          refine va_callv (va_runV (As := [.int ((f_comb k (rkX κ σ b 0) (rkX κ σ b 1) (rkX κ σ b 2)))]) (rest := []) ⟨hx, hb, hml, hown, hts⟩ (k_X0_say (l := l) (D := D) (cI := cI) (cZ := cZ) (cB := cB) (cS := cS) (A := A) κ σ sc ad b hb0 ((f_comb k (rkX κ σ b 0) (rkX κ σ b 1) (rkX κ σ b 2)))) (cwV 1 hts gX3_reckon_X0_say rfl rfl rfl (by decide +kernel) ⟨Nat.le_of_ble_eq_true rfl, Nat.le_of_ble_eq_true rfl⟩) (gPreV hE hA hS hP (gw_recv hK hP 11 b (cDb (by omega) (by decide) (by decide)) rfl rfl)) rfl rfl hl.1 rfl (lv_room (Nat.le_of_ble_eq_true rfl)) dX3_reckon_133 ⟨Nat.le_of_ble_eq_true rfl, Nat.le_of_ble_eq_true rfl⟩) hS (fun q _ h9 => h9) (fun q h9 => h9) (fun u9 t9 H locs ht9 hvm9 hw_14 hB9 hz9 hk9 hS => ?_)
          have hP : gw_P D vwCl A (cDm κ) (cEn cI cZ cB cS κ (say σ b ((f_comb k (rkX κ σ b 0) (rkX κ σ b 1) (rkX κ σ b 2)))) sc ad) ad H := by rw [← ht9]; exact hB9
          refine lv_goto (tgt := 154) hx hb dX3_reckon_136 (by decide) ?_
          have h0 : rkF κ σ b k = 0 := by rw [← eff]; omega
          have eK : reckonK κ σ b k = κ := if_pos h0
          have eS : reckonS κ σ b k = say σ b ((f_comb k (rkX κ σ b 0) (rkX κ σ b 1) (rkX κ σ b 2))) := (if_pos h0).trans (by rw [ownS_id (by omega)]; unfold rkV; rw [if_neg (by omega), if_pos ⟨by omega, by omega⟩])
          exact W.vret hx hb hr (fun t ht hW => ⟨⟨(), rfl, trivial, by rw [eK, eS]; rw [← ht] at hP; exact hP⟩, hS.F ht⟩) hS.2.2 dX3_reckon_154
    · have c_6 : k = 0 := (nI_eq (a := k) (b := 0) (by omega) (by omega)).mp c_6
      refine lv_aload_n hx hb dX3_reckon_73 rfl (lv_at hl 4 rfl) ?_
      refine lv_aload_n hx hb dX3_reckon_74 rfl (lv_at hl 4 rfl) ?_
      refine gw_get (C := RX0) (T := TX0) (N := 11) hx hb hL0 hown hK hP 11 b (cDb (by omega) (by decide) (by decide)) rfl rfl 1 (by decide) (hts (.fieldLink RX3 74 "BlockPrograms$Block" "p" "I") (by decide +kernel)) (fun _ h9 => h9) (v := .int ((σ 1 b))) rfl dX3_reckon_75 ?_
      refine va_calli (va_runS (As := [.int ((σ 1 b))]) (rest := [.ref (ad 11 b)]) ⟨hx, hb, hml, hown, hts⟩ (k_X3_isPoint (l := l) (D := D) (cI := cI) (cZ := cZ) (cB := cB) (cS := cS) (A := A) (cDm κ) (cEn cI cZ cB cS κ σ sc ad) ad (σ 1 b)) (va_cwS 1 hts gX3_reckon_X3_isPoint rfl rfl rfl (by decide +kernel) ⟨Nat.le_of_ble_eq_true rfl, Nat.le_of_ble_eq_true rfl⟩) (gPreS hE hA hS hP) rfl rfl hl.1 rfl (lv_room (Nat.le_of_ble_eq_true rfl)) dX3_reckon_78 ⟨Nat.le_of_ble_eq_true rfl, Nat.le_of_ble_eq_true rfl⟩) hS (fun q _ h9 => h9) (fun q h9 => h9) (fun r_15 u9 t9 H locs ht9 hvm9 hw_r_15 hB9 hz9 hk9 hS => ?_)
      have hP : gw_P D vwCl A (cDm κ) (cEn cI cZ cB cS κ σ sc ad) ad H := by rw [← ht9]; exact hB9
      have z0 : k = 0 := by omega
      have e0 : f_fail σ k b (rkX κ σ b 0) (rkX κ σ b 1) = 0 := eff.symm.trans (by omega)
      rw [z0] at e0
      have ok0 : okI 10 (σ 1 b) := f_fail0 e0
      refine lv_toq 1 (hw_r_15.trans (if_pos ok0)) ?_
      refine lv_if_eq (tgt := 96) hx hb dX3_reckon_81 (by decide) (fun c_16 => ?_) (fun c_16 => ?_)
      · have c_16 : 1 = 0 := (nI_eq (a := 1) (b := 0) (by omega) (by omega)).mp c_16
        exfalso; omega
      · have c_16 : ¬ (1 = 0) := fun z => c_16 ((nI_eq (a := 1) (b := 0) (by omega) (by omega)).mpr z)
        refine lv_aload_n hx hb dX3_reckon_84 rfl (lv_at hl 5 rfl) ?_
        refine gw_get (C := RX3) (T := TX3) (N := 9) hx hb hL3 hown hK hP 0 0 (cDf (by decide)) rfl rfl 2 (by decide) (hts (.fieldLink RX3 19 "BlockPrograms" "points" "[I") (by decide +kernel)) (fun _ h9 => h9) (v := .ref (ad 2 0)) rfl dX3_reckon_85 ?_
        refine lv_aload_n hx hb dX3_reckon_88 rfl (lv_at hl 4 rfl) ?_
        refine gw_get (C := RX0) (T := TX0) (N := 11) hx hb hL0 hown hK hP 11 b (cDb (by omega) (by decide) (by decide)) rfl rfl 1 (by decide) (hts (.fieldLink RX3 74 "BlockPrograms$Block" "p" "I") (by decide +kernel)) (fun _ h9 => h9) (v := .int ((σ 1 b))) rfl dX3_reckon_89 ?_
        obtain ⟨j, hj, ej⟩ := ix_of (n := 10) (by decide) ok0.1 ok0.2
        refine lv_toq (nI j) ej ?_
        refine gw_iald hx hb hK hP 2 0 (cDf (by decide)) 0 rfl rfl (j) rfl (by omega) (by decide) (v := (σ 20 j)) rfl dX3_reckon_92 ?_
        refine lv_goto (tgt := 97) hx hb dX3_reckon_93 (by decide) ?_
        refine va_callv (va_runV (As := [.int ((σ 20 j))]) (rest := []) ⟨hx, hb, hml, hown, hts⟩ (k_X0_say (l := l) (D := D) (cI := cI) (cZ := cZ) (cB := cB) (cS := cS) (A := A) κ σ sc ad b hb0 ((σ 20 j))) (cwV 1 hts gX3_reckon_X0_say rfl rfl rfl (by decide +kernel) ⟨Nat.le_of_ble_eq_true rfl, Nat.le_of_ble_eq_true rfl⟩) (gPreV hE hA hS hP (gw_recv hK hP 11 b (cDb (by omega) (by decide) (by decide)) rfl rfl)) rfl rfl hl.1 rfl (lv_room (Nat.le_of_ble_eq_true rfl)) dX3_reckon_97 ⟨Nat.le_of_ble_eq_true rfl, Nat.le_of_ble_eq_true rfl⟩) hS (fun q _ h9 => h9) (fun q h9 => h9) (fun u9 t9 H locs ht9 hvm9 hw_17 hB9 hz9 hk9 hS => ?_)
        have hP : gw_P D vwCl A (cDm κ) (cEn cI cZ cB cS κ (say σ b ((σ 20 j))) sc ad) ad H := by rw [← ht9]; exact hB9
        refine lv_goto (tgt := 154) hx hb dX3_reckon_100 (by decide) ?_
        have h0 : rkF κ σ b k = 0 := by rw [← eff]; omega
        have eK : reckonK κ σ b k = κ := if_pos h0
        have eS : reckonS κ σ b k = say σ b ((σ 20 j)) := (if_pos h0).trans (by rw [ownS_id (by omega)]; unfold rkV; rw [if_pos z0, ej, nI_clamp (by omega)])
        exact W.vret hx hb hr (fun t ht hW => ⟨⟨(), rfl, trivial, by rw [eK, eS]; rw [← ht] at hP; exact hP⟩, hS.F ht⟩) hS.2.2 dX3_reckon_154
  · have c_5 : ¬ (ff = 0) := fun z => c_5 ((nI_eq (a := ff) (b := 0) (by omega) (by omega)).mpr z)
    refine lv_aload_n hx hb dX3_reckon_56 rfl (lv_at hl 5 rfl) ?_
    refine lv_iload_n hx hb dX3_reckon_57 rfl (lv_at hl 6 rfl) ?_
    refine lv_iload hx hb dX3_reckon_58 (lv_at hl 0 rfl) ?_
    refine va_callv (va_runV (As := [.int (nI b), .int (nI ff)]) (rest := []) ⟨hx, hb, hml, hown, hts⟩ (k_X3_fail (l := l) (D := D) (cI := cI) (cZ := cZ) (cB := cB) (cS := cS) (A := A) κ σ sc ad b ff hb0 hn (by omega)) (cwV 2 hts gX3_reckon_X3_fail rfl rfl rfl (by decide +kernel) ⟨Nat.le_of_ble_eq_true rfl, Nat.le_of_ble_eq_true rfl⟩) (gPreV hE hA hS hP (gw_recv hK hP 0 0 (cDf (by decide)) rfl rfl)) rfl rfl hl.1 rfl (lv_room (Nat.le_of_ble_eq_true rfl)) dX3_reckon_60 ⟨Nat.le_of_ble_eq_true rfl, Nat.le_of_ble_eq_true rfl⟩) hS (fun q _ h9 => h9) (fun q h9 => h9) (fun u9 t9 H locs ht9 hvm9 hw_18 hB9 hz9 hk9 hS => ?_)
    have hP : gw_P D vwCl A (cDm (noteK κ)) (cEn cI cZ cB cS (noteK κ) (failS κ σ b ff) sc ad) ad H := by rw [← ht9]; exact hB9
    refine lv_goto (tgt := 154) hx hb dX3_reckon_63 (by decide) ?_
    have h0 : ¬ rkF κ σ b k = 0 := by rw [← eff]; omega
    have eK : reckonK κ σ b k = noteK κ := if_neg h0
    have eS : reckonS κ σ b k = failS κ σ b ff := (if_neg h0).trans (by rw [eff])
    exact W.vret hx hb hr (fun t ht hW => ⟨⟨(), rfl, trivial, by rw [eK, eS]; rw [← ht] at hP; exact hP⟩, hS.F ht⟩) hS.2.2 dX3_reckon_154

theorem iL_X3_takeUp_X0 : ∀ w ∈ u_ws RX0 TX0 11, w ∈ wsX3_takeUp := by decide +kernel
theorem iL_X3_takeUp_X3 : ∀ w ∈ u_ws RX3 TX3 9, w ∈ wsX3_takeUp := by decide +kernel
set_option maxHeartbeats 4000000 in
set_option maxRecDepth 100000 in
theorem k_X3_takeUp {l : Launch} {D : va_G} {cI cZ cB cS : ClassId} {A : Nat → Prop} (κ : Nat → Nat) (σ sc : Nat → Nat → Int32) (ad : Nat → Nat → Nat) (b : Nat) (hb0 : b < κ 0) (hn : κ 0 ≤ 40) : Met l yX3_takeUp wsX3_takeUp ({ frames := 2, cells := 0, slots := 0, locals := 45 } : Room) (gPc D cI cZ cB cS A (cDm κ) (cEn cI cZ cB cS κ σ sc ad) ad [.ref (ad 0 0), .int (nI b)]) (va_Qv (fun _ : Unit => True) (fun _ t => gw_P D vwCl A (cDm κ) (cEn cI cZ cB cS (takeK κ σ b) (takeS κ σ b) sc ad) ad t.heap) A) 0 0 A := by
  refine Met.ofW (cc := cX3_takeUp) (maxL := 3) (ret := none) (by decide) rfl ?_
  intro p e s m args below meth c s₁ B hml hv
  obtain ⟨rfl, hP, hE, hA⟩ := hv
  have hx := B.exec
  have hb := B.bytes
  have hr := B.returns
  have hts := atoms_spec (ws := wsX3_takeUp) B.pre
  have hown : s.vm.findClass RX3 = some m.cls := findClass_of_methodNamed B.named
  have hlocks := B.notSynchronized
  have hK := hE.1
  have hS : va_S A s.heap s.heap [] := va_S.rf
  have hL0 := fun w (hw : w ∈ u_ws RX0 TX0 11) => hts w (iL_X3_takeUp_X0 w hw)
  have hL3 := fun w (hw : w ∈ u_ws RX3 TX3 9) => hts w (iL_X3_takeUp_X3 w hw)
  have hl := lv_entry ([.ref (ad 0 0), .int (nI b)]) (n := 3) (Nat.le_of_ble_eq_true rfl)
  rw [lg_entry_eq]
  generalize (lg_sl ([.ref (ad 0 0), .int (nI b)]) ++ List.replicate (3 - (lg_sl ([.ref (ad 0 0), .int (nI b)])).length) Slot.unset).toArray = ls at hl ⊢
  have hl : lv_has ls 3 [(0, .ref (ad 0 0)), (1, .int (nI b))] := hl
  refine lv_aload_n hx hb dX3_takeUp_0 rfl (lv_at hl 0 rfl) ?_
  refine gw_get (C := RX3) (T := TX3) (N := 9) hx hb hL3 hown hK hP 0 0 (cDf (by decide)) rfl rfl 0 (by decide) (hts (.fieldLink RX3 11 "BlockPrograms" "blocks" "[LBlockPrograms$Block;") (by decide +kernel)) (fun _ h9 => h9) (v := .ref (ad 1 0)) rfl dX3_takeUp_1 ?_
  refine lv_iload_n hx hb dX3_takeUp_4 rfl (lv_at hl 1 rfl) ?_
  refine gw_aald hx hb hK hP 1 0 (cDf (by decide)) 2 rfl rfl (b) rfl (by omega) (by decide) (a := ad 11 b) (if_pos (by omega)) dX3_takeUp_5 ?_
  refine lv_astore_n (lv' := [(2, .ref (ad 11 b)), (0, .ref (ad 0 0)), (1, .int (nI b))]) hx hb dX3_takeUp_6 rfl hl (by decide) rfl (fun ls hl => ?_)
  refine lv_aload_n hx hb dX3_takeUp_7 rfl (lv_at hl 0 rfl) ?_
  refine gw_get (C := RX0) (T := TX0) (N := 11) hx hb hL0 hown hK hP 11 b (cDb (by omega) (by decide) (by decide)) rfl rfl 9 (by decide) (hts (.fieldLink RX3 71 "BlockPrograms$Block" "wires" "[I") (by decide +kernel)) (fun _ h9 => h9) (v := .ref (ad 12 b)) rfl dX3_takeUp_8 ?_
  refine lv_iconst (v := 0) hx hb dX3_takeUp_11 (by decide) ?_
  refine gw_iald hx hb hK hP 12 b (cDb (by omega) (by decide) (by decide)) 0 rfl rfl (0) rfl (by omega) (by decide) (v := (σ 9 (3 * b + 0))) (if_pos (by omega)) dX3_takeUp_12 ?_
  refine lv_iconst (v := -1) hx hb dX3_takeUp_13 (by decide) ?_
  refine lv_icmp_ne (tgt := 26) hx hb dX3_takeUp_14 (by decide) (fun c_1 => ?_) (fun c_1 => ?_)
  · refine lv_aload_n hx hb dX3_takeUp_26 rfl (lv_at hl 0 rfl) ?_
    refine lv_aload_n hx hb dX3_takeUp_27 rfl (lv_at hl 1 rfl) ?_
    refine lv_aload_n hx hb dX3_takeUp_28 rfl (lv_at hl 0 rfl) ?_
    refine gw_get (C := RX0) (T := TX0) (N := 11) hx hb hL0 hown hK hP 11 b (cDb (by omega) (by decide) (by decide)) rfl rfl 9 (by decide) (hts (.fieldLink RX3 71 "BlockPrograms$Block" "wires" "[I") (by decide +kernel)) (fun _ h9 => h9) (v := .ref (ad 12 b)) rfl dX3_takeUp_29 ?_
    refine lv_iconst (v := 0) hx hb dX3_takeUp_32 (by decide) ?_
    refine gw_iald hx hb hK hP 12 b (cDb (by omega) (by decide) (by decide)) 0 rfl rfl (0) rfl (by omega) (by decide) (v := (σ 9 (3 * b + 0))) (if_pos (by omega)) dX3_takeUp_33 ?_
    refine va_calli (va_runV (As := [.int ((σ 9 (3 * b + 0)))]) (rest := [.ref (ad 11 b)]) ⟨hx, hb, hml, hown, hts⟩ (k_X3_outputOf (l := l) (D := D) (cI := cI) (cZ := cZ) (cB := cB) (cS := cS) (A := A) κ σ sc ad hn (σ 9 (3 * b + 0))) (cwV 1 hts gX3_takeUp_X3_outputOf rfl rfl rfl (by decide +kernel) ⟨Nat.le_of_ble_eq_true rfl, Nat.le_of_ble_eq_true rfl⟩) (gPreV hE hA hS hP (gw_recv hK hP 0 0 (cDf (by decide)) rfl rfl)) rfl rfl hl.1 rfl (lv_room (Nat.le_of_ble_eq_true rfl)) dX3_takeUp_34 ⟨Nat.le_of_ble_eq_true rfl, Nat.le_of_ble_eq_true rfl⟩) hS (fun q _ h9 => h9) (fun q h9 => h9) (fun r_2 u9 t9 H locs ht9 hvm9 hw_r_2 hB9 hz9 hk9 hS => ?_)
    have hP : gw_P D vwCl A (cDm κ) (cEn cI cZ cB cS κ σ sc ad) ad H := by rw [← ht9]; exact hB9
    refine lv_toq (rkX κ σ b 0) hw_r_2 ?_
    refine gw_put (ty := .int) (C := RX0) (T := TX0) (N := 11) hx hb hL0 tyX0 tyX0_ok nmX0 hown hK hP hS 11 b (cDb (by omega) (by decide) (by decide)) rfl rfl 5 (by decide) (hts (.fieldLink RX3 129 "BlockPrograms$Block" "first" "I") (by decide +kernel)) (fun _ h9 => h9) rfl (by decide +kernel) rfl rfl (Nat.le_of_ble_eq_true rfl) dX3_takeUp_37 (cEn cI cZ cB cS κ (wr σ 5 b (rkX κ σ b 0)) sc ad) (cU11s_5 _) (fun t9 i9 _ h9 => cU11 (by decide) _ t9 i9 h9) (fun H locs hP hS => ?_)
    have eK : takeK κ σ b = κ := if_neg c_1
    have eS : takeS κ σ b = wr σ 5 b (rkX κ σ b 0) := if_neg c_1
    exact W.vret hx hb hr (fun t ht hW => ⟨⟨(), rfl, trivial, by rw [eK, eS]; rw [← ht] at hP; exact hP⟩, hS.F ht⟩) hS.2.2 dX3_takeUp_40
  · refine lv_aload_n hx hb dX3_takeUp_17 rfl (lv_at hl 1 rfl) ?_
    refine lv_iload_n hx hb dX3_takeUp_18 rfl (lv_at hl 2 rfl) ?_
    refine lv_iconst (v := 3) hx hb dX3_takeUp_19 (by decide) ?_
    refine va_callv (va_runV (As := [.int (nI b), .int 3]) (rest := []) ⟨hx, hb, hml, hown, hts⟩ (k_X3_fail (l := l) (D := D) (cI := cI) (cZ := cZ) (cB := cB) (cS := cS) (A := A) κ σ sc ad b 3 hb0 hn (by omega)) (cwV 2 hts gX3_takeUp_X3_fail rfl rfl rfl (by decide +kernel) ⟨Nat.le_of_ble_eq_true rfl, Nat.le_of_ble_eq_true rfl⟩) (gPreV hE hA hS hP (gw_recv hK hP 0 0 (cDf (by decide)) rfl rfl)) rfl rfl hl.1 rfl (lv_room (Nat.le_of_ble_eq_true rfl)) dX3_takeUp_20 ⟨Nat.le_of_ble_eq_true rfl, Nat.le_of_ble_eq_true rfl⟩) hS (fun q _ h9 => h9) (fun q h9 => h9) (fun u9 t9 H locs ht9 hvm9 hw_3 hB9 hz9 hk9 hS => ?_)
    have hP : gw_P D vwCl A (cDm (noteK κ)) (cEn cI cZ cB cS (noteK κ) (failS κ σ b 3) sc ad) ad H := by rw [← ht9]; exact hB9
    refine lv_goto (tgt := 40) hx hb dX3_takeUp_23 (by decide) ?_
    have eK : takeK κ σ b = noteK κ := if_pos c_1
    have eS : takeS κ σ b = failS κ σ b 3 := if_pos c_1
    exact W.vret hx hb hr (fun t ht hW => ⟨⟨(), rfl, trivial, by rw [eK, eS]; rw [← ht] at hP; exact hP⟩, hS.F ht⟩) hS.2.2 dX3_takeUp_40

theorem iL_X3_tick_X0 : ∀ w ∈ u_ws RX0 TX0 11, w ∈ wsX3_tick := by decide +kernel
theorem iL_X3_tick_X3 : ∀ w ∈ u_ws RX3 TX3 9, w ∈ wsX3_tick := by decide +kernel
set_option maxHeartbeats 4000000 in
set_option maxRecDepth 100000 in
theorem k_X3_tick {l : Launch} {D : va_G} {cI cZ cB cS : ClassId} {A : Nat → Prop} (κ : Nat → Nat) (σ sc : Nat → Nat → Int32) (ad : Nat → Nat → Nat) (ln : Nat → Nat) (hln : ∀ i, i < κ 0 → sc 0 i = nI (ln i) ∧ ln i < κ 0) (hn : κ 0 ≤ 40) (h3 : κ 3 < 3000) (hk : kok (κ 0) σ) : Met l yX3_tick wsX3_tick ({ frames := 4, cells := 0, slots := 0, locals := 92 } : Room) (gPc D cI cZ cB cS A (cDm κ) (cEn cI cZ cB cS κ σ sc ad) ad [.ref (ad 0 0)]) (va_Qv (fun _ : Unit => True) (fun _ t => gw_P D vwCl A (cDm ((tickM (κ 0) ln (κ, σ)).1)) (cEn cI cZ cB cS ((tickM (κ 0) ln (κ, σ)).1) ((tickM (κ 0) ln (κ, σ)).2) sc ad) ad t.heap) A) 0 0 A := by
  refine Met.ofW (cc := cX3_tick) (maxL := 2) (ret := none) (by decide) rfl ?_
  intro p e s m args below meth c s₁ B hml hv
  obtain ⟨rfl, hP, hE, hA⟩ := hv
  have hx := B.exec
  have hb := B.bytes
  have hr := B.returns
  have hts := atoms_spec (ws := wsX3_tick) B.pre
  have hown : s.vm.findClass RX3 = some m.cls := findClass_of_methodNamed B.named
  have hlocks := B.notSynchronized
  have hK := hE.1
  have hS : va_S A s.heap s.heap [] := va_S.rf
  have hL0 := fun w (hw : w ∈ u_ws RX0 TX0 11) => hts w (iL_X3_tick_X0 w hw)
  have hL3 := fun w (hw : w ∈ u_ws RX3 TX3 9) => hts w (iL_X3_tick_X3 w hw)
  have hl := lv_entry ([.ref (ad 0 0)]) (n := 2) (Nat.le_of_ble_eq_true rfl)
  rw [lg_entry_eq]
  generalize (lg_sl ([.ref (ad 0 0)]) ++ List.replicate (2 - (lg_sl ([.ref (ad 0 0)])).length) Slot.unset).toArray = ls at hl ⊢
  have hl : lv_has ls 2 [(0, .ref (ad 0 0))] := hl
  obtain ⟨M0, eM0⟩ : ∃ z : MM, z = timeM (κ, σ) := ⟨_, rfl⟩
  obtain ⟨F, eF⟩ : ∃ F : Nat → MM → MM, F = fun i => reckonM (ln i) := ⟨_, rfl⟩
  have lat1 : ∀ i : Nat, later (κ, σ) (itM F i M0) := fun i => by rw [eM0, eF]; exact (later.time _).tr (later.it (fun i M => later.reckon M (ln i)) i _)
  have lat2 : ∀ i : Nat, later (κ, σ) (itM takeM i (itM F (κ 0) M0)) := fun i => (lat1 (κ 0)).tr (later.it (fun i M => later.take M i) i _)
  have tm1 : ∀ i : Nat, (itM F i M0).1 3 = κ 3 + 1 := fun i => by rw [eF, time_it (fun i M => time_reckon M (ln i)), eM0]; show va_up κ 3 (κ 3 + 1) 3 = _; exact va_up_self _ _ _
  refine lv_aload_n hx hb dX3_tick_0 rfl (lv_at hl 0 rfl) ?_
  refine lv_dup hx hb dX3_tick_1 rfl ?_
  refine gw_get (C := RX3) (T := TX3) (N := 9) hx hb hL3 hown hK hP 0 0 (cDf (by decide)) rfl rfl 3 (by decide) (hts (.fieldLink RX3 23 "BlockPrograms" "time" "I") (by decide +kernel)) (fun _ h9 => h9) (v := .int (nI (κ 3))) rfl dX3_tick_2 ?_
  refine lv_iconst (v := 1) hx hb dX3_tick_5 (by decide) ?_
  refine lv_iadd hx hb dX3_tick_6 ?_
  refine lv_toq (nI (κ 3 + 1)) (nI_add (κ 3) 1) ?_
  refine gw_put (ty := .int) (C := RX3) (T := TX3) (N := 9) hx hb hL3 tyX3 tyX3_ok nmX3 hown hK hP hS 0 0 (cDf (by decide)) rfl rfl 3 (by decide) (hts (.fieldLink RX3 23 "BlockPrograms" "time" "I") (by decide +kernel)) (fun _ h9 => h9) rfl (by decide +kernel) rfl rfl (Nat.le_of_ble_eq_true rfl) dX3_tick_7 (cEn cI cZ cB cS (va_up κ 3 (κ 3 + 1)) σ sc ad) (rfl) (fun t9 i9 z9 h9 => cU0t _ t9 i9 h9 (by simpa [cDm_up] using z9)) (fun H locs hP hS => ?_)
  refine lv_iconst (v := 0) hx hb dX3_tick_10 (by decide) ?_
  refine lv_istore_n (lv' := [(1, .int 0), (0, .ref (ad 0 0))]) hx hb dX3_tick_11 rfl hl (by decide) rfl (fun ls hl => ?_)
  have hP : gw_P D vwCl A (cDm ((itM F 0 M0).1)) (cEn cI cZ cB cS ((itM F 0 M0).1) ((itM F 0 M0).2) sc ad) ad H := by
    rw [(lat1 0).dm, eM0]; exact hP
  refine lv_loop (fun kk H locs ls => ∃ i : Nat, kk = (κ 0) - i ∧ i ≤ κ 0 ∧ gw_P D vwCl A (cDm ((itM F i M0).1)) (cEn cI cZ cB cS ((itM F i M0).1) ((itM F i M0).2) sc ad) ad H ∧ va_S A s.heap H locs ∧ lv_has ls 2 [(0, .ref (ad 0 0)), (1, .int (nI i))]) (fun kk H locs ls hI ih => ?_) ((κ 0) - 0) ⟨0, rfl, by omega, hP, hS, lv_sub hl [1, 0] rfl⟩
  obtain ⟨i, hk_12, hi_12, hP, hS, hl⟩ := hI
  have k0 : (itM F i M0).1 0 = κ 0 := (lat1 i).1 0 (by decide) (by decide)
  refine lv_iload_n hx hb dX3_tick_12 rfl (lv_at hl 1 rfl) ?_
  refine lv_aload_n hx hb dX3_tick_13 rfl (lv_at hl 0 rfl) ?_
  refine gw_get (C := RX3) (T := TX3) (N := 9) hx hb hL3 hown hK hP 0 0 (cDf (by decide)) rfl rfl 1 (by decide) (hts (.fieldLink RX3 15 "BlockPrograms" "count" "I") (by decide +kernel)) (fun _ h9 => h9) (v := .int (nI (κ 0))) (congrArg (fun z : Nat => some (Value.int (nI z))) k0) dX3_tick_14 ?_
  refine lv_icmp_ge (tgt := 36) hx hb dX3_tick_17 (by decide) (fun c_1 => ?_) (fun c_1 => ?_)
  · have c_1 : κ 0 ≤ i := (nI_leI (a := κ 0) (b := i) (by omega) (by omega)).mp c_1
    refine lv_iconst (v := 0) hx hb dX3_tick_36 (by decide) ?_
    refine lv_istore_n (lv' := [(1, .int 0), (0, .ref (ad 0 0))]) hx hb dX3_tick_37 rfl hl (by decide) rfl (fun ls hl => ?_)
    have ei : i = κ 0 := by omega
    rw [ei] at hP
    refine lv_loop (fun kk H locs ls => ∃ i : Nat, kk = (κ 0) - i ∧ i ≤ κ 0 ∧ gw_P D vwCl A (cDm ((itM takeM i (itM F (κ 0) M0)).1)) (cEn cI cZ cB cS ((itM takeM i (itM F (κ 0) M0)).1) ((itM takeM i (itM F (κ 0) M0)).2) sc ad) ad H ∧ va_S A s.heap H locs ∧ lv_has ls 2 [(0, .ref (ad 0 0)), (1, .int (nI i))]) (fun kk H locs ls hI ih => ?_) ((κ 0) - 0) ⟨0, rfl, by omega, hP, hS, lv_sub hl [1, 0] rfl⟩
    obtain ⟨i, hk_38, hi_38, hP, hS, hl⟩ := hI
    have k0 : (itM takeM i (itM F (κ 0) M0)).1 0 = κ 0 := (lat2 i).1 0 (by decide) (by decide)
    refine lv_iload_n hx hb dX3_tick_38 rfl (lv_at hl 1 rfl) ?_
    refine lv_aload_n hx hb dX3_tick_39 rfl (lv_at hl 0 rfl) ?_
    refine gw_get (C := RX3) (T := TX3) (N := 9) hx hb hL3 hown hK hP 0 0 (cDf (by decide)) rfl rfl 1 (by decide) (hts (.fieldLink RX3 15 "BlockPrograms" "count" "I") (by decide +kernel)) (fun _ h9 => h9) (v := .int (nI (κ 0))) (congrArg (fun z : Nat => some (Value.int (nI z))) k0) dX3_tick_40 ?_
    refine lv_icmp_ge (tgt := 71) hx hb dX3_tick_43 (by decide) (fun c_2 => ?_) (fun c_2 => ?_)
    · have c_2 : κ 0 ≤ i := (nI_leI (a := κ 0) (b := i) (by omega) (by omega)).mp c_2
      have ei : i = κ 0 := by omega
      rw [ei] at hP
      have eT : tickM (κ 0) ln (κ, σ) = itM takeM (κ 0) (itM F (κ 0) M0) := by rw [eF, eM0]; rfl
      exact W.vret hx hb hr (fun t ht hW => ⟨⟨(), rfl, trivial, by rw [eT]; rw [← ht] at hP; exact hP⟩, hS.F ht⟩) hS.2.2 dX3_tick_71
    · have c_2 : ¬ (κ 0 ≤ i) := fun z => c_2 ((nI_leI (a := κ 0) (b := i) (by omega) (by omega)).mpr z)
      obtain ⟨k, hk26, ek⟩ := (lat2 i).kok hk i (by omega)
      refine lv_aload_n hx hb dX3_tick_46 rfl (lv_at hl 0 rfl) ?_
      refine gw_get (C := RX3) (T := TX3) (N := 9) hx hb hL3 hown hK hP 0 0 (cDf (by decide)) rfl rfl 0 (by decide) (hts (.fieldLink RX3 11 "BlockPrograms" "blocks" "[LBlockPrograms$Block;") (by decide +kernel)) (fun _ h9 => h9) (v := .ref (ad 1 0)) rfl dX3_tick_47 ?_
      refine lv_iload_n hx hb dX3_tick_50 rfl (lv_at hl 1 rfl) ?_
      refine gw_aald hx hb hK hP 1 0 (cDf (by decide)) 2 rfl rfl (i) rfl (by omega) (by decide) (a := ad 11 i) (if_pos (by omega)) dX3_tick_51 ?_
      refine gw_get (C := RX0) (T := TX0) (N := 11) hx hb hL0 hown hK hP 11 i (cDb (by omega) (by decide) (by decide)) rfl rfl 0 (by decide) (hts (.fieldLink RX3 86 "BlockPrograms$Block" "kind" "I") (by decide +kernel)) (fun _ h9 => h9) (v := .int (nI k)) (congrArg (fun z : Int32 => some (Value.int z)) ek) dX3_tick_52 ?_
      refine lv_bipush (v := 16) hx hb dX3_tick_55 (by decide) ?_
      refine lv_icmp_ne (tgt := 65) hx hb dX3_tick_57 (by decide) (fun c_3 => ?_) (fun c_3 => ?_)
      · have c_3 : ¬ (k = 16) := fun z => c_3 ((nI_eq (a := k) (b := 16) (by omega) (by omega)).mpr z)
        refine lv_iinc (v := nI (i + 1)) (lv' := [(1, .int (nI (i + 1))), (0, .ref (ad 0 0))]) hx hb dX3_tick_65 hl (k := 1) rfl (nI_add i 1) (by decide) rfl (fun ls hl => ?_)
        refine lv_goto (tgt := 38) hx hb dX3_tick_68 (by decide) ?_
        have e1 : itM takeM (i + 1) (itM F (κ 0) M0) = (itM takeM i (itM F (κ 0) M0)) := by
          exact takeM_n (by rw [kd_of ek hk26]; omega)
        have hP : gw_P D vwCl A (cDm ((itM takeM (i + 1) (itM F (κ 0) M0)).1)) (cEn cI cZ cB cS ((itM takeM (i + 1) (itM F (κ 0) M0)).1) ((itM takeM (i + 1) (itM F (κ 0) M0)).2) sc ad) ad H := by
          rw [(lat2 (i + 1)).dm, ← (lat2 i).dm, e1]; exact hP
        exact ih _ _ _ _ (by omega) ⟨i + 1, rfl, by omega, hP, hS, lv_sub hl [1, 0] rfl⟩
      · have c_3 : k = 16 := (nI_eq (a := k) (b := 16) (by omega) (by omega)).mp c_3
        refine lv_aload_n hx hb dX3_tick_60 rfl (lv_at hl 0 rfl) ?_
        refine lv_iload_n hx hb dX3_tick_61 rfl (lv_at hl 1 rfl) ?_
        refine va_callv (va_runV (As := [.int (nI i)]) (rest := []) ⟨hx, hb, hml, hown, hts⟩ (k_X3_takeUp (l := l) (D := D) (cI := cI) (cZ := cZ) (cB := cB) (cS := cS) (A := A) (itM takeM i (itM F (κ 0) M0)).1 (itM takeM i (itM F (κ 0) M0)).2 sc ad i (by omega) (by omega)) (cwV 1 hts gX3_tick_X3_takeUp rfl rfl rfl (by decide +kernel) ⟨Nat.le_of_ble_eq_true rfl, Nat.le_of_ble_eq_true rfl⟩) (gPreV hE hA hS hP (gw_recv hK hP 0 0 (cDf (by decide)) rfl rfl)) rfl rfl hl.1 rfl (lv_room (Nat.le_of_ble_eq_true rfl)) dX3_tick_62 ⟨Nat.le_of_ble_eq_true rfl, Nat.le_of_ble_eq_true rfl⟩) hS (fun q _ h9 => h9) (fun q h9 => h9) (fun u9 t9 H locs ht9 hvm9 hw_4 hB9 hz9 hk9 hS => ?_)
        have hP : gw_P D vwCl A (cDm (itM takeM i (itM F (κ 0) M0)).1) (cEn cI cZ cB cS (takeK (itM takeM i (itM F (κ 0) M0)).1 (itM takeM i (itM F (κ 0) M0)).2 i) (takeS (itM takeM i (itM F (κ 0) M0)).1 (itM takeM i (itM F (κ 0) M0)).2 i) sc ad) ad H := by rw [← ht9]; exact hB9
        refine lv_iinc (v := nI (i + 1)) (lv' := [(1, .int (nI (i + 1))), (0, .ref (ad 0 0))]) hx hb dX3_tick_65 hl (k := 1) rfl (nI_add i 1) (by decide) rfl (fun ls hl => ?_)
        refine lv_goto (tgt := 38) hx hb dX3_tick_68 (by decide) ?_
        have e1 : itM takeM (i + 1) (itM F (κ 0) M0) = (takeK (itM takeM i (itM F (κ 0) M0)).1 (itM takeM i (itM F (κ 0) M0)).2 i, takeS (itM takeM i (itM F (κ 0) M0)).1 (itM takeM i (itM F (κ 0) M0)).2 i) := by
          exact takeM_y (by rw [kd_of ek hk26]; omega)
        have hP : gw_P D vwCl A (cDm ((itM takeM (i + 1) (itM F (κ 0) M0)).1)) (cEn cI cZ cB cS ((itM takeM (i + 1) (itM F (κ 0) M0)).1) ((itM takeM (i + 1) (itM F (κ 0) M0)).2) sc ad) ad H := by
          rw [(lat2 (i + 1)).dm, ← (lat2 i).dm, e1]; exact hP
        exact ih _ _ _ _ (by omega) ⟨i + 1, rfl, by omega, hP, hS, lv_sub hl [1, 0] rfl⟩
  · have c_1 : ¬ (κ 0 ≤ i) := fun z => c_1 ((nI_leI (a := κ 0) (b := i) (by omega) (by omega)).mpr z)
    refine lv_aload_n hx hb dX3_tick_20 rfl (lv_at hl 0 rfl) ?_
    refine lv_aload_n hx hb dX3_tick_21 rfl (lv_at hl 0 rfl) ?_
    refine gw_get (C := RX3) (T := TX3) (N := 9) hx hb hL3 hown hK hP 0 0 (cDf (by decide)) rfl rfl 4 (by decide) (hts (.fieldLink RX3 26 "BlockPrograms" "line" "[I") (by decide +kernel)) (fun _ h9 => h9) (v := .ref (ad 3 0)) rfl dX3_tick_22 ?_
    refine lv_iload_n hx hb dX3_tick_25 rfl (lv_at hl 1 rfl) ?_
    refine gw_iald hx hb hK hP 3 0 (cDf (by decide)) 0 rfl rfl (i) rfl (by omega) (by decide) (v := nI (ln i)) (hln i (by omega)).1 dX3_tick_26 ?_
    have lni := (hln i (by omega)).2
    obtain ⟨k, hk26, ek⟩ := (lat1 i).kok hk (ln i) lni
    have tmi := tm1 i
    refine va_callv (va_runV (As := [.int (nI (ln i))]) (rest := []) ⟨hx, hb, hml, hown, hts⟩ (k_X3_reckon (l := l) (D := D) (cI := cI) (cZ := cZ) (cB := cB) (cS := cS) (A := A) (itM F i M0).1 (itM F i M0).2 sc ad (ln i) k (by omega) (by omega) (by omega) hk26 ek) (cwV 1 hts gX3_tick_X3_reckon rfl rfl rfl (by decide +kernel) ⟨Nat.le_of_ble_eq_true rfl, Nat.le_of_ble_eq_true rfl⟩) (gPreV hE hA hS hP (gw_recv hK hP 0 0 (cDf (by decide)) rfl rfl)) rfl rfl hl.1 rfl (lv_room (Nat.le_of_ble_eq_true rfl)) dX3_tick_27 ⟨Nat.le_of_ble_eq_true rfl, Nat.le_of_ble_eq_true rfl⟩) hS (fun q _ h9 => h9) (fun q h9 => h9) (fun u9 t9 H locs ht9 hvm9 hw_5 hB9 hz9 hk9 hS => ?_)
    have hP : gw_P D vwCl A (cDm (itM F i M0).1) (cEn cI cZ cB cS (reckonK (itM F i M0).1 (itM F i M0).2 (ln i) k) (reckonS (itM F i M0).1 (itM F i M0).2 (ln i) k) sc ad) ad H := by rw [← ht9]; exact hB9
    have e1 : itM F (i + 1) M0 = (reckonK (itM F i M0).1 (itM F i M0).2 (ln i) k, reckonS (itM F i M0).1 (itM F i M0).2 (ln i) k) := by
      have z : itM F (i + 1) M0 = reckonM (ln i) (itM F i M0) := by rw [eF]; rfl
      exact z.trans (reckonM_k (kd_of ek hk26))
    have hP : gw_P D vwCl A (cDm ((itM F (i + 1) M0).1)) (cEn cI cZ cB cS ((itM F (i + 1) M0).1) ((itM F (i + 1) M0).2) sc ad) ad H := by
      rw [(lat1 (i + 1)).dm, ← (lat1 i).dm, e1]; exact hP
    refine lv_iinc (v := nI (i + 1)) (lv' := [(1, .int (nI (i + 1))), (0, .ref (ad 0 0))]) hx hb dX3_tick_30 hl (k := 1) rfl (nI_add i 1) (by decide) rfl (fun ls hl => ?_)
    refine lv_goto (tgt := 12) hx hb dX3_tick_33 (by decide) ?_
    exact ih _ _ _ _ (by omega) ⟨i + 1, rfl, by omega, hP, hS, lv_sub hl [1, 0] rfl⟩

