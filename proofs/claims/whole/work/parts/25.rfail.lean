theorem iL_X4_fail_X4 : ∀ w ∈ u_ws RX4 TX4 25, w ∈ wsX4_fail := by decide +kernel
set_option maxHeartbeats 4000000 in
set_option maxRecDepth 100000 in
theorem k_X4_fail_1 {l : Launch} {D : va_G} {cI cZ cB cS : ClassId} {A : Nat → Prop} (κ : Nat → Nat) (σ sc : Nat → Nat → Int32) (ad : Nat → Nat → Nat) (b : Nat) (hb0 : b < κ 0) (hn : κ 0 ≤ 40) (h2 : κ 2 < 2 ^ 31) : Met l yX4_fail wsX4_fail ({ frames := 0, cells := 0, slots := 0, locals := 0 } : Room) (gPc D cI cZ cB cS A rDm (rEn cI cZ κ σ sc ad) ad [.ref (ad 0 0), .int (nI b), .int (nI 1)]) (va_Qv (fun _ : Unit => True) (fun _ t => gw_P D vwCl A rDm (rEn cI cZ (noteK κ) (noteS κ σ (nI (κ 3)) (nI b) 1) sc ad) ad t.heap) A) 0 0 A := by
  refine Met.ofW (cc := cX4_fail) (maxL := 4) (ret := none) (by decide) rfl ?_
  intro p e s m args below meth c s₁ B hml hv
  obtain ⟨rfl, hP, hE, hA⟩ := hv
  have hx := B.exec
  have hb := B.bytes
  have hr := B.returns
  have hts := atoms_spec (ws := wsX4_fail) B.pre
  have hown : s.vm.findClass RX4 = some m.cls := findClass_of_methodNamed B.named
  have hlocks := B.notSynchronized
  have hK := hE.1
  have hS : va_S A s.heap s.heap [] := va_S.rf
  have hL4 := fun w (hw : w ∈ u_ws RX4 TX4 25) => hts w (iL_X4_fail_X4 w hw)
  have hl := lv_entry ([.ref (ad 0 0), .int (nI b), .int (nI 1)]) (n := 4) (Nat.le_of_ble_eq_true rfl)
  rw [lg_entry_eq]
  generalize (lg_sl ([.ref (ad 0 0), .int (nI b), .int (nI 1)]) ++ List.replicate (4 - (lg_sl ([.ref (ad 0 0), .int (nI b), .int (nI 1)])).length) Slot.unset).toArray = ls at hl ⊢
  have hl : lv_has ls 4 [(0, .ref (ad 0 0)), (1, .int (nI b)), (2, .int (nI 1))] := hl
  refine lv_aload_n hx hb dX4_fail_0 rfl (lv_at hl 0 rfl) ?_
  refine gw_get (C := RX4) (T := TX4) (N := 25) hx hb hL4 hown hK hP 0 0 (rDf (by decide)) rfl rfl 18 (by decide) (hts (.fieldLink RX4 53 "BlockProgramsModel" "failures" "[I") (by decide +kernel)) (fun _ h9 => h9) (v := .ref (ad 18 0)) rfl dX4_fail_1 ?_
  refine lv_iconst (v := 0) hx hb dX4_fail_4 (by decide) ?_
  refine lv_dup2_11 hx hb dX4_fail_5 rfl rfl ?_
  refine gw_iald hx hb hK hP 18 0 (rDf (by decide)) 0 rfl rfl (0) rfl (by omega) (by decide) (v := (σ 22 0)) rfl dX4_fail_6 ?_
  refine lv_iconst (v := 1) hx hb dX4_fail_7 (by decide) ?_
  refine lv_iadd hx hb dX4_fail_8 ?_
  refine gw_iast hx hb hK hP hS 18 0 (rDf (by decide)) 0 rfl rfl (0) rfl (by omega) (by decide) dX4_fail_9 ((rEn cI cZ κ (wr σ 22 0 (((σ 22 0) + 1))) sc ad)) rUs_18 (fun t9 i9 z9 h9 => rU18 _ t9 i9 h9 z9) (fun H locs hP hS => ?_)
  refine lv_aload_n hx hb dX4_fail_10 rfl (lv_at hl 0 rfl) ?_
  refine gw_get (C := RX4) (T := TX4) (N := 25) hx hb hL4 hown hK hP 0 0 (rDf (by decide)) rfl rfl 18 (by decide) (hts (.fieldLink RX4 53 "BlockProgramsModel" "failures" "[I") (by decide +kernel)) (fun _ h9 => h9) (v := .ref (ad 18 0)) rfl dX4_fail_11 ?_
  refine lv_iload_n hx hb dX4_fail_14 rfl (lv_at hl 2 rfl) ?_
  refine lv_dup2_11 hx hb dX4_fail_15 rfl rfl ?_
  refine gw_iald hx hb hK hP 18 0 (rDf (by decide)) 0 rfl rfl (1) rfl (by omega) (by decide) (v := (σ 22 1)) (by simp [wr]) dX4_fail_16 ?_
  refine lv_iconst (v := 1) hx hb dX4_fail_17 (by decide) ?_
  refine lv_iadd hx hb dX4_fail_18 ?_
  refine gw_iast hx hb hK hP hS 18 0 (rDf (by decide)) 0 rfl rfl (1) rfl (by omega) (by decide) dX4_fail_19 ((rEn cI cZ κ (wr (wr σ 22 0 (((σ 22 0) + 1))) 22 1 (((σ 22 1) + 1))) sc ad)) rUs_18 (fun t9 i9 z9 h9 => rU18 _ t9 i9 h9 z9) (fun H locs hP hS => ?_)
  refine lv_iconst (v := 3) hx hb dX4_fail_20 (by decide) ?_
  refine lv_aload_n hx hb dX4_fail_21 rfl (lv_at hl 0 rfl) ?_
  refine gw_get (C := RX4) (T := TX4) (N := 25) hx hb hL4 hown hK hP 0 0 (rDf (by decide)) rfl rfl 19 (by decide) (hts (.fieldLink RX4 116 "BlockProgramsModel" "last" "I") (by decide +kernel)) (fun _ h9 => h9) (v := .int (nI (κ 2))) rfl dX4_fail_22 ?_
  refine lv_bipush (v := 32) hx hb dX4_fail_25 (by decide) ?_
  refine lv_irem hx hb dX4_fail_27 (by decide) ?_
  refine lv_toq (nI ((κ 2) % 32)) (pk_rem (a := κ 2) (d := 32) (by omega) (by decide) (by decide)) ?_
  refine lv_imul hx hb dX4_fail_28 ?_
  refine lv_toq (nI (3 * ((κ 2) % 32))) (pk_mul 3 ((κ 2) % 32)) ?_
  refine lv_istore_n (lv' := [(3, .int (nI (3 * ((κ 2) % 32)))), (0, .ref (ad 0 0)), (1, .int (nI b)), (2, .int (nI 1))]) hx hb dX4_fail_29 rfl hl (by decide) rfl (fun ls hl => ?_)
  refine lv_aload_n hx hb dX4_fail_30 rfl (lv_at hl 1 rfl) ?_
  refine gw_get (C := RX4) (T := TX4) (N := 25) hx hb hL4 hown hK hP 0 0 (rDf (by decide)) rfl rfl 20 (by decide) (hts (.fieldLink RX4 56 "BlockProgramsModel" "kept" "[I") (by decide +kernel)) (fun _ h9 => h9) (v := .ref (ad 20 0)) rfl dX4_fail_31 ?_
  refine lv_iload_n hx hb dX4_fail_34 rfl (lv_at hl 0 rfl) ?_
  refine lv_aload_n hx hb dX4_fail_35 rfl (lv_at hl 1 rfl) ?_
  refine gw_get (C := RX4) (T := TX4) (N := 25) hx hb hL4 hown hK hP 0 0 (rDf (by decide)) rfl rfl 14 (by decide) (hts (.fieldLink RX4 100 "BlockProgramsModel" "time" "I") (by decide +kernel)) (fun _ h9 => h9) (v := .int (nI (κ 3))) rfl dX4_fail_36 ?_
  refine gw_iast hx hb hK hP hS 20 0 (rDf (by decide)) 0 rfl rfl (3 * ((κ 2) % 32)) rfl (by omega) (by decide) dX4_fail_39 ((rEn cI cZ κ (wr (wr (wr σ 22 0 (((σ 22 0) + 1))) 22 1 (((σ 22 1) + 1))) 23 (((κ 2) % 32)) (nI (κ 3))) sc ad)) ((rUs_20 (w := 0) (by decide)).trans rfl) (fun t9 i9 z9 h9 => rU20 (w := 0) (by decide) _ t9 i9 h9 z9) (fun H locs hP hS => ?_)
  refine lv_aload_n hx hb dX4_fail_40 rfl (lv_at hl 1 rfl) ?_
  refine gw_get (C := RX4) (T := TX4) (N := 25) hx hb hL4 hown hK hP 0 0 (rDf (by decide)) rfl rfl 20 (by decide) (hts (.fieldLink RX4 56 "BlockProgramsModel" "kept" "[I") (by decide +kernel)) (fun _ h9 => h9) (v := .ref (ad 20 0)) rfl dX4_fail_41 ?_
  refine lv_iload_n hx hb dX4_fail_44 rfl (lv_at hl 0 rfl) ?_
  refine lv_iconst (v := 1) hx hb dX4_fail_45 (by decide) ?_
  refine lv_iadd hx hb dX4_fail_46 ?_
  refine lv_toq (nI (3 * ((κ 2) % 32) + 1)) (nI_add (3 * ((κ 2) % 32)) 1) ?_
  refine lv_iload_n hx hb dX4_fail_47 rfl (lv_at hl 2 rfl) ?_
  refine gw_iast hx hb hK hP hS 20 0 (rDf (by decide)) 0 rfl rfl (3 * ((κ 2) % 32) + 1) rfl (by omega) (by decide) dX4_fail_48 ((rEn cI cZ κ (wr (wr (wr (wr σ 22 0 (((σ 22 0) + 1))) 22 1 (((σ 22 1) + 1))) 23 (((κ 2) % 32)) (nI (κ 3))) 24 (((κ 2) % 32)) (nI b)) sc ad)) ((rUs_20 (w := 1) (by decide)).trans rfl) (fun t9 i9 z9 h9 => rU20 (w := 1) (by decide) _ t9 i9 h9 z9) (fun H locs hP hS => ?_)
  refine lv_aload_n hx hb dX4_fail_49 rfl (lv_at hl 1 rfl) ?_
  refine gw_get (C := RX4) (T := TX4) (N := 25) hx hb hL4 hown hK hP 0 0 (rDf (by decide)) rfl rfl 20 (by decide) (hts (.fieldLink RX4 56 "BlockProgramsModel" "kept" "[I") (by decide +kernel)) (fun _ h9 => h9) (v := .ref (ad 20 0)) rfl dX4_fail_50 ?_
  refine lv_iload_n hx hb dX4_fail_53 rfl (lv_at hl 0 rfl) ?_
  refine lv_iconst (v := 2) hx hb dX4_fail_54 (by decide) ?_
  refine lv_iadd hx hb dX4_fail_55 ?_
  refine lv_toq (nI (3 * ((κ 2) % 32) + 2)) (nI_add (3 * ((κ 2) % 32)) 2) ?_
  refine lv_iload_n hx hb dX4_fail_56 rfl (lv_at hl 3 rfl) ?_
  refine gw_iast hx hb hK hP hS 20 0 (rDf (by decide)) 0 rfl rfl (3 * ((κ 2) % 32) + 2) rfl (by omega) (by decide) dX4_fail_57 ((rEn cI cZ κ (wr (wr (wr (wr (wr σ 22 0 (((σ 22 0) + 1))) 22 1 (((σ 22 1) + 1))) 23 (((κ 2) % 32)) (nI (κ 3))) 24 (((κ 2) % 32)) (nI b)) 25 (((κ 2) % 32)) (nI 1)) sc ad)) ((rUs_20 (w := 2) (by decide)).trans rfl) (fun t9 i9 z9 h9 => rU20 (w := 2) (by decide) _ t9 i9 h9 z9) (fun H locs hP hS => ?_)
  refine lv_aload_n hx hb dX4_fail_58 rfl (lv_at hl 1 rfl) ?_
  refine lv_dup hx hb dX4_fail_59 rfl ?_
  refine gw_get (C := RX4) (T := TX4) (N := 25) hx hb hL4 hown hK hP 0 0 (rDf (by decide)) rfl rfl 19 (by decide) (hts (.fieldLink RX4 116 "BlockProgramsModel" "last" "I") (by decide +kernel)) (fun _ h9 => h9) (v := .int (nI (κ 2))) rfl dX4_fail_60 ?_
  refine lv_iconst (v := 1) hx hb dX4_fail_63 (by decide) ?_
  refine lv_iadd hx hb dX4_fail_64 ?_
  refine lv_toq (nI (κ 2 + 1)) (nI_add (κ 2) 1) ?_
  refine gw_put (ty := .int) (C := RX4) (T := TX4) (N := 25) hx hb hL4 tyX4 tyX4_ok nmX4 hown hK hP hS 0 0 (rDf (by decide)) rfl rfl 19 (by decide) (hts (.fieldLink RX4 116 "BlockProgramsModel" "last" "I") (by decide +kernel)) (fun _ h9 => h9) rfl (by decide +kernel) rfl rfl (Nat.le_of_ble_eq_true rfl) dX4_fail_65 (rEn cI cZ (va_up κ 2 (κ 2 + 1)) (wr (wr (wr (wr (wr σ 22 0 (((σ 22 0) + 1))) 22 1 (((σ 22 1) + 1))) 23 (((κ 2) % 32)) (nI (κ 3))) 24 (((κ 2) % 32)) (nI b)) 25 (((κ 2) % 32)) (nI 1)) sc ad) (rU0k_19 _) (fun t9 i9 z9 h9 => rU0k (by decide) _ t9 i9 h9 z9) (fun H locs hP hS => ?_)
  have z9 : noteX κ σ (nI (κ 3)) (nI b) 1 22 1 = σ 22 1 := by simp [noteX, wr]
  have eσ : wr (wr (wr (wr (wr σ 22 0 (((σ 22 0) + 1))) 22 1 (((σ 22 1) + 1))) 23 (((κ 2) % 32)) (nI (κ 3))) 24 (((κ 2) % 32)) (nI b)) 25 (((κ 2) % 32)) (nI 1) = noteS κ σ (nI (κ 3)) (nI b) 1 := by unfold noteS; rw [z9]; exact note_comm
  rw [eσ] at hP
  exact W.vret hx hb hr (fun t ht hW => ⟨⟨(), rfl, trivial, by rw [← ht] at hP; exact hP⟩, hS.F ht⟩) hS.2.2 dX4_fail_68

set_option maxHeartbeats 4000000 in
set_option maxRecDepth 100000 in
theorem k_X4_fail_2 {l : Launch} {D : va_G} {cI cZ cB cS : ClassId} {A : Nat → Prop} (κ : Nat → Nat) (σ sc : Nat → Nat → Int32) (ad : Nat → Nat → Nat) (b : Nat) (hb0 : b < κ 0) (hn : κ 0 ≤ 40) (h2 : κ 2 < 2 ^ 31) : Met l yX4_fail wsX4_fail ({ frames := 0, cells := 0, slots := 0, locals := 0 } : Room) (gPc D cI cZ cB cS A rDm (rEn cI cZ κ σ sc ad) ad [.ref (ad 0 0), .int (nI b), .int (nI 2)]) (va_Qv (fun _ : Unit => True) (fun _ t => gw_P D vwCl A rDm (rEn cI cZ (noteK κ) (noteS κ σ (nI (κ 3)) (nI b) 2) sc ad) ad t.heap) A) 0 0 A := by
  refine Met.ofW (cc := cX4_fail) (maxL := 4) (ret := none) (by decide) rfl ?_
  intro p e s m args below meth c s₁ B hml hv
  obtain ⟨rfl, hP, hE, hA⟩ := hv
  have hx := B.exec
  have hb := B.bytes
  have hr := B.returns
  have hts := atoms_spec (ws := wsX4_fail) B.pre
  have hown : s.vm.findClass RX4 = some m.cls := findClass_of_methodNamed B.named
  have hlocks := B.notSynchronized
  have hK := hE.1
  have hS : va_S A s.heap s.heap [] := va_S.rf
  have hL4 := fun w (hw : w ∈ u_ws RX4 TX4 25) => hts w (iL_X4_fail_X4 w hw)
  have hl := lv_entry ([.ref (ad 0 0), .int (nI b), .int (nI 2)]) (n := 4) (Nat.le_of_ble_eq_true rfl)
  rw [lg_entry_eq]
  generalize (lg_sl ([.ref (ad 0 0), .int (nI b), .int (nI 2)]) ++ List.replicate (4 - (lg_sl ([.ref (ad 0 0), .int (nI b), .int (nI 2)])).length) Slot.unset).toArray = ls at hl ⊢
  have hl : lv_has ls 4 [(0, .ref (ad 0 0)), (1, .int (nI b)), (2, .int (nI 2))] := hl
  refine lv_aload_n hx hb dX4_fail_0 rfl (lv_at hl 0 rfl) ?_
  refine gw_get (C := RX4) (T := TX4) (N := 25) hx hb hL4 hown hK hP 0 0 (rDf (by decide)) rfl rfl 18 (by decide) (hts (.fieldLink RX4 53 "BlockProgramsModel" "failures" "[I") (by decide +kernel)) (fun _ h9 => h9) (v := .ref (ad 18 0)) rfl dX4_fail_1 ?_
  refine lv_iconst (v := 0) hx hb dX4_fail_4 (by decide) ?_
  refine lv_dup2_11 hx hb dX4_fail_5 rfl rfl ?_
  refine gw_iald hx hb hK hP 18 0 (rDf (by decide)) 0 rfl rfl (0) rfl (by omega) (by decide) (v := (σ 22 0)) rfl dX4_fail_6 ?_
  refine lv_iconst (v := 1) hx hb dX4_fail_7 (by decide) ?_
  refine lv_iadd hx hb dX4_fail_8 ?_
  refine gw_iast hx hb hK hP hS 18 0 (rDf (by decide)) 0 rfl rfl (0) rfl (by omega) (by decide) dX4_fail_9 ((rEn cI cZ κ (wr σ 22 0 (((σ 22 0) + 1))) sc ad)) rUs_18 (fun t9 i9 z9 h9 => rU18 _ t9 i9 h9 z9) (fun H locs hP hS => ?_)
  refine lv_aload_n hx hb dX4_fail_10 rfl (lv_at hl 0 rfl) ?_
  refine gw_get (C := RX4) (T := TX4) (N := 25) hx hb hL4 hown hK hP 0 0 (rDf (by decide)) rfl rfl 18 (by decide) (hts (.fieldLink RX4 53 "BlockProgramsModel" "failures" "[I") (by decide +kernel)) (fun _ h9 => h9) (v := .ref (ad 18 0)) rfl dX4_fail_11 ?_
  refine lv_iload_n hx hb dX4_fail_14 rfl (lv_at hl 2 rfl) ?_
  refine lv_dup2_11 hx hb dX4_fail_15 rfl rfl ?_
  refine gw_iald hx hb hK hP 18 0 (rDf (by decide)) 0 rfl rfl (2) rfl (by omega) (by decide) (v := (σ 22 2)) (by simp [wr]) dX4_fail_16 ?_
  refine lv_iconst (v := 1) hx hb dX4_fail_17 (by decide) ?_
  refine lv_iadd hx hb dX4_fail_18 ?_
  refine gw_iast hx hb hK hP hS 18 0 (rDf (by decide)) 0 rfl rfl (2) rfl (by omega) (by decide) dX4_fail_19 ((rEn cI cZ κ (wr (wr σ 22 0 (((σ 22 0) + 1))) 22 2 (((σ 22 2) + 1))) sc ad)) rUs_18 (fun t9 i9 z9 h9 => rU18 _ t9 i9 h9 z9) (fun H locs hP hS => ?_)
  refine lv_iconst (v := 3) hx hb dX4_fail_20 (by decide) ?_
  refine lv_aload_n hx hb dX4_fail_21 rfl (lv_at hl 0 rfl) ?_
  refine gw_get (C := RX4) (T := TX4) (N := 25) hx hb hL4 hown hK hP 0 0 (rDf (by decide)) rfl rfl 19 (by decide) (hts (.fieldLink RX4 116 "BlockProgramsModel" "last" "I") (by decide +kernel)) (fun _ h9 => h9) (v := .int (nI (κ 2))) rfl dX4_fail_22 ?_
  refine lv_bipush (v := 32) hx hb dX4_fail_25 (by decide) ?_
  refine lv_irem hx hb dX4_fail_27 (by decide) ?_
  refine lv_toq (nI ((κ 2) % 32)) (pk_rem (a := κ 2) (d := 32) (by omega) (by decide) (by decide)) ?_
  refine lv_imul hx hb dX4_fail_28 ?_
  refine lv_toq (nI (3 * ((κ 2) % 32))) (pk_mul 3 ((κ 2) % 32)) ?_
  refine lv_istore_n (lv' := [(3, .int (nI (3 * ((κ 2) % 32)))), (0, .ref (ad 0 0)), (1, .int (nI b)), (2, .int (nI 2))]) hx hb dX4_fail_29 rfl hl (by decide) rfl (fun ls hl => ?_)
  refine lv_aload_n hx hb dX4_fail_30 rfl (lv_at hl 1 rfl) ?_
  refine gw_get (C := RX4) (T := TX4) (N := 25) hx hb hL4 hown hK hP 0 0 (rDf (by decide)) rfl rfl 20 (by decide) (hts (.fieldLink RX4 56 "BlockProgramsModel" "kept" "[I") (by decide +kernel)) (fun _ h9 => h9) (v := .ref (ad 20 0)) rfl dX4_fail_31 ?_
  refine lv_iload_n hx hb dX4_fail_34 rfl (lv_at hl 0 rfl) ?_
  refine lv_aload_n hx hb dX4_fail_35 rfl (lv_at hl 1 rfl) ?_
  refine gw_get (C := RX4) (T := TX4) (N := 25) hx hb hL4 hown hK hP 0 0 (rDf (by decide)) rfl rfl 14 (by decide) (hts (.fieldLink RX4 100 "BlockProgramsModel" "time" "I") (by decide +kernel)) (fun _ h9 => h9) (v := .int (nI (κ 3))) rfl dX4_fail_36 ?_
  refine gw_iast hx hb hK hP hS 20 0 (rDf (by decide)) 0 rfl rfl (3 * ((κ 2) % 32)) rfl (by omega) (by decide) dX4_fail_39 ((rEn cI cZ κ (wr (wr (wr σ 22 0 (((σ 22 0) + 1))) 22 2 (((σ 22 2) + 1))) 23 (((κ 2) % 32)) (nI (κ 3))) sc ad)) ((rUs_20 (w := 0) (by decide)).trans rfl) (fun t9 i9 z9 h9 => rU20 (w := 0) (by decide) _ t9 i9 h9 z9) (fun H locs hP hS => ?_)
  refine lv_aload_n hx hb dX4_fail_40 rfl (lv_at hl 1 rfl) ?_
  refine gw_get (C := RX4) (T := TX4) (N := 25) hx hb hL4 hown hK hP 0 0 (rDf (by decide)) rfl rfl 20 (by decide) (hts (.fieldLink RX4 56 "BlockProgramsModel" "kept" "[I") (by decide +kernel)) (fun _ h9 => h9) (v := .ref (ad 20 0)) rfl dX4_fail_41 ?_
  refine lv_iload_n hx hb dX4_fail_44 rfl (lv_at hl 0 rfl) ?_
  refine lv_iconst (v := 1) hx hb dX4_fail_45 (by decide) ?_
  refine lv_iadd hx hb dX4_fail_46 ?_
  refine lv_toq (nI (3 * ((κ 2) % 32) + 1)) (nI_add (3 * ((κ 2) % 32)) 1) ?_
  refine lv_iload_n hx hb dX4_fail_47 rfl (lv_at hl 2 rfl) ?_
  refine gw_iast hx hb hK hP hS 20 0 (rDf (by decide)) 0 rfl rfl (3 * ((κ 2) % 32) + 1) rfl (by omega) (by decide) dX4_fail_48 ((rEn cI cZ κ (wr (wr (wr (wr σ 22 0 (((σ 22 0) + 1))) 22 2 (((σ 22 2) + 1))) 23 (((κ 2) % 32)) (nI (κ 3))) 24 (((κ 2) % 32)) (nI b)) sc ad)) ((rUs_20 (w := 1) (by decide)).trans rfl) (fun t9 i9 z9 h9 => rU20 (w := 1) (by decide) _ t9 i9 h9 z9) (fun H locs hP hS => ?_)
  refine lv_aload_n hx hb dX4_fail_49 rfl (lv_at hl 1 rfl) ?_
  refine gw_get (C := RX4) (T := TX4) (N := 25) hx hb hL4 hown hK hP 0 0 (rDf (by decide)) rfl rfl 20 (by decide) (hts (.fieldLink RX4 56 "BlockProgramsModel" "kept" "[I") (by decide +kernel)) (fun _ h9 => h9) (v := .ref (ad 20 0)) rfl dX4_fail_50 ?_
  refine lv_iload_n hx hb dX4_fail_53 rfl (lv_at hl 0 rfl) ?_
  refine lv_iconst (v := 2) hx hb dX4_fail_54 (by decide) ?_
  refine lv_iadd hx hb dX4_fail_55 ?_
  refine lv_toq (nI (3 * ((κ 2) % 32) + 2)) (nI_add (3 * ((κ 2) % 32)) 2) ?_
  refine lv_iload_n hx hb dX4_fail_56 rfl (lv_at hl 3 rfl) ?_
  refine gw_iast hx hb hK hP hS 20 0 (rDf (by decide)) 0 rfl rfl (3 * ((κ 2) % 32) + 2) rfl (by omega) (by decide) dX4_fail_57 ((rEn cI cZ κ (wr (wr (wr (wr (wr σ 22 0 (((σ 22 0) + 1))) 22 2 (((σ 22 2) + 1))) 23 (((κ 2) % 32)) (nI (κ 3))) 24 (((κ 2) % 32)) (nI b)) 25 (((κ 2) % 32)) (nI 2)) sc ad)) ((rUs_20 (w := 2) (by decide)).trans rfl) (fun t9 i9 z9 h9 => rU20 (w := 2) (by decide) _ t9 i9 h9 z9) (fun H locs hP hS => ?_)
  refine lv_aload_n hx hb dX4_fail_58 rfl (lv_at hl 1 rfl) ?_
  refine lv_dup hx hb dX4_fail_59 rfl ?_
  refine gw_get (C := RX4) (T := TX4) (N := 25) hx hb hL4 hown hK hP 0 0 (rDf (by decide)) rfl rfl 19 (by decide) (hts (.fieldLink RX4 116 "BlockProgramsModel" "last" "I") (by decide +kernel)) (fun _ h9 => h9) (v := .int (nI (κ 2))) rfl dX4_fail_60 ?_
  refine lv_iconst (v := 1) hx hb dX4_fail_63 (by decide) ?_
  refine lv_iadd hx hb dX4_fail_64 ?_
  refine lv_toq (nI (κ 2 + 1)) (nI_add (κ 2) 1) ?_
  refine gw_put (ty := .int) (C := RX4) (T := TX4) (N := 25) hx hb hL4 tyX4 tyX4_ok nmX4 hown hK hP hS 0 0 (rDf (by decide)) rfl rfl 19 (by decide) (hts (.fieldLink RX4 116 "BlockProgramsModel" "last" "I") (by decide +kernel)) (fun _ h9 => h9) rfl (by decide +kernel) rfl rfl (Nat.le_of_ble_eq_true rfl) dX4_fail_65 (rEn cI cZ (va_up κ 2 (κ 2 + 1)) (wr (wr (wr (wr (wr σ 22 0 (((σ 22 0) + 1))) 22 2 (((σ 22 2) + 1))) 23 (((κ 2) % 32)) (nI (κ 3))) 24 (((κ 2) % 32)) (nI b)) 25 (((κ 2) % 32)) (nI 2)) sc ad) (rU0k_19 _) (fun t9 i9 z9 h9 => rU0k (by decide) _ t9 i9 h9 z9) (fun H locs hP hS => ?_)
  have z9 : noteX κ σ (nI (κ 3)) (nI b) 2 22 2 = σ 22 2 := by simp [noteX, wr]
  have eσ : wr (wr (wr (wr (wr σ 22 0 (((σ 22 0) + 1))) 22 2 (((σ 22 2) + 1))) 23 (((κ 2) % 32)) (nI (κ 3))) 24 (((κ 2) % 32)) (nI b)) 25 (((κ 2) % 32)) (nI 2) = noteS κ σ (nI (κ 3)) (nI b) 2 := by unfold noteS; rw [z9]; exact note_comm
  rw [eσ] at hP
  exact W.vret hx hb hr (fun t ht hW => ⟨⟨(), rfl, trivial, by rw [← ht] at hP; exact hP⟩, hS.F ht⟩) hS.2.2 dX4_fail_68

set_option maxHeartbeats 4000000 in
set_option maxRecDepth 100000 in
theorem k_X4_fail_3 {l : Launch} {D : va_G} {cI cZ cB cS : ClassId} {A : Nat → Prop} (κ : Nat → Nat) (σ sc : Nat → Nat → Int32) (ad : Nat → Nat → Nat) (b : Nat) (hb0 : b < κ 0) (hn : κ 0 ≤ 40) (h2 : κ 2 < 2 ^ 31) : Met l yX4_fail wsX4_fail ({ frames := 0, cells := 0, slots := 0, locals := 0 } : Room) (gPc D cI cZ cB cS A rDm (rEn cI cZ κ σ sc ad) ad [.ref (ad 0 0), .int (nI b), .int (nI 3)]) (va_Qv (fun _ : Unit => True) (fun _ t => gw_P D vwCl A rDm (rEn cI cZ (noteK κ) (noteS κ σ (nI (κ 3)) (nI b) 3) sc ad) ad t.heap) A) 0 0 A := by
  refine Met.ofW (cc := cX4_fail) (maxL := 4) (ret := none) (by decide) rfl ?_
  intro p e s m args below meth c s₁ B hml hv
  obtain ⟨rfl, hP, hE, hA⟩ := hv
  have hx := B.exec
  have hb := B.bytes
  have hr := B.returns
  have hts := atoms_spec (ws := wsX4_fail) B.pre
  have hown : s.vm.findClass RX4 = some m.cls := findClass_of_methodNamed B.named
  have hlocks := B.notSynchronized
  have hK := hE.1
  have hS : va_S A s.heap s.heap [] := va_S.rf
  have hL4 := fun w (hw : w ∈ u_ws RX4 TX4 25) => hts w (iL_X4_fail_X4 w hw)
  have hl := lv_entry ([.ref (ad 0 0), .int (nI b), .int (nI 3)]) (n := 4) (Nat.le_of_ble_eq_true rfl)
  rw [lg_entry_eq]
  generalize (lg_sl ([.ref (ad 0 0), .int (nI b), .int (nI 3)]) ++ List.replicate (4 - (lg_sl ([.ref (ad 0 0), .int (nI b), .int (nI 3)])).length) Slot.unset).toArray = ls at hl ⊢
  have hl : lv_has ls 4 [(0, .ref (ad 0 0)), (1, .int (nI b)), (2, .int (nI 3))] := hl
  refine lv_aload_n hx hb dX4_fail_0 rfl (lv_at hl 0 rfl) ?_
  refine gw_get (C := RX4) (T := TX4) (N := 25) hx hb hL4 hown hK hP 0 0 (rDf (by decide)) rfl rfl 18 (by decide) (hts (.fieldLink RX4 53 "BlockProgramsModel" "failures" "[I") (by decide +kernel)) (fun _ h9 => h9) (v := .ref (ad 18 0)) rfl dX4_fail_1 ?_
  refine lv_iconst (v := 0) hx hb dX4_fail_4 (by decide) ?_
  refine lv_dup2_11 hx hb dX4_fail_5 rfl rfl ?_
  refine gw_iald hx hb hK hP 18 0 (rDf (by decide)) 0 rfl rfl (0) rfl (by omega) (by decide) (v := (σ 22 0)) rfl dX4_fail_6 ?_
  refine lv_iconst (v := 1) hx hb dX4_fail_7 (by decide) ?_
  refine lv_iadd hx hb dX4_fail_8 ?_
  refine gw_iast hx hb hK hP hS 18 0 (rDf (by decide)) 0 rfl rfl (0) rfl (by omega) (by decide) dX4_fail_9 ((rEn cI cZ κ (wr σ 22 0 (((σ 22 0) + 1))) sc ad)) rUs_18 (fun t9 i9 z9 h9 => rU18 _ t9 i9 h9 z9) (fun H locs hP hS => ?_)
  refine lv_aload_n hx hb dX4_fail_10 rfl (lv_at hl 0 rfl) ?_
  refine gw_get (C := RX4) (T := TX4) (N := 25) hx hb hL4 hown hK hP 0 0 (rDf (by decide)) rfl rfl 18 (by decide) (hts (.fieldLink RX4 53 "BlockProgramsModel" "failures" "[I") (by decide +kernel)) (fun _ h9 => h9) (v := .ref (ad 18 0)) rfl dX4_fail_11 ?_
  refine lv_iload_n hx hb dX4_fail_14 rfl (lv_at hl 2 rfl) ?_
  refine lv_dup2_11 hx hb dX4_fail_15 rfl rfl ?_
  refine gw_iald hx hb hK hP 18 0 (rDf (by decide)) 0 rfl rfl (3) rfl (by omega) (by decide) (v := (σ 22 3)) (by simp [wr]) dX4_fail_16 ?_
  refine lv_iconst (v := 1) hx hb dX4_fail_17 (by decide) ?_
  refine lv_iadd hx hb dX4_fail_18 ?_
  refine gw_iast hx hb hK hP hS 18 0 (rDf (by decide)) 0 rfl rfl (3) rfl (by omega) (by decide) dX4_fail_19 ((rEn cI cZ κ (wr (wr σ 22 0 (((σ 22 0) + 1))) 22 3 (((σ 22 3) + 1))) sc ad)) rUs_18 (fun t9 i9 z9 h9 => rU18 _ t9 i9 h9 z9) (fun H locs hP hS => ?_)
  refine lv_iconst (v := 3) hx hb dX4_fail_20 (by decide) ?_
  refine lv_aload_n hx hb dX4_fail_21 rfl (lv_at hl 0 rfl) ?_
  refine gw_get (C := RX4) (T := TX4) (N := 25) hx hb hL4 hown hK hP 0 0 (rDf (by decide)) rfl rfl 19 (by decide) (hts (.fieldLink RX4 116 "BlockProgramsModel" "last" "I") (by decide +kernel)) (fun _ h9 => h9) (v := .int (nI (κ 2))) rfl dX4_fail_22 ?_
  refine lv_bipush (v := 32) hx hb dX4_fail_25 (by decide) ?_
  refine lv_irem hx hb dX4_fail_27 (by decide) ?_
  refine lv_toq (nI ((κ 2) % 32)) (pk_rem (a := κ 2) (d := 32) (by omega) (by decide) (by decide)) ?_
  refine lv_imul hx hb dX4_fail_28 ?_
  refine lv_toq (nI (3 * ((κ 2) % 32))) (pk_mul 3 ((κ 2) % 32)) ?_
  refine lv_istore_n (lv' := [(3, .int (nI (3 * ((κ 2) % 32)))), (0, .ref (ad 0 0)), (1, .int (nI b)), (2, .int (nI 3))]) hx hb dX4_fail_29 rfl hl (by decide) rfl (fun ls hl => ?_)
  refine lv_aload_n hx hb dX4_fail_30 rfl (lv_at hl 1 rfl) ?_
  refine gw_get (C := RX4) (T := TX4) (N := 25) hx hb hL4 hown hK hP 0 0 (rDf (by decide)) rfl rfl 20 (by decide) (hts (.fieldLink RX4 56 "BlockProgramsModel" "kept" "[I") (by decide +kernel)) (fun _ h9 => h9) (v := .ref (ad 20 0)) rfl dX4_fail_31 ?_
  refine lv_iload_n hx hb dX4_fail_34 rfl (lv_at hl 0 rfl) ?_
  refine lv_aload_n hx hb dX4_fail_35 rfl (lv_at hl 1 rfl) ?_
  refine gw_get (C := RX4) (T := TX4) (N := 25) hx hb hL4 hown hK hP 0 0 (rDf (by decide)) rfl rfl 14 (by decide) (hts (.fieldLink RX4 100 "BlockProgramsModel" "time" "I") (by decide +kernel)) (fun _ h9 => h9) (v := .int (nI (κ 3))) rfl dX4_fail_36 ?_
  refine gw_iast hx hb hK hP hS 20 0 (rDf (by decide)) 0 rfl rfl (3 * ((κ 2) % 32)) rfl (by omega) (by decide) dX4_fail_39 ((rEn cI cZ κ (wr (wr (wr σ 22 0 (((σ 22 0) + 1))) 22 3 (((σ 22 3) + 1))) 23 (((κ 2) % 32)) (nI (κ 3))) sc ad)) ((rUs_20 (w := 0) (by decide)).trans rfl) (fun t9 i9 z9 h9 => rU20 (w := 0) (by decide) _ t9 i9 h9 z9) (fun H locs hP hS => ?_)
  refine lv_aload_n hx hb dX4_fail_40 rfl (lv_at hl 1 rfl) ?_
  refine gw_get (C := RX4) (T := TX4) (N := 25) hx hb hL4 hown hK hP 0 0 (rDf (by decide)) rfl rfl 20 (by decide) (hts (.fieldLink RX4 56 "BlockProgramsModel" "kept" "[I") (by decide +kernel)) (fun _ h9 => h9) (v := .ref (ad 20 0)) rfl dX4_fail_41 ?_
  refine lv_iload_n hx hb dX4_fail_44 rfl (lv_at hl 0 rfl) ?_
  refine lv_iconst (v := 1) hx hb dX4_fail_45 (by decide) ?_
  refine lv_iadd hx hb dX4_fail_46 ?_
  refine lv_toq (nI (3 * ((κ 2) % 32) + 1)) (nI_add (3 * ((κ 2) % 32)) 1) ?_
  refine lv_iload_n hx hb dX4_fail_47 rfl (lv_at hl 2 rfl) ?_
  refine gw_iast hx hb hK hP hS 20 0 (rDf (by decide)) 0 rfl rfl (3 * ((κ 2) % 32) + 1) rfl (by omega) (by decide) dX4_fail_48 ((rEn cI cZ κ (wr (wr (wr (wr σ 22 0 (((σ 22 0) + 1))) 22 3 (((σ 22 3) + 1))) 23 (((κ 2) % 32)) (nI (κ 3))) 24 (((κ 2) % 32)) (nI b)) sc ad)) ((rUs_20 (w := 1) (by decide)).trans rfl) (fun t9 i9 z9 h9 => rU20 (w := 1) (by decide) _ t9 i9 h9 z9) (fun H locs hP hS => ?_)
  refine lv_aload_n hx hb dX4_fail_49 rfl (lv_at hl 1 rfl) ?_
  refine gw_get (C := RX4) (T := TX4) (N := 25) hx hb hL4 hown hK hP 0 0 (rDf (by decide)) rfl rfl 20 (by decide) (hts (.fieldLink RX4 56 "BlockProgramsModel" "kept" "[I") (by decide +kernel)) (fun _ h9 => h9) (v := .ref (ad 20 0)) rfl dX4_fail_50 ?_
  refine lv_iload_n hx hb dX4_fail_53 rfl (lv_at hl 0 rfl) ?_
  refine lv_iconst (v := 2) hx hb dX4_fail_54 (by decide) ?_
  refine lv_iadd hx hb dX4_fail_55 ?_
  refine lv_toq (nI (3 * ((κ 2) % 32) + 2)) (nI_add (3 * ((κ 2) % 32)) 2) ?_
  refine lv_iload_n hx hb dX4_fail_56 rfl (lv_at hl 3 rfl) ?_
  refine gw_iast hx hb hK hP hS 20 0 (rDf (by decide)) 0 rfl rfl (3 * ((κ 2) % 32) + 2) rfl (by omega) (by decide) dX4_fail_57 ((rEn cI cZ κ (wr (wr (wr (wr (wr σ 22 0 (((σ 22 0) + 1))) 22 3 (((σ 22 3) + 1))) 23 (((κ 2) % 32)) (nI (κ 3))) 24 (((κ 2) % 32)) (nI b)) 25 (((κ 2) % 32)) (nI 3)) sc ad)) ((rUs_20 (w := 2) (by decide)).trans rfl) (fun t9 i9 z9 h9 => rU20 (w := 2) (by decide) _ t9 i9 h9 z9) (fun H locs hP hS => ?_)
  refine lv_aload_n hx hb dX4_fail_58 rfl (lv_at hl 1 rfl) ?_
  refine lv_dup hx hb dX4_fail_59 rfl ?_
  refine gw_get (C := RX4) (T := TX4) (N := 25) hx hb hL4 hown hK hP 0 0 (rDf (by decide)) rfl rfl 19 (by decide) (hts (.fieldLink RX4 116 "BlockProgramsModel" "last" "I") (by decide +kernel)) (fun _ h9 => h9) (v := .int (nI (κ 2))) rfl dX4_fail_60 ?_
  refine lv_iconst (v := 1) hx hb dX4_fail_63 (by decide) ?_
  refine lv_iadd hx hb dX4_fail_64 ?_
  refine lv_toq (nI (κ 2 + 1)) (nI_add (κ 2) 1) ?_
  refine gw_put (ty := .int) (C := RX4) (T := TX4) (N := 25) hx hb hL4 tyX4 tyX4_ok nmX4 hown hK hP hS 0 0 (rDf (by decide)) rfl rfl 19 (by decide) (hts (.fieldLink RX4 116 "BlockProgramsModel" "last" "I") (by decide +kernel)) (fun _ h9 => h9) rfl (by decide +kernel) rfl rfl (Nat.le_of_ble_eq_true rfl) dX4_fail_65 (rEn cI cZ (va_up κ 2 (κ 2 + 1)) (wr (wr (wr (wr (wr σ 22 0 (((σ 22 0) + 1))) 22 3 (((σ 22 3) + 1))) 23 (((κ 2) % 32)) (nI (κ 3))) 24 (((κ 2) % 32)) (nI b)) 25 (((κ 2) % 32)) (nI 3)) sc ad) (rU0k_19 _) (fun t9 i9 z9 h9 => rU0k (by decide) _ t9 i9 h9 z9) (fun H locs hP hS => ?_)
  have z9 : noteX κ σ (nI (κ 3)) (nI b) 3 22 3 = σ 22 3 := by simp [noteX, wr]
  have eσ : wr (wr (wr (wr (wr σ 22 0 (((σ 22 0) + 1))) 22 3 (((σ 22 3) + 1))) 23 (((κ 2) % 32)) (nI (κ 3))) 24 (((κ 2) % 32)) (nI b)) 25 (((κ 2) % 32)) (nI 3) = noteS κ σ (nI (κ 3)) (nI b) 3 := by unfold noteS; rw [z9]; exact note_comm
  rw [eσ] at hP
  exact W.vret hx hb hr (fun t ht hW => ⟨⟨(), rfl, trivial, by rw [← ht] at hP; exact hP⟩, hS.F ht⟩) hS.2.2 dX4_fail_68

