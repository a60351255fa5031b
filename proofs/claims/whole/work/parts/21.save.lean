theorem iL_X2_keep_X0 : ∀ w ∈ u_ws RX0 TX0 11, w ∈ wsX2_keep := by decide +kernel
theorem iL_X2_keep_X2 : ∀ w ∈ u_ws RX2 TX2 5, w ∈ wsX2_keep := by decide +kernel
set_option maxHeartbeats 4000000 in
set_option maxRecDepth 100000 in
theorem k_X2_keep {l : Launch} {D : va_G} {cI cZ cB cS : ClassId} {A : Nat → Prop} (κ : Nat → Nat) (σ sc : Nat → Nat → Int32) (ad : Nat → Nat → Nat) (X0 X10 : va_E) (sv i : Nat) (hsv : sv < κ 1) (hi : i < κ 0) (hn : κ 0 ≤ 40) (hc : κ (10 + sv) = i) : Met l yX2_keep wsX2_keep ({ frames := 0, cells := 0, slots := 0, locals := 0 } : Room) (gPc D cI cZ cB cS A (cDm κ) (ovr 10 X10 (ovr 0 X0 (cEn cI cZ cB cS κ σ sc ad))) ad [.ref (ad 14 sv), .ref (ad 11 i)]) (va_Qv (fun _ : Unit => True) (fun _ t => gw_P D vwCl A (cDm κ) (ovr 10 X10 (ovr 0 X0 (cEn cI cZ cB cS ((va_up κ (10 + sv) (i + 1))) ((keepS σ sv i)) sc ad))) ad t.heap) A) 0 0 A := by
  refine Met.ofW (cc := cX2_keep) (maxL := 2) (ret := none) (by decide) rfl ?_
  intro p e s m args below meth c s₁ B hml hv
  obtain ⟨rfl, hP, hE, hA⟩ := hv
  have hx := B.exec
  have hb := B.bytes
  have hr := B.returns
  have hts := atoms_spec (ws := wsX2_keep) B.pre
  have hown : s.vm.findClass RX2 = some m.cls := findClass_of_methodNamed B.named
  have hlocks := B.notSynchronized
  have hK := hE.1
  have hS : va_S A s.heap s.heap [] := va_S.rf
  have hL0 := fun w (hw : w ∈ u_ws RX0 TX0 11) => hts w (iL_X2_keep_X0 w hw)
  have hL2 := fun w (hw : w ∈ u_ws RX2 TX2 5) => hts w (iL_X2_keep_X2 w hw)
  have hl := lv_entry ([.ref (ad 14 sv), .ref (ad 11 i)]) (n := 2) (Nat.le_of_ble_eq_true rfl)
  rw [lg_entry_eq]
  generalize (lg_sl ([.ref (ad 14 sv), .ref (ad 11 i)]) ++ List.replicate (2 - (lg_sl ([.ref (ad 14 sv), .ref (ad 11 i)])).length) Slot.unset).toArray = ls at hl ⊢
  have hl : lv_has ls 2 [(0, .ref (ad 14 sv)), (1, .ref (ad 11 i))] := hl
  refine lv_aload_n hx hb dX2_keep_0 rfl (lv_at hl 0 rfl) ?_
  refine gw_get (C := RX2) (T := TX2) (N := 5) hx hb hL2 hown hK hP 14 sv (cDs (by omega) (by decide) (by decide)) rfl rfl 0 (by decide) (hts (.fieldLink RX2 9 "BlockPrograms$Saving" "count" "I") (by decide +kernel)) (fun _ h9 => h9) (v := .int (nI i)) (congrArg (fun z : Nat => some (Value.int (nI z))) hc) dX2_keep_1 ?_
  refine lv_bipush (v := 40) hx hb dX2_keep_4 (by decide) ?_
  refine lv_icmp_lt (tgt := 10) hx hb dX2_keep_6 (by decide) (fun c_1 => ?_) (fun c_1 => ?_)
  · have c_1 : i < 40 := (nI_ltI (a := i) (b := 40) (by omega) (by omega)).mp c_1
    refine lv_aload_n hx hb dX2_keep_10 rfl (lv_at hl 0 rfl) ?_
    refine gw_get (C := RX2) (T := TX2) (N := 5) hx hb hL2 hown hK hP 14 sv (cDs (by omega) (by decide) (by decide)) rfl rfl 1 (by decide) (hts (.fieldLink RX2 15 "BlockPrograms$Saving" "kinds" "[I") (by decide +kernel)) (fun _ h9 => h9) (v := .ref (ad 15 sv)) rfl dX2_keep_11 ?_
    refine lv_aload_n hx hb dX2_keep_14 rfl (lv_at hl 0 rfl) ?_
    refine gw_get (C := RX2) (T := TX2) (N := 5) hx hb hL2 hown hK hP 14 sv (cDs (by omega) (by decide) (by decide)) rfl rfl 0 (by decide) (hts (.fieldLink RX2 9 "BlockPrograms$Saving" "count" "I") (by decide +kernel)) (fun _ h9 => h9) (v := .int (nI i)) (congrArg (fun z : Nat => some (Value.int (nI z))) hc) dX2_keep_15 ?_
    refine lv_aload_n hx hb dX2_keep_18 rfl (lv_at hl 1 rfl) ?_
    refine gw_get (C := RX0) (T := TX0) (N := 11) hx hb hL0 hown hK hP 11 i (cDb (by omega) (by decide) (by decide)) rfl rfl 0 (by decide) (hts (.fieldLink RX2 28 "BlockPrograms$Block" "kind" "I") (by decide +kernel)) (fun _ h9 => h9) (v := .int ((σ 0 i))) rfl dX2_keep_19 ?_
    refine gw_iast hx hb hK hP hS 15 sv (cDs (by omega) (by decide) (by decide)) 0 rfl rfl (i) rfl (by omega) (by decide) dX2_keep_22 ((ovr 10 X10 (ovr 0 X0 (cEn cI cZ cB cS κ (wr σ 30 (40 * sv + i) ((σ 0 i))) sc ad)))) ((ovr_n (by decide)).trans (((ovr_n (by decide)).trans ((cU15s (by omega) _))))) (ovr2 (ovr2 (fun t9 i9 z9 h9 => cU15 (by omega) _ t9 i9 z9 h9))) (fun H locs hP hS => ?_)
    refine lv_aload_n hx hb dX2_keep_23 rfl (lv_at hl 0 rfl) ?_
    refine gw_get (C := RX2) (T := TX2) (N := 5) hx hb hL2 hown hK hP 14 sv (cDs (by omega) (by decide) (by decide)) rfl rfl 2 (by decide) (hts (.fieldLink RX2 19 "BlockPrograms$Saving" "outputs" "[I") (by decide +kernel)) (fun _ h9 => h9) (v := .ref (ad 16 sv)) rfl dX2_keep_24 ?_
    refine lv_aload_n hx hb dX2_keep_27 rfl (lv_at hl 0 rfl) ?_
    refine gw_get (C := RX2) (T := TX2) (N := 5) hx hb hL2 hown hK hP 14 sv (cDs (by omega) (by decide) (by decide)) rfl rfl 0 (by decide) (hts (.fieldLink RX2 9 "BlockPrograms$Saving" "count" "I") (by decide +kernel)) (fun _ h9 => h9) (v := .int (nI i)) (congrArg (fun z : Nat => some (Value.int (nI z))) hc) dX2_keep_28 ?_
    refine lv_aload_n hx hb dX2_keep_31 rfl (lv_at hl 1 rfl) ?_
    refine gw_get (C := RX0) (T := TX0) (N := 11) hx hb hL0 hown hK hP 11 i (cDb (by omega) (by decide) (by decide)) rfl rfl 4 (by decide) (hts (.fieldLink RX2 33 "BlockPrograms$Block" "output" "I") (by decide +kernel)) (fun _ h9 => h9) (v := .int ((σ 4 i))) (by simp [wr, va_up]) dX2_keep_32 ?_
    refine gw_iast hx hb hK hP hS 16 sv (cDs (by omega) (by decide) (by decide)) 0 rfl rfl (i) rfl (by omega) (by decide) dX2_keep_35 ((ovr 10 X10 (ovr 0 X0 (cEn cI cZ cB cS κ (wr (wr σ 30 (40 * sv + i) ((σ 0 i))) 31 (40 * sv + i) ((σ 4 i))) sc ad)))) ((ovr_n (by decide)).trans (((ovr_n (by decide)).trans ((cU16s (by omega) _))))) (ovr2 (ovr2 (fun t9 i9 z9 h9 => cU16 (by omega) _ t9 i9 z9 h9))) (fun H locs hP hS => ?_)
    refine lv_aload_n hx hb dX2_keep_36 rfl (lv_at hl 0 rfl) ?_
    refine gw_get (C := RX2) (T := TX2) (N := 5) hx hb hL2 hown hK hP 14 sv (cDs (by omega) (by decide) (by decide)) rfl rfl 3 (by decide) (hts (.fieldLink RX2 22 "BlockPrograms$Saving" "firsts" "[I") (by decide +kernel)) (fun _ h9 => h9) (v := .ref (ad 17 sv)) rfl dX2_keep_37 ?_
    refine lv_aload_n hx hb dX2_keep_40 rfl (lv_at hl 0 rfl) ?_
    refine gw_get (C := RX2) (T := TX2) (N := 5) hx hb hL2 hown hK hP 14 sv (cDs (by omega) (by decide) (by decide)) rfl rfl 0 (by decide) (hts (.fieldLink RX2 9 "BlockPrograms$Saving" "count" "I") (by decide +kernel)) (fun _ h9 => h9) (v := .int (nI i)) (congrArg (fun z : Nat => some (Value.int (nI z))) hc) dX2_keep_41 ?_
    refine lv_aload_n hx hb dX2_keep_44 rfl (lv_at hl 1 rfl) ?_
    refine gw_get (C := RX0) (T := TX0) (N := 11) hx hb hL0 hown hK hP 11 i (cDb (by omega) (by decide) (by decide)) rfl rfl 5 (by decide) (hts (.fieldLink RX2 36 "BlockPrograms$Block" "first" "I") (by decide +kernel)) (fun _ h9 => h9) (v := .int ((σ 5 i))) (by simp [wr, va_up]) dX2_keep_45 ?_
    refine gw_iast hx hb hK hP hS 17 sv (cDs (by omega) (by decide) (by decide)) 0 rfl rfl (i) rfl (by omega) (by decide) dX2_keep_48 ((ovr 10 X10 (ovr 0 X0 (cEn cI cZ cB cS κ (wr (wr (wr σ 30 (40 * sv + i) ((σ 0 i))) 31 (40 * sv + i) ((σ 4 i))) 32 (40 * sv + i) ((σ 5 i))) sc ad)))) ((ovr_n (by decide)).trans (((ovr_n (by decide)).trans ((cU17s (by omega) _))))) (ovr2 (ovr2 (fun t9 i9 z9 h9 => cU17 (by omega) _ t9 i9 z9 h9))) (fun H locs hP hS => ?_)
    refine lv_aload_n hx hb dX2_keep_49 rfl (lv_at hl 0 rfl) ?_
    refine gw_get (C := RX2) (T := TX2) (N := 5) hx hb hL2 hown hK hP 14 sv (cDs (by omega) (by decide) (by decide)) rfl rfl 4 (by decide) (hts (.fieldLink RX2 25 "BlockPrograms$Saving" "seconds" "[I") (by decide +kernel)) (fun _ h9 => h9) (v := .ref (ad 18 sv)) rfl dX2_keep_50 ?_
    refine lv_aload_n hx hb dX2_keep_53 rfl (lv_at hl 0 rfl) ?_
    refine gw_get (C := RX2) (T := TX2) (N := 5) hx hb hL2 hown hK hP 14 sv (cDs (by omega) (by decide) (by decide)) rfl rfl 0 (by decide) (hts (.fieldLink RX2 9 "BlockPrograms$Saving" "count" "I") (by decide +kernel)) (fun _ h9 => h9) (v := .int (nI i)) (congrArg (fun z : Nat => some (Value.int (nI z))) hc) dX2_keep_54 ?_
    refine lv_aload_n hx hb dX2_keep_57 rfl (lv_at hl 1 rfl) ?_
    refine gw_get (C := RX0) (T := TX0) (N := 11) hx hb hL0 hown hK hP 11 i (cDb (by omega) (by decide) (by decide)) rfl rfl 6 (by decide) (hts (.fieldLink RX2 39 "BlockPrograms$Block" "second" "I") (by decide +kernel)) (fun _ h9 => h9) (v := .int ((σ 6 i))) (by simp [wr, va_up]) dX2_keep_58 ?_
    refine gw_iast hx hb hK hP hS 18 sv (cDs (by omega) (by decide) (by decide)) 0 rfl rfl (i) rfl (by omega) (by decide) dX2_keep_61 ((ovr 10 X10 (ovr 0 X0 (cEn cI cZ cB cS κ (wr (wr (wr (wr σ 30 (40 * sv + i) ((σ 0 i))) 31 (40 * sv + i) ((σ 4 i))) 32 (40 * sv + i) ((σ 5 i))) 33 (40 * sv + i) ((σ 6 i))) sc ad)))) ((ovr_n (by decide)).trans (((ovr_n (by decide)).trans ((cU18s (by omega) _))))) (ovr2 (ovr2 (fun t9 i9 z9 h9 => cU18 (by omega) _ t9 i9 z9 h9))) (fun H locs hP hS => ?_)
    refine lv_aload_n hx hb dX2_keep_62 rfl (lv_at hl 0 rfl) ?_
    refine lv_dup hx hb dX2_keep_63 rfl ?_
    refine gw_get (C := RX2) (T := TX2) (N := 5) hx hb hL2 hown hK hP 14 sv (cDs (by omega) (by decide) (by decide)) rfl rfl 0 (by decide) (hts (.fieldLink RX2 9 "BlockPrograms$Saving" "count" "I") (by decide +kernel)) (fun _ h9 => h9) (v := .int (nI i)) (congrArg (fun z : Nat => some (Value.int (nI z))) hc) dX2_keep_64 ?_
    refine lv_iconst (v := 1) hx hb dX2_keep_67 (by decide) ?_
    refine lv_iadd hx hb dX2_keep_68 ?_
    refine lv_toq (nI (i + 1)) (nI_add i 1) ?_
    refine gw_put (ty := .int) (C := RX2) (T := TX2) (N := 5) hx hb hL2 tyX2 tyX2_ok nmX2 hown hK hP hS 14 sv (cDs (by omega) (by decide) (by decide)) rfl rfl 0 (by decide) (hts (.fieldLink RX2 9 "BlockPrograms$Saving" "count" "I") (by decide +kernel)) (fun _ h9 => h9) rfl (by decide +kernel) rfl rfl (Nat.le_of_ble_eq_true rfl) dX2_keep_69 (ovr 10 X10 (ovr 0 X0 (cEn cI cZ cB cS (va_up κ (10 + sv) (i + 1)) (wr (wr (wr (wr σ 30 (40 * sv + i) ((σ 0 i))) 31 (40 * sv + i) ((σ 4 i))) 32 (40 * sv + i) ((σ 5 i))) 33 (40 * sv + i) ((σ 6 i))) sc ad))) (((ovr_n (by decide)).trans (((ovr_n (by decide)).trans cU14s)))) (ovr2 (ovr2 (fun t9 i9 z9 h9 => cU14 t9 i9 z9 h9))) (fun H locs hP hS => ?_)
    have eσ : wr (wr (wr (wr σ 30 (40 * sv + i) ((σ 0 i))) 31 (40 * sv + i) ((σ 4 i))) 32 (40 * sv + i) ((σ 5 i))) 33 (40 * sv + i) ((σ 6 i)) = keepS σ sv i := rfl
    exact W.vret hx hb hr (fun t ht hW => ⟨⟨(), rfl, trivial, by rw [← ht] at hP; exact hP⟩, hS.F ht⟩) hS.2.2 dX2_keep_72
  · have c_1 : ¬ (i < 40) := fun z => c_1 ((nI_ltI (a := i) (b := 40) (by omega) (by omega)).mpr z)
    exfalso; omega

theorem iWIS_X3_save : ∀ w ∈ g_wIS, w ∈ wsX3_save := by decide +kernel
theorem iL_X3_save_X3 : ∀ w ∈ u_ws RX3 TX3 9, w ∈ wsX3_save := by decide +kernel
set_option maxHeartbeats 4000000 in
set_option maxRecDepth 100000 in
theorem k_X3_save {l : Launch} {D : va_G} {cI cZ cB cS : ClassId} {A : Nat → Prop} (κ : Nat → Nat) (σ sc : Nat → Nat → Int32) (ad : Nat → Nat → Nat) (hst : l.stackTraces = false) (hn : κ 0 ≤ 40) (h1 : κ 1 ≤ 5) (hz : ∀ f k, 30 ≤ f → f < 34 → k < 40 → σ f (40 * κ 1 + k) = 0) (hz0 : κ (10 + κ 1) = 0) : vx_Met l yX3_save wsX3_save ({ frames := 6, cells := 5, slots := 165, locals := 90 } : Room) (gPc D cI cZ cB cS A (cDm κ) (cEn cI cZ cB cS κ σ sc ad) ad [.ref (ad 0 0)]) (va_Qi (fun (r : Int32) (u : Nat → Nat → Nat) => cSave κ = 0 ∧ r = nI (κ 1) ∧ u 0 0 = ad 0 0) (fun u t => gw_P D vwCl A (cDm (svK κ (κ 0))) (cEn cI cZ cB cS (svK κ (κ 0)) (svS σ (κ 1) (κ 0)) sc u) u t.heap) A) (vx_X (fun _ : Unit => True) (fun E _ t => gw_P D vwCl A (cDm κ) (cEn cI cZ cB cS κ σ sc ad) ad t.heap ∧ (E = g_IS ∧ cSave κ = 1)) A) 5 165 A := by
  refine vx_ofW (cc := cX3_save) (maxL := 3) (ret := (some .int)) (by decide) rfl ?_
  intro p e s m args below meth c s₁ B hml htab hv
  obtain ⟨rfl, hP, hE, hA⟩ := hv
  have hx := B.exec
  have hb := B.bytes
  have hr := B.returns
  have hts := atoms_spec (ws := wsX3_save) B.pre
  have hown : s.vm.findClass RX3 = some m.cls := findClass_of_methodNamed B.named
  have hlocks := B.notSynchronized
  have hK := hE.1
  have hS : va_S A s.heap s.heap [] := va_S.rf
  have hL3 := fun w (hw : w ∈ u_ws RX3 TX3 9) => hts w (iL_X3_save_X3 w hw)
  have hl := lv_entry ([.ref (ad 0 0)]) (n := 3) (Nat.le_of_ble_eq_true rfl)
  rw [lg_entry_eq]
  generalize (lg_sl ([.ref (ad 0 0)]) ++ List.replicate (3 - (lg_sl ([.ref (ad 0 0)])).length) Slot.unset).toArray = ls at hl ⊢
  have hl : lv_has ls 3 [(0, .ref (ad 0 0))] := hl
  refine lv_aload_n hx hb dX3_save_0 rfl (lv_at hl 0 rfl) ?_
  refine gw_get (C := RX3) (T := TX3) (N := 9) hx hb hL3 hown hK hP 0 0 (cDf (by decide)) rfl rfl 8 (by decide) (hts (.fieldLink RX3 46 "BlockPrograms" "savingCount" "I") (by decide +kernel)) (fun _ h9 => h9) (v := .int (nI (κ 1))) rfl dX3_save_1 ?_
  refine lv_iconst (v := 5) hx hb dX3_save_4 (by decide) ?_
  refine lv_icmp_lt (tgt := 18) hx hb dX3_save_5 (by decide) (fun c_1 => ?_) (fun c_1 => ?_)
  · have c_1 : κ 1 < 5 := (nI_ltI (a := κ 1) (b := 5) (by omega) (by omega)).mp c_1
    have hbA : ∀ q : Nat, s.heap.size ≤ q → A q := hA
    refine gl_new (ci := 2) (fs := [.int 0, .null, .null, .null, .null]) (C := RX2) (T := TX2) (N := 5) hx hb hts (by decide +kernel) tyX2 tyX2_ok hown (hts (.classLink RX3 40 RX2) (by decide +kernel)) (hts (.instantiable RX2 5) (by decide +kernel)) (hts (.initialized RX2) (by decide +kernel)) hK hS rfl (fun j hj => by rcases (show j = 0 ∨ j = 1 ∨ j = 2 ∨ j = 3 ∨ j = 4 by omega) with rfl | rfl | rfl | rfl | rfl <;> rfl) (Nat.le_of_ble_eq_true rfl) (Nat.le_of_ble_eq_true rfl) dX3_save_18 (fun H1 hN1 hk1 hz1 hS => ?_)
    have hlt : ∀ t i : Nat, i < cDm κ t → ad t i < s.heap.size := fun t i h => hP.lt h
    have hP : gw_P D vwCl A (cDm κ) (cEn cI cZ cB cS κ σ sc ad) ad H1 := hP.kept (fun t i h => hk1 _ (hlt t i h))
    obtain ⟨b, eqb⟩ : ∃ z, z = s.heap.size := ⟨_, rfl⟩
    rw [← eqb] at hN1 hk1 hz1 hlt hbA ⊢
    refine lv_dup hx hb dX3_save_21 rfl ?_
    refine va_callv (va_runIN (As := []) (rest := [.ref b]) ⟨hx, hb, hml, hown, hts⟩ (k_X2_init (l := l) (D := D) (cI := cI) (cZ := cZ) (cB := cB) (cS := cS) b) ⟨va_cnB 0 hts gX3_save_X2_init_n153 rfl rfl rfl hE.2.2.2.2.1.2.2.2.2 (hts (.initialized RX2) (by decide +kernel)) (by decide +kernel) ⟨Nat.le_of_ble_eq_true rfl, Nat.le_of_ble_eq_true rfl⟩, rfl, hts (.instanceMethod yX2_init) (by decide +kernel)⟩ (gPreI hE hS hN1 hbA) rfl rfl hl.1 rfl (lv_room (Nat.le_of_ble_eq_true rfl)) dX3_save_22 ⟨Nat.le_of_ble_eq_true rfl, Nat.le_of_ble_eq_true rfl⟩) hS (fun q _ h9 => hbA q h9) (fun q h9 => hbA q h9) (fun u t H2 locs ht hvm hw hB9 hz2 hk2 hS => ?_)
    obtain ⟨hPn, hDn⟩ := hB9
    rw [ht] at hPn
    have hP : gw_P D vwCl A (cDm κ) (cEn cI cZ cB cS κ σ sc ad) ad H2 := hP.kept (fun t i h => hk2 _ (by rw [hz1]; exact Nat.lt_succ_of_lt (hlt t i h)) (Nat.not_le.mpr (hlt t i h)))
    refine lv_astore_n (lv' := [(1, .ref b), (0, .ref (ad 0 0))]) hx hb dX3_save_25 rfl hl (by decide) rfl (fun ls hl => ?_)
    have hP := cGrowS hz hz0 hP hPn hDn hlt hbA
    rw [← svK_z hz0] at hP
    have eb : b = (adS ad (κ 1) b (u 1) (u 2) (u 3) (u 4)) 14 (κ 1) := adS_14.symm
    have hl : lv_has ls 3 [(1, .ref ((adS ad (κ 1) b (u 1) (u 2) (u 3) (u 4)) 14 ((κ 1)))), (0, .ref ((adS ad (κ 1) b (u 1) (u 2) (u 3) (u 4)) 0 0))] := by rw [← eb]; exact hl
    have hP : gw_P D vwCl A (cDm ((svK κ 0))) (ovr 10 (cEn cI cZ cB cS κ σ sc ad 10 0) (ovr 0 (cEn cI cZ cB cS κ σ sc (adS ad (κ 1) b (u 1) (u 2) (u 3) (u 4)) 0 0) (cEn cI cZ cB cS ((svK κ 0)) ((svS σ (κ 1) 0)) sc (adS ad (κ 1) b (u 1) (u 2) (u 3) (u 4))))) (adS ad (κ 1) b (u 1) (u 2) (u 3) (u 4)) _ := hP
    refine lv_iconst (v := 0) hx hb dX3_save_26 (by decide) ?_
    refine lv_istore_n (lv' := [(2, .int 0), (1, .ref ((adS ad (κ 1) b (u 1) (u 2) (u 3) (u 4)) 14 ((κ 1)))), (0, .ref ((adS ad (κ 1) b (u 1) (u 2) (u 3) (u 4)) 0 0))]) hx hb dX3_save_27 rfl hl (by decide) rfl (fun ls hl => ?_)
    refine lv_loop (fun kk H locs ls => ∃ i : Nat, kk = (κ 0) - i ∧ i ≤ κ 0 ∧ gw_P D vwCl A (cDm ((svK κ i))) (ovr 10 (cEn cI cZ cB cS κ σ sc ad 10 0) (ovr 0 (cEn cI cZ cB cS κ σ sc (adS ad (κ 1) b (u 1) (u 2) (u 3) (u 4)) 0 0) (cEn cI cZ cB cS ((svK κ i)) ((svS σ (κ 1) i)) sc (adS ad (κ 1) b (u 1) (u 2) (u 3) (u 4))))) (adS ad (κ 1) b (u 1) (u 2) (u 3) (u 4)) H ∧ va_S A s.heap H locs ∧ lv_has ls 3 [(0, .ref ((adS ad (κ 1) b (u 1) (u 2) (u 3) (u 4)) 0 0)), (1, .ref ((adS ad (κ 1) b (u 1) (u 2) (u 3) (u 4)) 14 ((κ 1)))), (2, .int (nI i))]) (fun kk H locs ls hI ih => ?_) ((κ 0) - 0) ⟨0, rfl, by omega, hP, hS, lv_sub hl [2, 1, 0] rfl⟩
    obtain ⟨i, hk_28, hi_28, hP, hS, hl⟩ := hI
    have k0 : svK κ i 0 = κ 0 := svK_k (by decide) (by omega)
    have k1 : svK κ i 1 = κ 1 + 1 := svK_1
    refine lv_iload_n hx hb dX3_save_28 rfl (lv_at hl 2 rfl) ?_
    refine lv_aload_n hx hb dX3_save_29 rfl (lv_at hl 0 rfl) ?_
    refine gw_get (C := RX3) (T := TX3) (N := 9) hx hb hL3 hown hK hP 0 0 (cDf (by decide)) rfl rfl 1 (by decide) (hts (.fieldLink RX3 15 "BlockPrograms" "count" "I") (by decide +kernel)) (fun _ h9 => h9) (v := .int (nI (κ 0))) rfl dX3_save_30 ?_
    refine lv_icmp_ge (tgt := 52) hx hb dX3_save_33 (by decide) (fun c_2 => ?_) (fun c_2 => ?_)
    · have c_2 : κ 0 ≤ i := (nI_leI (a := κ 0) (b := i) (by omega) (by omega)).mp c_2
      have ei : i = κ 0 := by omega
      rw [ei] at hP
      refine lv_aload_n hx hb dX3_save_52 rfl (lv_at hl 0 rfl) ?_
      refine gw_get (C := RX3) (T := TX3) (N := 9) hx hb hL3 hown hK hP 0 0 (cDf (by decide)) rfl rfl 7 (by decide) (hts (.fieldLink RX3 42 "BlockPrograms" "savings" "[LBlockPrograms$Saving;") (by decide +kernel)) (fun _ h9 => h9) (v := .ref ((adS ad (κ 1) b (u 1) (u 2) (u 3) (u 4)) 10 0)) rfl dX3_save_53 ?_
      refine lv_aload_n hx hb dX3_save_56 rfl (lv_at hl 0 rfl) ?_
      refine gw_get (C := RX3) (T := TX3) (N := 9) hx hb hL3 hown hK hP 0 0 (cDf (by decide)) rfl rfl 8 (by decide) (hts (.fieldLink RX3 46 "BlockPrograms" "savingCount" "I") (by decide +kernel)) (fun _ h9 => h9) (v := .int (nI (κ 1))) rfl dX3_save_57 ?_
      refine lv_aload_n hx hb dX3_save_60 rfl (lv_at hl 1 rfl) ?_
      have hv9 : va_at D vwCl ((adS ad (κ 1) b (u 1) (u 2) (u 3) (u 4)) 14 (κ 1), .inr (2, [.int (nI ((svK κ (κ 0)) (10 + κ 1))), .ref ((adS ad (κ 1) b (u 1) (u 2) (u 3) (u 4)) 15 (κ 1)), .ref ((adS ad (κ 1) b (u 1) (u 2) (u 3) (u 4)) 16 (κ 1)), .ref ((adS ad (κ 1) b (u 1) (u 2) (u 3) (u 4)) 17 (κ 1)), .ref ((adS ad (κ 1) b (u 1) (u 2) (u 3) (u 4)) 18 (κ 1))])) _ := hP.1 14 (κ 1) (cDs (by rw [svK_1]; omega) (by decide) (by decide))
      refine gw_aast hx hb hK hP hS 10 rfl 3 rfl rfl hv9 rfl (κ 1) rfl (by omega) (by decide) dX3_save_61 (fun H locs hP hq3 hS => ?_)
      have hP := cSaved (κe := (svK κ (κ 0))) svK_1 hP (fun _ => rfl)
      refine lv_aload_n hx hb dX3_save_62 rfl (lv_at hl 0 rfl) ?_
      refine lv_dup hx hb dX3_save_63 rfl ?_
      refine gw_get (C := RX3) (T := TX3) (N := 9) hx hb hL3 hown hK hP 0 0 (cDf (by decide)) rfl rfl 8 (by decide) (hts (.fieldLink RX3 46 "BlockPrograms" "savingCount" "I") (by decide +kernel)) (fun _ h9 => h9) (v := .int (nI (κ 1))) rfl dX3_save_64 ?_
      refine lv_iconst (v := 1) hx hb dX3_save_67 (by decide) ?_
      refine lv_iadd hx hb dX3_save_68 ?_
      refine lv_toq (nI (κ 1 + 1)) (nI_add (κ 1) 1) ?_
      refine gw_put (ty := .int) (C := RX3) (T := TX3) (N := 9) hx hb hL3 tyX3 tyX3_ok nmX3 hown hK hP hS 0 0 (cDf (by decide)) rfl rfl 8 (by decide) (hts (.fieldLink RX3 46 "BlockPrograms" "savingCount" "I") (by decide +kernel)) (fun _ h9 => h9) rfl (by decide +kernel) rfl rfl (Nat.le_of_ble_eq_true rfl) dX3_save_69 (cEn cI cZ cB cS ((svK κ (κ 0))) ((svS σ (κ 1) (κ 0))) sc (adS ad (κ 1) b (u 1) (u 2) (u 3) (u 4))) (by simp only [cEn]; rw [svK_1, svK_k (k := 0) (by decide) (by omega), svK_k (k := 3) (by decide) (by omega)]; rfl) (fun t9 i9 z9 h9 => (ovr_n (fun q => h9 ⟨q, by subst q; exact Nat.lt_one_iff.mp z9⟩)).symm) (fun H locs hP hS => ?_)
      refine lv_aload_n hx hb dX3_save_72 rfl (lv_at hl 0 rfl) ?_
      refine gw_get (C := RX3) (T := TX3) (N := 9) hx hb hL3 hown hK hP 0 0 (cDf (by decide)) rfl rfl 8 (by decide) (hts (.fieldLink RX3 46 "BlockPrograms" "savingCount" "I") (by decide +kernel)) (fun _ h9 => h9) (v := .int (nI (κ 1 + 1))) (congrArg (fun z : Nat => some (Value.int (nI z))) svK_1) dX3_save_73 ?_
      refine lv_iconst (v := 1) hx hb dX3_save_76 (by decide) ?_
      refine lv_isub hx hb dX3_save_77 ?_
      refine lv_toq (nI (κ 1 + 1 - 1)) (pk_sub (a := κ 1 + 1) (b := 1) (by omega)) ?_
      refine vx_ret ?_
      refine W.widen (k := 5) (n := 165) (Nat.le_of_ble_eq_true rfl) (Nat.le_of_ble_eq_true rfl) ?_
      exact W.iret (v := nI (κ 1 + 1 - 1)) hx hb hr (fun t ht hW => ⟨⟨_, (adS ad (κ 1) b (u 1) (u 2) (u 3) (u 4)), rfl, ⟨by unfold cSave; exact if_neg (by omega), by rw [Nat.add_sub_cancel], rfl⟩, by rw [← ht] at hP; exact hP⟩, hS.F ht⟩) hS.2.2 dX3_save_78
    · have c_2 : ¬ (κ 0 ≤ i) := fun z => c_2 ((nI_leI (a := κ 0) (b := i) (by omega) (by omega)).mpr z)
      refine lv_aload_n hx hb dX3_save_36 rfl (lv_at hl 1 rfl) ?_
      refine lv_aload_n hx hb dX3_save_37 rfl (lv_at hl 0 rfl) ?_
      refine gw_get (C := RX3) (T := TX3) (N := 9) hx hb hL3 hown hK hP 0 0 (cDf (by decide)) rfl rfl 0 (by decide) (hts (.fieldLink RX3 11 "BlockPrograms" "blocks" "[LBlockPrograms$Block;") (by decide +kernel)) (fun _ h9 => h9) (v := .ref ((adS ad (κ 1) b (u 1) (u 2) (u 3) (u 4)) 1 0)) rfl dX3_save_38 ?_
      refine lv_iload_n hx hb dX3_save_41 rfl (lv_at hl 2 rfl) ?_
      refine gw_aald hx hb hK hP 1 0 (cDf (by decide)) 2 rfl rfl (i) rfl (by omega) (by decide) (a := ad 11 i) (if_pos (by omega)) dX3_save_42 ?_
      have k0 : svK κ i 0 = κ 0 := svK_k (by decide) (by omega)
      refine va_callv (va_runV (As := [.ref ((adS ad (κ 1) b (u 1) (u 2) (u 3) (u 4)) 11 i)]) (rest := []) ⟨hx, hb, hml, hown, hts⟩ (k_X2_keep (l := l) (D := D) (cI := cI) (cZ := cZ) (cB := cB) (cS := cS) (A := A) (svK κ i) (svS σ (κ 1) i) sc (adS ad (κ 1) b (u 1) (u 2) (u 3) (u 4)) (cEn cI cZ cB cS κ σ sc (adS ad (κ 1) b (u 1) (u 2) (u 3) (u 4)) 0 0) (cEn cI cZ cB cS κ σ sc ad 10 0) (κ 1) i (by rw [svK_1]; omega) (by omega) (by omega) svK_s) (cwV 1 hts gX3_save_X2_keep rfl rfl rfl (by decide +kernel) ⟨Nat.le_of_ble_eq_true rfl, Nat.le_of_ble_eq_true rfl⟩) (gPreV hE hA hS hP (gw_recv hK hP 14 ((κ 1)) (cDs (by omega) (by decide) (by decide)) rfl rfl)) rfl rfl hl.1 rfl (lv_room (Nat.le_of_ble_eq_true rfl)) dX3_save_43 ⟨Nat.le_of_ble_eq_true rfl, Nat.le_of_ble_eq_true rfl⟩) hS (fun q _ h9 => h9) (fun q h9 => h9) (fun u9 t9 H locs ht9 hvm9 hw_3 hB9 hz9 hk9 hS => ?_)
      have hP : gw_P D vwCl A (cDm (svK κ i)) (ovr 10 (cEn cI cZ cB cS κ σ sc ad 10 0) (ovr 0 (cEn cI cZ cB cS κ σ sc (adS ad (κ 1) b (u 1) (u 2) (u 3) (u 4)) 0 0) (cEn cI cZ cB cS ((va_up (svK κ i) (10 + κ 1) (i + 1))) ((keepS (svS σ (κ 1) i) (κ 1) i)) sc (adS ad (κ 1) b (u 1) (u 2) (u 3) (u 4))))) (adS ad (κ 1) b (u 1) (u 2) (u 3) (u 4)) H := by rw [← ht9]; exact hB9
      refine lv_iinc (v := nI (i + 1)) (lv' := [(2, .int (nI (i + 1))), (0, .ref ((adS ad (κ 1) b (u 1) (u 2) (u 3) (u 4)) 0 0)), (1, .ref ((adS ad (κ 1) b (u 1) (u 2) (u 3) (u 4)) 14 ((κ 1))))]) hx hb dX3_save_46 hl (k := 2) rfl (nI_add i 1) (by decide) rfl (fun ls hl => ?_)
      refine lv_goto (tgt := 28) hx hb dX3_save_49 (by decide) ?_
      rw [svK_up, svK_dm (i := i) (j := i + 1)] at hP
      exact ih _ _ _ _ (by omega) ⟨i + 1, rfl, by omega, hP, hS, lv_sub hl [1, 2, 0] rfl⟩
  · have c_1 : ¬ (κ 1 < 5) := fun z => c_1 ((nI_ltI (a := κ 1) (b := 5) (by omega) (by omega)).mpr z)
    exact gx_IS hx hb hst 151 "there are 5 savings" (by decide) hown (fun w h => hts w (iWIS_X3_save w h)) hE hS (hl.1.trans hml.symm) dX3_save_8 dX3_save_11 dX3_save_12 dX3_save_14 dX3_save_17 htab (Nat.le_of_ble_eq_true rfl) (Nat.le_of_ble_eq_true rfl) (Nat.le_of_ble_eq_true rfl) (Nat.le_of_ble_eq_true rfl) hlocks (fun t8 hv8 hz8 hk8 => ⟨(), trivial, ⟨hP.kept (fun t9 i9 h9 => hk8 _ (hP.lt h9)), ⟨rfl, by unfold cSave; exact if_pos (by omega)⟩⟩, ⟨Nat.le_trans hS.1 hz8, fun q h1 h2 => (hk8 q (Nat.lt_of_lt_of_le h1 hS.1)).trans (hS.2.1 q h1 h2)⟩⟩) hS.2.2 (Nat.le_of_ble_eq_true rfl) (Nat.le_of_ble_eq_true rfl)

