theorem iL_X4_numbers_X4 : ∀ w ∈ u_ws RX4 TX4 25, w ∈ wsX4_numbers := by decide +kernel
set_option maxHeartbeats 4000000 in
set_option maxRecDepth 100000 in
theorem k_X4_numbers {l : Launch} {D : va_G} {cI cZ cB cS : ClassId} {A : Nat → Prop} (κ : Nat → Nat) (σ sc : Nat → Nat → Int32) (ad : Nat → Nat → Nat) (hn : κ 0 ≤ 40) (y0 y1 y2 : Int32) : Met l yX4_numbers wsX4_numbers ({ frames := 2, cells := 0, slots := 0, locals := 43 } : Room) (gPc D cI cZ cB cS A rDm (rEn cI cZ κ σ sc ad) ad [.ref (ad 0 0), .int y0, .int y1, .int y2]) (va_Qv (fun (u : Nat → Nat → Int32) => u 2 0 = nI (cOne (κ 0) y0)) (fun u t => gw_P D vwCl A rDm (rEn cI cZ κ ((if cOne (κ 0) y0 = 0 then wr (wr σ 1 y0.toNatClampNeg y1) 2 y0.toNatClampNeg y2 else σ)) u ad) ad t.heap) A) 0 0 A := by
  refine Met.ofW (cc := cX4_numbers) (maxL := 4) (ret := none) (by decide) rfl ?_
  intro p e s m args below meth c s₁ B hml hv
  obtain ⟨rfl, hP, hE, hA⟩ := hv
  have hx := B.exec
  have hb := B.bytes
  have hr := B.returns
  have hts := atoms_spec (ws := wsX4_numbers) B.pre
  have hown : s.vm.findClass RX4 = some m.cls := findClass_of_methodNamed B.named
  have hlocks := B.notSynchronized
  have hK := hE.1
  have hS : va_S A s.heap s.heap [] := va_S.rf
  have hL4 := fun w (hw : w ∈ u_ws RX4 TX4 25) => hts w (iL_X4_numbers_X4 w hw)
  have hl := lv_entry ([.ref (ad 0 0), .int y0, .int y1, .int y2]) (n := 4) (Nat.le_of_ble_eq_true rfl)
  rw [lg_entry_eq]
  generalize (lg_sl ([.ref (ad 0 0), .int y0, .int y1, .int y2]) ++ List.replicate (4 - (lg_sl ([.ref (ad 0 0), .int y0, .int y1, .int y2])).length) Slot.unset).toArray = ls at hl ⊢
  have hl : lv_has ls 4 [(0, .ref (ad 0 0)), (1, .int y0), (2, .int y1), (3, .int y2)] := hl
  refine lv_aload_n hx hb dX4_numbers_0 rfl (lv_at hl 0 rfl) ?_
  refine lv_aload_n hx hb dX4_numbers_1 rfl (lv_at hl 0 rfl) ?_
  refine lv_iload_n hx hb dX4_numbers_2 rfl (lv_at hl 1 rfl) ?_
  refine va_calli (va_runV (As := [.int y0]) (rest := [.ref (ad 0 0)]) ⟨hx, hb, hml, hown, hts⟩ (k_X4_isBlock (l := l) (D := D) (cI := cI) (cZ := cZ) (cB := cB) (cS := cS) (A := A) κ σ sc ad hn y0) (cwV 1 hts gX4_numbers_X4_isBlock rfl rfl rfl (by decide +kernel) ⟨Nat.le_of_ble_eq_true rfl, Nat.le_of_ble_eq_true rfl⟩) (gPreV hE hA hS hP (gw_recv hK hP 0 0 (rDf (by decide)) rfl rfl)) rfl rfl hl.1 rfl (lv_room (Nat.le_of_ble_eq_true rfl)) dX4_numbers_3 ⟨Nat.le_of_ble_eq_true rfl, Nat.le_of_ble_eq_true rfl⟩) hS (fun q _ h9 => h9) (fun q h9 => h9) (fun r_1 u9 t9 H locs ht9 hvm9 hw_r_1 hB9 hz9 hk9 hS => ?_)
  have hP : gw_P D vwCl A rDm (rEn cI cZ κ σ sc ad) ad H := by rw [← ht9]; exact hB9
  refine lv_toq ((if okI (κ 0) y0 then 1 else 0)) hw_r_1 ?_
  refine lv_if_eq (tgt := 13) hx hb dX4_numbers_6 (by decide) (fun c_2 => ?_) (fun c_2 => ?_)
  · refine lv_iconst (v := 1) hx hb dX4_numbers_13 (by decide) ?_
    refine gw_put (ty := .int) (C := RX4) (T := TX4) (N := 25) hx hb hL4 tyX4 tyX4_ok nmX4 hown hK hP hS 0 0 (rDf (by decide)) rfl rfl 0 (by decide) (hts (.fieldLink RX4 65 "BlockProgramsModel" "code" "I") (by decide +kernel)) (fun _ h9 => h9) rfl (by decide +kernel) rfl rfl (Nat.le_of_ble_eq_true rfl) dX4_numbers_14 (rEn cI cZ κ σ (wr sc 2 0 1) ad) (rU0s_0 _) (fun t9 i9 z9 h9 => rU0 _ _ t9 i9 h9 z9) (fun H locs hP hS => ?_)
    refine lv_aload_n hx hb dX4_numbers_17 rfl (lv_at hl 0 rfl) ?_
    refine gw_get (C := RX4) (T := TX4) (N := 25) hx hb hL4 hown hK hP 0 0 (rDf (by decide)) rfl rfl 0 (by decide) (hts (.fieldLink RX4 65 "BlockProgramsModel" "code" "I") (by decide +kernel)) (fun _ h9 => h9) (v := .int 1) (by simp [wr, va_up]) dX4_numbers_18 ?_
    refine lv_if_ne (tgt := 38) hx hb dX4_numbers_21 (by decide) (fun c_3 => ?_) (fun c_3 => ?_)
    · have c_3 : ¬ (1 = 0) := fun z => c_3 ((nI_eq (a := 1) (b := 0) (by omega) (by omega)).mpr z)
      have hcr : cOne (κ 0) y0 = 1 := if_neg (lp_f c_2)
      exact W.vret hx hb hr (fun t ht hW => ⟨⟨wr sc 2 0 1, rfl, (by rw [hcr]; exact wr_s), by rw [if_neg (show ¬ cOne (κ 0) y0 = 0 by rw [hcr]; decide)]; rw [← ht] at hP; exact hP⟩, hS.F ht⟩) hS.2.2 dX4_numbers_38
    · have c_3 : 1 = 0 := (nI_eq (a := 1) (b := 0) (by omega) (by omega)).mp c_3
      exfalso; omega
  · refine lv_iconst (v := 0) hx hb dX4_numbers_9 (by decide) ?_
    refine lv_goto (tgt := 14) hx hb dX4_numbers_10 (by decide) ?_
    refine gw_put (ty := .int) (C := RX4) (T := TX4) (N := 25) hx hb hL4 tyX4 tyX4_ok nmX4 hown hK hP hS 0 0 (rDf (by decide)) rfl rfl 0 (by decide) (hts (.fieldLink RX4 65 "BlockProgramsModel" "code" "I") (by decide +kernel)) (fun _ h9 => h9) rfl (by decide +kernel) rfl rfl (Nat.le_of_ble_eq_true rfl) dX4_numbers_14 (rEn cI cZ κ σ (wr sc 2 0 0) ad) (rU0s_0 _) (fun t9 i9 z9 h9 => rU0 _ _ t9 i9 h9 z9) (fun H locs hP hS => ?_)
    refine lv_aload_n hx hb dX4_numbers_17 rfl (lv_at hl 0 rfl) ?_
    refine gw_get (C := RX4) (T := TX4) (N := 25) hx hb hL4 hown hK hP 0 0 (rDf (by decide)) rfl rfl 0 (by decide) (hts (.fieldLink RX4 65 "BlockProgramsModel" "code" "I") (by decide +kernel)) (fun _ h9 => h9) (v := .int 0) (by simp [wr, va_up]) dX4_numbers_18 ?_
    refine lv_if_ne (tgt := 38) hx hb dX4_numbers_21 (by decide) (fun c_4 => ?_) (fun c_4 => ?_)
    · have c_4 : ¬ (0 = 0) := fun z => c_4 ((nI_eq (a := 0) (b := 0) (by omega) (by omega)).mpr z)
      exfalso; omega
    · have c_4 : 0 = 0 := (nI_eq (a := 0) (b := 0) (by omega) (by omega)).mp c_4
      have ok_j := lp_t c_2
      obtain ⟨j, hj, ej⟩ := ix_of (n := κ 0) (by omega) ok_j.1 ok_j.2
      have ecj : y0.toNatClampNeg = j := by rw [ej, nI_clamp (by omega)]
      rw [ej] at hl
      refine lv_aload_n hx hb dX4_numbers_24 rfl (lv_at hl 0 rfl) ?_
      refine gw_get (C := RX4) (T := TX4) (N := 25) hx hb hL4 hown hK hP 0 0 (rDf (by decide)) rfl rfl 3 (by decide) (hts (.fieldLink RX4 13 "BlockProgramsModel" "ps" "[I") (by decide +kernel)) (fun _ h9 => h9) (v := .ref (ad 3 0)) rfl dX4_numbers_25 ?_
      refine lv_iload_n hx hb dX4_numbers_28 rfl (lv_at hl 1 rfl) ?_
      refine lv_iload_n hx hb dX4_numbers_29 rfl (lv_at hl 2 rfl) ?_
      refine gw_iast hx hb hK hP hS 3 0 (rDf (by decide)) 0 rfl rfl (j) rfl (by omega) (by decide) dX4_numbers_30 ((rEn cI cZ κ (wr σ 1 j y1) (wr sc 2 0 0) ad)) rUs_3 (fun t9 i9 z9 h9 => rU3 _ t9 i9 h9 z9) (fun H locs hP hS => ?_)
      refine lv_aload_n hx hb dX4_numbers_31 rfl (lv_at hl 0 rfl) ?_
      refine gw_get (C := RX4) (T := TX4) (N := 25) hx hb hL4 hown hK hP 0 0 (rDf (by decide)) rfl rfl 4 (by decide) (hts (.fieldLink RX4 16 "BlockProgramsModel" "qs" "[I") (by decide +kernel)) (fun _ h9 => h9) (v := .ref (ad 4 0)) rfl dX4_numbers_32 ?_
      refine lv_iload_n hx hb dX4_numbers_35 rfl (lv_at hl 1 rfl) ?_
      refine lv_iload_n hx hb dX4_numbers_36 rfl (lv_at hl 3 rfl) ?_
      refine gw_iast hx hb hK hP hS 4 0 (rDf (by decide)) 0 rfl rfl (j) rfl (by omega) (by decide) dX4_numbers_37 ((rEn cI cZ κ (wr (wr σ 1 j y1) 2 j y2) (wr sc 2 0 0) ad)) rUs_4 (fun t9 i9 z9 h9 => rU4 _ t9 i9 h9 z9) (fun H locs hP hS => ?_)
      have hcr : cOne (κ 0) y0 = 0 := if_pos ok_j
      exact W.vret hx hb hr (fun t ht hW => ⟨⟨wr sc 2 0 0, rfl, (by rw [hcr]; exact wr_s), by rw [if_pos hcr, ecj]; rw [← ht] at hP; exact hP⟩, hS.F ht⟩) hS.2.2 dX4_numbers_38

theorem iL_X4_safe_X4 : ∀ w ∈ u_ws RX4 TX4 25, w ∈ wsX4_safe := by decide +kernel
set_option maxHeartbeats 4000000 in
set_option maxRecDepth 100000 in
theorem k_X4_safe {l : Launch} {D : va_G} {cI cZ cB cS : ClassId} {A : Nat → Prop} (κ : Nat → Nat) (σ sc : Nat → Nat → Int32) (ad : Nat → Nat → Nat) (hn : κ 0 ≤ 40) (y0 y1 : Int32) : Met l yX4_safe wsX4_safe ({ frames := 2, cells := 0, slots := 0, locals := 43 } : Room) (gPc D cI cZ cB cS A rDm (rEn cI cZ κ σ sc ad) ad [.ref (ad 0 0), .int y0, .int y1]) (va_Qi (fun (r : Int32) (u : Nat → Nat → Int32) => u 2 0 = nI (cOne (κ 0) y0) ∧ (cOne (κ 0) y0 = 0 → r = σ 3 y0.toNatClampNeg)) (fun u t => gw_P D vwCl A rDm (rEn cI cZ κ ((if cOne (κ 0) y0 = 0 then wr σ 3 y0.toNatClampNeg y1 else σ)) u ad) ad t.heap) A) 0 0 A := by
  refine Met.ofW (cc := cX4_safe) (maxL := 4) (ret := (some .int)) (by decide) rfl ?_
  intro p e s m args below meth c s₁ B hml hv
  obtain ⟨rfl, hP, hE, hA⟩ := hv
  have hx := B.exec
  have hb := B.bytes
  have hr := B.returns
  have hts := atoms_spec (ws := wsX4_safe) B.pre
  have hown : s.vm.findClass RX4 = some m.cls := findClass_of_methodNamed B.named
  have hlocks := B.notSynchronized
  have hK := hE.1
  have hS : va_S A s.heap s.heap [] := va_S.rf
  have hL4 := fun w (hw : w ∈ u_ws RX4 TX4 25) => hts w (iL_X4_safe_X4 w hw)
  have hl := lv_entry ([.ref (ad 0 0), .int y0, .int y1]) (n := 4) (Nat.le_of_ble_eq_true rfl)
  rw [lg_entry_eq]
  generalize (lg_sl ([.ref (ad 0 0), .int y0, .int y1]) ++ List.replicate (4 - (lg_sl ([.ref (ad 0 0), .int y0, .int y1])).length) Slot.unset).toArray = ls at hl ⊢
  have hl : lv_has ls 4 [(0, .ref (ad 0 0)), (1, .int y0), (2, .int y1)] := hl
  refine lv_aload_n hx hb dX4_safe_0 rfl (lv_at hl 0 rfl) ?_
  refine lv_aload_n hx hb dX4_safe_1 rfl (lv_at hl 0 rfl) ?_
  refine lv_iload_n hx hb dX4_safe_2 rfl (lv_at hl 1 rfl) ?_
  refine va_calli (va_runV (As := [.int y0]) (rest := [.ref (ad 0 0)]) ⟨hx, hb, hml, hown, hts⟩ (k_X4_isBlock (l := l) (D := D) (cI := cI) (cZ := cZ) (cB := cB) (cS := cS) (A := A) κ σ sc ad hn y0) (cwV 1 hts gX4_safe_X4_isBlock rfl rfl rfl (by decide +kernel) ⟨Nat.le_of_ble_eq_true rfl, Nat.le_of_ble_eq_true rfl⟩) (gPreV hE hA hS hP (gw_recv hK hP 0 0 (rDf (by decide)) rfl rfl)) rfl rfl hl.1 rfl (lv_room (Nat.le_of_ble_eq_true rfl)) dX4_safe_3 ⟨Nat.le_of_ble_eq_true rfl, Nat.le_of_ble_eq_true rfl⟩) hS (fun q _ h9 => h9) (fun q h9 => h9) (fun r_1 u9 t9 H locs ht9 hvm9 hw_r_1 hB9 hz9 hk9 hS => ?_)
  have hP : gw_P D vwCl A rDm (rEn cI cZ κ σ sc ad) ad H := by rw [← ht9]; exact hB9
  refine lv_toq ((if okI (κ 0) y0 then 1 else 0)) hw_r_1 ?_
  refine lv_if_eq (tgt := 13) hx hb dX4_safe_6 (by decide) (fun c_2 => ?_) (fun c_2 => ?_)
  · refine lv_iconst (v := 1) hx hb dX4_safe_13 (by decide) ?_
    refine gw_put (ty := .int) (C := RX4) (T := TX4) (N := 25) hx hb hL4 tyX4 tyX4_ok nmX4 hown hK hP hS 0 0 (rDf (by decide)) rfl rfl 0 (by decide) (hts (.fieldLink RX4 65 "BlockProgramsModel" "code" "I") (by decide +kernel)) (fun _ h9 => h9) rfl (by decide +kernel) rfl rfl (Nat.le_of_ble_eq_true rfl) dX4_safe_14 (rEn cI cZ κ σ (wr sc 2 0 1) ad) (rU0s_0 _) (fun t9 i9 z9 h9 => rU0 _ _ t9 i9 h9 z9) (fun H locs hP hS => ?_)
    refine lv_aload_n hx hb dX4_safe_17 rfl (lv_at hl 0 rfl) ?_
    refine gw_get (C := RX4) (T := TX4) (N := 25) hx hb hL4 hown hK hP 0 0 (rDf (by decide)) rfl rfl 0 (by decide) (hts (.fieldLink RX4 65 "BlockProgramsModel" "code" "I") (by decide +kernel)) (fun _ h9 => h9) (v := .int 1) (by simp [wr, va_up]) dX4_safe_18 ?_
    refine lv_if_le (tgt := 26) hx hb dX4_safe_21 (by decide) (fun c_3 => ?_) (fun c_3 => ?_)
    · have c_3 : 1 ≤ 0 := (nI_leI (a := 1) (b := 0) (by omega) (by omega)).mp c_3
      exfalso; omega
    · have c_3 : ¬ (1 ≤ 0) := fun z => c_3 ((nI_leI (a := 1) (b := 0) (by omega) (by omega)).mpr z)
      refine lv_iconst (v := 0) hx hb dX4_safe_24 (by decide) ?_
      have hcr : cOne (κ 0) y0 = 1 := if_neg (lp_f c_2)
      exact W.iret (v := 0) hx hb hr (fun t ht hW => ⟨⟨0, wr sc 2 0 1, rfl, ⟨by rw [hcr]; exact wr_s, fun z => absurd (hcr.symm.trans z) (by decide)⟩, by rw [if_neg (show ¬ cOne (κ 0) y0 = 0 by rw [hcr]; decide)]; rw [← ht] at hP; exact hP⟩, hS.F ht⟩) hS.2.2 dX4_safe_25
  · refine lv_iconst (v := 0) hx hb dX4_safe_9 (by decide) ?_
    refine lv_goto (tgt := 14) hx hb dX4_safe_10 (by decide) ?_
    refine gw_put (ty := .int) (C := RX4) (T := TX4) (N := 25) hx hb hL4 tyX4 tyX4_ok nmX4 hown hK hP hS 0 0 (rDf (by decide)) rfl rfl 0 (by decide) (hts (.fieldLink RX4 65 "BlockProgramsModel" "code" "I") (by decide +kernel)) (fun _ h9 => h9) rfl (by decide +kernel) rfl rfl (Nat.le_of_ble_eq_true rfl) dX4_safe_14 (rEn cI cZ κ σ (wr sc 2 0 0) ad) (rU0s_0 _) (fun t9 i9 z9 h9 => rU0 _ _ t9 i9 h9 z9) (fun H locs hP hS => ?_)
    refine lv_aload_n hx hb dX4_safe_17 rfl (lv_at hl 0 rfl) ?_
    refine gw_get (C := RX4) (T := TX4) (N := 25) hx hb hL4 hown hK hP 0 0 (rDf (by decide)) rfl rfl 0 (by decide) (hts (.fieldLink RX4 65 "BlockProgramsModel" "code" "I") (by decide +kernel)) (fun _ h9 => h9) (v := .int 0) (by simp [wr, va_up]) dX4_safe_18 ?_
    refine lv_if_le (tgt := 26) hx hb dX4_safe_21 (by decide) (fun c_4 => ?_) (fun c_4 => ?_)
    · have c_4 : 0 ≤ 0 := (nI_leI (a := 0) (b := 0) (by omega) (by omega)).mp c_4
      have ok_j := lp_t c_2
      obtain ⟨j, hj, ej⟩ := ix_of (n := κ 0) (by omega) ok_j.1 ok_j.2
      have ecj : y0.toNatClampNeg = j := by rw [ej, nI_clamp (by omega)]
      rw [ej] at hl
      refine lv_aload_n hx hb dX4_safe_26 rfl (lv_at hl 0 rfl) ?_
      refine gw_get (C := RX4) (T := TX4) (N := 25) hx hb hL4 hown hK hP 0 0 (rDf (by decide)) rfl rfl 5 (by decide) (hts (.fieldLink RX4 19 "BlockProgramsModel" "safes" "[I") (by decide +kernel)) (fun _ h9 => h9) (v := .ref (ad 5 0)) rfl dX4_safe_27 ?_
      refine lv_iload_n hx hb dX4_safe_30 rfl (lv_at hl 1 rfl) ?_
      refine gw_iald hx hb hK hP 5 0 (rDf (by decide)) 0 rfl rfl (j) rfl (by omega) (by decide) (v := (σ 3 j)) rfl dX4_safe_31 ?_
      refine lv_istore_n (lv' := [(3, .int ((σ 3 j))), (0, .ref (ad 0 0)), (1, .int (nI j)), (2, .int y1)]) hx hb dX4_safe_32 rfl hl (by decide) rfl (fun ls hl => ?_)
      refine lv_aload_n hx hb dX4_safe_33 rfl (lv_at hl 1 rfl) ?_
      refine gw_get (C := RX4) (T := TX4) (N := 25) hx hb hL4 hown hK hP 0 0 (rDf (by decide)) rfl rfl 5 (by decide) (hts (.fieldLink RX4 19 "BlockProgramsModel" "safes" "[I") (by decide +kernel)) (fun _ h9 => h9) (v := .ref (ad 5 0)) rfl dX4_safe_34 ?_
      refine lv_iload_n hx hb dX4_safe_37 rfl (lv_at hl 2 rfl) ?_
      refine lv_iload_n hx hb dX4_safe_38 rfl (lv_at hl 3 rfl) ?_
      refine gw_iast hx hb hK hP hS 5 0 (rDf (by decide)) 0 rfl rfl (j) rfl (by omega) (by decide) dX4_safe_39 ((rEn cI cZ κ (wr σ 3 j y1) (wr sc 2 0 0) ad)) rUs_5 (fun t9 i9 z9 h9 => rU5 _ t9 i9 h9 z9) (fun H locs hP hS => ?_)
      refine lv_iload_n hx hb dX4_safe_40 rfl (lv_at hl 0 rfl) ?_
      have hcr : cOne (κ 0) y0 = 0 := if_pos ok_j
      exact W.iret (v := (σ 3 j)) hx hb hr (fun t ht hW => ⟨⟨((σ 3 j)), wr sc 2 0 0, rfl, ⟨by rw [hcr]; exact wr_s, fun _ => by rw [ecj]⟩, by rw [if_pos hcr, ecj]; rw [← ht] at hP; exact hP⟩, hS.F ht⟩) hS.2.2 dX4_safe_41
    · have c_4 : ¬ (0 ≤ 0) := fun z => c_4 ((nI_leI (a := 0) (b := 0) (by omega) (by omega)).mpr z)
      exfalso; omega

theorem iL_X4_hand_X4 : ∀ w ∈ u_ws RX4 TX4 25, w ∈ wsX4_hand := by decide +kernel
set_option maxHeartbeats 4000000 in
set_option maxRecDepth 100000 in
theorem k_X4_hand {l : Launch} {D : va_G} {cI cZ cB cS : ClassId} {A : Nat → Prop} (κ : Nat → Nat) (σ sc : Nat → Nat → Int32) (ad : Nat → Nat → Nat) (hn : κ 0 ≤ 40) (h7 : ∀ i, i < κ 0 → narrow .boolean (.int (σ 7 i)) = .int (σ 7 i)) (y0 y1 y2 : Int32) (hz1 : narrow .boolean (.int y1) = .int y1) : Met l yX4_hand wsX4_hand ({ frames := 2, cells := 0, slots := 0, locals := 43 } : Room) (gPc D cI cZ cB cS A rDm (rEn cI cZ κ σ sc ad) ad [.ref (ad 0 0), .int y0, .int y1, .int y2]) (va_Qi (fun (r : Int32) (u : Nat → Nat → Int32) => u 2 0 = nI (cOne (κ 0) y0) ∧ (cOne (κ 0) y0 = 0 → r = σ 7 y0.toNatClampNeg)) (fun u t => gw_P D vwCl A rDm (rEn cI cZ κ ((if cOne (κ 0) y0 = 0 then wr (wr σ 7 y0.toNatClampNeg y1) 8 y0.toNatClampNeg y2 else σ)) u ad) ad t.heap) A) 0 0 A := by
  refine Met.ofW (cc := cX4_hand) (maxL := 5) (ret := (some .boolean)) (by decide) rfl ?_
  intro p e s m args below meth c s₁ B hml hv
  obtain ⟨rfl, hP, hE, hA⟩ := hv
  have hx := B.exec
  have hb := B.bytes
  have hr := B.returns
  have hts := atoms_spec (ws := wsX4_hand) B.pre
  have hown : s.vm.findClass RX4 = some m.cls := findClass_of_methodNamed B.named
  have hlocks := B.notSynchronized
  have hK := hE.1
  have hS : va_S A s.heap s.heap [] := va_S.rf
  have hL4 := fun w (hw : w ∈ u_ws RX4 TX4 25) => hts w (iL_X4_hand_X4 w hw)
  have hl := lv_entry ([.ref (ad 0 0), .int y0, .int y1, .int y2]) (n := 5) (Nat.le_of_ble_eq_true rfl)
  rw [lg_entry_eq]
  generalize (lg_sl ([.ref (ad 0 0), .int y0, .int y1, .int y2]) ++ List.replicate (5 - (lg_sl ([.ref (ad 0 0), .int y0, .int y1, .int y2])).length) Slot.unset).toArray = ls at hl ⊢
  have hl : lv_has ls 5 [(0, .ref (ad 0 0)), (1, .int y0), (2, .int y1), (3, .int y2)] := hl
  refine lv_aload_n hx hb dX4_hand_0 rfl (lv_at hl 0 rfl) ?_
  refine lv_aload_n hx hb dX4_hand_1 rfl (lv_at hl 0 rfl) ?_
  refine lv_iload_n hx hb dX4_hand_2 rfl (lv_at hl 1 rfl) ?_
  refine va_calli (va_runV (As := [.int y0]) (rest := [.ref (ad 0 0)]) ⟨hx, hb, hml, hown, hts⟩ (k_X4_isBlock (l := l) (D := D) (cI := cI) (cZ := cZ) (cB := cB) (cS := cS) (A := A) κ σ sc ad hn y0) (cwV 1 hts gX4_hand_X4_isBlock rfl rfl rfl (by decide +kernel) ⟨Nat.le_of_ble_eq_true rfl, Nat.le_of_ble_eq_true rfl⟩) (gPreV hE hA hS hP (gw_recv hK hP 0 0 (rDf (by decide)) rfl rfl)) rfl rfl hl.1 rfl (lv_room (Nat.le_of_ble_eq_true rfl)) dX4_hand_3 ⟨Nat.le_of_ble_eq_true rfl, Nat.le_of_ble_eq_true rfl⟩) hS (fun q _ h9 => h9) (fun q h9 => h9) (fun r_1 u9 t9 H locs ht9 hvm9 hw_r_1 hB9 hz9 hk9 hS => ?_)
  have hP : gw_P D vwCl A rDm (rEn cI cZ κ σ sc ad) ad H := by rw [← ht9]; exact hB9
  refine lv_toq ((if okI (κ 0) y0 then 1 else 0)) hw_r_1 ?_
  refine lv_if_eq (tgt := 13) hx hb dX4_hand_6 (by decide) (fun c_2 => ?_) (fun c_2 => ?_)
  · refine lv_iconst (v := 1) hx hb dX4_hand_13 (by decide) ?_
    refine gw_put (ty := .int) (C := RX4) (T := TX4) (N := 25) hx hb hL4 tyX4 tyX4_ok nmX4 hown hK hP hS 0 0 (rDf (by decide)) rfl rfl 0 (by decide) (hts (.fieldLink RX4 65 "BlockProgramsModel" "code" "I") (by decide +kernel)) (fun _ h9 => h9) rfl (by decide +kernel) rfl rfl (Nat.le_of_ble_eq_true rfl) dX4_hand_14 (rEn cI cZ κ σ (wr sc 2 0 1) ad) (rU0s_0 _) (fun t9 i9 z9 h9 => rU0 _ _ t9 i9 h9 z9) (fun H locs hP hS => ?_)
    refine lv_aload_n hx hb dX4_hand_17 rfl (lv_at hl 0 rfl) ?_
    refine gw_get (C := RX4) (T := TX4) (N := 25) hx hb hL4 hown hK hP 0 0 (rDf (by decide)) rfl rfl 0 (by decide) (hts (.fieldLink RX4 65 "BlockProgramsModel" "code" "I") (by decide +kernel)) (fun _ h9 => h9) (v := .int 1) (by simp [wr, va_up]) dX4_hand_18 ?_
    refine lv_if_le (tgt := 26) hx hb dX4_hand_21 (by decide) (fun c_3 => ?_) (fun c_3 => ?_)
    · have c_3 : 1 ≤ 0 := (nI_leI (a := 1) (b := 0) (by omega) (by omega)).mp c_3
      exfalso; omega
    · have c_3 : ¬ (1 ≤ 0) := fun z => c_3 ((nI_leI (a := 1) (b := 0) (by omega) (by omega)).mpr z)
      refine lv_iconst (v := 0) hx hb dX4_hand_24 (by decide) ?_
      have hcr : cOne (κ 0) y0 = 1 := if_neg (lp_f c_2)
      exact W.zret (v := 0) (ty := .boolean) hx hb hr rfl (fun t ht hW => ⟨⟨0, wr sc 2 0 1, rfl, ⟨by rw [hcr]; exact wr_s, fun z => absurd (hcr.symm.trans z) (by decide)⟩, by rw [if_neg (show ¬ cOne (κ 0) y0 = 0 by rw [hcr]; decide)]; rw [← ht] at hP; exact hP⟩, hS.F ht⟩) hS.2.2 dX4_hand_25
  · refine lv_iconst (v := 0) hx hb dX4_hand_9 (by decide) ?_
    refine lv_goto (tgt := 14) hx hb dX4_hand_10 (by decide) ?_
    refine gw_put (ty := .int) (C := RX4) (T := TX4) (N := 25) hx hb hL4 tyX4 tyX4_ok nmX4 hown hK hP hS 0 0 (rDf (by decide)) rfl rfl 0 (by decide) (hts (.fieldLink RX4 65 "BlockProgramsModel" "code" "I") (by decide +kernel)) (fun _ h9 => h9) rfl (by decide +kernel) rfl rfl (Nat.le_of_ble_eq_true rfl) dX4_hand_14 (rEn cI cZ κ σ (wr sc 2 0 0) ad) (rU0s_0 _) (fun t9 i9 z9 h9 => rU0 _ _ t9 i9 h9 z9) (fun H locs hP hS => ?_)
    refine lv_aload_n hx hb dX4_hand_17 rfl (lv_at hl 0 rfl) ?_
    refine gw_get (C := RX4) (T := TX4) (N := 25) hx hb hL4 hown hK hP 0 0 (rDf (by decide)) rfl rfl 0 (by decide) (hts (.fieldLink RX4 65 "BlockProgramsModel" "code" "I") (by decide +kernel)) (fun _ h9 => h9) (v := .int 0) (by simp [wr, va_up]) dX4_hand_18 ?_
    refine lv_if_le (tgt := 26) hx hb dX4_hand_21 (by decide) (fun c_4 => ?_) (fun c_4 => ?_)
    · have c_4 : 0 ≤ 0 := (nI_leI (a := 0) (b := 0) (by omega) (by omega)).mp c_4
      have ok_j := lp_t c_2
      obtain ⟨j, hj, ej⟩ := ix_of (n := κ 0) (by omega) ok_j.1 ok_j.2
      have ecj : y0.toNatClampNeg = j := by rw [ej, nI_clamp (by omega)]
      rw [ej] at hl
      refine lv_aload_n hx hb dX4_hand_26 rfl (lv_at hl 0 rfl) ?_
      refine gw_get (C := RX4) (T := TX4) (N := 25) hx hb hL4 hown hK hP 0 0 (rDf (by decide)) rfl rfl 11 (by decide) (hts (.fieldLink RX4 37 "BlockProgramsModel" "inHand" "[Z") (by decide +kernel)) (fun _ h9 => h9) (v := .ref (ad 11 0)) rfl dX4_hand_27 ?_
      refine lv_iload_n hx hb dX4_hand_30 rfl (lv_at hl 1 rfl) ?_
      refine gw_zald hx hb hK hP 11 0 (rDf (by decide)) 1 rfl rfl (j) rfl (by omega) (by decide) (v := (σ 7 j)) rfl dX4_hand_31 ?_
      refine lv_istore (lv' := [(4, .int ((σ 7 j))), (0, .ref (ad 0 0)), (1, .int (nI j)), (2, .int y1), (3, .int y2)]) hx hb dX4_hand_32 hl (by decide) rfl (fun ls hl => ?_)
      refine lv_aload_n hx hb dX4_hand_34 rfl (lv_at hl 1 rfl) ?_
      refine gw_get (C := RX4) (T := TX4) (N := 25) hx hb hL4 hown hK hP 0 0 (rDf (by decide)) rfl rfl 11 (by decide) (hts (.fieldLink RX4 37 "BlockProgramsModel" "inHand" "[Z") (by decide +kernel)) (fun _ h9 => h9) (v := .ref (ad 11 0)) rfl dX4_hand_35 ?_
      refine lv_iload_n hx hb dX4_hand_38 rfl (lv_at hl 2 rfl) ?_
      refine lv_iload_n hx hb dX4_hand_39 rfl (lv_at hl 3 rfl) ?_
      refine gw_zast hx hb hK hP hS 11 0 (rDf (by decide)) 1 rfl rfl (j) rfl (by omega) (by decide) hz1 dX4_hand_40 ((rEn cI cZ κ (wr σ 7 j y1) (wr sc 2 0 0) ad)) rUs_11 (fun t9 i9 z9 h9 => rU11 _ t9 i9 h9 z9) (fun H locs hP hS => ?_)
      refine lv_aload_n hx hb dX4_hand_41 rfl (lv_at hl 1 rfl) ?_
      refine gw_get (C := RX4) (T := TX4) (N := 25) hx hb hL4 hown hK hP 0 0 (rDf (by decide)) rfl rfl 12 (by decide) (hts (.fieldLink RX4 41 "BlockProgramsModel" "hands" "[I") (by decide +kernel)) (fun _ h9 => h9) (v := .ref (ad 12 0)) rfl dX4_hand_42 ?_
      refine lv_iload_n hx hb dX4_hand_45 rfl (lv_at hl 2 rfl) ?_
      refine lv_iload_n hx hb dX4_hand_46 rfl (lv_at hl 4 rfl) ?_
      refine gw_iast hx hb hK hP hS 12 0 (rDf (by decide)) 0 rfl rfl (j) rfl (by omega) (by decide) dX4_hand_47 ((rEn cI cZ κ (wr (wr σ 7 j y1) 8 j y2) (wr sc 2 0 0) ad)) rUs_12 (fun t9 i9 z9 h9 => rU12 _ t9 i9 h9 z9) (fun H locs hP hS => ?_)
      refine lv_iload hx hb dX4_hand_48 (lv_at hl 0 rfl) ?_
      have hcr : cOne (κ 0) y0 = 0 := if_pos ok_j
      exact W.zret (v := (σ 7 j)) (ty := .boolean) hx hb hr (h7 j hj) (fun t ht hW => ⟨⟨((σ 7 j)), wr sc 2 0 0, rfl, ⟨by rw [hcr]; exact wr_s, fun _ => by rw [ecj]⟩, by rw [if_pos hcr, ecj]; rw [← ht] at hP; exact hP⟩, hS.F ht⟩) hS.2.2 dX4_hand_50
    · have c_4 : ¬ (0 ≤ 0) := fun z => c_4 ((nI_leI (a := 0) (b := 0) (by omega) (by omega)).mpr z)
      exfalso; omega

theorem iL_X4_out_X4 : ∀ w ∈ u_ws RX4 TX4 25, w ∈ wsX4_out := by decide +kernel
set_option maxHeartbeats 4000000 in
set_option maxRecDepth 100000 in
theorem k_X4_out {l : Launch} {D : va_G} {cI cZ cB cS : ClassId} {A : Nat → Prop} (κ : Nat → Nat) (σ sc : Nat → Nat → Int32) (ad : Nat → Nat → Nat) (hn : κ 0 ≤ 40) (y0 : Int32) : Met l yX4_out wsX4_out ({ frames := 2, cells := 0, slots := 0, locals := 43 } : Room) (gPc D cI cZ cB cS A rDm (rEn cI cZ κ σ sc ad) ad [.ref (ad 0 0), .int y0]) (va_Qi (fun (r : Int32) (u : Nat → Nat → Int32) => u 2 0 = nI (cOne (κ 0) y0) ∧ (cOne (κ 0) y0 = 0 → r = σ 4 y0.toNatClampNeg)) (fun u t => gw_P D vwCl A rDm (rEn cI cZ κ σ u ad) ad t.heap) A) 0 0 A := by
  refine Met.ofW (cc := cX4_out) (maxL := 2) (ret := (some .int)) (by decide) rfl ?_
  intro p e s m args below meth c s₁ B hml hv
  obtain ⟨rfl, hP, hE, hA⟩ := hv
  have hx := B.exec
  have hb := B.bytes
  have hr := B.returns
  have hts := atoms_spec (ws := wsX4_out) B.pre
  have hown : s.vm.findClass RX4 = some m.cls := findClass_of_methodNamed B.named
  have hlocks := B.notSynchronized
  have hK := hE.1
  have hS : va_S A s.heap s.heap [] := va_S.rf
  have hL4 := fun w (hw : w ∈ u_ws RX4 TX4 25) => hts w (iL_X4_out_X4 w hw)
  have hl := lv_entry ([.ref (ad 0 0), .int y0]) (n := 2) (Nat.le_of_ble_eq_true rfl)
  rw [lg_entry_eq]
  generalize (lg_sl ([.ref (ad 0 0), .int y0]) ++ List.replicate (2 - (lg_sl ([.ref (ad 0 0), .int y0])).length) Slot.unset).toArray = ls at hl ⊢
  have hl : lv_has ls 2 [(0, .ref (ad 0 0)), (1, .int y0)] := hl
  refine lv_aload_n hx hb dX4_out_0 rfl (lv_at hl 0 rfl) ?_
  refine lv_aload_n hx hb dX4_out_1 rfl (lv_at hl 0 rfl) ?_
  refine lv_iload_n hx hb dX4_out_2 rfl (lv_at hl 1 rfl) ?_
  refine va_calli (va_runV (As := [.int y0]) (rest := [.ref (ad 0 0)]) ⟨hx, hb, hml, hown, hts⟩ (k_X4_isBlock (l := l) (D := D) (cI := cI) (cZ := cZ) (cB := cB) (cS := cS) (A := A) κ σ sc ad hn y0) (cwV 1 hts gX4_out_X4_isBlock rfl rfl rfl (by decide +kernel) ⟨Nat.le_of_ble_eq_true rfl, Nat.le_of_ble_eq_true rfl⟩) (gPreV hE hA hS hP (gw_recv hK hP 0 0 (rDf (by decide)) rfl rfl)) rfl rfl hl.1 rfl (lv_room (Nat.le_of_ble_eq_true rfl)) dX4_out_3 ⟨Nat.le_of_ble_eq_true rfl, Nat.le_of_ble_eq_true rfl⟩) hS (fun q _ h9 => h9) (fun q h9 => h9) (fun r_1 u9 t9 H locs ht9 hvm9 hw_r_1 hB9 hz9 hk9 hS => ?_)
  have hP : gw_P D vwCl A rDm (rEn cI cZ κ σ sc ad) ad H := by rw [← ht9]; exact hB9
  refine lv_toq ((if okI (κ 0) y0 then 1 else 0)) hw_r_1 ?_
  refine lv_if_eq (tgt := 13) hx hb dX4_out_6 (by decide) (fun c_2 => ?_) (fun c_2 => ?_)
  · refine lv_iconst (v := 1) hx hb dX4_out_13 (by decide) ?_
    refine gw_put (ty := .int) (C := RX4) (T := TX4) (N := 25) hx hb hL4 tyX4 tyX4_ok nmX4 hown hK hP hS 0 0 (rDf (by decide)) rfl rfl 0 (by decide) (hts (.fieldLink RX4 65 "BlockProgramsModel" "code" "I") (by decide +kernel)) (fun _ h9 => h9) rfl (by decide +kernel) rfl rfl (Nat.le_of_ble_eq_true rfl) dX4_out_14 (rEn cI cZ κ σ (wr sc 2 0 1) ad) (rU0s_0 _) (fun t9 i9 z9 h9 => rU0 _ _ t9 i9 h9 z9) (fun H locs hP hS => ?_)
    refine lv_aload_n hx hb dX4_out_17 rfl (lv_at hl 0 rfl) ?_
    refine gw_get (C := RX4) (T := TX4) (N := 25) hx hb hL4 hown hK hP 0 0 (rDf (by decide)) rfl rfl 0 (by decide) (hts (.fieldLink RX4 65 "BlockProgramsModel" "code" "I") (by decide +kernel)) (fun _ h9 => h9) (v := .int 1) (by simp [wr, va_up]) dX4_out_18 ?_
    refine lv_if_le (tgt := 28) hx hb dX4_out_21 (by decide) (fun c_3 => ?_) (fun c_3 => ?_)
    · have c_3 : 1 ≤ 0 := (nI_leI (a := 1) (b := 0) (by omega) (by omega)).mp c_3
      exfalso; omega
    · have c_3 : ¬ (1 ≤ 0) := fun z => c_3 ((nI_leI (a := 1) (b := 0) (by omega) (by omega)).mpr z)
      refine lv_iconst (v := 0) hx hb dX4_out_24 (by decide) ?_
      refine lv_goto (tgt := 34) hx hb dX4_out_25 (by decide) ?_
      have hcr : cOne (κ 0) y0 = 1 := if_neg (lp_f c_2)
      exact W.iret (v := 0) hx hb hr (fun t ht hW => ⟨⟨0, wr sc 2 0 1, rfl, ⟨by rw [hcr]; exact wr_s, fun z => absurd (hcr.symm.trans z) (by decide)⟩, by rw [← ht] at hP; exact hP⟩, hS.F ht⟩) hS.2.2 dX4_out_34
  · refine lv_iconst (v := 0) hx hb dX4_out_9 (by decide) ?_
    refine lv_goto (tgt := 14) hx hb dX4_out_10 (by decide) ?_
    refine gw_put (ty := .int) (C := RX4) (T := TX4) (N := 25) hx hb hL4 tyX4 tyX4_ok nmX4 hown hK hP hS 0 0 (rDf (by decide)) rfl rfl 0 (by decide) (hts (.fieldLink RX4 65 "BlockProgramsModel" "code" "I") (by decide +kernel)) (fun _ h9 => h9) rfl (by decide +kernel) rfl rfl (Nat.le_of_ble_eq_true rfl) dX4_out_14 (rEn cI cZ κ σ (wr sc 2 0 0) ad) (rU0s_0 _) (fun t9 i9 z9 h9 => rU0 _ _ t9 i9 h9 z9) (fun H locs hP hS => ?_)
    refine lv_aload_n hx hb dX4_out_17 rfl (lv_at hl 0 rfl) ?_
    refine gw_get (C := RX4) (T := TX4) (N := 25) hx hb hL4 hown hK hP 0 0 (rDf (by decide)) rfl rfl 0 (by decide) (hts (.fieldLink RX4 65 "BlockProgramsModel" "code" "I") (by decide +kernel)) (fun _ h9 => h9) (v := .int 0) (by simp [wr, va_up]) dX4_out_18 ?_
    refine lv_if_le (tgt := 28) hx hb dX4_out_21 (by decide) (fun c_4 => ?_) (fun c_4 => ?_)
    · have c_4 : 0 ≤ 0 := (nI_leI (a := 0) (b := 0) (by omega) (by omega)).mp c_4
      have ok_j := lp_t c_2
      obtain ⟨j, hj, ej⟩ := ix_of (n := κ 0) (by omega) ok_j.1 ok_j.2
      have ecj : y0.toNatClampNeg = j := by rw [ej, nI_clamp (by omega)]
      rw [ej] at hl
      refine lv_aload_n hx hb dX4_out_28 rfl (lv_at hl 0 rfl) ?_
      refine gw_get (C := RX4) (T := TX4) (N := 25) hx hb hL4 hown hK hP 0 0 (rDf (by decide)) rfl rfl 7 (by decide) (hts (.fieldLink RX4 25 "BlockProgramsModel" "outs" "[I") (by decide +kernel)) (fun _ h9 => h9) (v := .ref (ad 7 0)) rfl dX4_out_29 ?_
      refine lv_iload_n hx hb dX4_out_32 rfl (lv_at hl 1 rfl) ?_
      refine gw_iald hx hb hK hP 7 0 (rDf (by decide)) 0 rfl rfl (j) rfl (by omega) (by decide) (v := (σ 4 j)) rfl dX4_out_33 ?_
      have hcr : cOne (κ 0) y0 = 0 := if_pos ok_j
      exact W.iret (v := (σ 4 j)) hx hb hr (fun t ht hW => ⟨⟨((σ 4 j)), wr sc 2 0 0, rfl, ⟨by rw [hcr]; exact wr_s, fun _ => by rw [ecj]⟩, by rw [← ht] at hP; exact hP⟩, hS.F ht⟩) hS.2.2 dX4_out_34
    · have c_4 : ¬ (0 ≤ 0) := fun z => c_4 ((nI_leI (a := 0) (b := 0) (by omega) (by omega)).mpr z)
      exfalso; omega

theorem iL_X4_point_X4 : ∀ w ∈ u_ws RX4 TX4 25, w ∈ wsX4_point := by decide +kernel
set_option maxHeartbeats 4000000 in
set_option maxRecDepth 100000 in
theorem k_X4_point {l : Launch} {D : va_G} {cI cZ cB cS : ClassId} {A : Nat → Prop} (κ : Nat → Nat) (σ sc : Nat → Nat → Int32) (ad : Nat → Nat → Nat) (y0 y1 : Int32) : Met l yX4_point wsX4_point ({ frames := 1, cells := 0, slots := 0, locals := 22 } : Room) (gPc D cI cZ cB cS A rDm (rEn cI cZ κ σ sc ad) ad [.ref (ad 0 0), .int y0, .int y1]) (va_Qi (fun (r : Int32) (u : Nat → Nat → Int32) => u 2 0 = nI (cOne 10 y0) ∧ (cOne 10 y0 = 0 → r = σ 20 y0.toNatClampNeg)) (fun u t => gw_P D vwCl A rDm (rEn cI cZ κ ((if cOne 10 y0 = 0 then wr σ 20 y0.toNatClampNeg y1 else σ)) u ad) ad t.heap) A) 0 0 A := by
  refine Met.ofW (cc := cX4_point) (maxL := 4) (ret := (some .int)) (by decide) rfl ?_
  intro p e s m args below meth c s₁ B hml hv
  obtain ⟨rfl, hP, hE, hA⟩ := hv
  have hx := B.exec
  have hb := B.bytes
  have hr := B.returns
  have hts := atoms_spec (ws := wsX4_point) B.pre
  have hown : s.vm.findClass RX4 = some m.cls := findClass_of_methodNamed B.named
  have hlocks := B.notSynchronized
  have hK := hE.1
  have hS : va_S A s.heap s.heap [] := va_S.rf
  have hL4 := fun w (hw : w ∈ u_ws RX4 TX4 25) => hts w (iL_X4_point_X4 w hw)
  have hl := lv_entry ([.ref (ad 0 0), .int y0, .int y1]) (n := 4) (Nat.le_of_ble_eq_true rfl)
  rw [lg_entry_eq]
  generalize (lg_sl ([.ref (ad 0 0), .int y0, .int y1]) ++ List.replicate (4 - (lg_sl ([.ref (ad 0 0), .int y0, .int y1])).length) Slot.unset).toArray = ls at hl ⊢
  have hl : lv_has ls 4 [(0, .ref (ad 0 0)), (1, .int y0), (2, .int y1)] := hl
  refine lv_aload_n hx hb dX4_point_0 rfl (lv_at hl 0 rfl) ?_
  refine lv_iload_n hx hb dX4_point_1 rfl (lv_at hl 1 rfl) ?_
  refine lv_iconst (v := 0) hx hb dX4_point_2 (by decide) ?_
  refine lv_bipush (v := 9) hx hb dX4_point_3 (by decide) ?_
  refine va_calli (va_runS (As := [.int y0, .int 0, .int 9]) (rest := [.ref (ad 0 0)]) ⟨hx, hb, hml, hown, hts⟩ (k_X4_in (l := l) (D := D) (cI := cI) (cZ := cZ) (cB := cB) (cS := cS) (A := A) rDm (rEn cI cZ κ σ sc ad) ad y0 0 9) (va_cwS 3 hts gX4_point_X4_in rfl rfl rfl (by decide +kernel) ⟨Nat.le_of_ble_eq_true rfl, Nat.le_of_ble_eq_true rfl⟩) (gPreS hE hA hS hP) rfl rfl hl.1 rfl (lv_room (Nat.le_of_ble_eq_true rfl)) dX4_point_5 ⟨Nat.le_of_ble_eq_true rfl, Nat.le_of_ble_eq_true rfl⟩) hS (fun q _ h9 => h9) (fun q h9 => h9) (fun r_1 u9 t9 H locs ht9 hvm9 hw_r_1 hB9 hz9 hk9 hS => ?_)
  have hP : gw_P D vwCl A rDm (rEn cI cZ κ σ sc ad) ad H := by rw [← ht9]; exact hB9
  refine lv_toq (if okI 10 y0 then 1 else 0) (hw_r_1.trans (in_i (by omega) (by decide))) ?_
  refine lv_if_eq (tgt := 15) hx hb dX4_point_8 (by decide) (fun c_2 => ?_) (fun c_2 => ?_)
  · refine lv_iconst (v := 1) hx hb dX4_point_15 (by decide) ?_
    refine gw_put (ty := .int) (C := RX4) (T := TX4) (N := 25) hx hb hL4 tyX4 tyX4_ok nmX4 hown hK hP hS 0 0 (rDf (by decide)) rfl rfl 0 (by decide) (hts (.fieldLink RX4 65 "BlockProgramsModel" "code" "I") (by decide +kernel)) (fun _ h9 => h9) rfl (by decide +kernel) rfl rfl (Nat.le_of_ble_eq_true rfl) dX4_point_16 (rEn cI cZ κ σ (wr sc 2 0 1) ad) (rU0s_0 _) (fun t9 i9 z9 h9 => rU0 _ _ t9 i9 h9 z9) (fun H locs hP hS => ?_)
    refine lv_aload_n hx hb dX4_point_19 rfl (lv_at hl 0 rfl) ?_
    refine gw_get (C := RX4) (T := TX4) (N := 25) hx hb hL4 hown hK hP 0 0 (rDf (by decide)) rfl rfl 0 (by decide) (hts (.fieldLink RX4 65 "BlockProgramsModel" "code" "I") (by decide +kernel)) (fun _ h9 => h9) (v := .int 1) (by simp [wr, va_up]) dX4_point_20 ?_
    refine lv_if_le (tgt := 28) hx hb dX4_point_23 (by decide) (fun c_3 => ?_) (fun c_3 => ?_)
    · have c_3 : 1 ≤ 0 := (nI_leI (a := 1) (b := 0) (by omega) (by omega)).mp c_3
      exfalso; omega
    · have c_3 : ¬ (1 ≤ 0) := fun z => c_3 ((nI_leI (a := 1) (b := 0) (by omega) (by omega)).mpr z)
      refine lv_iconst (v := 0) hx hb dX4_point_26 (by decide) ?_
      have hcr : cOne 10 y0 = 1 := if_neg (lp_f c_2)
      exact W.iret (v := 0) hx hb hr (fun t ht hW => ⟨⟨0, wr sc 2 0 1, rfl, ⟨by rw [hcr]; exact wr_s, fun z => absurd (hcr.symm.trans z) (by decide)⟩, by rw [if_neg (show ¬ cOne 10 y0 = 0 by rw [hcr]; decide)]; rw [← ht] at hP; exact hP⟩, hS.F ht⟩) hS.2.2 dX4_point_27
  · refine lv_iconst (v := 0) hx hb dX4_point_11 (by decide) ?_
    refine lv_goto (tgt := 16) hx hb dX4_point_12 (by decide) ?_
    refine gw_put (ty := .int) (C := RX4) (T := TX4) (N := 25) hx hb hL4 tyX4 tyX4_ok nmX4 hown hK hP hS 0 0 (rDf (by decide)) rfl rfl 0 (by decide) (hts (.fieldLink RX4 65 "BlockProgramsModel" "code" "I") (by decide +kernel)) (fun _ h9 => h9) rfl (by decide +kernel) rfl rfl (Nat.le_of_ble_eq_true rfl) dX4_point_16 (rEn cI cZ κ σ (wr sc 2 0 0) ad) (rU0s_0 _) (fun t9 i9 z9 h9 => rU0 _ _ t9 i9 h9 z9) (fun H locs hP hS => ?_)
    refine lv_aload_n hx hb dX4_point_19 rfl (lv_at hl 0 rfl) ?_
    refine gw_get (C := RX4) (T := TX4) (N := 25) hx hb hL4 hown hK hP 0 0 (rDf (by decide)) rfl rfl 0 (by decide) (hts (.fieldLink RX4 65 "BlockProgramsModel" "code" "I") (by decide +kernel)) (fun _ h9 => h9) (v := .int 0) (by simp [wr, va_up]) dX4_point_20 ?_
    refine lv_if_le (tgt := 28) hx hb dX4_point_23 (by decide) (fun c_4 => ?_) (fun c_4 => ?_)
    · have c_4 : 0 ≤ 0 := (nI_leI (a := 0) (b := 0) (by omega) (by omega)).mp c_4
      have ok_j := lp_t c_2
      obtain ⟨j, hj, ej⟩ := ix_of (n := 10) (by decide) ok_j.1 ok_j.2
      have ecj : y0.toNatClampNeg = j := by rw [ej, nI_clamp (by omega)]
      rw [ej] at hl
      refine lv_aload_n hx hb dX4_point_28 rfl (lv_at hl 0 rfl) ?_
      refine gw_get (C := RX4) (T := TX4) (N := 25) hx hb hL4 hown hK hP 0 0 (rDf (by decide)) rfl rfl 13 (by decide) (hts (.fieldLink RX4 44 "BlockProgramsModel" "points" "[I") (by decide +kernel)) (fun _ h9 => h9) (v := .ref (ad 13 0)) rfl dX4_point_29 ?_
      refine lv_iload_n hx hb dX4_point_32 rfl (lv_at hl 1 rfl) ?_
      refine gw_iald hx hb hK hP 13 0 (rDf (by decide)) 0 rfl rfl (j) rfl (by omega) (by decide) (v := (σ 20 j)) rfl dX4_point_33 ?_
      refine lv_istore_n (lv' := [(3, .int ((σ 20 j))), (0, .ref (ad 0 0)), (1, .int (nI j)), (2, .int y1)]) hx hb dX4_point_34 rfl hl (by decide) rfl (fun ls hl => ?_)
      refine lv_aload_n hx hb dX4_point_35 rfl (lv_at hl 1 rfl) ?_
      refine gw_get (C := RX4) (T := TX4) (N := 25) hx hb hL4 hown hK hP 0 0 (rDf (by decide)) rfl rfl 13 (by decide) (hts (.fieldLink RX4 44 "BlockProgramsModel" "points" "[I") (by decide +kernel)) (fun _ h9 => h9) (v := .ref (ad 13 0)) rfl dX4_point_36 ?_
      refine lv_iload_n hx hb dX4_point_39 rfl (lv_at hl 2 rfl) ?_
      refine lv_iload_n hx hb dX4_point_40 rfl (lv_at hl 3 rfl) ?_
      refine gw_iast hx hb hK hP hS 13 0 (rDf (by decide)) 0 rfl rfl (j) rfl (by omega) (by decide) dX4_point_41 ((rEn cI cZ κ (wr σ 20 j y1) (wr sc 2 0 0) ad)) rUs_13 (fun t9 i9 z9 h9 => rU13 _ t9 i9 h9 z9) (fun H locs hP hS => ?_)
      refine lv_iload_n hx hb dX4_point_42 rfl (lv_at hl 0 rfl) ?_
      have hcr : cOne 10 y0 = 0 := if_pos ok_j
      exact W.iret (v := (σ 20 j)) hx hb hr (fun t ht hW => ⟨⟨((σ 20 j)), wr sc 2 0 0, rfl, ⟨by rw [hcr]; exact wr_s, fun _ => by rw [ecj]⟩, by rw [if_pos hcr, ecj]; rw [← ht] at hP; exact hP⟩, hS.F ht⟩) hS.2.2 dX4_point_43
    · have c_4 : ¬ (0 ≤ 0) := fun z => c_4 ((nI_leI (a := 0) (b := 0) (by omega) (by omega)).mpr z)
      exfalso; omega

theorem iL_X4_failed_X4 : ∀ w ∈ u_ws RX4 TX4 25, w ∈ wsX4_failed := by decide +kernel
set_option maxHeartbeats 4000000 in
set_option maxRecDepth 100000 in
theorem k_X4_failed {l : Launch} {D : va_G} {cI cZ cB cS : ClassId} {A : Nat → Prop} (κ : Nat → Nat) (σ sc : Nat → Nat → Int32) (ad : Nat → Nat → Nat) (y0 : Int32) : Met l yX4_failed wsX4_failed ({ frames := 1, cells := 0, slots := 0, locals := 22 } : Room) (gPc D cI cZ cB cS A rDm (rEn cI cZ κ σ sc ad) ad [.ref (ad 0 0), .int y0]) (va_Qi (fun (r : Int32) (u : Nat → Nat → Int32) => u 2 0 = nI (cOne 4 y0) ∧ (cOne 4 y0 = 0 → r = σ 22 y0.toNatClampNeg)) (fun u t => gw_P D vwCl A rDm (rEn cI cZ κ σ u ad) ad t.heap) A) 0 0 A := by
  refine Met.ofW (cc := cX4_failed) (maxL := 2) (ret := (some .int)) (by decide) rfl ?_
  intro p e s m args below meth c s₁ B hml hv
  obtain ⟨rfl, hP, hE, hA⟩ := hv
  have hx := B.exec
  have hb := B.bytes
  have hr := B.returns
  have hts := atoms_spec (ws := wsX4_failed) B.pre
  have hown : s.vm.findClass RX4 = some m.cls := findClass_of_methodNamed B.named
  have hlocks := B.notSynchronized
  have hK := hE.1
  have hS : va_S A s.heap s.heap [] := va_S.rf
  have hL4 := fun w (hw : w ∈ u_ws RX4 TX4 25) => hts w (iL_X4_failed_X4 w hw)
  have hl := lv_entry ([.ref (ad 0 0), .int y0]) (n := 2) (Nat.le_of_ble_eq_true rfl)
  rw [lg_entry_eq]
  generalize (lg_sl ([.ref (ad 0 0), .int y0]) ++ List.replicate (2 - (lg_sl ([.ref (ad 0 0), .int y0])).length) Slot.unset).toArray = ls at hl ⊢
  have hl : lv_has ls 2 [(0, .ref (ad 0 0)), (1, .int y0)] := hl
  refine lv_aload_n hx hb dX4_failed_0 rfl (lv_at hl 0 rfl) ?_
  refine lv_iload_n hx hb dX4_failed_1 rfl (lv_at hl 1 rfl) ?_
  refine lv_iconst (v := 0) hx hb dX4_failed_2 (by decide) ?_
  refine lv_iconst (v := 3) hx hb dX4_failed_3 (by decide) ?_
  refine va_calli (va_runS (As := [.int y0, .int 0, .int 3]) (rest := [.ref (ad 0 0)]) ⟨hx, hb, hml, hown, hts⟩ (k_X4_in (l := l) (D := D) (cI := cI) (cZ := cZ) (cB := cB) (cS := cS) (A := A) rDm (rEn cI cZ κ σ sc ad) ad y0 0 3) (va_cwS 3 hts gX4_failed_X4_in rfl rfl rfl (by decide +kernel) ⟨Nat.le_of_ble_eq_true rfl, Nat.le_of_ble_eq_true rfl⟩) (gPreS hE hA hS hP) rfl rfl hl.1 rfl (lv_room (Nat.le_of_ble_eq_true rfl)) dX4_failed_4 ⟨Nat.le_of_ble_eq_true rfl, Nat.le_of_ble_eq_true rfl⟩) hS (fun q _ h9 => h9) (fun q h9 => h9) (fun r_1 u9 t9 H locs ht9 hvm9 hw_r_1 hB9 hz9 hk9 hS => ?_)
  have hP : gw_P D vwCl A rDm (rEn cI cZ κ σ sc ad) ad H := by rw [← ht9]; exact hB9
  refine lv_toq (if okI 4 y0 then 1 else 0) (hw_r_1.trans (in_i (by omega) (by decide))) ?_
  refine lv_if_eq (tgt := 14) hx hb dX4_failed_7 (by decide) (fun c_2 => ?_) (fun c_2 => ?_)
  · refine lv_iconst (v := 1) hx hb dX4_failed_14 (by decide) ?_
    refine gw_put (ty := .int) (C := RX4) (T := TX4) (N := 25) hx hb hL4 tyX4 tyX4_ok nmX4 hown hK hP hS 0 0 (rDf (by decide)) rfl rfl 0 (by decide) (hts (.fieldLink RX4 65 "BlockProgramsModel" "code" "I") (by decide +kernel)) (fun _ h9 => h9) rfl (by decide +kernel) rfl rfl (Nat.le_of_ble_eq_true rfl) dX4_failed_15 (rEn cI cZ κ σ (wr sc 2 0 1) ad) (rU0s_0 _) (fun t9 i9 z9 h9 => rU0 _ _ t9 i9 h9 z9) (fun H locs hP hS => ?_)
    refine lv_aload_n hx hb dX4_failed_18 rfl (lv_at hl 0 rfl) ?_
    refine gw_get (C := RX4) (T := TX4) (N := 25) hx hb hL4 hown hK hP 0 0 (rDf (by decide)) rfl rfl 0 (by decide) (hts (.fieldLink RX4 65 "BlockProgramsModel" "code" "I") (by decide +kernel)) (fun _ h9 => h9) (v := .int 1) (by simp [wr, va_up]) dX4_failed_19 ?_
    refine lv_if_le (tgt := 29) hx hb dX4_failed_22 (by decide) (fun c_3 => ?_) (fun c_3 => ?_)
    · have c_3 : 1 ≤ 0 := (nI_leI (a := 1) (b := 0) (by omega) (by omega)).mp c_3
      exfalso; omega
    · have c_3 : ¬ (1 ≤ 0) := fun z => c_3 ((nI_leI (a := 1) (b := 0) (by omega) (by omega)).mpr z)
      refine lv_iconst (v := 0) hx hb dX4_failed_25 (by decide) ?_
      refine lv_goto (tgt := 35) hx hb dX4_failed_26 (by decide) ?_
      have hcr : cOne 4 y0 = 1 := if_neg (lp_f c_2)
      exact W.iret (v := 0) hx hb hr (fun t ht hW => ⟨⟨0, wr sc 2 0 1, rfl, ⟨by rw [hcr]; exact wr_s, fun z => absurd (hcr.symm.trans z) (by decide)⟩, by rw [← ht] at hP; exact hP⟩, hS.F ht⟩) hS.2.2 dX4_failed_35
  · refine lv_iconst (v := 0) hx hb dX4_failed_10 (by decide) ?_
    refine lv_goto (tgt := 15) hx hb dX4_failed_11 (by decide) ?_
    refine gw_put (ty := .int) (C := RX4) (T := TX4) (N := 25) hx hb hL4 tyX4 tyX4_ok nmX4 hown hK hP hS 0 0 (rDf (by decide)) rfl rfl 0 (by decide) (hts (.fieldLink RX4 65 "BlockProgramsModel" "code" "I") (by decide +kernel)) (fun _ h9 => h9) rfl (by decide +kernel) rfl rfl (Nat.le_of_ble_eq_true rfl) dX4_failed_15 (rEn cI cZ κ σ (wr sc 2 0 0) ad) (rU0s_0 _) (fun t9 i9 z9 h9 => rU0 _ _ t9 i9 h9 z9) (fun H locs hP hS => ?_)
    refine lv_aload_n hx hb dX4_failed_18 rfl (lv_at hl 0 rfl) ?_
    refine gw_get (C := RX4) (T := TX4) (N := 25) hx hb hL4 hown hK hP 0 0 (rDf (by decide)) rfl rfl 0 (by decide) (hts (.fieldLink RX4 65 "BlockProgramsModel" "code" "I") (by decide +kernel)) (fun _ h9 => h9) (v := .int 0) (by simp [wr, va_up]) dX4_failed_19 ?_
    refine lv_if_le (tgt := 29) hx hb dX4_failed_22 (by decide) (fun c_4 => ?_) (fun c_4 => ?_)
    · have c_4 : 0 ≤ 0 := (nI_leI (a := 0) (b := 0) (by omega) (by omega)).mp c_4
      have ok_j := lp_t c_2
      obtain ⟨j, hj, ej⟩ := ix_of (n := 4) (by decide) ok_j.1 ok_j.2
      have ecj : y0.toNatClampNeg = j := by rw [ej, nI_clamp (by omega)]
      rw [ej] at hl
      refine lv_aload_n hx hb dX4_failed_29 rfl (lv_at hl 0 rfl) ?_
      refine gw_get (C := RX4) (T := TX4) (N := 25) hx hb hL4 hown hK hP 0 0 (rDf (by decide)) rfl rfl 18 (by decide) (hts (.fieldLink RX4 53 "BlockProgramsModel" "failures" "[I") (by decide +kernel)) (fun _ h9 => h9) (v := .ref (ad 18 0)) rfl dX4_failed_30 ?_
      refine lv_iload_n hx hb dX4_failed_33 rfl (lv_at hl 1 rfl) ?_
      refine gw_iald hx hb hK hP 18 0 (rDf (by decide)) 0 rfl rfl (j) rfl (by omega) (by decide) (v := (σ 22 j)) rfl dX4_failed_34 ?_
      have hcr : cOne 4 y0 = 0 := if_pos ok_j
      exact W.iret (v := (σ 22 j)) hx hb hr (fun t ht hW => ⟨⟨((σ 22 j)), wr sc 2 0 0, rfl, ⟨by rw [hcr]; exact wr_s, fun _ => by rw [ecj]⟩, by rw [← ht] at hP; exact hP⟩, hS.F ht⟩) hS.2.2 dX4_failed_35
    · have c_4 : ¬ (0 ≤ 0) := fun z => c_4 ((nI_leI (a := 0) (b := 0) (by omega) (by omega)).mpr z)
      exfalso; omega

theorem iL_X4_become_X4 : ∀ w ∈ u_ws RX4 TX4 25, w ∈ wsX4_become := by decide +kernel
set_option maxHeartbeats 4000000 in
set_option maxRecDepth 100000 in
theorem k_X4_become {l : Launch} {D : va_G} {cI cZ cB cS : ClassId} {A : Nat → Prop} (κ : Nat → Nat) (σ sc : Nat → Nat → Int32) (ad : Nat → Nat → Nat) (hn : κ 0 ≤ 40) (y0 y1 : Int32) : Met l yX4_become wsX4_become ({ frames := 2, cells := 0, slots := 0, locals := 43 } : Room) (gPc D cI cZ cB cS A rDm (rEn cI cZ κ σ sc ad) ad [.ref (ad 0 0), .int y0, .int y1]) (va_Qi (fun (r : Int32) (u : Nat → Nat → Int32) => u 2 0 = nI (cTwo (κ 0) 26 y0 y1) ∧ (cTwo (κ 0) 26 y0 y1 = 0 → r = σ 0 y0.toNatClampNeg)) (fun u t => gw_P D vwCl A rDm (rEn cI cZ κ ((if cTwo (κ 0) 26 y0 y1 = 0 then becS σ y0.toNatClampNeg y1 else σ)) u ad) ad t.heap) A) 0 0 A := by
  refine Met.ofW (cc := cX4_become) (maxL := 4) (ret := (some .int)) (by decide) rfl ?_
  intro p e s m args below meth c s₁ B hml hv
  obtain ⟨rfl, hP, hE, hA⟩ := hv
  have hx := B.exec
  have hb := B.bytes
  have hr := B.returns
  have hts := atoms_spec (ws := wsX4_become) B.pre
  have hown : s.vm.findClass RX4 = some m.cls := findClass_of_methodNamed B.named
  have hlocks := B.notSynchronized
  have hK := hE.1
  have hS : va_S A s.heap s.heap [] := va_S.rf
  have hL4 := fun w (hw : w ∈ u_ws RX4 TX4 25) => hts w (iL_X4_become_X4 w hw)
  have hl := lv_entry ([.ref (ad 0 0), .int y0, .int y1]) (n := 4) (Nat.le_of_ble_eq_true rfl)
  rw [lg_entry_eq]
  generalize (lg_sl ([.ref (ad 0 0), .int y0, .int y1]) ++ List.replicate (4 - (lg_sl ([.ref (ad 0 0), .int y0, .int y1])).length) Slot.unset).toArray = ls at hl ⊢
  have hl : lv_has ls 4 [(0, .ref (ad 0 0)), (1, .int y0), (2, .int y1)] := hl
  refine lv_aload_n hx hb dX4_become_0 rfl (lv_at hl 0 rfl) ?_
  refine lv_aload_n hx hb dX4_become_1 rfl (lv_at hl 0 rfl) ?_
  refine lv_iload_n hx hb dX4_become_2 rfl (lv_at hl 1 rfl) ?_
  refine va_calli (va_runV (As := [.int y0]) (rest := [.ref (ad 0 0)]) ⟨hx, hb, hml, hown, hts⟩ (k_X4_isBlock (l := l) (D := D) (cI := cI) (cZ := cZ) (cB := cB) (cS := cS) (A := A) κ σ sc ad hn y0) (cwV 1 hts gX4_become_X4_isBlock rfl rfl rfl (by decide +kernel) ⟨Nat.le_of_ble_eq_true rfl, Nat.le_of_ble_eq_true rfl⟩) (gPreV hE hA hS hP (gw_recv hK hP 0 0 (rDf (by decide)) rfl rfl)) rfl rfl hl.1 rfl (lv_room (Nat.le_of_ble_eq_true rfl)) dX4_become_3 ⟨Nat.le_of_ble_eq_true rfl, Nat.le_of_ble_eq_true rfl⟩) hS (fun q _ h9 => h9) (fun q h9 => h9) (fun r_1 u9 t9 H locs ht9 hvm9 hw_r_1 hB9 hz9 hk9 hS => ?_)
  have hP : gw_P D vwCl A rDm (rEn cI cZ κ σ sc ad) ad H := by rw [← ht9]; exact hB9
  refine lv_toq ((if okI (κ 0) y0 then 1 else 0)) hw_r_1 ?_
  refine lv_if_eq (tgt := 23) hx hb dX4_become_6 (by decide) (fun c_2 => ?_) (fun c_2 => ?_)
  · refine lv_iconst (v := 1) hx hb dX4_become_23 (by decide) ?_
    refine gw_put (ty := .int) (C := RX4) (T := TX4) (N := 25) hx hb hL4 tyX4 tyX4_ok nmX4 hown hK hP hS 0 0 (rDf (by decide)) rfl rfl 0 (by decide) (hts (.fieldLink RX4 65 "BlockProgramsModel" "code" "I") (by decide +kernel)) (fun _ h9 => h9) rfl (by decide +kernel) rfl rfl (Nat.le_of_ble_eq_true rfl) dX4_become_24 (rEn cI cZ κ σ (wr sc 2 0 1) ad) (rU0s_0 _) (fun t9 i9 z9 h9 => rU0 _ _ t9 i9 h9 z9) (fun H locs hP hS => ?_)
    refine lv_aload_n hx hb dX4_become_27 rfl (lv_at hl 0 rfl) ?_
    refine gw_get (C := RX4) (T := TX4) (N := 25) hx hb hL4 hown hK hP 0 0 (rDf (by decide)) rfl rfl 0 (by decide) (hts (.fieldLink RX4 65 "BlockProgramsModel" "code" "I") (by decide +kernel)) (fun _ h9 => h9) (v := .int 1) (by simp [wr, va_up]) dX4_become_28 ?_
    refine lv_if_le (tgt := 36) hx hb dX4_become_31 (by decide) (fun c_3 => ?_) (fun c_3 => ?_)
    · have c_3 : 1 ≤ 0 := (nI_leI (a := 1) (b := 0) (by omega) (by omega)).mp c_3
      exfalso; omega
    · have c_3 : ¬ (1 ≤ 0) := fun z => c_3 ((nI_leI (a := 1) (b := 0) (by omega) (by omega)).mpr z)
      refine lv_iconst (v := 0) hx hb dX4_become_34 (by decide) ?_
      have hcr : cTwo (κ 0) 26 y0 y1 = 1 := if_neg (fun z => lp_f c_2 z.1)
      exact W.iret (v := 0) hx hb hr (fun t ht hW => ⟨⟨0, wr sc 2 0 1, rfl, ⟨by rw [hcr]; exact wr_s, fun z => absurd (hcr.symm.trans z) (by decide)⟩, by rw [if_neg (show ¬ cTwo (κ 0) 26 y0 y1 = 0 by rw [hcr]; decide)]; rw [← ht] at hP; exact hP⟩, hS.F ht⟩) hS.2.2 dX4_become_35
  · refine lv_iload_n hx hb dX4_become_9 rfl (lv_at hl 2 rfl) ?_
    refine lv_iconst (v := 0) hx hb dX4_become_10 (by decide) ?_
    refine lv_bipush (v := 25) hx hb dX4_become_11 (by decide) ?_
    refine va_calli (va_runS (As := [.int y1, .int 0, .int 25]) (rest := [.ref (ad 0 0)]) ⟨hx, hb, hml, hown, hts⟩ (k_X4_in (l := l) (D := D) (cI := cI) (cZ := cZ) (cB := cB) (cS := cS) (A := A) rDm (rEn cI cZ κ σ sc ad) ad y1 0 25) (va_cwS 3 hts gX4_become_X4_in rfl rfl rfl (by decide +kernel) ⟨Nat.le_of_ble_eq_true rfl, Nat.le_of_ble_eq_true rfl⟩) (gPreS hE hA hS hP) rfl rfl hl.1 rfl (lv_room (Nat.le_of_ble_eq_true rfl)) dX4_become_13 ⟨Nat.le_of_ble_eq_true rfl, Nat.le_of_ble_eq_true rfl⟩) hS (fun q _ h9 => h9) (fun q h9 => h9) (fun r_4 u9 t9 H locs ht9 hvm9 hw_r_4 hB9 hz9 hk9 hS => ?_)
    have hP : gw_P D vwCl A rDm (rEn cI cZ κ σ sc ad) ad H := by rw [← ht9]; exact hB9
    refine lv_toq (if okI 26 y1 then 1 else 0) (hw_r_4.trans (in_i (by omega) (by decide))) ?_
    refine lv_if_eq (tgt := 23) hx hb dX4_become_16 (by decide) (fun c_5 => ?_) (fun c_5 => ?_)
    · refine lv_iconst (v := 1) hx hb dX4_become_23 (by decide) ?_
      refine gw_put (ty := .int) (C := RX4) (T := TX4) (N := 25) hx hb hL4 tyX4 tyX4_ok nmX4 hown hK hP hS 0 0 (rDf (by decide)) rfl rfl 0 (by decide) (hts (.fieldLink RX4 65 "BlockProgramsModel" "code" "I") (by decide +kernel)) (fun _ h9 => h9) rfl (by decide +kernel) rfl rfl (Nat.le_of_ble_eq_true rfl) dX4_become_24 (rEn cI cZ κ σ (wr sc 2 0 1) ad) (rU0s_0 _) (fun t9 i9 z9 h9 => rU0 _ _ t9 i9 h9 z9) (fun H locs hP hS => ?_)
      refine lv_aload_n hx hb dX4_become_27 rfl (lv_at hl 0 rfl) ?_
      refine gw_get (C := RX4) (T := TX4) (N := 25) hx hb hL4 hown hK hP 0 0 (rDf (by decide)) rfl rfl 0 (by decide) (hts (.fieldLink RX4 65 "BlockProgramsModel" "code" "I") (by decide +kernel)) (fun _ h9 => h9) (v := .int 1) (by simp [wr, va_up]) dX4_become_28 ?_
      refine lv_if_le (tgt := 36) hx hb dX4_become_31 (by decide) (fun c_6 => ?_) (fun c_6 => ?_)
      · have c_6 : 1 ≤ 0 := (nI_leI (a := 1) (b := 0) (by omega) (by omega)).mp c_6
        exfalso; omega
      · have c_6 : ¬ (1 ≤ 0) := fun z => c_6 ((nI_leI (a := 1) (b := 0) (by omega) (by omega)).mpr z)
        refine lv_iconst (v := 0) hx hb dX4_become_34 (by decide) ?_
        have hcr : cTwo (κ 0) 26 y0 y1 = 1 := if_neg (fun z => lp_f c_5 z.2)
        exact W.iret (v := 0) hx hb hr (fun t ht hW => ⟨⟨0, wr sc 2 0 1, rfl, ⟨by rw [hcr]; exact wr_s, fun z => absurd (hcr.symm.trans z) (by decide)⟩, by rw [if_neg (show ¬ cTwo (κ 0) 26 y0 y1 = 0 by rw [hcr]; decide)]; rw [← ht] at hP; exact hP⟩, hS.F ht⟩) hS.2.2 dX4_become_35
    · refine lv_iconst (v := 0) hx hb dX4_become_19 (by decide) ?_
      refine lv_goto (tgt := 24) hx hb dX4_become_20 (by decide) ?_
      refine gw_put (ty := .int) (C := RX4) (T := TX4) (N := 25) hx hb hL4 tyX4 tyX4_ok nmX4 hown hK hP hS 0 0 (rDf (by decide)) rfl rfl 0 (by decide) (hts (.fieldLink RX4 65 "BlockProgramsModel" "code" "I") (by decide +kernel)) (fun _ h9 => h9) rfl (by decide +kernel) rfl rfl (Nat.le_of_ble_eq_true rfl) dX4_become_24 (rEn cI cZ κ σ (wr sc 2 0 0) ad) (rU0s_0 _) (fun t9 i9 z9 h9 => rU0 _ _ t9 i9 h9 z9) (fun H locs hP hS => ?_)
      refine lv_aload_n hx hb dX4_become_27 rfl (lv_at hl 0 rfl) ?_
      refine gw_get (C := RX4) (T := TX4) (N := 25) hx hb hL4 hown hK hP 0 0 (rDf (by decide)) rfl rfl 0 (by decide) (hts (.fieldLink RX4 65 "BlockProgramsModel" "code" "I") (by decide +kernel)) (fun _ h9 => h9) (v := .int 0) (by simp [wr, va_up]) dX4_become_28 ?_
      refine lv_if_le (tgt := 36) hx hb dX4_become_31 (by decide) (fun c_7 => ?_) (fun c_7 => ?_)
      · have c_7 : 0 ≤ 0 := (nI_leI (a := 0) (b := 0) (by omega) (by omega)).mp c_7
        have ok_j := lp_t c_2
        obtain ⟨j, hj, ej⟩ := ix_of (n := κ 0) (by omega) ok_j.1 ok_j.2
        have ecj : y0.toNatClampNeg = j := by rw [ej, nI_clamp (by omega)]
        rw [ej] at hl
        refine lv_aload_n hx hb dX4_become_36 rfl (lv_at hl 0 rfl) ?_
        refine gw_get (C := RX4) (T := TX4) (N := 25) hx hb hL4 hown hK hP 0 0 (rDf (by decide)) rfl rfl 2 (by decide) (hts (.fieldLink RX4 7 "BlockProgramsModel" "kinds" "[I") (by decide +kernel)) (fun _ h9 => h9) (v := .ref (ad 2 0)) rfl dX4_become_37 ?_
        refine lv_iload_n hx hb dX4_become_40 rfl (lv_at hl 1 rfl) ?_
        refine gw_iald hx hb hK hP 2 0 (rDf (by decide)) 0 rfl rfl (j) rfl (by omega) (by decide) (v := (σ 0 j)) rfl dX4_become_41 ?_
        refine lv_istore_n (lv' := [(3, .int ((σ 0 j))), (0, .ref (ad 0 0)), (1, .int (nI j)), (2, .int y1)]) hx hb dX4_become_42 rfl hl (by decide) rfl (fun ls hl => ?_)
        refine lv_aload_n hx hb dX4_become_43 rfl (lv_at hl 1 rfl) ?_
        refine gw_get (C := RX4) (T := TX4) (N := 25) hx hb hL4 hown hK hP 0 0 (rDf (by decide)) rfl rfl 2 (by decide) (hts (.fieldLink RX4 7 "BlockProgramsModel" "kinds" "[I") (by decide +kernel)) (fun _ h9 => h9) (v := .ref (ad 2 0)) rfl dX4_become_44 ?_
        refine lv_iload_n hx hb dX4_become_47 rfl (lv_at hl 2 rfl) ?_
        refine lv_iload_n hx hb dX4_become_48 rfl (lv_at hl 3 rfl) ?_
        refine gw_iast hx hb hK hP hS 2 0 (rDf (by decide)) 0 rfl rfl (j) rfl (by omega) (by decide) dX4_become_49 ((rEn cI cZ κ (wr σ 0 j y1) (wr sc 2 0 0) ad)) rUs_2 (fun t9 i9 z9 h9 => rU2 _ t9 i9 h9 z9) (fun H locs hP hS => ?_)
        refine lv_aload_n hx hb dX4_become_50 rfl (lv_at hl 1 rfl) ?_
        refine gw_get (C := RX4) (T := TX4) (N := 25) hx hb hL4 hown hK hP 0 0 (rDf (by decide)) rfl rfl 7 (by decide) (hts (.fieldLink RX4 25 "BlockProgramsModel" "outs" "[I") (by decide +kernel)) (fun _ h9 => h9) (v := .ref (ad 7 0)) rfl dX4_become_51 ?_
        refine lv_iload_n hx hb dX4_become_54 rfl (lv_at hl 2 rfl) ?_
        refine lv_iconst (v := 0) hx hb dX4_become_55 (by decide) ?_
        refine gw_iast hx hb hK hP hS 7 0 (rDf (by decide)) 0 rfl rfl (j) rfl (by omega) (by decide) dX4_become_56 ((rEn cI cZ κ (wr (wr σ 0 j y1) 4 j 0) (wr sc 2 0 0) ad)) rUs_7 (fun t9 i9 z9 h9 => rU7 _ t9 i9 h9 z9) (fun H locs hP hS => ?_)
        refine lv_aload_n hx hb dX4_become_57 rfl (lv_at hl 1 rfl) ?_
        refine gw_get (C := RX4) (T := TX4) (N := 25) hx hb hL4 hown hK hP 0 0 (rDf (by decide)) rfl rfl 8 (by decide) (hts (.fieldLink RX4 28 "BlockProgramsModel" "firsts" "[I") (by decide +kernel)) (fun _ h9 => h9) (v := .ref (ad 8 0)) rfl dX4_become_58 ?_
        refine lv_iload_n hx hb dX4_become_61 rfl (lv_at hl 2 rfl) ?_
        refine lv_iconst (v := 0) hx hb dX4_become_62 (by decide) ?_
        refine gw_iast hx hb hK hP hS 8 0 (rDf (by decide)) 0 rfl rfl (j) rfl (by omega) (by decide) dX4_become_63 ((rEn cI cZ κ (wr (wr (wr σ 0 j y1) 4 j 0) 5 j 0) (wr sc 2 0 0) ad)) rUs_8 (fun t9 i9 z9 h9 => rU8 _ t9 i9 h9 z9) (fun H locs hP hS => ?_)
        refine lv_aload_n hx hb dX4_become_64 rfl (lv_at hl 1 rfl) ?_
        refine gw_get (C := RX4) (T := TX4) (N := 25) hx hb hL4 hown hK hP 0 0 (rDf (by decide)) rfl rfl 9 (by decide) (hts (.fieldLink RX4 31 "BlockProgramsModel" "seconds" "[I") (by decide +kernel)) (fun _ h9 => h9) (v := .ref (ad 9 0)) rfl dX4_become_65 ?_
        refine lv_iload_n hx hb dX4_become_68 rfl (lv_at hl 2 rfl) ?_
        refine lv_iconst (v := 0) hx hb dX4_become_69 (by decide) ?_
        refine gw_iast hx hb hK hP hS 9 0 (rDf (by decide)) 0 rfl rfl (j) rfl (by omega) (by decide) dX4_become_70 ((rEn cI cZ κ (wr (wr (wr (wr σ 0 j y1) 4 j 0) 5 j 0) 6 j 0) (wr sc 2 0 0) ad)) rUs_9 (fun t9 i9 z9 h9 => rU9 _ t9 i9 h9 z9) (fun H locs hP hS => ?_)
        refine lv_iload_n hx hb dX4_become_71 rfl (lv_at hl 0 rfl) ?_
        have hcr : cTwo (κ 0) 26 y0 y1 = 0 := if_pos ⟨ok_j, lp_t c_5⟩
        exact W.iret (v := (σ 0 j)) hx hb hr (fun t ht hW => ⟨⟨((σ 0 j)), wr sc 2 0 0, rfl, ⟨by rw [hcr]; exact wr_s, fun _ => by rw [ecj]⟩, by rw [if_pos hcr, ecj]; rw [← ht] at hP; exact hP⟩, hS.F ht⟩) hS.2.2 dX4_become_72
      · have c_7 : ¬ (0 ≤ 0) := fun z => c_7 ((nI_leI (a := 0) (b := 0) (by omega) (by omega)).mpr z)
        exfalso; omega

