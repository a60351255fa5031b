theorem iL_X4_withState_X4 : ∀ w ∈ u_ws RX4 TX4 25, w ∈ wsX4_withState := by decide +kernel
set_option maxHeartbeats 4000000 in
set_option maxRecDepth 100000 in
theorem k_X4_withState_16 {l : Launch} {D : va_G} {cI cZ cB cS : ClassId} {A : Nat → Prop} (κ : Nat → Nat) (σ sc : Nat → Nat → Int32) (ad : Nat → Nat → Nat) (b : Nat) (hb0 : b < κ 0) (hn : κ 0 ≤ 40) (ek : σ 0 b = nI 16) (h3 : κ 3 ≤ 3000) (y0 y1 : Int32) : Met l yX4_withState wsX4_withState ({ frames := 1, cells := 0, slots := 0, locals := 26 } : Room) (gPc D cI cZ cB cS A rDm (rEn cI cZ κ σ sc ad) ad [.ref (ad 0 0), .int (nI b), .int y0, .int y1]) (va_Qi (fun (r : Int32) (_ : Unit) => r = f_own σ 16 b y0 y1 (nI (κ 3 % 1440))) (fun _ t => gw_P D vwCl A rDm (rEn cI cZ κ (ownS σ 16 b y0 y1) sc ad) ad t.heap) A) 0 0 A := by
  refine Met.ofW (cc := cX4_withState) (maxL := 4) (ret := (some .int)) (by decide) rfl ?_
  intro p e s m args below meth c s₁ B hml hv
  obtain ⟨rfl, hP, hE, hA⟩ := hv
  have hx := B.exec
  have hb := B.bytes
  have hr := B.returns
  have hts := atoms_spec (ws := wsX4_withState) B.pre
  have hown : s.vm.findClass RX4 = some m.cls := findClass_of_methodNamed B.named
  have hlocks := B.notSynchronized
  have hK := hE.1
  have hS : va_S A s.heap s.heap [] := va_S.rf
  have hL4 := fun w (hw : w ∈ u_ws RX4 TX4 25) => hts w (iL_X4_withState_X4 w hw)
  have hl := lv_entry ([.ref (ad 0 0), .int (nI b), .int y0, .int y1]) (n := 4) (Nat.le_of_ble_eq_true rfl)
  rw [lg_entry_eq]
  generalize (lg_sl ([.ref (ad 0 0), .int (nI b), .int y0, .int y1]) ++ List.replicate (4 - (lg_sl ([.ref (ad 0 0), .int (nI b), .int y0, .int y1])).length) Slot.unset).toArray = ls at hl ⊢
  have hl : lv_has ls 4 [(0, .ref (ad 0 0)), (1, .int (nI b)), (2, .int y0), (3, .int y1)] := hl
  refine lv_aload_n hx hb dX4_withState_0 rfl (lv_at hl 0 rfl) ?_
  refine gw_get (C := RX4) (T := TX4) (N := 25) hx hb hL4 hown hK hP 0 0 (rDf (by decide)) rfl rfl 2 (by decide) (hts (.fieldLink RX4 7 "BlockProgramsModel" "kinds" "[I") (by decide +kernel)) (fun _ h9 => h9) (v := .ref (ad 2 0)) rfl dX4_withState_1 ?_
  refine lv_iload_n hx hb dX4_withState_4 rfl (lv_at hl 1 rfl) ?_
  refine gw_iald hx hb hK hP 2 0 (rDf (by decide)) 0 rfl rfl (b) rfl (by omega) (by decide) (v := nI 16) ek dX4_withState_5 ?_
  refine lv_tableIn (off := 50) (tgt := 56) hx hb dX4_withState_6 (by decide) (by decide) (by decide) (by decide) ?_
  refine lv_aload_n hx hb dX4_withState_56 rfl (lv_at hl 0 rfl) ?_
  refine gw_get (C := RX4) (T := TX4) (N := 25) hx hb hL4 hown hK hP 0 0 (rDf (by decide)) rfl rfl 8 (by decide) (hts (.fieldLink RX4 28 "BlockProgramsModel" "firsts" "[I") (by decide +kernel)) (fun _ h9 => h9) (v := .ref (ad 8 0)) rfl dX4_withState_57 ?_
  refine lv_iload_n hx hb dX4_withState_60 rfl (lv_at hl 1 rfl) ?_
  refine gw_iald hx hb hK hP 8 0 (rDf (by decide)) 0 rfl rfl (b) rfl (by omega) (by decide) (v := (σ 5 b)) rfl dX4_withState_61 ?_
  have eσ : σ = ownS σ 16 b y0 y1 := by simp [ownS, f_fst, f_snd, f_sum, f_count, f_latch, f_since, wr_wr, wr_id, wr_id6, wr_s, wr_id]
  rw [eσ] at hP
  exact W.iret (v := (σ 5 b)) hx hb hr (fun t ht hW => ⟨⟨((σ 5 b)), (), rfl, (by simp [f_own, f_limit, f_sum, f_count, f_latch, f_since, wr, f_own]), by rw [← ht] at hP; exact hP⟩, hS.F ht⟩) hS.2.2 dX4_withState_62

set_option maxHeartbeats 4000000 in
set_option maxRecDepth 100000 in
theorem k_X4_withState_17 {l : Launch} {D : va_G} {cI cZ cB cS : ClassId} {A : Nat → Prop} (κ : Nat → Nat) (σ sc : Nat → Nat → Int32) (ad : Nat → Nat → Nat) (b : Nat) (hb0 : b < κ 0) (hn : κ 0 ≤ 40) (ek : σ 0 b = nI 17) (h3 : κ 3 ≤ 3000) (y0 y1 : Int32) : Met l yX4_withState wsX4_withState ({ frames := 1, cells := 0, slots := 0, locals := 26 } : Room) (gPc D cI cZ cB cS A rDm (rEn cI cZ κ σ sc ad) ad [.ref (ad 0 0), .int (nI b), .int y0, .int y1]) (va_Qi (fun (r : Int32) (_ : Unit) => r = f_own σ 17 b y0 y1 (nI (κ 3 % 1440))) (fun _ t => gw_P D vwCl A rDm (rEn cI cZ κ (ownS σ 17 b y0 y1) sc ad) ad t.heap) A) 0 0 A := by
  refine Met.ofW (cc := cX4_withState) (maxL := 4) (ret := (some .int)) (by decide) rfl ?_
  intro p e s m args below meth c s₁ B hml hv
  obtain ⟨rfl, hP, hE, hA⟩ := hv
  have hx := B.exec
  have hb := B.bytes
  have hr := B.returns
  have hts := atoms_spec (ws := wsX4_withState) B.pre
  have hown : s.vm.findClass RX4 = some m.cls := findClass_of_methodNamed B.named
  have hlocks := B.notSynchronized
  have hK := hE.1
  have hS : va_S A s.heap s.heap [] := va_S.rf
  have hL4 := fun w (hw : w ∈ u_ws RX4 TX4 25) => hts w (iL_X4_withState_X4 w hw)
  have hl := lv_entry ([.ref (ad 0 0), .int (nI b), .int y0, .int y1]) (n := 4) (Nat.le_of_ble_eq_true rfl)
  rw [lg_entry_eq]
  generalize (lg_sl ([.ref (ad 0 0), .int (nI b), .int y0, .int y1]) ++ List.replicate (4 - (lg_sl ([.ref (ad 0 0), .int (nI b), .int y0, .int y1])).length) Slot.unset).toArray = ls at hl ⊢
  have hl : lv_has ls 4 [(0, .ref (ad 0 0)), (1, .int (nI b)), (2, .int y0), (3, .int y1)] := hl
  refine lv_aload_n hx hb dX4_withState_0 rfl (lv_at hl 0 rfl) ?_
  refine gw_get (C := RX4) (T := TX4) (N := 25) hx hb hL4 hown hK hP 0 0 (rDf (by decide)) rfl rfl 2 (by decide) (hts (.fieldLink RX4 7 "BlockProgramsModel" "kinds" "[I") (by decide +kernel)) (fun _ h9 => h9) (v := .ref (ad 2 0)) rfl dX4_withState_1 ?_
  refine lv_iload_n hx hb dX4_withState_4 rfl (lv_at hl 1 rfl) ?_
  refine gw_iald hx hb hK hP 2 0 (rDf (by decide)) 0 rfl rfl (b) rfl (by omega) (by decide) (v := nI 17) ek dX4_withState_5 ?_
  refine lv_tableIn (off := 57) (tgt := 63) hx hb dX4_withState_6 (by decide) (by decide) (by decide) (by decide) ?_
  refine lv_aload_n hx hb dX4_withState_63 rfl (lv_at hl 0 rfl) ?_
  refine lv_iload_n hx hb dX4_withState_64 rfl (lv_at hl 1 rfl) ?_
  refine lv_iload_n hx hb dX4_withState_65 rfl (lv_at hl 2 rfl) ?_
  refine va_calli (va_runV (As := [.int (nI b), .int y0]) (rest := []) ⟨hx, hb, hml, hown, hts⟩ (k_X4_ramp (l := l) (D := D) (cI := cI) (cZ := cZ) (cB := cB) (cS := cS) (A := A) κ σ sc ad b hb0 hn y0) (cwV 2 hts gX4_withState_X4_ramp rfl rfl rfl (by decide +kernel) ⟨Nat.le_of_ble_eq_true rfl, Nat.le_of_ble_eq_true rfl⟩) (gPreV hE hA hS hP (gw_recv hK hP 0 0 (rDf (by decide)) rfl rfl)) rfl rfl hl.1 rfl (lv_room (Nat.le_of_ble_eq_true rfl)) dX4_withState_66 ⟨Nat.le_of_ble_eq_true rfl, Nat.le_of_ble_eq_true rfl⟩) hS (fun q _ h9 => h9) (fun q h9 => h9) (fun r_1 u9 t9 H locs ht9 hvm9 hw_r_1 hB9 hz9 hk9 hS => ?_)
  have hP : gw_P D vwCl A rDm (rEn cI cZ κ σ sc ad) ad H := by rw [← ht9]; exact hB9
  refine lv_toq ((f_ramp (σ 1 b) (σ 4 b) y0)) hw_r_1 ?_
  have eσ : σ = ownS σ 17 b y0 y1 := by simp [ownS, f_fst, f_snd, f_sum, f_count, f_latch, f_since, wr_wr, wr_id, wr_id6, wr_s, wr_id]
  rw [eσ] at hP
  exact W.iret (v := (f_ramp (σ 1 b) (σ 4 b) y0)) hx hb hr (fun t ht hW => ⟨⟨((f_ramp (σ 1 b) (σ 4 b) y0)), (), rfl, (by simp [f_own, f_limit, f_sum, f_count, f_latch, f_since, wr, f_own]), by rw [← ht] at hP; exact hP⟩, hS.F ht⟩) hS.2.2 dX4_withState_69

set_option maxHeartbeats 4000000 in
set_option maxRecDepth 100000 in
theorem k_X4_withState_18 {l : Launch} {D : va_G} {cI cZ cB cS : ClassId} {A : Nat → Prop} (κ : Nat → Nat) (σ sc : Nat → Nat → Int32) (ad : Nat → Nat → Nat) (b : Nat) (hb0 : b < κ 0) (hn : κ 0 ≤ 40) (ek : σ 0 b = nI 18) (h3 : κ 3 ≤ 3000) (y0 y1 : Int32) : Met l yX4_withState wsX4_withState ({ frames := 1, cells := 0, slots := 0, locals := 26 } : Room) (gPc D cI cZ cB cS A rDm (rEn cI cZ κ σ sc ad) ad [.ref (ad 0 0), .int (nI b), .int y0, .int y1]) (va_Qi (fun (r : Int32) (_ : Unit) => r = f_own σ 18 b y0 y1 (nI (κ 3 % 1440))) (fun _ t => gw_P D vwCl A rDm (rEn cI cZ κ (ownS σ 18 b y0 y1) sc ad) ad t.heap) A) 0 0 A := by
  refine Met.ofW (cc := cX4_withState) (maxL := 4) (ret := (some .int)) (by decide) rfl ?_
  intro p e s m args below meth c s₁ B hml hv
  obtain ⟨rfl, hP, hE, hA⟩ := hv
  have hx := B.exec
  have hb := B.bytes
  have hr := B.returns
  have hts := atoms_spec (ws := wsX4_withState) B.pre
  have hown : s.vm.findClass RX4 = some m.cls := findClass_of_methodNamed B.named
  have hlocks := B.notSynchronized
  have hK := hE.1
  have hS : va_S A s.heap s.heap [] := va_S.rf
  have hL4 := fun w (hw : w ∈ u_ws RX4 TX4 25) => hts w (iL_X4_withState_X4 w hw)
  have hl := lv_entry ([.ref (ad 0 0), .int (nI b), .int y0, .int y1]) (n := 4) (Nat.le_of_ble_eq_true rfl)
  rw [lg_entry_eq]
  generalize (lg_sl ([.ref (ad 0 0), .int (nI b), .int y0, .int y1]) ++ List.replicate (4 - (lg_sl ([.ref (ad 0 0), .int (nI b), .int y0, .int y1])).length) Slot.unset).toArray = ls at hl ⊢
  have hl : lv_has ls 4 [(0, .ref (ad 0 0)), (1, .int (nI b)), (2, .int y0), (3, .int y1)] := hl
  refine lv_aload_n hx hb dX4_withState_0 rfl (lv_at hl 0 rfl) ?_
  refine gw_get (C := RX4) (T := TX4) (N := 25) hx hb hL4 hown hK hP 0 0 (rDf (by decide)) rfl rfl 2 (by decide) (hts (.fieldLink RX4 7 "BlockProgramsModel" "kinds" "[I") (by decide +kernel)) (fun _ h9 => h9) (v := .ref (ad 2 0)) rfl dX4_withState_1 ?_
  refine lv_iload_n hx hb dX4_withState_4 rfl (lv_at hl 1 rfl) ?_
  refine gw_iald hx hb hK hP 2 0 (rDf (by decide)) 0 rfl rfl (b) rfl (by omega) (by decide) (v := nI 18) ek dX4_withState_5 ?_
  refine lv_tableIn (off := 64) (tgt := 70) hx hb dX4_withState_6 (by decide) (by decide) (by decide) (by decide) ?_
  refine lv_aload_n hx hb dX4_withState_70 rfl (lv_at hl 0 rfl) ?_
  refine gw_get (C := RX4) (T := TX4) (N := 25) hx hb hL4 hown hK hP 0 0 (rDf (by decide)) rfl rfl 8 (by decide) (hts (.fieldLink RX4 28 "BlockProgramsModel" "firsts" "[I") (by decide +kernel)) (fun _ h9 => h9) (v := .ref (ad 8 0)) rfl dX4_withState_71 ?_
  refine lv_iload_n hx hb dX4_withState_74 rfl (lv_at hl 1 rfl) ?_
  refine lv_iload_n hx hb dX4_withState_75 rfl (lv_at hl 3 rfl) ?_
  refine lv_if_eq (tgt := 83) hx hb dX4_withState_76 (by decide) (fun c_1 => ?_) (fun c_1 => ?_)
  · refine lv_iload_n hx hb dX4_withState_83 rfl (lv_at hl 2 rfl) ?_
    refine lv_if_eq (tgt := 107) hx hb dX4_withState_84 (by decide) (fun c_2 => ?_) (fun c_2 => ?_)
    · refine lv_aload_n hx hb dX4_withState_107 rfl (lv_at hl 0 rfl) ?_
      refine gw_get (C := RX4) (T := TX4) (N := 25) hx hb hL4 hown hK hP 0 0 (rDf (by decide)) rfl rfl 8 (by decide) (hts (.fieldLink RX4 28 "BlockProgramsModel" "firsts" "[I") (by decide +kernel)) (fun _ h9 => h9) (v := .ref (ad 8 0)) rfl dX4_withState_108 ?_
      refine lv_iload_n hx hb dX4_withState_111 rfl (lv_at hl 1 rfl) ?_
      refine gw_iald hx hb hK hP 8 0 (rDf (by decide)) 0 rfl rfl (b) rfl (by omega) (by decide) (v := (σ 5 b)) rfl dX4_withState_112 ?_
      refine gw_iast hx hb hK hP hS 8 0 (rDf (by decide)) 0 rfl rfl (b) rfl (by omega) (by decide) dX4_withState_113 ((rEn cI cZ κ (wr σ 5 b ((σ 5 b))) sc ad)) rUs_8 (fun t9 i9 z9 h9 => rU8 _ t9 i9 h9 z9) (fun H locs hP hS => ?_)
      refine lv_aload_n hx hb dX4_withState_114 rfl (lv_at hl 0 rfl) ?_
      refine gw_get (C := RX4) (T := TX4) (N := 25) hx hb hL4 hown hK hP 0 0 (rDf (by decide)) rfl rfl 9 (by decide) (hts (.fieldLink RX4 31 "BlockProgramsModel" "seconds" "[I") (by decide +kernel)) (fun _ h9 => h9) (v := .ref (ad 9 0)) rfl dX4_withState_115 ?_
      refine lv_iload_n hx hb dX4_withState_118 rfl (lv_at hl 1 rfl) ?_
      refine lv_iload_n hx hb dX4_withState_119 rfl (lv_at hl 2 rfl) ?_
      refine gw_iast hx hb hK hP hS 9 0 (rDf (by decide)) 0 rfl rfl (b) rfl (by omega) (by decide) dX4_withState_120 ((rEn cI cZ κ (wr (wr σ 5 b ((σ 5 b))) 6 b y0) sc ad)) rUs_9 (fun t9 i9 z9 h9 => rU9 _ t9 i9 h9 z9) (fun H locs hP hS => ?_)
      refine lv_aload_n hx hb dX4_withState_121 rfl (lv_at hl 0 rfl) ?_
      refine gw_get (C := RX4) (T := TX4) (N := 25) hx hb hL4 hown hK hP 0 0 (rDf (by decide)) rfl rfl 8 (by decide) (hts (.fieldLink RX4 28 "BlockProgramsModel" "firsts" "[I") (by decide +kernel)) (fun _ h9 => h9) (v := .ref (ad 8 0)) rfl dX4_withState_122 ?_
      refine lv_iload_n hx hb dX4_withState_125 rfl (lv_at hl 1 rfl) ?_
      refine gw_iald hx hb hK hP 8 0 (rDf (by decide)) 0 rfl rfl (b) rfl (by omega) (by decide) (v := ((σ 5 b))) (by simp [wr]) dX4_withState_126 ?_
      have eσ : wr (wr σ 5 b ((σ 5 b))) 6 b y0 = ownS σ 18 b y0 y1 := by simp [ownS, f_fst, f_snd, f_sum, f_count, f_latch, f_since, wr_wr, wr_id, wr_id6, wr_s, c_1, c_2]
      rw [eσ] at hP
      exact W.iret (v := ((σ 5 b))) hx hb hr (fun t ht hW => ⟨⟨(((σ 5 b))), (), rfl, (by simp [f_own, f_limit, f_sum, f_count, f_latch, f_since, wr, c_1, c_2]), by rw [← ht] at hP; exact hP⟩, hS.F ht⟩) hS.2.2 dX4_withState_127
    · refine lv_aload_n hx hb dX4_withState_87 rfl (lv_at hl 0 rfl) ?_
      refine gw_get (C := RX4) (T := TX4) (N := 25) hx hb hL4 hown hK hP 0 0 (rDf (by decide)) rfl rfl 9 (by decide) (hts (.fieldLink RX4 31 "BlockProgramsModel" "seconds" "[I") (by decide +kernel)) (fun _ h9 => h9) (v := .ref (ad 9 0)) rfl dX4_withState_88 ?_
      refine lv_iload_n hx hb dX4_withState_91 rfl (lv_at hl 1 rfl) ?_
      refine gw_iald hx hb hK hP 9 0 (rDf (by decide)) 0 rfl rfl (b) rfl (by omega) (by decide) (v := (σ 6 b)) rfl dX4_withState_92 ?_
      refine lv_if_ne (tgt := 107) hx hb dX4_withState_93 (by decide) (fun c_3 => ?_) (fun c_3 => ?_)
      · refine lv_aload_n hx hb dX4_withState_107 rfl (lv_at hl 0 rfl) ?_
        refine gw_get (C := RX4) (T := TX4) (N := 25) hx hb hL4 hown hK hP 0 0 (rDf (by decide)) rfl rfl 8 (by decide) (hts (.fieldLink RX4 28 "BlockProgramsModel" "firsts" "[I") (by decide +kernel)) (fun _ h9 => h9) (v := .ref (ad 8 0)) rfl dX4_withState_108 ?_
        refine lv_iload_n hx hb dX4_withState_111 rfl (lv_at hl 1 rfl) ?_
        refine gw_iald hx hb hK hP 8 0 (rDf (by decide)) 0 rfl rfl (b) rfl (by omega) (by decide) (v := (σ 5 b)) rfl dX4_withState_112 ?_
        refine gw_iast hx hb hK hP hS 8 0 (rDf (by decide)) 0 rfl rfl (b) rfl (by omega) (by decide) dX4_withState_113 ((rEn cI cZ κ (wr σ 5 b ((σ 5 b))) sc ad)) rUs_8 (fun t9 i9 z9 h9 => rU8 _ t9 i9 h9 z9) (fun H locs hP hS => ?_)
        refine lv_aload_n hx hb dX4_withState_114 rfl (lv_at hl 0 rfl) ?_
        refine gw_get (C := RX4) (T := TX4) (N := 25) hx hb hL4 hown hK hP 0 0 (rDf (by decide)) rfl rfl 9 (by decide) (hts (.fieldLink RX4 31 "BlockProgramsModel" "seconds" "[I") (by decide +kernel)) (fun _ h9 => h9) (v := .ref (ad 9 0)) rfl dX4_withState_115 ?_
        refine lv_iload_n hx hb dX4_withState_118 rfl (lv_at hl 1 rfl) ?_
        refine lv_iload_n hx hb dX4_withState_119 rfl (lv_at hl 2 rfl) ?_
        refine gw_iast hx hb hK hP hS 9 0 (rDf (by decide)) 0 rfl rfl (b) rfl (by omega) (by decide) dX4_withState_120 ((rEn cI cZ κ (wr (wr σ 5 b ((σ 5 b))) 6 b y0) sc ad)) rUs_9 (fun t9 i9 z9 h9 => rU9 _ t9 i9 h9 z9) (fun H locs hP hS => ?_)
        refine lv_aload_n hx hb dX4_withState_121 rfl (lv_at hl 0 rfl) ?_
        refine gw_get (C := RX4) (T := TX4) (N := 25) hx hb hL4 hown hK hP 0 0 (rDf (by decide)) rfl rfl 8 (by decide) (hts (.fieldLink RX4 28 "BlockProgramsModel" "firsts" "[I") (by decide +kernel)) (fun _ h9 => h9) (v := .ref (ad 8 0)) rfl dX4_withState_122 ?_
        refine lv_iload_n hx hb dX4_withState_125 rfl (lv_at hl 1 rfl) ?_
        refine gw_iald hx hb hK hP 8 0 (rDf (by decide)) 0 rfl rfl (b) rfl (by omega) (by decide) (v := ((σ 5 b))) (by simp [wr]) dX4_withState_126 ?_
        have eσ : wr (wr σ 5 b ((σ 5 b))) 6 b y0 = ownS σ 18 b y0 y1 := by simp [ownS, f_fst, f_snd, f_sum, f_count, f_latch, f_since, wr_wr, wr_id, wr_id6, wr_s, c_1, c_2, c_3]
        rw [eσ] at hP
        exact W.iret (v := ((σ 5 b))) hx hb hr (fun t ht hW => ⟨⟨(((σ 5 b))), (), rfl, (by simp [f_own, f_limit, f_sum, f_count, f_latch, f_since, wr, c_1, c_2, c_3]), by rw [← ht] at hP; exact hP⟩, hS.F ht⟩) hS.2.2 dX4_withState_127
      · refine lv_aload_n hx hb dX4_withState_96 rfl (lv_at hl 0 rfl) ?_
        refine gw_get (C := RX4) (T := TX4) (N := 25) hx hb hL4 hown hK hP 0 0 (rDf (by decide)) rfl rfl 8 (by decide) (hts (.fieldLink RX4 28 "BlockProgramsModel" "firsts" "[I") (by decide +kernel)) (fun _ h9 => h9) (v := .ref (ad 8 0)) rfl dX4_withState_97 ?_
        refine lv_iload_n hx hb dX4_withState_100 rfl (lv_at hl 1 rfl) ?_
        refine gw_iald hx hb hK hP 8 0 (rDf (by decide)) 0 rfl rfl (b) rfl (by omega) (by decide) (v := (σ 5 b)) rfl dX4_withState_101 ?_
        refine lv_iconst (v := 1) hx hb dX4_withState_102 (by decide) ?_
        refine lv_iadd hx hb dX4_withState_103 ?_
        refine lv_goto (tgt := 113) hx hb dX4_withState_104 (by decide) ?_
        refine gw_iast hx hb hK hP hS 8 0 (rDf (by decide)) 0 rfl rfl (b) rfl (by omega) (by decide) dX4_withState_113 ((rEn cI cZ κ (wr σ 5 b (((σ 5 b) + 1))) sc ad)) rUs_8 (fun t9 i9 z9 h9 => rU8 _ t9 i9 h9 z9) (fun H locs hP hS => ?_)
        refine lv_aload_n hx hb dX4_withState_114 rfl (lv_at hl 0 rfl) ?_
        refine gw_get (C := RX4) (T := TX4) (N := 25) hx hb hL4 hown hK hP 0 0 (rDf (by decide)) rfl rfl 9 (by decide) (hts (.fieldLink RX4 31 "BlockProgramsModel" "seconds" "[I") (by decide +kernel)) (fun _ h9 => h9) (v := .ref (ad 9 0)) rfl dX4_withState_115 ?_
        refine lv_iload_n hx hb dX4_withState_118 rfl (lv_at hl 1 rfl) ?_
        refine lv_iload_n hx hb dX4_withState_119 rfl (lv_at hl 2 rfl) ?_
        refine gw_iast hx hb hK hP hS 9 0 (rDf (by decide)) 0 rfl rfl (b) rfl (by omega) (by decide) dX4_withState_120 ((rEn cI cZ κ (wr (wr σ 5 b (((σ 5 b) + 1))) 6 b y0) sc ad)) rUs_9 (fun t9 i9 z9 h9 => rU9 _ t9 i9 h9 z9) (fun H locs hP hS => ?_)
        refine lv_aload_n hx hb dX4_withState_121 rfl (lv_at hl 0 rfl) ?_
        refine gw_get (C := RX4) (T := TX4) (N := 25) hx hb hL4 hown hK hP 0 0 (rDf (by decide)) rfl rfl 8 (by decide) (hts (.fieldLink RX4 28 "BlockProgramsModel" "firsts" "[I") (by decide +kernel)) (fun _ h9 => h9) (v := .ref (ad 8 0)) rfl dX4_withState_122 ?_
        refine lv_iload_n hx hb dX4_withState_125 rfl (lv_at hl 1 rfl) ?_
        refine gw_iald hx hb hK hP 8 0 (rDf (by decide)) 0 rfl rfl (b) rfl (by omega) (by decide) (v := (((σ 5 b) + 1))) (by simp [wr]) dX4_withState_126 ?_
        have eσ : wr (wr σ 5 b (((σ 5 b) + 1))) 6 b y0 = ownS σ 18 b y0 y1 := by simp [ownS, f_fst, f_snd, f_sum, f_count, f_latch, f_since, wr_wr, wr_id, wr_id6, wr_s, c_1, c_2, c_3]
        rw [eσ] at hP
        exact W.iret (v := (((σ 5 b) + 1))) hx hb hr (fun t ht hW => ⟨⟨((((σ 5 b) + 1))), (), rfl, (by simp [f_own, f_limit, f_sum, f_count, f_latch, f_since, wr, c_1, c_2, c_3]), by rw [← ht] at hP; exact hP⟩, hS.F ht⟩) hS.2.2 dX4_withState_127
  · refine lv_iconst (v := 0) hx hb dX4_withState_79 (by decide) ?_
    refine lv_goto (tgt := 113) hx hb dX4_withState_80 (by decide) ?_
    refine gw_iast hx hb hK hP hS 8 0 (rDf (by decide)) 0 rfl rfl (b) rfl (by omega) (by decide) dX4_withState_113 ((rEn cI cZ κ (wr σ 5 b 0) sc ad)) rUs_8 (fun t9 i9 z9 h9 => rU8 _ t9 i9 h9 z9) (fun H locs hP hS => ?_)
    refine lv_aload_n hx hb dX4_withState_114 rfl (lv_at hl 0 rfl) ?_
    refine gw_get (C := RX4) (T := TX4) (N := 25) hx hb hL4 hown hK hP 0 0 (rDf (by decide)) rfl rfl 9 (by decide) (hts (.fieldLink RX4 31 "BlockProgramsModel" "seconds" "[I") (by decide +kernel)) (fun _ h9 => h9) (v := .ref (ad 9 0)) rfl dX4_withState_115 ?_
    refine lv_iload_n hx hb dX4_withState_118 rfl (lv_at hl 1 rfl) ?_
    refine lv_iload_n hx hb dX4_withState_119 rfl (lv_at hl 2 rfl) ?_
    refine gw_iast hx hb hK hP hS 9 0 (rDf (by decide)) 0 rfl rfl (b) rfl (by omega) (by decide) dX4_withState_120 ((rEn cI cZ κ (wr (wr σ 5 b 0) 6 b y0) sc ad)) rUs_9 (fun t9 i9 z9 h9 => rU9 _ t9 i9 h9 z9) (fun H locs hP hS => ?_)
    refine lv_aload_n hx hb dX4_withState_121 rfl (lv_at hl 0 rfl) ?_
    refine gw_get (C := RX4) (T := TX4) (N := 25) hx hb hL4 hown hK hP 0 0 (rDf (by decide)) rfl rfl 8 (by decide) (hts (.fieldLink RX4 28 "BlockProgramsModel" "firsts" "[I") (by decide +kernel)) (fun _ h9 => h9) (v := .ref (ad 8 0)) rfl dX4_withState_122 ?_
    refine lv_iload_n hx hb dX4_withState_125 rfl (lv_at hl 1 rfl) ?_
    refine gw_iald hx hb hK hP 8 0 (rDf (by decide)) 0 rfl rfl (b) rfl (by omega) (by decide) (v := 0) (by simp [wr]) dX4_withState_126 ?_
    have eσ : wr (wr σ 5 b 0) 6 b y0 = ownS σ 18 b y0 y1 := by simp [ownS, f_fst, f_snd, f_sum, f_count, f_latch, f_since, wr_wr, wr_id, wr_id6, wr_s, c_1]
    rw [eσ] at hP
    exact W.iret (v := 0) hx hb hr (fun t ht hW => ⟨⟨0, (), rfl, (by simp [f_own, f_limit, f_sum, f_count, f_latch, f_since, wr, c_1]), by rw [← ht] at hP; exact hP⟩, hS.F ht⟩) hS.2.2 dX4_withState_127

set_option maxHeartbeats 4000000 in
set_option maxRecDepth 100000 in
theorem k_X4_withState_19 {l : Launch} {D : va_G} {cI cZ cB cS : ClassId} {A : Nat → Prop} (κ : Nat → Nat) (σ sc : Nat → Nat → Int32) (ad : Nat → Nat → Nat) (b : Nat) (hb0 : b < κ 0) (hn : κ 0 ≤ 40) (ek : σ 0 b = nI 19) (h3 : κ 3 ≤ 3000) (y0 y1 : Int32) : Met l yX4_withState wsX4_withState ({ frames := 1, cells := 0, slots := 0, locals := 26 } : Room) (gPc D cI cZ cB cS A rDm (rEn cI cZ κ σ sc ad) ad [.ref (ad 0 0), .int (nI b), .int y0, .int y1]) (va_Qi (fun (r : Int32) (_ : Unit) => r = f_own σ 19 b y0 y1 (nI (κ 3 % 1440))) (fun _ t => gw_P D vwCl A rDm (rEn cI cZ κ (ownS σ 19 b y0 y1) sc ad) ad t.heap) A) 0 0 A := by
  refine Met.ofW (cc := cX4_withState) (maxL := 4) (ret := (some .int)) (by decide) rfl ?_
  intro p e s m args below meth c s₁ B hml hv
  obtain ⟨rfl, hP, hE, hA⟩ := hv
  have hx := B.exec
  have hb := B.bytes
  have hr := B.returns
  have hts := atoms_spec (ws := wsX4_withState) B.pre
  have hown : s.vm.findClass RX4 = some m.cls := findClass_of_methodNamed B.named
  have hlocks := B.notSynchronized
  have hK := hE.1
  have hS : va_S A s.heap s.heap [] := va_S.rf
  have hL4 := fun w (hw : w ∈ u_ws RX4 TX4 25) => hts w (iL_X4_withState_X4 w hw)
  have hl := lv_entry ([.ref (ad 0 0), .int (nI b), .int y0, .int y1]) (n := 4) (Nat.le_of_ble_eq_true rfl)
  rw [lg_entry_eq]
  generalize (lg_sl ([.ref (ad 0 0), .int (nI b), .int y0, .int y1]) ++ List.replicate (4 - (lg_sl ([.ref (ad 0 0), .int (nI b), .int y0, .int y1])).length) Slot.unset).toArray = ls at hl ⊢
  have hl : lv_has ls 4 [(0, .ref (ad 0 0)), (1, .int (nI b)), (2, .int y0), (3, .int y1)] := hl
  refine lv_aload_n hx hb dX4_withState_0 rfl (lv_at hl 0 rfl) ?_
  refine gw_get (C := RX4) (T := TX4) (N := 25) hx hb hL4 hown hK hP 0 0 (rDf (by decide)) rfl rfl 2 (by decide) (hts (.fieldLink RX4 7 "BlockProgramsModel" "kinds" "[I") (by decide +kernel)) (fun _ h9 => h9) (v := .ref (ad 2 0)) rfl dX4_withState_1 ?_
  refine lv_iload_n hx hb dX4_withState_4 rfl (lv_at hl 1 rfl) ?_
  refine gw_iald hx hb hK hP 2 0 (rDf (by decide)) 0 rfl rfl (b) rfl (by omega) (by decide) (v := nI 19) ek dX4_withState_5 ?_
  refine lv_tableIn (off := 122) (tgt := 128) hx hb dX4_withState_6 (by decide) (by decide) (by decide) (by decide) ?_
  refine lv_aload_n hx hb dX4_withState_128 rfl (lv_at hl 0 rfl) ?_
  refine gw_get (C := RX4) (T := TX4) (N := 25) hx hb hL4 hown hK hP 0 0 (rDf (by decide)) rfl rfl 8 (by decide) (hts (.fieldLink RX4 28 "BlockProgramsModel" "firsts" "[I") (by decide +kernel)) (fun _ h9 => h9) (v := .ref (ad 8 0)) rfl dX4_withState_129 ?_
  refine lv_iload_n hx hb dX4_withState_132 rfl (lv_at hl 1 rfl) ?_
  refine lv_iload_n hx hb dX4_withState_133 rfl (lv_at hl 2 rfl) ?_
  refine lv_if_eq (tgt := 141) hx hb dX4_withState_134 (by decide) (fun c_1 => ?_) (fun c_1 => ?_)
  · refine lv_iload_n hx hb dX4_withState_141 rfl (lv_at hl 3 rfl) ?_
    refine lv_if_eq (tgt := 149) hx hb dX4_withState_142 (by decide) (fun c_2 => ?_) (fun c_2 => ?_)
    · refine lv_aload_n hx hb dX4_withState_149 rfl (lv_at hl 0 rfl) ?_
      refine gw_get (C := RX4) (T := TX4) (N := 25) hx hb hL4 hown hK hP 0 0 (rDf (by decide)) rfl rfl 8 (by decide) (hts (.fieldLink RX4 28 "BlockProgramsModel" "firsts" "[I") (by decide +kernel)) (fun _ h9 => h9) (v := .ref (ad 8 0)) rfl dX4_withState_150 ?_
      refine lv_iload_n hx hb dX4_withState_153 rfl (lv_at hl 1 rfl) ?_
      refine gw_iald hx hb hK hP 8 0 (rDf (by decide)) 0 rfl rfl (b) rfl (by omega) (by decide) (v := (σ 5 b)) rfl dX4_withState_154 ?_
      refine gw_iast hx hb hK hP hS 8 0 (rDf (by decide)) 0 rfl rfl (b) rfl (by omega) (by decide) dX4_withState_155 ((rEn cI cZ κ (wr σ 5 b ((σ 5 b))) sc ad)) rUs_8 (fun t9 i9 z9 h9 => rU8 _ t9 i9 h9 z9) (fun H locs hP hS => ?_)
      refine lv_aload_n hx hb dX4_withState_156 rfl (lv_at hl 0 rfl) ?_
      refine gw_get (C := RX4) (T := TX4) (N := 25) hx hb hL4 hown hK hP 0 0 (rDf (by decide)) rfl rfl 8 (by decide) (hts (.fieldLink RX4 28 "BlockProgramsModel" "firsts" "[I") (by decide +kernel)) (fun _ h9 => h9) (v := .ref (ad 8 0)) rfl dX4_withState_157 ?_
      refine lv_iload_n hx hb dX4_withState_160 rfl (lv_at hl 1 rfl) ?_
      refine gw_iald hx hb hK hP 8 0 (rDf (by decide)) 0 rfl rfl (b) rfl (by omega) (by decide) (v := ((σ 5 b))) (by simp [wr]) dX4_withState_161 ?_
      have eσ : wr σ 5 b ((σ 5 b)) = ownS σ 19 b y0 y1 := by simp [ownS, f_fst, f_snd, f_sum, f_count, f_latch, f_since, wr_wr, wr_id, wr_id6, wr_s, c_1, c_2]
      rw [eσ] at hP
      exact W.iret (v := ((σ 5 b))) hx hb hr (fun t ht hW => ⟨⟨(((σ 5 b))), (), rfl, (by simp [f_own, f_limit, f_sum, f_count, f_latch, f_since, wr, c_1, c_2]), by rw [← ht] at hP; exact hP⟩, hS.F ht⟩) hS.2.2 dX4_withState_162
    · refine lv_iconst (v := 0) hx hb dX4_withState_145 (by decide) ?_
      refine lv_goto (tgt := 155) hx hb dX4_withState_146 (by decide) ?_
      refine gw_iast hx hb hK hP hS 8 0 (rDf (by decide)) 0 rfl rfl (b) rfl (by omega) (by decide) dX4_withState_155 ((rEn cI cZ κ (wr σ 5 b 0) sc ad)) rUs_8 (fun t9 i9 z9 h9 => rU8 _ t9 i9 h9 z9) (fun H locs hP hS => ?_)
      refine lv_aload_n hx hb dX4_withState_156 rfl (lv_at hl 0 rfl) ?_
      refine gw_get (C := RX4) (T := TX4) (N := 25) hx hb hL4 hown hK hP 0 0 (rDf (by decide)) rfl rfl 8 (by decide) (hts (.fieldLink RX4 28 "BlockProgramsModel" "firsts" "[I") (by decide +kernel)) (fun _ h9 => h9) (v := .ref (ad 8 0)) rfl dX4_withState_157 ?_
      refine lv_iload_n hx hb dX4_withState_160 rfl (lv_at hl 1 rfl) ?_
      refine gw_iald hx hb hK hP 8 0 (rDf (by decide)) 0 rfl rfl (b) rfl (by omega) (by decide) (v := 0) (by simp [wr]) dX4_withState_161 ?_
      have eσ : wr σ 5 b 0 = ownS σ 19 b y0 y1 := by simp [ownS, f_fst, f_snd, f_sum, f_count, f_latch, f_since, wr_wr, wr_id, wr_id6, wr_s, c_1, c_2]
      rw [eσ] at hP
      exact W.iret (v := 0) hx hb hr (fun t ht hW => ⟨⟨0, (), rfl, (by simp [f_own, f_limit, f_sum, f_count, f_latch, f_since, wr, c_1, c_2]), by rw [← ht] at hP; exact hP⟩, hS.F ht⟩) hS.2.2 dX4_withState_162
  · refine lv_iconst (v := 1) hx hb dX4_withState_137 (by decide) ?_
    refine lv_goto (tgt := 155) hx hb dX4_withState_138 (by decide) ?_
    refine gw_iast hx hb hK hP hS 8 0 (rDf (by decide)) 0 rfl rfl (b) rfl (by omega) (by decide) dX4_withState_155 ((rEn cI cZ κ (wr σ 5 b 1) sc ad)) rUs_8 (fun t9 i9 z9 h9 => rU8 _ t9 i9 h9 z9) (fun H locs hP hS => ?_)
    refine lv_aload_n hx hb dX4_withState_156 rfl (lv_at hl 0 rfl) ?_
    refine gw_get (C := RX4) (T := TX4) (N := 25) hx hb hL4 hown hK hP 0 0 (rDf (by decide)) rfl rfl 8 (by decide) (hts (.fieldLink RX4 28 "BlockProgramsModel" "firsts" "[I") (by decide +kernel)) (fun _ h9 => h9) (v := .ref (ad 8 0)) rfl dX4_withState_157 ?_
    refine lv_iload_n hx hb dX4_withState_160 rfl (lv_at hl 1 rfl) ?_
    refine gw_iald hx hb hK hP 8 0 (rDf (by decide)) 0 rfl rfl (b) rfl (by omega) (by decide) (v := 1) (by simp [wr]) dX4_withState_161 ?_
    have eσ : wr σ 5 b 1 = ownS σ 19 b y0 y1 := by simp [ownS, f_fst, f_snd, f_sum, f_count, f_latch, f_since, wr_wr, wr_id, wr_id6, wr_s, c_1]
    rw [eσ] at hP
    exact W.iret (v := 1) hx hb hr (fun t ht hW => ⟨⟨1, (), rfl, (by simp [f_own, f_limit, f_sum, f_count, f_latch, f_since, wr, c_1]), by rw [← ht] at hP; exact hP⟩, hS.F ht⟩) hS.2.2 dX4_withState_162

set_option maxHeartbeats 4000000 in
set_option maxRecDepth 100000 in
theorem k_X4_withState_20 {l : Launch} {D : va_G} {cI cZ cB cS : ClassId} {A : Nat → Prop} (κ : Nat → Nat) (σ sc : Nat → Nat → Int32) (ad : Nat → Nat → Nat) (b : Nat) (hb0 : b < κ 0) (hn : κ 0 ≤ 40) (ek : σ 0 b = nI 20) (h3 : κ 3 ≤ 3000) (y0 y1 : Int32) : Met l yX4_withState wsX4_withState ({ frames := 1, cells := 0, slots := 0, locals := 26 } : Room) (gPc D cI cZ cB cS A rDm (rEn cI cZ κ σ sc ad) ad [.ref (ad 0 0), .int (nI b), .int y0, .int y1]) (va_Qi (fun (r : Int32) (_ : Unit) => r = f_own σ 20 b y0 y1 (nI (κ 3 % 1440))) (fun _ t => gw_P D vwCl A rDm (rEn cI cZ κ (ownS σ 20 b y0 y1) sc ad) ad t.heap) A) 0 0 A := by
  refine Met.ofW (cc := cX4_withState) (maxL := 4) (ret := (some .int)) (by decide) rfl ?_
  intro p e s m args below meth c s₁ B hml hv
  obtain ⟨rfl, hP, hE, hA⟩ := hv
  have hx := B.exec
  have hb := B.bytes
  have hr := B.returns
  have hts := atoms_spec (ws := wsX4_withState) B.pre
  have hown : s.vm.findClass RX4 = some m.cls := findClass_of_methodNamed B.named
  have hlocks := B.notSynchronized
  have hK := hE.1
  have hS : va_S A s.heap s.heap [] := va_S.rf
  have hL4 := fun w (hw : w ∈ u_ws RX4 TX4 25) => hts w (iL_X4_withState_X4 w hw)
  have hl := lv_entry ([.ref (ad 0 0), .int (nI b), .int y0, .int y1]) (n := 4) (Nat.le_of_ble_eq_true rfl)
  rw [lg_entry_eq]
  generalize (lg_sl ([.ref (ad 0 0), .int (nI b), .int y0, .int y1]) ++ List.replicate (4 - (lg_sl ([.ref (ad 0 0), .int (nI b), .int y0, .int y1])).length) Slot.unset).toArray = ls at hl ⊢
  have hl : lv_has ls 4 [(0, .ref (ad 0 0)), (1, .int (nI b)), (2, .int y0), (3, .int y1)] := hl
  refine lv_aload_n hx hb dX4_withState_0 rfl (lv_at hl 0 rfl) ?_
  refine gw_get (C := RX4) (T := TX4) (N := 25) hx hb hL4 hown hK hP 0 0 (rDf (by decide)) rfl rfl 2 (by decide) (hts (.fieldLink RX4 7 "BlockProgramsModel" "kinds" "[I") (by decide +kernel)) (fun _ h9 => h9) (v := .ref (ad 2 0)) rfl dX4_withState_1 ?_
  refine lv_iload_n hx hb dX4_withState_4 rfl (lv_at hl 1 rfl) ?_
  refine gw_iald hx hb hK hP 2 0 (rDf (by decide)) 0 rfl rfl (b) rfl (by omega) (by decide) (v := nI 20) ek dX4_withState_5 ?_
  refine lv_tableIn (off := 157) (tgt := 163) hx hb dX4_withState_6 (by decide) (by decide) (by decide) (by decide) ?_
  refine lv_aload_n hx hb dX4_withState_163 rfl (lv_at hl 0 rfl) ?_
  refine lv_iload_n hx hb dX4_withState_164 rfl (lv_at hl 1 rfl) ?_
  refine va_calli (va_runV (As := [.int (nI b)]) (rest := []) ⟨hx, hb, hml, hown, hts⟩ (k_X4_clock (l := l) (D := D) (cI := cI) (cZ := cZ) (cB := cB) (cS := cS) (A := A) κ σ sc ad b hb0 hn h3) (cwV 1 hts gX4_withState_X4_clock rfl rfl rfl (by decide +kernel) ⟨Nat.le_of_ble_eq_true rfl, Nat.le_of_ble_eq_true rfl⟩) (gPreV hE hA hS hP (gw_recv hK hP 0 0 (rDf (by decide)) rfl rfl)) rfl rfl hl.1 rfl (lv_room (Nat.le_of_ble_eq_true rfl)) dX4_withState_165 ⟨Nat.le_of_ble_eq_true rfl, Nat.le_of_ble_eq_true rfl⟩) hS (fun q _ h9 => h9) (fun q h9 => h9) (fun r_1 u9 t9 H locs ht9 hvm9 hw_r_1 hB9 hz9 hk9 hS => ?_)
  have hP : gw_P D vwCl A rDm (rEn cI cZ κ σ sc ad) ad H := by rw [← ht9]; exact hB9
  refine lv_toq ((if f_clock (σ 1 b) (σ 2 b) (nI (κ 3 % 1440)) then 1 else 0)) hw_r_1 ?_
  refine va_calli (va_runS (As := [.int ((if f_clock (σ 1 b) (σ 2 b) (nI (κ 3 % 1440)) then 1 else 0))]) (rest := []) ⟨hx, hb, hml, hown, hts⟩ (k_X4_one (l := l) (D := D) (cI := cI) (cZ := cZ) (cB := cB) (cS := cS) (A := A) rDm (rEn cI cZ κ σ sc ad) ad ((if f_clock (σ 1 b) (σ 2 b) (nI (κ 3 % 1440)) then 1 else 0))) (va_cwS 1 hts gX4_withState_X4_one rfl rfl rfl (by decide +kernel) ⟨Nat.le_of_ble_eq_true rfl, Nat.le_of_ble_eq_true rfl⟩) (gPreS hE hA hS hP) rfl rfl hl.1 rfl (lv_room (Nat.le_of_ble_eq_true rfl)) dX4_withState_168 ⟨Nat.le_of_ble_eq_true rfl, Nat.le_of_ble_eq_true rfl⟩) hS (fun q _ h9 => h9) (fun q h9 => h9) (fun r_2 u9 t9 H locs ht9 hvm9 hw_r_2 hB9 hz9 hk9 hS => ?_)
  have hP : gw_P D vwCl A rDm (rEn cI cZ κ σ sc ad) ad H := by rw [← ht9]; exact hB9
  refine lv_toq ((if ((if f_clock (σ 1 b) (σ 2 b) (nI (κ 3 % 1440)) then 1 else 0) : Int32) = 0 then 0 else 1)) hw_r_2 ?_
  have eσ : σ = ownS σ 20 b y0 y1 := by simp [ownS, f_fst, f_snd, f_sum, f_count, f_latch, f_since, wr_wr, wr_id, wr_id6, wr_s, wr_id]
  rw [eσ] at hP
  exact W.iret (v := (if ((if f_clock (σ 1 b) (σ 2 b) (nI (κ 3 % 1440)) then 1 else 0) : Int32) = 0 then 0 else 1)) hx hb hr (fun t ht hW => ⟨⟨((if ((if f_clock (σ 1 b) (σ 2 b) (nI (κ 3 % 1440)) then 1 else 0) : Int32) = 0 then 0 else 1)), (), rfl, (by simp only [f_own]; cases f_clock (σ 1 b) (σ 2 b) (nI (κ 3 % 1440)) <;> rfl), by rw [← ht] at hP; exact hP⟩, hS.F ht⟩) hS.2.2 dX4_withState_171

set_option maxHeartbeats 4000000 in
set_option maxRecDepth 100000 in
theorem k_X4_withState_21 {l : Launch} {D : va_G} {cI cZ cB cS : ClassId} {A : Nat → Prop} (κ : Nat → Nat) (σ sc : Nat → Nat → Int32) (ad : Nat → Nat → Nat) (b : Nat) (hb0 : b < κ 0) (hn : κ 0 ≤ 40) (ek : σ 0 b = nI 21) (h3 : κ 3 ≤ 3000) (y0 y1 : Int32) : Met l yX4_withState wsX4_withState ({ frames := 1, cells := 0, slots := 0, locals := 26 } : Room) (gPc D cI cZ cB cS A rDm (rEn cI cZ κ σ sc ad) ad [.ref (ad 0 0), .int (nI b), .int y0, .int y1]) (va_Qi (fun (r : Int32) (_ : Unit) => r = f_own σ 21 b y0 y1 (nI (κ 3 % 1440))) (fun _ t => gw_P D vwCl A rDm (rEn cI cZ κ (ownS σ 21 b y0 y1) sc ad) ad t.heap) A) 0 0 A := by
  refine Met.ofW (cc := cX4_withState) (maxL := 4) (ret := (some .int)) (by decide) rfl ?_
  intro p e s m args below meth c s₁ B hml hv
  obtain ⟨rfl, hP, hE, hA⟩ := hv
  have hx := B.exec
  have hb := B.bytes
  have hr := B.returns
  have hts := atoms_spec (ws := wsX4_withState) B.pre
  have hown : s.vm.findClass RX4 = some m.cls := findClass_of_methodNamed B.named
  have hlocks := B.notSynchronized
  have hK := hE.1
  have hS : va_S A s.heap s.heap [] := va_S.rf
  have hL4 := fun w (hw : w ∈ u_ws RX4 TX4 25) => hts w (iL_X4_withState_X4 w hw)
  have hl := lv_entry ([.ref (ad 0 0), .int (nI b), .int y0, .int y1]) (n := 4) (Nat.le_of_ble_eq_true rfl)
  rw [lg_entry_eq]
  generalize (lg_sl ([.ref (ad 0 0), .int (nI b), .int y0, .int y1]) ++ List.replicate (4 - (lg_sl ([.ref (ad 0 0), .int (nI b), .int y0, .int y1])).length) Slot.unset).toArray = ls at hl ⊢
  have hl : lv_has ls 4 [(0, .ref (ad 0 0)), (1, .int (nI b)), (2, .int y0), (3, .int y1)] := hl
  refine lv_aload_n hx hb dX4_withState_0 rfl (lv_at hl 0 rfl) ?_
  refine gw_get (C := RX4) (T := TX4) (N := 25) hx hb hL4 hown hK hP 0 0 (rDf (by decide)) rfl rfl 2 (by decide) (hts (.fieldLink RX4 7 "BlockProgramsModel" "kinds" "[I") (by decide +kernel)) (fun _ h9 => h9) (v := .ref (ad 2 0)) rfl dX4_withState_1 ?_
  refine lv_iload_n hx hb dX4_withState_4 rfl (lv_at hl 1 rfl) ?_
  refine gw_iald hx hb hK hP 2 0 (rDf (by decide)) 0 rfl rfl (b) rfl (by omega) (by decide) (v := nI 21) ek dX4_withState_5 ?_
  refine lv_tableIn (off := 166) (tgt := 172) hx hb dX4_withState_6 (by decide) (by decide) (by decide) (by decide) ?_
  refine lv_aload_n hx hb dX4_withState_172 rfl (lv_at hl 0 rfl) ?_
  refine lv_iload_n hx hb dX4_withState_173 rfl (lv_at hl 1 rfl) ?_
  refine lv_iload_n hx hb dX4_withState_174 rfl (lv_at hl 2 rfl) ?_
  refine va_calli (va_runV (As := [.int (nI b), .int y0]) (rest := []) ⟨hx, hb, hml, hown, hts⟩ (k_X4_pulse (l := l) (D := D) (cI := cI) (cZ := cZ) (cB := cB) (cS := cS) (A := A) κ σ sc ad b hb0 hn y0) (cwV 2 hts gX4_withState_X4_pulse rfl rfl rfl (by decide +kernel) ⟨Nat.le_of_ble_eq_true rfl, Nat.le_of_ble_eq_true rfl⟩) (gPreV hE hA hS hP (gw_recv hK hP 0 0 (rDf (by decide)) rfl rfl)) rfl rfl hl.1 rfl (lv_room (Nat.le_of_ble_eq_true rfl)) dX4_withState_175 ⟨Nat.le_of_ble_eq_true rfl, Nat.le_of_ble_eq_true rfl⟩) hS (fun q _ h9 => h9) (fun q h9 => h9) (fun r_1 u9 t9 H locs ht9 hvm9 hw_r_1 hB9 hz9 hk9 hS => ?_)
  have hP : gw_P D vwCl A rDm (rEn cI cZ κ (wr (wr σ 5 b (if 0 < f_pulse0 (σ 1 b) (σ 5 b) (σ 6 b) y0 then f_pulse0 (σ 1 b) (σ 5 b) (σ 6 b) y0 - 1 else f_pulse0 (σ 1 b) (σ 5 b) (σ 6 b) y0)) 6 b y0) sc ad) ad H := by rw [← ht9]; exact hB9
  refine lv_toq ((if 0 < f_pulse0 (σ 1 b) (σ 5 b) (σ 6 b) y0 then 1 else 0)) hw_r_1 ?_
  have eσ : wr (wr σ 5 b (if 0 < f_pulse0 (σ 1 b) (σ 5 b) (σ 6 b) y0 then f_pulse0 (σ 1 b) (σ 5 b) (σ 6 b) y0 - 1 else f_pulse0 (σ 1 b) (σ 5 b) (σ 6 b) y0)) 6 b y0 = ownS σ 21 b y0 y1 := by simp [ownS, f_fst, f_snd, f_sum, f_count, f_latch, f_since, wr_wr, wr_id, wr_id6, wr_s, wr_id]
  rw [eσ] at hP
  exact W.iret (v := (if 0 < f_pulse0 (σ 1 b) (σ 5 b) (σ 6 b) y0 then 1 else 0)) hx hb hr (fun t ht hW => ⟨⟨((if 0 < f_pulse0 (σ 1 b) (σ 5 b) (σ 6 b) y0 then 1 else 0)), (), rfl, (by simp [f_own, f_limit, f_sum, f_count, f_latch, f_since, wr, f_own]), by rw [← ht] at hP; exact hP⟩, hS.F ht⟩) hS.2.2 dX4_withState_178

set_option maxHeartbeats 4000000 in
set_option maxRecDepth 100000 in
theorem k_X4_withState_22 {l : Launch} {D : va_G} {cI cZ cB cS : ClassId} {A : Nat → Prop} (κ : Nat → Nat) (σ sc : Nat → Nat → Int32) (ad : Nat → Nat → Nat) (b : Nat) (hb0 : b < κ 0) (hn : κ 0 ≤ 40) (ek : σ 0 b = nI 22) (h3 : κ 3 ≤ 3000) (y0 y1 : Int32) : Met l yX4_withState wsX4_withState ({ frames := 1, cells := 0, slots := 0, locals := 26 } : Room) (gPc D cI cZ cB cS A rDm (rEn cI cZ κ σ sc ad) ad [.ref (ad 0 0), .int (nI b), .int y0, .int y1]) (va_Qi (fun (r : Int32) (_ : Unit) => r = f_own σ 22 b y0 y1 (nI (κ 3 % 1440))) (fun _ t => gw_P D vwCl A rDm (rEn cI cZ κ (ownS σ 22 b y0 y1) sc ad) ad t.heap) A) 0 0 A := by
  refine Met.ofW (cc := cX4_withState) (maxL := 4) (ret := (some .int)) (by decide) rfl ?_
  intro p e s m args below meth c s₁ B hml hv
  obtain ⟨rfl, hP, hE, hA⟩ := hv
  have hx := B.exec
  have hb := B.bytes
  have hr := B.returns
  have hts := atoms_spec (ws := wsX4_withState) B.pre
  have hown : s.vm.findClass RX4 = some m.cls := findClass_of_methodNamed B.named
  have hlocks := B.notSynchronized
  have hK := hE.1
  have hS : va_S A s.heap s.heap [] := va_S.rf
  have hL4 := fun w (hw : w ∈ u_ws RX4 TX4 25) => hts w (iL_X4_withState_X4 w hw)
  have hl := lv_entry ([.ref (ad 0 0), .int (nI b), .int y0, .int y1]) (n := 4) (Nat.le_of_ble_eq_true rfl)
  rw [lg_entry_eq]
  generalize (lg_sl ([.ref (ad 0 0), .int (nI b), .int y0, .int y1]) ++ List.replicate (4 - (lg_sl ([.ref (ad 0 0), .int (nI b), .int y0, .int y1])).length) Slot.unset).toArray = ls at hl ⊢
  have hl : lv_has ls 4 [(0, .ref (ad 0 0)), (1, .int (nI b)), (2, .int y0), (3, .int y1)] := hl
  refine lv_aload_n hx hb dX4_withState_0 rfl (lv_at hl 0 rfl) ?_
  refine gw_get (C := RX4) (T := TX4) (N := 25) hx hb hL4 hown hK hP 0 0 (rDf (by decide)) rfl rfl 2 (by decide) (hts (.fieldLink RX4 7 "BlockProgramsModel" "kinds" "[I") (by decide +kernel)) (fun _ h9 => h9) (v := .ref (ad 2 0)) rfl dX4_withState_1 ?_
  refine lv_iload_n hx hb dX4_withState_4 rfl (lv_at hl 1 rfl) ?_
  refine gw_iald hx hb hK hP 2 0 (rDf (by decide)) 0 rfl rfl (b) rfl (by omega) (by decide) (v := nI 22) ek dX4_withState_5 ?_
  refine lv_tableIn (off := 173) (tgt := 179) hx hb dX4_withState_6 (by decide) (by decide) (by decide) (by decide) ?_
  refine lv_iload_n hx hb dX4_withState_179 rfl (lv_at hl 2 rfl) ?_
  refine lv_aload_n hx hb dX4_withState_180 rfl (lv_at hl 0 rfl) ?_
  refine gw_get (C := RX4) (T := TX4) (N := 25) hx hb hL4 hown hK hP 0 0 (rDf (by decide)) rfl rfl 3 (by decide) (hts (.fieldLink RX4 13 "BlockProgramsModel" "ps" "[I") (by decide +kernel)) (fun _ h9 => h9) (v := .ref (ad 3 0)) rfl dX4_withState_181 ?_
  refine lv_iload_n hx hb dX4_withState_184 rfl (lv_at hl 1 rfl) ?_
  refine gw_iald hx hb hK hP 3 0 (rDf (by decide)) 0 rfl rfl (b) rfl (by omega) (by decide) (v := (σ 1 b)) rfl dX4_withState_185 ?_
  refine lv_icmp_ge (tgt := 198) hx hb dX4_withState_186 (by decide) (fun c_1 => ?_) (fun c_1 => ?_)
  · refine lv_iload_n hx hb dX4_withState_198 rfl (lv_at hl 2 rfl) ?_
    refine lv_aload_n hx hb dX4_withState_199 rfl (lv_at hl 0 rfl) ?_
    refine gw_get (C := RX4) (T := TX4) (N := 25) hx hb hL4 hown hK hP 0 0 (rDf (by decide)) rfl rfl 4 (by decide) (hts (.fieldLink RX4 16 "BlockProgramsModel" "qs" "[I") (by decide +kernel)) (fun _ h9 => h9) (v := .ref (ad 4 0)) rfl dX4_withState_200 ?_
    refine lv_iload_n hx hb dX4_withState_203 rfl (lv_at hl 1 rfl) ?_
    refine gw_iald hx hb hK hP 4 0 (rDf (by decide)) 0 rfl rfl (b) rfl (by omega) (by decide) (v := (σ 2 b)) rfl dX4_withState_204 ?_
    refine lv_icmp_le (tgt := 217) hx hb dX4_withState_205 (by decide) (fun c_2 => ?_) (fun c_2 => ?_)
    · refine lv_iload_n hx hb dX4_withState_217 rfl (lv_at hl 2 rfl) ?_
      have eσ : σ = ownS σ 22 b y0 y1 := by simp [ownS, f_fst, f_snd, f_sum, f_count, f_latch, f_since, wr_wr, wr_id, wr_id6, wr_s, c_1, Int32.not_lt.mpr c_1, c_2, Int32.not_lt.mpr c_2]
      rw [eσ] at hP
      exact W.iret (v := y0) hx hb hr (fun t ht hW => ⟨⟨y0, (), rfl, (by simp [f_own, f_limit, f_sum, f_count, f_latch, f_since, wr, c_1, Int32.not_lt.mpr c_1, c_2, Int32.not_lt.mpr c_2]), by rw [← ht] at hP; exact hP⟩, hS.F ht⟩) hS.2.2 dX4_withState_218
    · refine lv_aload_n hx hb dX4_withState_208 rfl (lv_at hl 0 rfl) ?_
      refine gw_get (C := RX4) (T := TX4) (N := 25) hx hb hL4 hown hK hP 0 0 (rDf (by decide)) rfl rfl 4 (by decide) (hts (.fieldLink RX4 16 "BlockProgramsModel" "qs" "[I") (by decide +kernel)) (fun _ h9 => h9) (v := .ref (ad 4 0)) rfl dX4_withState_209 ?_
      refine lv_iload_n hx hb dX4_withState_212 rfl (lv_at hl 1 rfl) ?_
      refine gw_iald hx hb hK hP 4 0 (rDf (by decide)) 0 rfl rfl (b) rfl (by omega) (by decide) (v := (σ 2 b)) rfl dX4_withState_213 ?_
      refine lv_goto (tgt := 218) hx hb dX4_withState_214 (by decide) ?_
      have eσ : σ = ownS σ 22 b y0 y1 := by simp [ownS, f_fst, f_snd, f_sum, f_count, f_latch, f_since, wr_wr, wr_id, wr_id6, wr_s, c_1, Int32.not_lt.mpr c_1, c_2, Int32.not_le.mp c_2]
      rw [eσ] at hP
      exact W.iret (v := (σ 2 b)) hx hb hr (fun t ht hW => ⟨⟨((σ 2 b)), (), rfl, (by simp [f_own, f_limit, f_sum, f_count, f_latch, f_since, wr, c_1, Int32.not_lt.mpr c_1, c_2, Int32.not_le.mp c_2]), by rw [← ht] at hP; exact hP⟩, hS.F ht⟩) hS.2.2 dX4_withState_218
  · refine lv_aload_n hx hb dX4_withState_189 rfl (lv_at hl 0 rfl) ?_
    refine gw_get (C := RX4) (T := TX4) (N := 25) hx hb hL4 hown hK hP 0 0 (rDf (by decide)) rfl rfl 3 (by decide) (hts (.fieldLink RX4 13 "BlockProgramsModel" "ps" "[I") (by decide +kernel)) (fun _ h9 => h9) (v := .ref (ad 3 0)) rfl dX4_withState_190 ?_
    refine lv_iload_n hx hb dX4_withState_193 rfl (lv_at hl 1 rfl) ?_
    refine gw_iald hx hb hK hP 3 0 (rDf (by decide)) 0 rfl rfl (b) rfl (by omega) (by decide) (v := (σ 1 b)) rfl dX4_withState_194 ?_
    refine lv_goto (tgt := 218) hx hb dX4_withState_195 (by decide) ?_
    have eσ : σ = ownS σ 22 b y0 y1 := by simp [ownS, f_fst, f_snd, f_sum, f_count, f_latch, f_since, wr_wr, wr_id, wr_id6, wr_s, c_1, Int32.not_le.mp c_1]
    rw [eσ] at hP
    exact W.iret (v := (σ 1 b)) hx hb hr (fun t ht hW => ⟨⟨((σ 1 b)), (), rfl, (by simp [f_own, f_limit, f_sum, f_count, f_latch, f_since, wr, c_1, Int32.not_le.mp c_1]), by rw [← ht] at hP; exact hP⟩, hS.F ht⟩) hS.2.2 dX4_withState_218

set_option maxHeartbeats 4000000 in
set_option maxRecDepth 100000 in
theorem k_X4_withState_23 {l : Launch} {D : va_G} {cI cZ cB cS : ClassId} {A : Nat → Prop} (κ : Nat → Nat) (σ sc : Nat → Nat → Int32) (ad : Nat → Nat → Nat) (b : Nat) (hb0 : b < κ 0) (hn : κ 0 ≤ 40) (ek : σ 0 b = nI 23) (h3 : κ 3 ≤ 3000) (y0 y1 : Int32) : Met l yX4_withState wsX4_withState ({ frames := 1, cells := 0, slots := 0, locals := 26 } : Room) (gPc D cI cZ cB cS A rDm (rEn cI cZ κ σ sc ad) ad [.ref (ad 0 0), .int (nI b), .int y0, .int y1]) (va_Qi (fun (r : Int32) (_ : Unit) => r = f_own σ 23 b y0 y1 (nI (κ 3 % 1440))) (fun _ t => gw_P D vwCl A rDm (rEn cI cZ κ (ownS σ 23 b y0 y1) sc ad) ad t.heap) A) 0 0 A := by
  refine Met.ofW (cc := cX4_withState) (maxL := 4) (ret := (some .int)) (by decide) rfl ?_
  intro p e s m args below meth c s₁ B hml hv
  obtain ⟨rfl, hP, hE, hA⟩ := hv
  have hx := B.exec
  have hb := B.bytes
  have hr := B.returns
  have hts := atoms_spec (ws := wsX4_withState) B.pre
  have hown : s.vm.findClass RX4 = some m.cls := findClass_of_methodNamed B.named
  have hlocks := B.notSynchronized
  have hK := hE.1
  have hS : va_S A s.heap s.heap [] := va_S.rf
  have hL4 := fun w (hw : w ∈ u_ws RX4 TX4 25) => hts w (iL_X4_withState_X4 w hw)
  have hl := lv_entry ([.ref (ad 0 0), .int (nI b), .int y0, .int y1]) (n := 4) (Nat.le_of_ble_eq_true rfl)
  rw [lg_entry_eq]
  generalize (lg_sl ([.ref (ad 0 0), .int (nI b), .int y0, .int y1]) ++ List.replicate (4 - (lg_sl ([.ref (ad 0 0), .int (nI b), .int y0, .int y1])).length) Slot.unset).toArray = ls at hl ⊢
  have hl : lv_has ls 4 [(0, .ref (ad 0 0)), (1, .int (nI b)), (2, .int y0), (3, .int y1)] := hl
  refine lv_aload_n hx hb dX4_withState_0 rfl (lv_at hl 0 rfl) ?_
  refine gw_get (C := RX4) (T := TX4) (N := 25) hx hb hL4 hown hK hP 0 0 (rDf (by decide)) rfl rfl 2 (by decide) (hts (.fieldLink RX4 7 "BlockProgramsModel" "kinds" "[I") (by decide +kernel)) (fun _ h9 => h9) (v := .ref (ad 2 0)) rfl dX4_withState_1 ?_
  refine lv_iload_n hx hb dX4_withState_4 rfl (lv_at hl 1 rfl) ?_
  refine gw_iald hx hb hK hP 2 0 (rDf (by decide)) 0 rfl rfl (b) rfl (by omega) (by decide) (v := nI 23) ek dX4_withState_5 ?_
  refine lv_tableIn (off := 213) (tgt := 219) hx hb dX4_withState_6 (by decide) (by decide) (by decide) (by decide) ?_
  refine lv_iload_n hx hb dX4_withState_219 rfl (lv_at hl 3 rfl) ?_
  refine lv_if_eq (tgt := 232) hx hb dX4_withState_220 (by decide) (fun c_1 => ?_) (fun c_1 => ?_)
  · refine lv_iload_n hx hb dX4_withState_232 rfl (lv_at hl 2 rfl) ?_
    have eσ : σ = ownS σ 23 b y0 y1 := by simp [ownS, f_fst, f_snd, f_sum, f_count, f_latch, f_since, wr_wr, wr_id, wr_id6, wr_s, c_1]
    rw [eσ] at hP
    exact W.iret (v := y0) hx hb hr (fun t ht hW => ⟨⟨y0, (), rfl, (by simp [f_own, f_limit, f_sum, f_count, f_latch, f_since, wr, c_1]), by rw [← ht] at hP; exact hP⟩, hS.F ht⟩) hS.2.2 dX4_withState_233
  · refine lv_aload_n hx hb dX4_withState_223 rfl (lv_at hl 0 rfl) ?_
    refine gw_get (C := RX4) (T := TX4) (N := 25) hx hb hL4 hown hK hP 0 0 (rDf (by decide)) rfl rfl 7 (by decide) (hts (.fieldLink RX4 25 "BlockProgramsModel" "outs" "[I") (by decide +kernel)) (fun _ h9 => h9) (v := .ref (ad 7 0)) rfl dX4_withState_224 ?_
    refine lv_iload_n hx hb dX4_withState_227 rfl (lv_at hl 1 rfl) ?_
    refine gw_iald hx hb hK hP 7 0 (rDf (by decide)) 0 rfl rfl (b) rfl (by omega) (by decide) (v := (σ 4 b)) rfl dX4_withState_228 ?_
    refine lv_goto (tgt := 233) hx hb dX4_withState_229 (by decide) ?_
    have eσ : σ = ownS σ 23 b y0 y1 := by simp [ownS, f_fst, f_snd, f_sum, f_count, f_latch, f_since, wr_wr, wr_id, wr_id6, wr_s, c_1]
    rw [eσ] at hP
    exact W.iret (v := (σ 4 b)) hx hb hr (fun t ht hW => ⟨⟨((σ 4 b)), (), rfl, (by simp [f_own, f_limit, f_sum, f_count, f_latch, f_since, wr, c_1]), by rw [← ht] at hP; exact hP⟩, hS.F ht⟩) hS.2.2 dX4_withState_233

set_option maxHeartbeats 4000000 in
set_option maxRecDepth 100000 in
theorem k_X4_withState_24 {l : Launch} {D : va_G} {cI cZ cB cS : ClassId} {A : Nat → Prop} (κ : Nat → Nat) (σ sc : Nat → Nat → Int32) (ad : Nat → Nat → Nat) (b : Nat) (hb0 : b < κ 0) (hn : κ 0 ≤ 40) (ek : σ 0 b = nI 24) (h3 : κ 3 ≤ 3000) (y0 y1 : Int32) : Met l yX4_withState wsX4_withState ({ frames := 1, cells := 0, slots := 0, locals := 26 } : Room) (gPc D cI cZ cB cS A rDm (rEn cI cZ κ σ sc ad) ad [.ref (ad 0 0), .int (nI b), .int y0, .int y1]) (va_Qi (fun (r : Int32) (_ : Unit) => r = f_own σ 24 b y0 y1 (nI (κ 3 % 1440))) (fun _ t => gw_P D vwCl A rDm (rEn cI cZ κ (ownS σ 24 b y0 y1) sc ad) ad t.heap) A) 0 0 A := by
  refine Met.ofW (cc := cX4_withState) (maxL := 4) (ret := (some .int)) (by decide) rfl ?_
  intro p e s m args below meth c s₁ B hml hv
  obtain ⟨rfl, hP, hE, hA⟩ := hv
  have hx := B.exec
  have hb := B.bytes
  have hr := B.returns
  have hts := atoms_spec (ws := wsX4_withState) B.pre
  have hown : s.vm.findClass RX4 = some m.cls := findClass_of_methodNamed B.named
  have hlocks := B.notSynchronized
  have hK := hE.1
  have hS : va_S A s.heap s.heap [] := va_S.rf
  have hL4 := fun w (hw : w ∈ u_ws RX4 TX4 25) => hts w (iL_X4_withState_X4 w hw)
  have hl := lv_entry ([.ref (ad 0 0), .int (nI b), .int y0, .int y1]) (n := 4) (Nat.le_of_ble_eq_true rfl)
  rw [lg_entry_eq]
  generalize (lg_sl ([.ref (ad 0 0), .int (nI b), .int y0, .int y1]) ++ List.replicate (4 - (lg_sl ([.ref (ad 0 0), .int (nI b), .int y0, .int y1])).length) Slot.unset).toArray = ls at hl ⊢
  have hl : lv_has ls 4 [(0, .ref (ad 0 0)), (1, .int (nI b)), (2, .int y0), (3, .int y1)] := hl
  refine lv_aload_n hx hb dX4_withState_0 rfl (lv_at hl 0 rfl) ?_
  refine gw_get (C := RX4) (T := TX4) (N := 25) hx hb hL4 hown hK hP 0 0 (rDf (by decide)) rfl rfl 2 (by decide) (hts (.fieldLink RX4 7 "BlockProgramsModel" "kinds" "[I") (by decide +kernel)) (fun _ h9 => h9) (v := .ref (ad 2 0)) rfl dX4_withState_1 ?_
  refine lv_iload_n hx hb dX4_withState_4 rfl (lv_at hl 1 rfl) ?_
  refine gw_iald hx hb hK hP 2 0 (rDf (by decide)) 0 rfl rfl (b) rfl (by omega) (by decide) (v := nI 24) ek dX4_withState_5 ?_
  refine lv_tableIn (off := 228) (tgt := 234) hx hb dX4_withState_6 (by decide) (by decide) (by decide) (by decide) ?_
  refine lv_aload_n hx hb dX4_withState_234 rfl (lv_at hl 0 rfl) ?_
  refine gw_get (C := RX4) (T := TX4) (N := 25) hx hb hL4 hown hK hP 0 0 (rDf (by decide)) rfl rfl 8 (by decide) (hts (.fieldLink RX4 28 "BlockProgramsModel" "firsts" "[I") (by decide +kernel)) (fun _ h9 => h9) (v := .ref (ad 8 0)) rfl dX4_withState_235 ?_
  refine lv_iload_n hx hb dX4_withState_238 rfl (lv_at hl 1 rfl) ?_
  refine lv_iload_n hx hb dX4_withState_239 rfl (lv_at hl 3 rfl) ?_
  refine lv_if_eq (tgt := 247) hx hb dX4_withState_240 (by decide) (fun c_1 => ?_) (fun c_1 => ?_)
  · refine lv_aload_n hx hb dX4_withState_247 rfl (lv_at hl 0 rfl) ?_
    refine gw_get (C := RX4) (T := TX4) (N := 25) hx hb hL4 hown hK hP 0 0 (rDf (by decide)) rfl rfl 8 (by decide) (hts (.fieldLink RX4 28 "BlockProgramsModel" "firsts" "[I") (by decide +kernel)) (fun _ h9 => h9) (v := .ref (ad 8 0)) rfl dX4_withState_248 ?_
    refine lv_iload_n hx hb dX4_withState_251 rfl (lv_at hl 1 rfl) ?_
    refine gw_iald hx hb hK hP 8 0 (rDf (by decide)) 0 rfl rfl (b) rfl (by omega) (by decide) (v := (σ 5 b)) rfl dX4_withState_252 ?_
    refine lv_iload_n hx hb dX4_withState_253 rfl (lv_at hl 2 rfl) ?_
    refine lv_iadd hx hb dX4_withState_254 ?_
    refine gw_iast hx hb hK hP hS 8 0 (rDf (by decide)) 0 rfl rfl (b) rfl (by omega) (by decide) dX4_withState_255 ((rEn cI cZ κ (wr σ 5 b (((σ 5 b) + y0))) sc ad)) rUs_8 (fun t9 i9 z9 h9 => rU8 _ t9 i9 h9 z9) (fun H locs hP hS => ?_)
    refine lv_aload_n hx hb dX4_withState_256 rfl (lv_at hl 0 rfl) ?_
    refine gw_get (C := RX4) (T := TX4) (N := 25) hx hb hL4 hown hK hP 0 0 (rDf (by decide)) rfl rfl 8 (by decide) (hts (.fieldLink RX4 28 "BlockProgramsModel" "firsts" "[I") (by decide +kernel)) (fun _ h9 => h9) (v := .ref (ad 8 0)) rfl dX4_withState_257 ?_
    refine lv_iload_n hx hb dX4_withState_260 rfl (lv_at hl 1 rfl) ?_
    refine gw_iald hx hb hK hP 8 0 (rDf (by decide)) 0 rfl rfl (b) rfl (by omega) (by decide) (v := (((σ 5 b) + y0))) (by simp [wr]) dX4_withState_261 ?_
    have eσ : wr σ 5 b (((σ 5 b) + y0)) = ownS σ 24 b y0 y1 := by simp [ownS, f_fst, f_snd, f_sum, f_count, f_latch, f_since, wr_wr, wr_id, wr_id6, wr_s, c_1]
    rw [eσ] at hP
    exact W.iret (v := (((σ 5 b) + y0))) hx hb hr (fun t ht hW => ⟨⟨((((σ 5 b) + y0))), (), rfl, (by simp [f_own, f_limit, f_sum, f_count, f_latch, f_since, wr, c_1]), by rw [← ht] at hP; exact hP⟩, hS.F ht⟩) hS.2.2 dX4_withState_262
  · refine lv_iconst (v := 0) hx hb dX4_withState_243 (by decide) ?_
    refine lv_goto (tgt := 255) hx hb dX4_withState_244 (by decide) ?_
    refine gw_iast hx hb hK hP hS 8 0 (rDf (by decide)) 0 rfl rfl (b) rfl (by omega) (by decide) dX4_withState_255 ((rEn cI cZ κ (wr σ 5 b 0) sc ad)) rUs_8 (fun t9 i9 z9 h9 => rU8 _ t9 i9 h9 z9) (fun H locs hP hS => ?_)
    refine lv_aload_n hx hb dX4_withState_256 rfl (lv_at hl 0 rfl) ?_
    refine gw_get (C := RX4) (T := TX4) (N := 25) hx hb hL4 hown hK hP 0 0 (rDf (by decide)) rfl rfl 8 (by decide) (hts (.fieldLink RX4 28 "BlockProgramsModel" "firsts" "[I") (by decide +kernel)) (fun _ h9 => h9) (v := .ref (ad 8 0)) rfl dX4_withState_257 ?_
    refine lv_iload_n hx hb dX4_withState_260 rfl (lv_at hl 1 rfl) ?_
    refine gw_iald hx hb hK hP 8 0 (rDf (by decide)) 0 rfl rfl (b) rfl (by omega) (by decide) (v := 0) (by simp [wr]) dX4_withState_261 ?_
    have eσ : wr σ 5 b 0 = ownS σ 24 b y0 y1 := by simp [ownS, f_fst, f_snd, f_sum, f_count, f_latch, f_since, wr_wr, wr_id, wr_id6, wr_s, c_1]
    rw [eσ] at hP
    exact W.iret (v := 0) hx hb hr (fun t ht hW => ⟨⟨0, (), rfl, (by simp [f_own, f_limit, f_sum, f_count, f_latch, f_since, wr, c_1]), by rw [← ht] at hP; exact hP⟩, hS.F ht⟩) hS.2.2 dX4_withState_262

set_option maxHeartbeats 4000000 in
set_option maxRecDepth 100000 in
theorem k_X4_withState_25 {l : Launch} {D : va_G} {cI cZ cB cS : ClassId} {A : Nat → Prop} (κ : Nat → Nat) (σ sc : Nat → Nat → Int32) (ad : Nat → Nat → Nat) (b : Nat) (hb0 : b < κ 0) (hn : κ 0 ≤ 40) (ek : σ 0 b = nI 25) (h3 : κ 3 ≤ 3000) (y0 y1 : Int32) : Met l yX4_withState wsX4_withState ({ frames := 1, cells := 0, slots := 0, locals := 26 } : Room) (gPc D cI cZ cB cS A rDm (rEn cI cZ κ σ sc ad) ad [.ref (ad 0 0), .int (nI b), .int y0, .int y1]) (va_Qi (fun (r : Int32) (_ : Unit) => r = f_own σ 25 b y0 y1 (nI (κ 3 % 1440))) (fun _ t => gw_P D vwCl A rDm (rEn cI cZ κ (ownS σ 25 b y0 y1) sc ad) ad t.heap) A) 0 0 A := by
  refine Met.ofW (cc := cX4_withState) (maxL := 4) (ret := (some .int)) (by decide) rfl ?_
  intro p e s m args below meth c s₁ B hml hv
  obtain ⟨rfl, hP, hE, hA⟩ := hv
  have hx := B.exec
  have hb := B.bytes
  have hr := B.returns
  have hts := atoms_spec (ws := wsX4_withState) B.pre
  have hown : s.vm.findClass RX4 = some m.cls := findClass_of_methodNamed B.named
  have hlocks := B.notSynchronized
  have hK := hE.1
  have hS : va_S A s.heap s.heap [] := va_S.rf
  have hL4 := fun w (hw : w ∈ u_ws RX4 TX4 25) => hts w (iL_X4_withState_X4 w hw)
  have hl := lv_entry ([.ref (ad 0 0), .int (nI b), .int y0, .int y1]) (n := 4) (Nat.le_of_ble_eq_true rfl)
  rw [lg_entry_eq]
  generalize (lg_sl ([.ref (ad 0 0), .int (nI b), .int y0, .int y1]) ++ List.replicate (4 - (lg_sl ([.ref (ad 0 0), .int (nI b), .int y0, .int y1])).length) Slot.unset).toArray = ls at hl ⊢
  have hl : lv_has ls 4 [(0, .ref (ad 0 0)), (1, .int (nI b)), (2, .int y0), (3, .int y1)] := hl
  refine lv_aload_n hx hb dX4_withState_0 rfl (lv_at hl 0 rfl) ?_
  refine gw_get (C := RX4) (T := TX4) (N := 25) hx hb hL4 hown hK hP 0 0 (rDf (by decide)) rfl rfl 2 (by decide) (hts (.fieldLink RX4 7 "BlockProgramsModel" "kinds" "[I") (by decide +kernel)) (fun _ h9 => h9) (v := .ref (ad 2 0)) rfl dX4_withState_1 ?_
  refine lv_iload_n hx hb dX4_withState_4 rfl (lv_at hl 1 rfl) ?_
  refine gw_iald hx hb hK hP 2 0 (rDf (by decide)) 0 rfl rfl (b) rfl (by omega) (by decide) (v := nI 25) ek dX4_withState_5 ?_
  refine lv_tableOut (tgt := 263) hx hb dX4_withState_6 (by decide) (by decide) ?_
  refine lv_aload_n hx hb dX4_withState_263 rfl (lv_at hl 0 rfl) ?_
  refine lv_iload_n hx hb dX4_withState_264 rfl (lv_at hl 1 rfl) ?_
  refine lv_iload_n hx hb dX4_withState_265 rfl (lv_at hl 2 rfl) ?_
  refine va_calli (va_runV (As := [.int (nI b), .int y0]) (rest := []) ⟨hx, hb, hml, hown, hts⟩ (k_X4_since (l := l) (D := D) (cI := cI) (cZ := cZ) (cB := cB) (cS := cS) (A := A) κ σ sc ad b hb0 hn y0) (cwV 2 hts gX4_withState_X4_since rfl rfl rfl (by decide +kernel) ⟨Nat.le_of_ble_eq_true rfl, Nat.le_of_ble_eq_true rfl⟩) (gPreV hE hA hS hP (gw_recv hK hP 0 0 (rDf (by decide)) rfl rfl)) rfl rfl hl.1 rfl (lv_room (Nat.le_of_ble_eq_true rfl)) dX4_withState_266 ⟨Nat.le_of_ble_eq_true rfl, Nat.le_of_ble_eq_true rfl⟩) hS (fun q _ h9 => h9) (fun q h9 => h9) (fun r_1 u9 t9 H locs ht9 hvm9 hw_r_1 hB9 hz9 hk9 hS => ?_)
  have hP : gw_P D vwCl A rDm (rEn cI cZ κ (wr σ 5 b (f_since (σ 1 b) (σ 5 b) y0)) sc ad) ad H := by rw [← ht9]; exact hB9
  refine lv_toq ((f_since (σ 1 b) (σ 5 b) y0)) hw_r_1 ?_
  have eσ : wr σ 5 b (f_since (σ 1 b) (σ 5 b) y0) = ownS σ 25 b y0 y1 := by simp [ownS, f_fst, f_snd, f_sum, f_count, f_latch, f_since, wr_wr, wr_id, wr_id6, wr_s, wr_id]
  rw [eσ] at hP
  exact W.iret (v := (f_since (σ 1 b) (σ 5 b) y0)) hx hb hr (fun t ht hW => ⟨⟨((f_since (σ 1 b) (σ 5 b) y0)), (), rfl, (by simp [f_own, f_limit, f_sum, f_count, f_latch, f_since, wr, f_own]), by rw [← ht] at hP; exact hP⟩, hS.F ht⟩) hS.2.2 dX4_withState_269

theorem k_X4_withState {l : Launch} {D : va_G} {cI cZ cB cS : ClassId} {A : Nat → Prop} (κ : Nat → Nat) (σ sc : Nat → Nat → Int32) (ad : Nat → Nat → Nat) (b k : Nat) (hb0 : b < κ 0) (hn : κ 0 ≤ 40) (hk0 : 16 ≤ k) (hk : k < 26) (ek : σ 0 b = nI k) (h3 : κ 3 ≤ 3000) (y0 y1 : Int32) : Met l yX4_withState wsX4_withState ({ frames := 1, cells := 0, slots := 0, locals := 26 } : Room) (gPc D cI cZ cB cS A rDm (rEn cI cZ κ σ sc ad) ad [.ref (ad 0 0), .int (nI b), .int y0, .int y1]) (va_Qi (fun (r : Int32) (_ : Unit) => r = f_own σ k b y0 y1 (nI (κ 3 % 1440))) (fun _ t => gw_P D vwCl A rDm (rEn cI cZ κ (ownS σ k b y0 y1) sc ad) ad t.heap) A) 0 0 A := by
  rcases (show k = 16 ∨ k = 17 ∨ k = 18 ∨ k = 19 ∨ k = 20 ∨ k = 21 ∨ k = 22 ∨ k = 23 ∨ k = 24 ∨ k = 25 by omega) with rfl | rfl | rfl | rfl | rfl | rfl | rfl | rfl | rfl | rfl
  · exact k_X4_withState_16 κ σ sc ad b hb0 hn ek h3 y0 y1
  · exact k_X4_withState_17 κ σ sc ad b hb0 hn ek h3 y0 y1
  · exact k_X4_withState_18 κ σ sc ad b hb0 hn ek h3 y0 y1
  · exact k_X4_withState_19 κ σ sc ad b hb0 hn ek h3 y0 y1
  · exact k_X4_withState_20 κ σ sc ad b hb0 hn ek h3 y0 y1
  · exact k_X4_withState_21 κ σ sc ad b hb0 hn ek h3 y0 y1
  · exact k_X4_withState_22 κ σ sc ad b hb0 hn ek h3 y0 y1
  · exact k_X4_withState_23 κ σ sc ad b hb0 hn ek h3 y0 y1
  · exact k_X4_withState_24 κ σ sc ad b hb0 hn ek h3 y0 y1
  · exact k_X4_withState_25 κ σ sc ad b hb0 hn ek h3 y0 y1
