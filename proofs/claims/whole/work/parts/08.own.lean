theorem iL_X0_ownReckoning_X0 : ∀ w ∈ u_ws RX0 TX0 11, w ∈ wsX0_ownReckoning := by decide +kernel
set_option maxHeartbeats 4000000 in
set_option maxRecDepth 100000 in
theorem k_X0_own_1 {l : Launch} {D : va_G} {cI cZ cB cS : ClassId} {A : Nat → Prop} (κ : Nat → Nat) (σ sc : Nat → Nat → Int32) (ad : Nat → Nat → Nat) (b : Nat) (hb0 : b < κ 0) (ek : σ 0 b = nI 1) (y0 y1 : Int32) (T : Nat) (hT : T < 2 ^ 31) : Met l yX0_ownReckoning wsX0_ownReckoning ({ frames := 2, cells := 0, slots := 0, locals := 43 } : Room) (gPc D cI cZ cB cS A (cDm κ) (cEn cI cZ cB cS κ σ sc ad) ad [.ref (ad 11 b), .int y0, .int y1, .int (nI T)]) (va_Qi (fun (r : Int32) (_ : Unit) => r = f_own σ 1 b y0 y1 (nI (T % 1440))) (fun _ t => gw_P D vwCl A (cDm κ) (cEn cI cZ cB cS κ (ownS σ 1 b y0 y1) sc ad) ad t.heap) A) 0 0 A := by
  refine Met.ofW (cc := cX0_ownReckoning) (maxL := 4) (ret := (some .int)) (by decide) rfl ?_
  intro p e s m args below meth c s₁ B hml hv
  obtain ⟨rfl, hP, hE, hA⟩ := hv
  have hx := B.exec
  have hb := B.bytes
  have hr := B.returns
  have hts := atoms_spec (ws := wsX0_ownReckoning) B.pre
  have hown : s.vm.findClass RX0 = some m.cls := findClass_of_methodNamed B.named
  have hlocks := B.notSynchronized
  have hK := hE.1
  have hS : va_S A s.heap s.heap [] := va_S.rf
  have hL0 := fun w (hw : w ∈ u_ws RX0 TX0 11) => hts w (iL_X0_ownReckoning_X0 w hw)
  have hl := lv_entry ([.ref (ad 11 b), .int y0, .int y1, .int (nI T)]) (n := 4) (Nat.le_of_ble_eq_true rfl)
  rw [lg_entry_eq]
  generalize (lg_sl ([.ref (ad 11 b), .int y0, .int y1, .int (nI T)]) ++ List.replicate (4 - (lg_sl ([.ref (ad 11 b), .int y0, .int y1, .int (nI T)])).length) Slot.unset).toArray = ls at hl ⊢
  have hl : lv_has ls 4 [(0, .ref (ad 11 b)), (1, .int y0), (2, .int y1), (3, .int (nI T))] := hl
  refine lv_aload_n hx hb dX0_ownReckoning_0 rfl (lv_at hl 0 rfl) ?_
  refine gw_get (C := RX0) (T := TX0) (N := 11) hx hb hL0 hown hK hP 11 b (cDb (by omega) (by decide) (by decide)) rfl rfl 0 (by decide) (hts (.fieldLink RX0 44 "BlockPrograms$Block" "kind" "I") (by decide +kernel)) (fun _ h9 => h9) (v := .int (nI 1)) (congrArg (fun z : Int32 => some (Value.int z)) ek) dX0_ownReckoning_1 ?_
  refine lv_tableIn (off := 116) (tgt := 120) hx hb dX0_ownReckoning_4 (by decide) (by decide) (by decide) (by decide) ?_
  refine lv_aload_n hx hb dX0_ownReckoning_120 rfl (lv_at hl 0 rfl) ?_
  refine gw_get (C := RX0) (T := TX0) (N := 11) hx hb hL0 hown hK hP 11 b (cDb (by omega) (by decide) (by decide)) rfl rfl 1 (by decide) (hts (.fieldLink RX0 9 "BlockPrograms$Block" "p" "I") (by decide +kernel)) (fun _ h9 => h9) (v := .int ((σ 1 b))) rfl dX0_ownReckoning_121 ?_
  have eσ : σ = ownS σ 1 b y0 y1 := by simp [ownS, f_fst, f_snd, f_sum, f_since, wr_wr, wr_id, wr_id6, wr_id]
  rw [eσ] at hP
  exact W.iret (v := (σ 1 b)) hx hb hr (fun t ht hW => ⟨⟨((σ 1 b)), (), rfl, (by simp [f_own, f_limit, f_sum, f_since, wr, f_own]), by rw [← ht] at hP; exact hP⟩, hS.F ht⟩) hS.2.2 dX0_ownReckoning_124

set_option maxHeartbeats 4000000 in
set_option maxRecDepth 100000 in
theorem k_X0_own_15 {l : Launch} {D : va_G} {cI cZ cB cS : ClassId} {A : Nat → Prop} (κ : Nat → Nat) (σ sc : Nat → Nat → Int32) (ad : Nat → Nat → Nat) (b : Nat) (hb0 : b < κ 0) (ek : σ 0 b = nI 15) (y0 y1 : Int32) (T : Nat) (hT : T < 2 ^ 31) (h15 : okI 8 y0) : Met l yX0_ownReckoning wsX0_ownReckoning ({ frames := 2, cells := 0, slots := 0, locals := 43 } : Room) (gPc D cI cZ cB cS A (cDm κ) (cEn cI cZ cB cS κ σ sc ad) ad [.ref (ad 11 b), .int y0, .int y1, .int (nI T)]) (va_Qi (fun (r : Int32) (_ : Unit) => r = f_own σ 15 b y0 y1 (nI (T % 1440))) (fun _ t => gw_P D vwCl A (cDm κ) (cEn cI cZ cB cS κ (ownS σ 15 b y0 y1) sc ad) ad t.heap) A) 0 0 A := by
  refine Met.ofW (cc := cX0_ownReckoning) (maxL := 4) (ret := (some .int)) (by decide) rfl ?_
  intro p e s m args below meth c s₁ B hml hv
  obtain ⟨rfl, hP, hE, hA⟩ := hv
  have hx := B.exec
  have hb := B.bytes
  have hr := B.returns
  have hts := atoms_spec (ws := wsX0_ownReckoning) B.pre
  have hown : s.vm.findClass RX0 = some m.cls := findClass_of_methodNamed B.named
  have hlocks := B.notSynchronized
  have hK := hE.1
  have hS : va_S A s.heap s.heap [] := va_S.rf
  have hL0 := fun w (hw : w ∈ u_ws RX0 TX0 11) => hts w (iL_X0_ownReckoning_X0 w hw)
  have hl := lv_entry ([.ref (ad 11 b), .int y0, .int y1, .int (nI T)]) (n := 4) (Nat.le_of_ble_eq_true rfl)
  rw [lg_entry_eq]
  generalize (lg_sl ([.ref (ad 11 b), .int y0, .int y1, .int (nI T)]) ++ List.replicate (4 - (lg_sl ([.ref (ad 11 b), .int y0, .int y1, .int (nI T)])).length) Slot.unset).toArray = ls at hl ⊢
  have hl : lv_has ls 4 [(0, .ref (ad 11 b)), (1, .int y0), (2, .int y1), (3, .int (nI T))] := hl
  obtain ⟨j, hj, rfl⟩ := ix_of (n := 8) (by decide) h15.1 h15.2
  refine lv_aload_n hx hb dX0_ownReckoning_0 rfl (lv_at hl 0 rfl) ?_
  refine gw_get (C := RX0) (T := TX0) (N := 11) hx hb hL0 hown hK hP 11 b (cDb (by omega) (by decide) (by decide)) rfl rfl 0 (by decide) (hts (.fieldLink RX0 44 "BlockPrograms$Block" "kind" "I") (by decide +kernel)) (fun _ h9 => h9) (v := .int (nI 15)) (congrArg (fun z : Int32 => some (Value.int z)) ek) dX0_ownReckoning_1 ?_
  refine lv_tableIn (off := 121) (tgt := 125) hx hb dX0_ownReckoning_4 (by decide) (by decide) (by decide) (by decide) ?_
  refine lv_iload_n hx hb dX0_ownReckoning_125 rfl (lv_at hl 1 rfl) ?_
  refine va_calli (va_runSN (As := [.int (nI j)]) (rest := []) ⟨hx, hb, hml, hown, hts⟩ (k_X3_isPlaceInRow (l := l) (D := D) (cI := cI) (cZ := cZ) (cB := cB) (cS := cS) (A := A) (cDm κ) (cEn cI cZ cB cS κ σ sc ad) ad (nI j)) ⟨va_cnB 1 hts gX0_ownReckoning_X3_isPlaceInRow_n54 rfl rfl rfl hE.2.2.2.2.1.2.1 (hts (.initialized RX3) (by decide +kernel)) (by decide +kernel) ⟨Nat.le_of_ble_eq_true rfl, Nat.le_of_ble_eq_true rfl⟩, hts (.static yX3_isPlaceInRow) (by decide +kernel), trivial⟩ (gPreS hE hA hS hP) rfl rfl hl.1 rfl (lv_room (Nat.le_of_ble_eq_true rfl)) dX0_ownReckoning_126 ⟨Nat.le_of_ble_eq_true rfl, Nat.le_of_ble_eq_true rfl⟩) hS (fun q _ h9 => h9) (fun q h9 => h9) (fun r_1 u9 t9 H locs ht9 hvm9 hw_r_1 hB9 hz9 hk9 hS => ?_)
  have hP : gw_P D vwCl A (cDm κ) (cEn cI cZ cB cS κ σ sc ad) ad H := by rw [← ht9]; exact hB9
  refine lv_toq 1 (hw_r_1.trans (if_pos (okI_at hj (by decide)))) ?_
  refine lv_if_eq (tgt := 141) hx hb dX0_ownReckoning_129 (by decide) (fun c_2 => ?_) (fun c_2 => ?_)
  · have c_2 : 1 = 0 := (nI_eq (a := 1) (b := 0) (by omega) (by omega)).mp c_2
    exfalso; omega
  · have c_2 : ¬ (1 = 0) := fun z => c_2 ((nI_eq (a := 1) (b := 0) (by omega) (by omega)).mpr z)
    refine lv_aload_n hx hb dX0_ownReckoning_132 rfl (lv_at hl 0 rfl) ?_
    refine gw_get (C := RX0) (T := TX0) (N := 11) hx hb hL0 hown hK hP 11 b (cDb (by omega) (by decide) (by decide)) rfl rfl 10 (by decide) (hts (.fieldLink RX0 41 "BlockPrograms$Block" "places" "[I") (by decide +kernel)) (fun _ h9 => h9) (v := .ref (ad 13 b)) rfl dX0_ownReckoning_133 ?_
    refine lv_iload_n hx hb dX0_ownReckoning_136 rfl (lv_at hl 1 rfl) ?_
    refine gw_iald hx hb hK hP 13 b (cDb (by omega) (by decide) (by decide)) 0 rfl rfl (j) rfl (by omega) (by decide) (v := (σ 10 (8 * b + j))) (if_pos (by omega)) dX0_ownReckoning_137 ?_
    refine lv_goto (tgt := 142) hx hb dX0_ownReckoning_138 (by decide) ?_
    have eσ : σ = ownS σ 15 b (nI j) y1 := by simp [ownS, f_fst, f_snd, f_sum, f_since, wr_wr, wr_id, wr_id6, c_2]
    rw [eσ] at hP
    exact W.iret (v := (σ 10 (8 * b + j))) hx hb hr (fun t ht hW => ⟨⟨((σ 10 (8 * b + j))), (), rfl, (by simp only [f_own]; rw [nI_clamp (by omega)]), by rw [← ht] at hP; exact hP⟩, hS.F ht⟩) hS.2.2 dX0_ownReckoning_142

set_option maxHeartbeats 4000000 in
set_option maxRecDepth 100000 in
theorem k_X0_own_16 {l : Launch} {D : va_G} {cI cZ cB cS : ClassId} {A : Nat → Prop} (κ : Nat → Nat) (σ sc : Nat → Nat → Int32) (ad : Nat → Nat → Nat) (b : Nat) (hb0 : b < κ 0) (ek : σ 0 b = nI 16) (y0 y1 : Int32) (T : Nat) (hT : T < 2 ^ 31) : Met l yX0_ownReckoning wsX0_ownReckoning ({ frames := 2, cells := 0, slots := 0, locals := 43 } : Room) (gPc D cI cZ cB cS A (cDm κ) (cEn cI cZ cB cS κ σ sc ad) ad [.ref (ad 11 b), .int y0, .int y1, .int (nI T)]) (va_Qi (fun (r : Int32) (_ : Unit) => r = f_own σ 16 b y0 y1 (nI (T % 1440))) (fun _ t => gw_P D vwCl A (cDm κ) (cEn cI cZ cB cS κ (ownS σ 16 b y0 y1) sc ad) ad t.heap) A) 0 0 A := by
  refine Met.ofW (cc := cX0_ownReckoning) (maxL := 4) (ret := (some .int)) (by decide) rfl ?_
  intro p e s m args below meth c s₁ B hml hv
  obtain ⟨rfl, hP, hE, hA⟩ := hv
  have hx := B.exec
  have hb := B.bytes
  have hr := B.returns
  have hts := atoms_spec (ws := wsX0_ownReckoning) B.pre
  have hown : s.vm.findClass RX0 = some m.cls := findClass_of_methodNamed B.named
  have hlocks := B.notSynchronized
  have hK := hE.1
  have hS : va_S A s.heap s.heap [] := va_S.rf
  have hL0 := fun w (hw : w ∈ u_ws RX0 TX0 11) => hts w (iL_X0_ownReckoning_X0 w hw)
  have hl := lv_entry ([.ref (ad 11 b), .int y0, .int y1, .int (nI T)]) (n := 4) (Nat.le_of_ble_eq_true rfl)
  rw [lg_entry_eq]
  generalize (lg_sl ([.ref (ad 11 b), .int y0, .int y1, .int (nI T)]) ++ List.replicate (4 - (lg_sl ([.ref (ad 11 b), .int y0, .int y1, .int (nI T)])).length) Slot.unset).toArray = ls at hl ⊢
  have hl : lv_has ls 4 [(0, .ref (ad 11 b)), (1, .int y0), (2, .int y1), (3, .int (nI T))] := hl
  refine lv_aload_n hx hb dX0_ownReckoning_0 rfl (lv_at hl 0 rfl) ?_
  refine gw_get (C := RX0) (T := TX0) (N := 11) hx hb hL0 hown hK hP 11 b (cDb (by omega) (by decide) (by decide)) rfl rfl 0 (by decide) (hts (.fieldLink RX0 44 "BlockPrograms$Block" "kind" "I") (by decide +kernel)) (fun _ h9 => h9) (v := .int (nI 16)) (congrArg (fun z : Int32 => some (Value.int z)) ek) dX0_ownReckoning_1 ?_
  refine lv_tableIn (off := 139) (tgt := 143) hx hb dX0_ownReckoning_4 (by decide) (by decide) (by decide) (by decide) ?_
  refine lv_aload_n hx hb dX0_ownReckoning_143 rfl (lv_at hl 0 rfl) ?_
  refine gw_get (C := RX0) (T := TX0) (N := 11) hx hb hL0 hown hK hP 11 b (cDb (by omega) (by decide) (by decide)) rfl rfl 5 (by decide) (hts (.fieldLink RX0 24 "BlockPrograms$Block" "first" "I") (by decide +kernel)) (fun _ h9 => h9) (v := .int ((σ 5 b))) rfl dX0_ownReckoning_144 ?_
  have eσ : σ = ownS σ 16 b y0 y1 := by simp [ownS, f_fst, f_snd, f_sum, f_since, wr_wr, wr_id, wr_id6, wr_id]
  rw [eσ] at hP
  exact W.iret (v := (σ 5 b)) hx hb hr (fun t ht hW => ⟨⟨((σ 5 b)), (), rfl, (by simp [f_own, f_limit, f_sum, f_since, wr, f_own]), by rw [← ht] at hP; exact hP⟩, hS.F ht⟩) hS.2.2 dX0_ownReckoning_147

set_option maxHeartbeats 4000000 in
set_option maxRecDepth 100000 in
theorem k_X0_own_17 {l : Launch} {D : va_G} {cI cZ cB cS : ClassId} {A : Nat → Prop} (κ : Nat → Nat) (σ sc : Nat → Nat → Int32) (ad : Nat → Nat → Nat) (b : Nat) (hb0 : b < κ 0) (ek : σ 0 b = nI 17) (y0 y1 : Int32) (T : Nat) (hT : T < 2 ^ 31) : Met l yX0_ownReckoning wsX0_ownReckoning ({ frames := 2, cells := 0, slots := 0, locals := 43 } : Room) (gPc D cI cZ cB cS A (cDm κ) (cEn cI cZ cB cS κ σ sc ad) ad [.ref (ad 11 b), .int y0, .int y1, .int (nI T)]) (va_Qi (fun (r : Int32) (_ : Unit) => r = f_own σ 17 b y0 y1 (nI (T % 1440))) (fun _ t => gw_P D vwCl A (cDm κ) (cEn cI cZ cB cS κ (ownS σ 17 b y0 y1) sc ad) ad t.heap) A) 0 0 A := by
  refine Met.ofW (cc := cX0_ownReckoning) (maxL := 4) (ret := (some .int)) (by decide) rfl ?_
  intro p e s m args below meth c s₁ B hml hv
  obtain ⟨rfl, hP, hE, hA⟩ := hv
  have hx := B.exec
  have hb := B.bytes
  have hr := B.returns
  have hts := atoms_spec (ws := wsX0_ownReckoning) B.pre
  have hown : s.vm.findClass RX0 = some m.cls := findClass_of_methodNamed B.named
  have hlocks := B.notSynchronized
  have hK := hE.1
  have hS : va_S A s.heap s.heap [] := va_S.rf
  have hL0 := fun w (hw : w ∈ u_ws RX0 TX0 11) => hts w (iL_X0_ownReckoning_X0 w hw)
  have hl := lv_entry ([.ref (ad 11 b), .int y0, .int y1, .int (nI T)]) (n := 4) (Nat.le_of_ble_eq_true rfl)
  rw [lg_entry_eq]
  generalize (lg_sl ([.ref (ad 11 b), .int y0, .int y1, .int (nI T)]) ++ List.replicate (4 - (lg_sl ([.ref (ad 11 b), .int y0, .int y1, .int (nI T)])).length) Slot.unset).toArray = ls at hl ⊢
  have hl : lv_has ls 4 [(0, .ref (ad 11 b)), (1, .int y0), (2, .int y1), (3, .int (nI T))] := hl
  refine lv_aload_n hx hb dX0_ownReckoning_0 rfl (lv_at hl 0 rfl) ?_
  refine gw_get (C := RX0) (T := TX0) (N := 11) hx hb hL0 hown hK hP 11 b (cDb (by omega) (by decide) (by decide)) rfl rfl 0 (by decide) (hts (.fieldLink RX0 44 "BlockPrograms$Block" "kind" "I") (by decide +kernel)) (fun _ h9 => h9) (v := .int (nI 17)) (congrArg (fun z : Int32 => some (Value.int z)) ek) dX0_ownReckoning_1 ?_
  refine lv_tableIn (off := 144) (tgt := 148) hx hb dX0_ownReckoning_4 (by decide) (by decide) (by decide) (by decide) ?_
  refine lv_aload_n hx hb dX0_ownReckoning_148 rfl (lv_at hl 0 rfl) ?_
  refine lv_iload_n hx hb dX0_ownReckoning_149 rfl (lv_at hl 1 rfl) ?_
  refine va_calli (va_runV (As := [.int y0]) (rest := []) ⟨hx, hb, hml, hown, hts⟩ (k_X0_ramped (l := l) (D := D) (cI := cI) (cZ := cZ) (cB := cB) (cS := cS) (A := A) κ σ sc ad b hb0 y0) (cwV 1 hts gX0_ownReckoning_X0_ramped rfl rfl rfl (by decide +kernel) ⟨Nat.le_of_ble_eq_true rfl, Nat.le_of_ble_eq_true rfl⟩) (gPreV hE hA hS hP (gw_recv hK hP 11 b (cDb (by omega) (by decide) (by decide)) rfl rfl)) rfl rfl hl.1 rfl (lv_room (Nat.le_of_ble_eq_true rfl)) dX0_ownReckoning_150 ⟨Nat.le_of_ble_eq_true rfl, Nat.le_of_ble_eq_true rfl⟩) hS (fun q _ h9 => h9) (fun q h9 => h9) (fun r_1 u9 t9 H locs ht9 hvm9 hw_r_1 hB9 hz9 hk9 hS => ?_)
  have hP : gw_P D vwCl A (cDm κ) (cEn cI cZ cB cS κ σ sc ad) ad H := by rw [← ht9]; exact hB9
  refine lv_toq ((f_ramp (σ 1 b) (σ 4 b) y0)) hw_r_1 ?_
  have eσ : σ = ownS σ 17 b y0 y1 := by simp [ownS, f_fst, f_snd, f_sum, f_since, wr_wr, wr_id, wr_id6, wr_id]
  rw [eσ] at hP
  exact W.iret (v := (f_ramp (σ 1 b) (σ 4 b) y0)) hx hb hr (fun t ht hW => ⟨⟨((f_ramp (σ 1 b) (σ 4 b) y0)), (), rfl, (by simp [f_own, f_limit, f_sum, f_since, wr, f_own]), by rw [← ht] at hP; exact hP⟩, hS.F ht⟩) hS.2.2 dX0_ownReckoning_153

set_option maxHeartbeats 4000000 in
set_option maxRecDepth 100000 in
theorem k_X0_own_18 {l : Launch} {D : va_G} {cI cZ cB cS : ClassId} {A : Nat → Prop} (κ : Nat → Nat) (σ sc : Nat → Nat → Int32) (ad : Nat → Nat → Nat) (b : Nat) (hb0 : b < κ 0) (ek : σ 0 b = nI 18) (y0 y1 : Int32) (T : Nat) (hT : T < 2 ^ 31) : Met l yX0_ownReckoning wsX0_ownReckoning ({ frames := 2, cells := 0, slots := 0, locals := 43 } : Room) (gPc D cI cZ cB cS A (cDm κ) (cEn cI cZ cB cS κ σ sc ad) ad [.ref (ad 11 b), .int y0, .int y1, .int (nI T)]) (va_Qi (fun (r : Int32) (_ : Unit) => r = f_own σ 18 b y0 y1 (nI (T % 1440))) (fun _ t => gw_P D vwCl A (cDm κ) (cEn cI cZ cB cS κ (ownS σ 18 b y0 y1) sc ad) ad t.heap) A) 0 0 A := by
  refine Met.ofW (cc := cX0_ownReckoning) (maxL := 4) (ret := (some .int)) (by decide) rfl ?_
  intro p e s m args below meth c s₁ B hml hv
  obtain ⟨rfl, hP, hE, hA⟩ := hv
  have hx := B.exec
  have hb := B.bytes
  have hr := B.returns
  have hts := atoms_spec (ws := wsX0_ownReckoning) B.pre
  have hown : s.vm.findClass RX0 = some m.cls := findClass_of_methodNamed B.named
  have hlocks := B.notSynchronized
  have hK := hE.1
  have hS : va_S A s.heap s.heap [] := va_S.rf
  have hL0 := fun w (hw : w ∈ u_ws RX0 TX0 11) => hts w (iL_X0_ownReckoning_X0 w hw)
  have hl := lv_entry ([.ref (ad 11 b), .int y0, .int y1, .int (nI T)]) (n := 4) (Nat.le_of_ble_eq_true rfl)
  rw [lg_entry_eq]
  generalize (lg_sl ([.ref (ad 11 b), .int y0, .int y1, .int (nI T)]) ++ List.replicate (4 - (lg_sl ([.ref (ad 11 b), .int y0, .int y1, .int (nI T)])).length) Slot.unset).toArray = ls at hl ⊢
  have hl : lv_has ls 4 [(0, .ref (ad 11 b)), (1, .int y0), (2, .int y1), (3, .int (nI T))] := hl
  refine lv_aload_n hx hb dX0_ownReckoning_0 rfl (lv_at hl 0 rfl) ?_
  refine gw_get (C := RX0) (T := TX0) (N := 11) hx hb hL0 hown hK hP 11 b (cDb (by omega) (by decide) (by decide)) rfl rfl 0 (by decide) (hts (.fieldLink RX0 44 "BlockPrograms$Block" "kind" "I") (by decide +kernel)) (fun _ h9 => h9) (v := .int (nI 18)) (congrArg (fun z : Int32 => some (Value.int z)) ek) dX0_ownReckoning_1 ?_
  refine lv_tableIn (off := 150) (tgt := 154) hx hb dX0_ownReckoning_4 (by decide) (by decide) (by decide) (by decide) ?_
  refine lv_aload_n hx hb dX0_ownReckoning_154 rfl (lv_at hl 0 rfl) ?_
  refine lv_iload_n hx hb dX0_ownReckoning_155 rfl (lv_at hl 1 rfl) ?_
  refine lv_iload_n hx hb dX0_ownReckoning_156 rfl (lv_at hl 2 rfl) ?_
  refine va_calli (va_runV (As := [.int y0, .int y1]) (rest := []) ⟨hx, hb, hml, hown, hts⟩ (k_X0_counted (l := l) (D := D) (cI := cI) (cZ := cZ) (cB := cB) (cS := cS) (A := A) κ σ sc ad b hb0 y0 y1) (cwV 2 hts gX0_ownReckoning_X0_counted rfl rfl rfl (by decide +kernel) ⟨Nat.le_of_ble_eq_true rfl, Nat.le_of_ble_eq_true rfl⟩) (gPreV hE hA hS hP (gw_recv hK hP 11 b (cDb (by omega) (by decide) (by decide)) rfl rfl)) rfl rfl hl.1 rfl (lv_room (Nat.le_of_ble_eq_true rfl)) dX0_ownReckoning_157 ⟨Nat.le_of_ble_eq_true rfl, Nat.le_of_ble_eq_true rfl⟩) hS (fun q _ h9 => h9) (fun q h9 => h9) (fun r_1 u9 t9 H locs ht9 hvm9 hw_r_1 hB9 hz9 hk9 hS => ?_)
  have hP : gw_P D vwCl A (cDm κ) (cEn cI cZ cB cS κ (wr (wr σ 5 b (f_count (σ 5 b) (σ 6 b) y0 y1)) 6 b y0) sc ad) ad H := by rw [← ht9]; exact hB9
  refine lv_toq ((f_count (σ 5 b) (σ 6 b) y0 y1)) hw_r_1 ?_
  have eσ : wr (wr σ 5 b (f_count (σ 5 b) (σ 6 b) y0 y1)) 6 b y0 = ownS σ 18 b y0 y1 := by simp [ownS, f_fst, f_snd, f_sum, f_since, wr_wr, wr_id, wr_id6, wr_id]
  rw [eσ] at hP
  exact W.iret (v := (f_count (σ 5 b) (σ 6 b) y0 y1)) hx hb hr (fun t ht hW => ⟨⟨((f_count (σ 5 b) (σ 6 b) y0 y1)), (), rfl, (by simp [f_own, f_limit, f_sum, f_since, wr, f_own]), by rw [← ht] at hP; exact hP⟩, hS.F ht⟩) hS.2.2 dX0_ownReckoning_160

set_option maxHeartbeats 4000000 in
set_option maxRecDepth 100000 in
theorem k_X0_own_19 {l : Launch} {D : va_G} {cI cZ cB cS : ClassId} {A : Nat → Prop} (κ : Nat → Nat) (σ sc : Nat → Nat → Int32) (ad : Nat → Nat → Nat) (b : Nat) (hb0 : b < κ 0) (ek : σ 0 b = nI 19) (y0 y1 : Int32) (T : Nat) (hT : T < 2 ^ 31) : Met l yX0_ownReckoning wsX0_ownReckoning ({ frames := 2, cells := 0, slots := 0, locals := 43 } : Room) (gPc D cI cZ cB cS A (cDm κ) (cEn cI cZ cB cS κ σ sc ad) ad [.ref (ad 11 b), .int y0, .int y1, .int (nI T)]) (va_Qi (fun (r : Int32) (_ : Unit) => r = f_own σ 19 b y0 y1 (nI (T % 1440))) (fun _ t => gw_P D vwCl A (cDm κ) (cEn cI cZ cB cS κ (ownS σ 19 b y0 y1) sc ad) ad t.heap) A) 0 0 A := by
  refine Met.ofW (cc := cX0_ownReckoning) (maxL := 4) (ret := (some .int)) (by decide) rfl ?_
  intro p e s m args below meth c s₁ B hml hv
  obtain ⟨rfl, hP, hE, hA⟩ := hv
  have hx := B.exec
  have hb := B.bytes
  have hr := B.returns
  have hts := atoms_spec (ws := wsX0_ownReckoning) B.pre
  have hown : s.vm.findClass RX0 = some m.cls := findClass_of_methodNamed B.named
  have hlocks := B.notSynchronized
  have hK := hE.1
  have hS : va_S A s.heap s.heap [] := va_S.rf
  have hL0 := fun w (hw : w ∈ u_ws RX0 TX0 11) => hts w (iL_X0_ownReckoning_X0 w hw)
  have hl := lv_entry ([.ref (ad 11 b), .int y0, .int y1, .int (nI T)]) (n := 4) (Nat.le_of_ble_eq_true rfl)
  rw [lg_entry_eq]
  generalize (lg_sl ([.ref (ad 11 b), .int y0, .int y1, .int (nI T)]) ++ List.replicate (4 - (lg_sl ([.ref (ad 11 b), .int y0, .int y1, .int (nI T)])).length) Slot.unset).toArray = ls at hl ⊢
  have hl : lv_has ls 4 [(0, .ref (ad 11 b)), (1, .int y0), (2, .int y1), (3, .int (nI T))] := hl
  refine lv_aload_n hx hb dX0_ownReckoning_0 rfl (lv_at hl 0 rfl) ?_
  refine gw_get (C := RX0) (T := TX0) (N := 11) hx hb hL0 hown hK hP 11 b (cDb (by omega) (by decide) (by decide)) rfl rfl 0 (by decide) (hts (.fieldLink RX0 44 "BlockPrograms$Block" "kind" "I") (by decide +kernel)) (fun _ h9 => h9) (v := .int (nI 19)) (congrArg (fun z : Int32 => some (Value.int z)) ek) dX0_ownReckoning_1 ?_
  refine lv_tableIn (off := 157) (tgt := 161) hx hb dX0_ownReckoning_4 (by decide) (by decide) (by decide) (by decide) ?_
  refine lv_aload_n hx hb dX0_ownReckoning_161 rfl (lv_at hl 0 rfl) ?_
  refine lv_iload_n hx hb dX0_ownReckoning_162 rfl (lv_at hl 1 rfl) ?_
  refine lv_iload_n hx hb dX0_ownReckoning_163 rfl (lv_at hl 2 rfl) ?_
  refine va_calli (va_runV (As := [.int y0, .int y1]) (rest := []) ⟨hx, hb, hml, hown, hts⟩ (k_X0_latched (l := l) (D := D) (cI := cI) (cZ := cZ) (cB := cB) (cS := cS) (A := A) κ σ sc ad b hb0 y0 y1) (cwV 2 hts gX0_ownReckoning_X0_latched rfl rfl rfl (by decide +kernel) ⟨Nat.le_of_ble_eq_true rfl, Nat.le_of_ble_eq_true rfl⟩) (gPreV hE hA hS hP (gw_recv hK hP 11 b (cDb (by omega) (by decide) (by decide)) rfl rfl)) rfl rfl hl.1 rfl (lv_room (Nat.le_of_ble_eq_true rfl)) dX0_ownReckoning_164 ⟨Nat.le_of_ble_eq_true rfl, Nat.le_of_ble_eq_true rfl⟩) hS (fun q _ h9 => h9) (fun q h9 => h9) (fun r_1 u9 t9 H locs ht9 hvm9 hw_r_1 hB9 hz9 hk9 hS => ?_)
  have hP : gw_P D vwCl A (cDm κ) (cEn cI cZ cB cS κ (wr σ 5 b (f_latch (σ 5 b) y0 y1)) sc ad) ad H := by rw [← ht9]; exact hB9
  refine lv_toq ((f_latch (σ 5 b) y0 y1)) hw_r_1 ?_
  have eσ : wr σ 5 b (f_latch (σ 5 b) y0 y1) = ownS σ 19 b y0 y1 := by simp [ownS, f_fst, f_snd, f_sum, f_since, wr_wr, wr_id, wr_id6, wr_id]
  rw [eσ] at hP
  exact W.iret (v := (f_latch (σ 5 b) y0 y1)) hx hb hr (fun t ht hW => ⟨⟨((f_latch (σ 5 b) y0 y1)), (), rfl, (by simp [f_own, f_limit, f_sum, f_since, wr, f_own]), by rw [← ht] at hP; exact hP⟩, hS.F ht⟩) hS.2.2 dX0_ownReckoning_167

set_option maxHeartbeats 4000000 in
set_option maxRecDepth 100000 in
theorem k_X0_own_20 {l : Launch} {D : va_G} {cI cZ cB cS : ClassId} {A : Nat → Prop} (κ : Nat → Nat) (σ sc : Nat → Nat → Int32) (ad : Nat → Nat → Nat) (b : Nat) (hb0 : b < κ 0) (ek : σ 0 b = nI 20) (y0 y1 : Int32) (T : Nat) (hT : T < 2 ^ 31) : Met l yX0_ownReckoning wsX0_ownReckoning ({ frames := 2, cells := 0, slots := 0, locals := 43 } : Room) (gPc D cI cZ cB cS A (cDm κ) (cEn cI cZ cB cS κ σ sc ad) ad [.ref (ad 11 b), .int y0, .int y1, .int (nI T)]) (va_Qi (fun (r : Int32) (_ : Unit) => r = f_own σ 20 b y0 y1 (nI (T % 1440))) (fun _ t => gw_P D vwCl A (cDm κ) (cEn cI cZ cB cS κ (ownS σ 20 b y0 y1) sc ad) ad t.heap) A) 0 0 A := by
  refine Met.ofW (cc := cX0_ownReckoning) (maxL := 4) (ret := (some .int)) (by decide) rfl ?_
  intro p e s m args below meth c s₁ B hml hv
  obtain ⟨rfl, hP, hE, hA⟩ := hv
  have hx := B.exec
  have hb := B.bytes
  have hr := B.returns
  have hts := atoms_spec (ws := wsX0_ownReckoning) B.pre
  have hown : s.vm.findClass RX0 = some m.cls := findClass_of_methodNamed B.named
  have hlocks := B.notSynchronized
  have hK := hE.1
  have hS : va_S A s.heap s.heap [] := va_S.rf
  have hL0 := fun w (hw : w ∈ u_ws RX0 TX0 11) => hts w (iL_X0_ownReckoning_X0 w hw)
  have hl := lv_entry ([.ref (ad 11 b), .int y0, .int y1, .int (nI T)]) (n := 4) (Nat.le_of_ble_eq_true rfl)
  rw [lg_entry_eq]
  generalize (lg_sl ([.ref (ad 11 b), .int y0, .int y1, .int (nI T)]) ++ List.replicate (4 - (lg_sl ([.ref (ad 11 b), .int y0, .int y1, .int (nI T)])).length) Slot.unset).toArray = ls at hl ⊢
  have hl : lv_has ls 4 [(0, .ref (ad 11 b)), (1, .int y0), (2, .int y1), (3, .int (nI T))] := hl
  refine lv_aload_n hx hb dX0_ownReckoning_0 rfl (lv_at hl 0 rfl) ?_
  refine gw_get (C := RX0) (T := TX0) (N := 11) hx hb hL0 hown hK hP 11 b (cDb (by omega) (by decide) (by decide)) rfl rfl 0 (by decide) (hts (.fieldLink RX0 44 "BlockPrograms$Block" "kind" "I") (by decide +kernel)) (fun _ h9 => h9) (v := .int (nI 20)) (congrArg (fun z : Int32 => some (Value.int z)) ek) dX0_ownReckoning_1 ?_
  refine lv_tableIn (off := 164) (tgt := 168) hx hb dX0_ownReckoning_4 (by decide) (by decide) (by decide) (by decide) ?_
  refine lv_aload_n hx hb dX0_ownReckoning_168 rfl (lv_at hl 0 rfl) ?_
  refine lv_iload_n hx hb dX0_ownReckoning_169 rfl (lv_at hl 3 rfl) ?_
  refine lv_sipush (v := 1440) hx hb dX0_ownReckoning_170 (by decide) ?_
  refine lv_irem hx hb dX0_ownReckoning_173 (by decide) ?_
  refine lv_toq (nI (T % 1440)) (pk_rem (a := T) (d := 1440) (by omega) (by decide) (by decide)) ?_
  refine va_calli (va_runV (As := [.int (nI (T % 1440))]) (rest := []) ⟨hx, hb, hml, hown, hts⟩ (k_X0_isClockOn (l := l) (D := D) (cI := cI) (cZ := cZ) (cB := cB) (cS := cS) (A := A) κ σ sc ad b hb0 (nI (T % 1440))) (cwV 1 hts gX0_ownReckoning_X0_isClockOn rfl rfl rfl (by decide +kernel) ⟨Nat.le_of_ble_eq_true rfl, Nat.le_of_ble_eq_true rfl⟩) (gPreV hE hA hS hP (gw_recv hK hP 11 b (cDb (by omega) (by decide) (by decide)) rfl rfl)) rfl rfl hl.1 rfl (lv_room (Nat.le_of_ble_eq_true rfl)) dX0_ownReckoning_174 ⟨Nat.le_of_ble_eq_true rfl, Nat.le_of_ble_eq_true rfl⟩) hS (fun q _ h9 => h9) (fun q h9 => h9) (fun r_1 u9 t9 H locs ht9 hvm9 hw_r_1 hB9 hz9 hk9 hS => ?_)
  have hP : gw_P D vwCl A (cDm κ) (cEn cI cZ cB cS κ σ sc ad) ad H := by rw [← ht9]; exact hB9
  refine lv_toq ((if f_clock (σ 1 b) (σ 2 b) (nI (T % 1440)) then 1 else 0)) hw_r_1 ?_
  refine va_calli (va_runSN (As := [.int ((if f_clock (σ 1 b) (σ 2 b) (nI (T % 1440)) then 1 else 0))]) (rest := []) ⟨hx, hb, hml, hown, hts⟩ (k_X3_asNumber (l := l) (D := D) (cI := cI) (cZ := cZ) (cB := cB) (cS := cS) (A := A) (cDm κ) (cEn cI cZ cB cS κ σ sc ad) ad ((if f_clock (σ 1 b) (σ 2 b) (nI (T % 1440)) then 1 else 0))) ⟨va_cnB 1 hts gX0_ownReckoning_X3_asNumber_n72 rfl rfl rfl hE.2.2.2.2.1.2.2.1 (hts (.initialized RX3) (by decide +kernel)) (by decide +kernel) ⟨Nat.le_of_ble_eq_true rfl, Nat.le_of_ble_eq_true rfl⟩, hts (.static yX3_asNumber) (by decide +kernel), trivial⟩ (gPreS hE hA hS hP) rfl rfl hl.1 rfl (lv_room (Nat.le_of_ble_eq_true rfl)) dX0_ownReckoning_177 ⟨Nat.le_of_ble_eq_true rfl, Nat.le_of_ble_eq_true rfl⟩) hS (fun q _ h9 => h9) (fun q h9 => h9) (fun r_2 u9 t9 H locs ht9 hvm9 hw_r_2 hB9 hz9 hk9 hS => ?_)
  have hP : gw_P D vwCl A (cDm κ) (cEn cI cZ cB cS κ σ sc ad) ad H := by rw [← ht9]; exact hB9
  refine lv_toq ((if (if f_clock (σ 1 b) (σ 2 b) (nI (T % 1440)) then 1 else 0) = 0 then 0 else 1)) hw_r_2 ?_
  have eσ : σ = ownS σ 20 b y0 y1 := by simp [ownS, f_fst, f_snd, f_sum, f_since, wr_wr, wr_id, wr_id6, wr_id]
  rw [eσ] at hP
  exact W.iret (v := (if (if f_clock (σ 1 b) (σ 2 b) (nI (T % 1440)) then 1 else 0) = 0 then 0 else 1)) hx hb hr (fun t ht hW => ⟨⟨((if (if f_clock (σ 1 b) (σ 2 b) (nI (T % 1440)) then 1 else 0) = 0 then 0 else 1)), (), rfl, (by simp only [f_own]; cases f_clock (σ 1 b) (σ 2 b) (nI (T % 1440)) <;> rfl), by rw [← ht] at hP; exact hP⟩, hS.F ht⟩) hS.2.2 dX0_ownReckoning_180

set_option maxHeartbeats 4000000 in
set_option maxRecDepth 100000 in
theorem k_X0_own_21 {l : Launch} {D : va_G} {cI cZ cB cS : ClassId} {A : Nat → Prop} (κ : Nat → Nat) (σ sc : Nat → Nat → Int32) (ad : Nat → Nat → Nat) (b : Nat) (hb0 : b < κ 0) (ek : σ 0 b = nI 21) (y0 y1 : Int32) (T : Nat) (hT : T < 2 ^ 31) : Met l yX0_ownReckoning wsX0_ownReckoning ({ frames := 2, cells := 0, slots := 0, locals := 43 } : Room) (gPc D cI cZ cB cS A (cDm κ) (cEn cI cZ cB cS κ σ sc ad) ad [.ref (ad 11 b), .int y0, .int y1, .int (nI T)]) (va_Qi (fun (r : Int32) (_ : Unit) => r = f_own σ 21 b y0 y1 (nI (T % 1440))) (fun _ t => gw_P D vwCl A (cDm κ) (cEn cI cZ cB cS κ (ownS σ 21 b y0 y1) sc ad) ad t.heap) A) 0 0 A := by
  refine Met.ofW (cc := cX0_ownReckoning) (maxL := 4) (ret := (some .int)) (by decide) rfl ?_
  intro p e s m args below meth c s₁ B hml hv
  obtain ⟨rfl, hP, hE, hA⟩ := hv
  have hx := B.exec
  have hb := B.bytes
  have hr := B.returns
  have hts := atoms_spec (ws := wsX0_ownReckoning) B.pre
  have hown : s.vm.findClass RX0 = some m.cls := findClass_of_methodNamed B.named
  have hlocks := B.notSynchronized
  have hK := hE.1
  have hS : va_S A s.heap s.heap [] := va_S.rf
  have hL0 := fun w (hw : w ∈ u_ws RX0 TX0 11) => hts w (iL_X0_ownReckoning_X0 w hw)
  have hl := lv_entry ([.ref (ad 11 b), .int y0, .int y1, .int (nI T)]) (n := 4) (Nat.le_of_ble_eq_true rfl)
  rw [lg_entry_eq]
  generalize (lg_sl ([.ref (ad 11 b), .int y0, .int y1, .int (nI T)]) ++ List.replicate (4 - (lg_sl ([.ref (ad 11 b), .int y0, .int y1, .int (nI T)])).length) Slot.unset).toArray = ls at hl ⊢
  have hl : lv_has ls 4 [(0, .ref (ad 11 b)), (1, .int y0), (2, .int y1), (3, .int (nI T))] := hl
  refine lv_aload_n hx hb dX0_ownReckoning_0 rfl (lv_at hl 0 rfl) ?_
  refine gw_get (C := RX0) (T := TX0) (N := 11) hx hb hL0 hown hK hP 11 b (cDb (by omega) (by decide) (by decide)) rfl rfl 0 (by decide) (hts (.fieldLink RX0 44 "BlockPrograms$Block" "kind" "I") (by decide +kernel)) (fun _ h9 => h9) (v := .int (nI 21)) (congrArg (fun z : Int32 => some (Value.int z)) ek) dX0_ownReckoning_1 ?_
  refine lv_tableIn (off := 177) (tgt := 181) hx hb dX0_ownReckoning_4 (by decide) (by decide) (by decide) (by decide) ?_
  refine lv_aload_n hx hb dX0_ownReckoning_181 rfl (lv_at hl 0 rfl) ?_
  refine lv_iload_n hx hb dX0_ownReckoning_182 rfl (lv_at hl 1 rfl) ?_
  refine va_calli (va_runV (As := [.int y0]) (rest := []) ⟨hx, hb, hml, hown, hts⟩ (k_X0_pulsed (l := l) (D := D) (cI := cI) (cZ := cZ) (cB := cB) (cS := cS) (A := A) κ σ sc ad b hb0 y0) (cwV 1 hts gX0_ownReckoning_X0_pulsed rfl rfl rfl (by decide +kernel) ⟨Nat.le_of_ble_eq_true rfl, Nat.le_of_ble_eq_true rfl⟩) (gPreV hE hA hS hP (gw_recv hK hP 11 b (cDb (by omega) (by decide) (by decide)) rfl rfl)) rfl rfl hl.1 rfl (lv_room (Nat.le_of_ble_eq_true rfl)) dX0_ownReckoning_183 ⟨Nat.le_of_ble_eq_true rfl, Nat.le_of_ble_eq_true rfl⟩) hS (fun q _ h9 => h9) (fun q h9 => h9) (fun r_1 u9 t9 H locs ht9 hvm9 hw_r_1 hB9 hz9 hk9 hS => ?_)
  have hP : gw_P D vwCl A (cDm κ) (cEn cI cZ cB cS κ (wr (wr σ 5 b (if 0 < f_pulse0 (σ 1 b) (σ 5 b) (σ 6 b) y0 then f_pulse0 (σ 1 b) (σ 5 b) (σ 6 b) y0 - 1 else f_pulse0 (σ 1 b) (σ 5 b) (σ 6 b) y0)) 6 b y0) sc ad) ad H := by rw [← ht9]; exact hB9
  refine lv_toq ((if 0 < f_pulse0 (σ 1 b) (σ 5 b) (σ 6 b) y0 then 1 else 0)) hw_r_1 ?_
  have eσ : wr (wr σ 5 b (if 0 < f_pulse0 (σ 1 b) (σ 5 b) (σ 6 b) y0 then f_pulse0 (σ 1 b) (σ 5 b) (σ 6 b) y0 - 1 else f_pulse0 (σ 1 b) (σ 5 b) (σ 6 b) y0)) 6 b y0 = ownS σ 21 b y0 y1 := by simp [ownS, f_fst, f_snd, f_sum, f_since, wr_wr, wr_id, wr_id6, wr_id]
  rw [eσ] at hP
  exact W.iret (v := (if 0 < f_pulse0 (σ 1 b) (σ 5 b) (σ 6 b) y0 then 1 else 0)) hx hb hr (fun t ht hW => ⟨⟨((if 0 < f_pulse0 (σ 1 b) (σ 5 b) (σ 6 b) y0 then 1 else 0)), (), rfl, (by simp [f_own, f_limit, f_sum, f_since, wr, f_own]), by rw [← ht] at hP; exact hP⟩, hS.F ht⟩) hS.2.2 dX0_ownReckoning_186

set_option maxHeartbeats 4000000 in
set_option maxRecDepth 100000 in
theorem k_X0_own_22 {l : Launch} {D : va_G} {cI cZ cB cS : ClassId} {A : Nat → Prop} (κ : Nat → Nat) (σ sc : Nat → Nat → Int32) (ad : Nat → Nat → Nat) (b : Nat) (hb0 : b < κ 0) (ek : σ 0 b = nI 22) (y0 y1 : Int32) (T : Nat) (hT : T < 2 ^ 31) : Met l yX0_ownReckoning wsX0_ownReckoning ({ frames := 2, cells := 0, slots := 0, locals := 43 } : Room) (gPc D cI cZ cB cS A (cDm κ) (cEn cI cZ cB cS κ σ sc ad) ad [.ref (ad 11 b), .int y0, .int y1, .int (nI T)]) (va_Qi (fun (r : Int32) (_ : Unit) => r = f_own σ 22 b y0 y1 (nI (T % 1440))) (fun _ t => gw_P D vwCl A (cDm κ) (cEn cI cZ cB cS κ (ownS σ 22 b y0 y1) sc ad) ad t.heap) A) 0 0 A := by
  refine Met.ofW (cc := cX0_ownReckoning) (maxL := 4) (ret := (some .int)) (by decide) rfl ?_
  intro p e s m args below meth c s₁ B hml hv
  obtain ⟨rfl, hP, hE, hA⟩ := hv
  have hx := B.exec
  have hb := B.bytes
  have hr := B.returns
  have hts := atoms_spec (ws := wsX0_ownReckoning) B.pre
  have hown : s.vm.findClass RX0 = some m.cls := findClass_of_methodNamed B.named
  have hlocks := B.notSynchronized
  have hK := hE.1
  have hS : va_S A s.heap s.heap [] := va_S.rf
  have hL0 := fun w (hw : w ∈ u_ws RX0 TX0 11) => hts w (iL_X0_ownReckoning_X0 w hw)
  have hl := lv_entry ([.ref (ad 11 b), .int y0, .int y1, .int (nI T)]) (n := 4) (Nat.le_of_ble_eq_true rfl)
  rw [lg_entry_eq]
  generalize (lg_sl ([.ref (ad 11 b), .int y0, .int y1, .int (nI T)]) ++ List.replicate (4 - (lg_sl ([.ref (ad 11 b), .int y0, .int y1, .int (nI T)])).length) Slot.unset).toArray = ls at hl ⊢
  have hl : lv_has ls 4 [(0, .ref (ad 11 b)), (1, .int y0), (2, .int y1), (3, .int (nI T))] := hl
  refine lv_aload_n hx hb dX0_ownReckoning_0 rfl (lv_at hl 0 rfl) ?_
  refine gw_get (C := RX0) (T := TX0) (N := 11) hx hb hL0 hown hK hP 11 b (cDb (by omega) (by decide) (by decide)) rfl rfl 0 (by decide) (hts (.fieldLink RX0 44 "BlockPrograms$Block" "kind" "I") (by decide +kernel)) (fun _ h9 => h9) (v := .int (nI 22)) (congrArg (fun z : Int32 => some (Value.int z)) ek) dX0_ownReckoning_1 ?_
  refine lv_tableIn (off := 183) (tgt := 187) hx hb dX0_ownReckoning_4 (by decide) (by decide) (by decide) (by decide) ?_
  refine lv_iload_n hx hb dX0_ownReckoning_187 rfl (lv_at hl 1 rfl) ?_
  refine lv_aload_n hx hb dX0_ownReckoning_188 rfl (lv_at hl 0 rfl) ?_
  refine gw_get (C := RX0) (T := TX0) (N := 11) hx hb hL0 hown hK hP 11 b (cDb (by omega) (by decide) (by decide)) rfl rfl 1 (by decide) (hts (.fieldLink RX0 9 "BlockPrograms$Block" "p" "I") (by decide +kernel)) (fun _ h9 => h9) (v := .int ((σ 1 b))) rfl dX0_ownReckoning_189 ?_
  refine lv_icmp_ge (tgt := 202) hx hb dX0_ownReckoning_192 (by decide) (fun c_1 => ?_) (fun c_1 => ?_)
  · refine lv_iload_n hx hb dX0_ownReckoning_202 rfl (lv_at hl 1 rfl) ?_
    refine lv_aload_n hx hb dX0_ownReckoning_203 rfl (lv_at hl 0 rfl) ?_
    refine gw_get (C := RX0) (T := TX0) (N := 11) hx hb hL0 hown hK hP 11 b (cDb (by omega) (by decide) (by decide)) rfl rfl 2 (by decide) (hts (.fieldLink RX0 15 "BlockPrograms$Block" "q" "I") (by decide +kernel)) (fun _ h9 => h9) (v := .int ((σ 2 b))) rfl dX0_ownReckoning_204 ?_
    refine lv_icmp_le (tgt := 217) hx hb dX0_ownReckoning_207 (by decide) (fun c_2 => ?_) (fun c_2 => ?_)
    · refine lv_iload_n hx hb dX0_ownReckoning_217 rfl (lv_at hl 1 rfl) ?_
      have eσ : σ = ownS σ 22 b y0 y1 := by simp [ownS, f_fst, f_snd, f_sum, f_since, wr_wr, wr_id, wr_id6, c_1, c_2]
      rw [eσ] at hP
      exact W.iret (v := y0) hx hb hr (fun t ht hW => ⟨⟨y0, (), rfl, (by simp [f_own, f_limit, f_sum, f_since, wr, c_1, Int32.not_lt.mpr c_1, c_2, Int32.not_lt.mpr c_2]), by rw [← ht] at hP; exact hP⟩, hS.F ht⟩) hS.2.2 dX0_ownReckoning_218
    · refine lv_aload_n hx hb dX0_ownReckoning_210 rfl (lv_at hl 0 rfl) ?_
      refine gw_get (C := RX0) (T := TX0) (N := 11) hx hb hL0 hown hK hP 11 b (cDb (by omega) (by decide) (by decide)) rfl rfl 2 (by decide) (hts (.fieldLink RX0 15 "BlockPrograms$Block" "q" "I") (by decide +kernel)) (fun _ h9 => h9) (v := .int ((σ 2 b))) rfl dX0_ownReckoning_211 ?_
      refine lv_goto (tgt := 218) hx hb dX0_ownReckoning_214 (by decide) ?_
      have eσ : σ = ownS σ 22 b y0 y1 := by simp [ownS, f_fst, f_snd, f_sum, f_since, wr_wr, wr_id, wr_id6, c_1, c_2]
      rw [eσ] at hP
      exact W.iret (v := (σ 2 b)) hx hb hr (fun t ht hW => ⟨⟨((σ 2 b)), (), rfl, (by simp [f_own, f_limit, f_sum, f_since, wr, c_1, Int32.not_lt.mpr c_1, c_2, Int32.not_le.mp c_2]), by rw [← ht] at hP; exact hP⟩, hS.F ht⟩) hS.2.2 dX0_ownReckoning_218
  · refine lv_aload_n hx hb dX0_ownReckoning_195 rfl (lv_at hl 0 rfl) ?_
    refine gw_get (C := RX0) (T := TX0) (N := 11) hx hb hL0 hown hK hP 11 b (cDb (by omega) (by decide) (by decide)) rfl rfl 1 (by decide) (hts (.fieldLink RX0 9 "BlockPrograms$Block" "p" "I") (by decide +kernel)) (fun _ h9 => h9) (v := .int ((σ 1 b))) rfl dX0_ownReckoning_196 ?_
    refine lv_goto (tgt := 218) hx hb dX0_ownReckoning_199 (by decide) ?_
    have eσ : σ = ownS σ 22 b y0 y1 := by simp [ownS, f_fst, f_snd, f_sum, f_since, wr_wr, wr_id, wr_id6, c_1]
    rw [eσ] at hP
    exact W.iret (v := (σ 1 b)) hx hb hr (fun t ht hW => ⟨⟨((σ 1 b)), (), rfl, (by simp [f_own, f_limit, f_sum, f_since, wr, c_1, Int32.not_le.mp c_1]), by rw [← ht] at hP; exact hP⟩, hS.F ht⟩) hS.2.2 dX0_ownReckoning_218

set_option maxHeartbeats 4000000 in
set_option maxRecDepth 100000 in
theorem k_X0_own_23 {l : Launch} {D : va_G} {cI cZ cB cS : ClassId} {A : Nat → Prop} (κ : Nat → Nat) (σ sc : Nat → Nat → Int32) (ad : Nat → Nat → Nat) (b : Nat) (hb0 : b < κ 0) (ek : σ 0 b = nI 23) (y0 y1 : Int32) (T : Nat) (hT : T < 2 ^ 31) : Met l yX0_ownReckoning wsX0_ownReckoning ({ frames := 2, cells := 0, slots := 0, locals := 43 } : Room) (gPc D cI cZ cB cS A (cDm κ) (cEn cI cZ cB cS κ σ sc ad) ad [.ref (ad 11 b), .int y0, .int y1, .int (nI T)]) (va_Qi (fun (r : Int32) (_ : Unit) => r = f_own σ 23 b y0 y1 (nI (T % 1440))) (fun _ t => gw_P D vwCl A (cDm κ) (cEn cI cZ cB cS κ (ownS σ 23 b y0 y1) sc ad) ad t.heap) A) 0 0 A := by
  refine Met.ofW (cc := cX0_ownReckoning) (maxL := 4) (ret := (some .int)) (by decide) rfl ?_
  intro p e s m args below meth c s₁ B hml hv
  obtain ⟨rfl, hP, hE, hA⟩ := hv
  have hx := B.exec
  have hb := B.bytes
  have hr := B.returns
  have hts := atoms_spec (ws := wsX0_ownReckoning) B.pre
  have hown : s.vm.findClass RX0 = some m.cls := findClass_of_methodNamed B.named
  have hlocks := B.notSynchronized
  have hK := hE.1
  have hS : va_S A s.heap s.heap [] := va_S.rf
  have hL0 := fun w (hw : w ∈ u_ws RX0 TX0 11) => hts w (iL_X0_ownReckoning_X0 w hw)
  have hl := lv_entry ([.ref (ad 11 b), .int y0, .int y1, .int (nI T)]) (n := 4) (Nat.le_of_ble_eq_true rfl)
  rw [lg_entry_eq]
  generalize (lg_sl ([.ref (ad 11 b), .int y0, .int y1, .int (nI T)]) ++ List.replicate (4 - (lg_sl ([.ref (ad 11 b), .int y0, .int y1, .int (nI T)])).length) Slot.unset).toArray = ls at hl ⊢
  have hl : lv_has ls 4 [(0, .ref (ad 11 b)), (1, .int y0), (2, .int y1), (3, .int (nI T))] := hl
  refine lv_aload_n hx hb dX0_ownReckoning_0 rfl (lv_at hl 0 rfl) ?_
  refine gw_get (C := RX0) (T := TX0) (N := 11) hx hb hL0 hown hK hP 11 b (cDb (by omega) (by decide) (by decide)) rfl rfl 0 (by decide) (hts (.fieldLink RX0 44 "BlockPrograms$Block" "kind" "I") (by decide +kernel)) (fun _ h9 => h9) (v := .int (nI 23)) (congrArg (fun z : Int32 => some (Value.int z)) ek) dX0_ownReckoning_1 ?_
  refine lv_tableIn (off := 215) (tgt := 219) hx hb dX0_ownReckoning_4 (by decide) (by decide) (by decide) (by decide) ?_
  refine lv_iload_n hx hb dX0_ownReckoning_219 rfl (lv_at hl 2 rfl) ?_
  refine lv_if_eq (tgt := 230) hx hb dX0_ownReckoning_220 (by decide) (fun c_1 => ?_) (fun c_1 => ?_)
  · refine lv_iload_n hx hb dX0_ownReckoning_230 rfl (lv_at hl 1 rfl) ?_
    have eσ : σ = ownS σ 23 b y0 y1 := by simp [ownS, f_fst, f_snd, f_sum, f_since, wr_wr, wr_id, wr_id6, c_1]
    rw [eσ] at hP
    exact W.iret (v := y0) hx hb hr (fun t ht hW => ⟨⟨y0, (), rfl, (by simp [f_own, f_limit, f_sum, f_since, wr, c_1]), by rw [← ht] at hP; exact hP⟩, hS.F ht⟩) hS.2.2 dX0_ownReckoning_231
  · refine lv_aload_n hx hb dX0_ownReckoning_223 rfl (lv_at hl 0 rfl) ?_
    refine gw_get (C := RX0) (T := TX0) (N := 11) hx hb hL0 hown hK hP 11 b (cDb (by omega) (by decide) (by decide)) rfl rfl 4 (by decide) (hts (.fieldLink RX0 21 "BlockPrograms$Block" "output" "I") (by decide +kernel)) (fun _ h9 => h9) (v := .int ((σ 4 b))) rfl dX0_ownReckoning_224 ?_
    refine lv_goto (tgt := 231) hx hb dX0_ownReckoning_227 (by decide) ?_
    have eσ : σ = ownS σ 23 b y0 y1 := by simp [ownS, f_fst, f_snd, f_sum, f_since, wr_wr, wr_id, wr_id6, c_1]
    rw [eσ] at hP
    exact W.iret (v := (σ 4 b)) hx hb hr (fun t ht hW => ⟨⟨((σ 4 b)), (), rfl, (by simp [f_own, f_limit, f_sum, f_since, wr, c_1]), by rw [← ht] at hP; exact hP⟩, hS.F ht⟩) hS.2.2 dX0_ownReckoning_231

set_option maxHeartbeats 4000000 in
set_option maxRecDepth 100000 in
theorem k_X0_own_24 {l : Launch} {D : va_G} {cI cZ cB cS : ClassId} {A : Nat → Prop} (κ : Nat → Nat) (σ sc : Nat → Nat → Int32) (ad : Nat → Nat → Nat) (b : Nat) (hb0 : b < κ 0) (ek : σ 0 b = nI 24) (y0 y1 : Int32) (T : Nat) (hT : T < 2 ^ 31) : Met l yX0_ownReckoning wsX0_ownReckoning ({ frames := 2, cells := 0, slots := 0, locals := 43 } : Room) (gPc D cI cZ cB cS A (cDm κ) (cEn cI cZ cB cS κ σ sc ad) ad [.ref (ad 11 b), .int y0, .int y1, .int (nI T)]) (va_Qi (fun (r : Int32) (_ : Unit) => r = f_own σ 24 b y0 y1 (nI (T % 1440))) (fun _ t => gw_P D vwCl A (cDm κ) (cEn cI cZ cB cS κ (ownS σ 24 b y0 y1) sc ad) ad t.heap) A) 0 0 A := by
  refine Met.ofW (cc := cX0_ownReckoning) (maxL := 4) (ret := (some .int)) (by decide) rfl ?_
  intro p e s m args below meth c s₁ B hml hv
  obtain ⟨rfl, hP, hE, hA⟩ := hv
  have hx := B.exec
  have hb := B.bytes
  have hr := B.returns
  have hts := atoms_spec (ws := wsX0_ownReckoning) B.pre
  have hown : s.vm.findClass RX0 = some m.cls := findClass_of_methodNamed B.named
  have hlocks := B.notSynchronized
  have hK := hE.1
  have hS : va_S A s.heap s.heap [] := va_S.rf
  have hL0 := fun w (hw : w ∈ u_ws RX0 TX0 11) => hts w (iL_X0_ownReckoning_X0 w hw)
  have hl := lv_entry ([.ref (ad 11 b), .int y0, .int y1, .int (nI T)]) (n := 4) (Nat.le_of_ble_eq_true rfl)
  rw [lg_entry_eq]
  generalize (lg_sl ([.ref (ad 11 b), .int y0, .int y1, .int (nI T)]) ++ List.replicate (4 - (lg_sl ([.ref (ad 11 b), .int y0, .int y1, .int (nI T)])).length) Slot.unset).toArray = ls at hl ⊢
  have hl : lv_has ls 4 [(0, .ref (ad 11 b)), (1, .int y0), (2, .int y1), (3, .int (nI T))] := hl
  refine lv_aload_n hx hb dX0_ownReckoning_0 rfl (lv_at hl 0 rfl) ?_
  refine gw_get (C := RX0) (T := TX0) (N := 11) hx hb hL0 hown hK hP 11 b (cDb (by omega) (by decide) (by decide)) rfl rfl 0 (by decide) (hts (.fieldLink RX0 44 "BlockPrograms$Block" "kind" "I") (by decide +kernel)) (fun _ h9 => h9) (v := .int (nI 24)) (congrArg (fun z : Int32 => some (Value.int z)) ek) dX0_ownReckoning_1 ?_
  refine lv_tableIn (off := 228) (tgt := 232) hx hb dX0_ownReckoning_4 (by decide) (by decide) (by decide) (by decide) ?_
  refine lv_aload_n hx hb dX0_ownReckoning_232 rfl (lv_at hl 0 rfl) ?_
  refine lv_iload_n hx hb dX0_ownReckoning_233 rfl (lv_at hl 2 rfl) ?_
  refine lv_if_eq (tgt := 241) hx hb dX0_ownReckoning_234 (by decide) (fun c_1 => ?_) (fun c_1 => ?_)
  · refine lv_aload_n hx hb dX0_ownReckoning_241 rfl (lv_at hl 0 rfl) ?_
    refine gw_get (C := RX0) (T := TX0) (N := 11) hx hb hL0 hown hK hP 11 b (cDb (by omega) (by decide) (by decide)) rfl rfl 5 (by decide) (hts (.fieldLink RX0 24 "BlockPrograms$Block" "first" "I") (by decide +kernel)) (fun _ h9 => h9) (v := .int ((σ 5 b))) rfl dX0_ownReckoning_242 ?_
    refine lv_iload_n hx hb dX0_ownReckoning_245 rfl (lv_at hl 1 rfl) ?_
    refine lv_iadd hx hb dX0_ownReckoning_246 ?_
    refine gw_put (ty := .int) (C := RX0) (T := TX0) (N := 11) hx hb hL0 tyX0 tyX0_ok nmX0 hown hK hP hS 11 b (cDb (by omega) (by decide) (by decide)) rfl rfl 5 (by decide) (hts (.fieldLink RX0 24 "BlockPrograms$Block" "first" "I") (by decide +kernel)) (fun _ h9 => h9) rfl (by decide +kernel) rfl rfl (Nat.le_of_ble_eq_true rfl) dX0_ownReckoning_247 (cEn cI cZ cB cS κ (wr σ 5 b (((σ 5 b) + y0))) sc ad) (cU11s_5 _) (fun t9 i9 _ h9 => cU11 (by decide) _ t9 i9 h9) (fun H locs hP hS => ?_)
    refine lv_aload_n hx hb dX0_ownReckoning_250 rfl (lv_at hl 0 rfl) ?_
    refine gw_get (C := RX0) (T := TX0) (N := 11) hx hb hL0 hown hK hP 11 b (cDb (by omega) (by decide) (by decide)) rfl rfl 5 (by decide) (hts (.fieldLink RX0 24 "BlockPrograms$Block" "first" "I") (by decide +kernel)) (fun _ h9 => h9) (v := .int ((((σ 5 b) + y0)))) (by simp [wr, va_up]) dX0_ownReckoning_251 ?_
    have eσ : wr σ 5 b (((σ 5 b) + y0)) = ownS σ 24 b y0 y1 := by simp [ownS, f_fst, f_snd, f_sum, f_since, wr_wr, wr_id, wr_id6, c_1]
    rw [eσ] at hP
    exact W.iret (v := (((σ 5 b) + y0))) hx hb hr (fun t ht hW => ⟨⟨((((σ 5 b) + y0))), (), rfl, (by simp [f_own, f_limit, f_sum, f_since, wr, c_1]), by rw [← ht] at hP; exact hP⟩, hS.F ht⟩) hS.2.2 dX0_ownReckoning_254
  · refine lv_iconst (v := 0) hx hb dX0_ownReckoning_237 (by decide) ?_
    refine lv_goto (tgt := 247) hx hb dX0_ownReckoning_238 (by decide) ?_
    refine gw_put (ty := .int) (C := RX0) (T := TX0) (N := 11) hx hb hL0 tyX0 tyX0_ok nmX0 hown hK hP hS 11 b (cDb (by omega) (by decide) (by decide)) rfl rfl 5 (by decide) (hts (.fieldLink RX0 24 "BlockPrograms$Block" "first" "I") (by decide +kernel)) (fun _ h9 => h9) rfl (by decide +kernel) rfl rfl (Nat.le_of_ble_eq_true rfl) dX0_ownReckoning_247 (cEn cI cZ cB cS κ (wr σ 5 b 0) sc ad) (cU11s_5 _) (fun t9 i9 _ h9 => cU11 (by decide) _ t9 i9 h9) (fun H locs hP hS => ?_)
    refine lv_aload_n hx hb dX0_ownReckoning_250 rfl (lv_at hl 0 rfl) ?_
    refine gw_get (C := RX0) (T := TX0) (N := 11) hx hb hL0 hown hK hP 11 b (cDb (by omega) (by decide) (by decide)) rfl rfl 5 (by decide) (hts (.fieldLink RX0 24 "BlockPrograms$Block" "first" "I") (by decide +kernel)) (fun _ h9 => h9) (v := .int 0) (by simp [wr, va_up]) dX0_ownReckoning_251 ?_
    have eσ : wr σ 5 b 0 = ownS σ 24 b y0 y1 := by simp [ownS, f_fst, f_snd, f_sum, f_since, wr_wr, wr_id, wr_id6, c_1]
    rw [eσ] at hP
    exact W.iret (v := 0) hx hb hr (fun t ht hW => ⟨⟨0, (), rfl, (by simp [f_own, f_limit, f_sum, f_since, wr, c_1]), by rw [← ht] at hP; exact hP⟩, hS.F ht⟩) hS.2.2 dX0_ownReckoning_254

set_option maxHeartbeats 4000000 in
set_option maxRecDepth 100000 in
theorem k_X0_own_25 {l : Launch} {D : va_G} {cI cZ cB cS : ClassId} {A : Nat → Prop} (κ : Nat → Nat) (σ sc : Nat → Nat → Int32) (ad : Nat → Nat → Nat) (b : Nat) (hb0 : b < κ 0) (ek : σ 0 b = nI 25) (y0 y1 : Int32) (T : Nat) (hT : T < 2 ^ 31) : Met l yX0_ownReckoning wsX0_ownReckoning ({ frames := 2, cells := 0, slots := 0, locals := 43 } : Room) (gPc D cI cZ cB cS A (cDm κ) (cEn cI cZ cB cS κ σ sc ad) ad [.ref (ad 11 b), .int y0, .int y1, .int (nI T)]) (va_Qi (fun (r : Int32) (_ : Unit) => r = f_own σ 25 b y0 y1 (nI (T % 1440))) (fun _ t => gw_P D vwCl A (cDm κ) (cEn cI cZ cB cS κ (ownS σ 25 b y0 y1) sc ad) ad t.heap) A) 0 0 A := by
  refine Met.ofW (cc := cX0_ownReckoning) (maxL := 4) (ret := (some .int)) (by decide) rfl ?_
  intro p e s m args below meth c s₁ B hml hv
  obtain ⟨rfl, hP, hE, hA⟩ := hv
  have hx := B.exec
  have hb := B.bytes
  have hr := B.returns
  have hts := atoms_spec (ws := wsX0_ownReckoning) B.pre
  have hown : s.vm.findClass RX0 = some m.cls := findClass_of_methodNamed B.named
  have hlocks := B.notSynchronized
  have hK := hE.1
  have hS : va_S A s.heap s.heap [] := va_S.rf
  have hL0 := fun w (hw : w ∈ u_ws RX0 TX0 11) => hts w (iL_X0_ownReckoning_X0 w hw)
  have hl := lv_entry ([.ref (ad 11 b), .int y0, .int y1, .int (nI T)]) (n := 4) (Nat.le_of_ble_eq_true rfl)
  rw [lg_entry_eq]
  generalize (lg_sl ([.ref (ad 11 b), .int y0, .int y1, .int (nI T)]) ++ List.replicate (4 - (lg_sl ([.ref (ad 11 b), .int y0, .int y1, .int (nI T)])).length) Slot.unset).toArray = ls at hl ⊢
  have hl : lv_has ls 4 [(0, .ref (ad 11 b)), (1, .int y0), (2, .int y1), (3, .int (nI T))] := hl
  refine lv_aload_n hx hb dX0_ownReckoning_0 rfl (lv_at hl 0 rfl) ?_
  refine gw_get (C := RX0) (T := TX0) (N := 11) hx hb hL0 hown hK hP 11 b (cDb (by omega) (by decide) (by decide)) rfl rfl 0 (by decide) (hts (.fieldLink RX0 44 "BlockPrograms$Block" "kind" "I") (by decide +kernel)) (fun _ h9 => h9) (v := .int (nI 25)) (congrArg (fun z : Int32 => some (Value.int z)) ek) dX0_ownReckoning_1 ?_
  refine lv_tableIn (off := 251) (tgt := 255) hx hb dX0_ownReckoning_4 (by decide) (by decide) (by decide) (by decide) ?_
  refine lv_aload_n hx hb dX0_ownReckoning_255 rfl (lv_at hl 0 rfl) ?_
  refine lv_iload_n hx hb dX0_ownReckoning_256 rfl (lv_at hl 1 rfl) ?_
  refine lv_if_eq (tgt := 269) hx hb dX0_ownReckoning_257 (by decide) (fun c_1 => ?_) (fun c_1 => ?_)
  · refine lv_iconst (v := 0) hx hb dX0_ownReckoning_269 (by decide) ?_
    refine lv_aload_n hx hb dX0_ownReckoning_270 rfl (lv_at hl 0 rfl) ?_
    refine gw_get (C := RX0) (T := TX0) (N := 11) hx hb hL0 hown hK hP 11 b (cDb (by omega) (by decide) (by decide)) rfl rfl 1 (by decide) (hts (.fieldLink RX0 9 "BlockPrograms$Block" "p" "I") (by decide +kernel)) (fun _ h9 => h9) (v := .int ((σ 1 b))) rfl dX0_ownReckoning_271 ?_
    refine va_mmin hx hb (hml.trans hl.1.symm) hown (hts (.methodLink RX0 79 Lib.Math.min.name) (by decide +kernel)) (hts (.static Lib.Math.min.name) (by decide +kernel)) (hts (.initialized "java/lang/Math") (by decide +kernel)) (hts (.code Lib.Math.min.name Lib.Math.min.code 2 (some .int)) (by decide +kernel)) (Nat.le_of_ble_eq_true rfl) (Nat.le_of_ble_eq_true rfl) (Nat.le_of_ble_eq_true rfl) (Nat.le_of_ble_eq_true rfl) dX0_ownReckoning_274 ?_
    refine gw_put (ty := .int) (C := RX0) (T := TX0) (N := 11) hx hb hL0 tyX0 tyX0_ok nmX0 hown hK hP hS 11 b (cDb (by omega) (by decide) (by decide)) rfl rfl 5 (by decide) (hts (.fieldLink RX0 24 "BlockPrograms$Block" "first" "I") (by decide +kernel)) (fun _ h9 => h9) rfl (by decide +kernel) rfl rfl (Nat.le_of_ble_eq_true rfl) dX0_ownReckoning_277 (cEn cI cZ cB cS κ (wr σ 5 b ((if (σ 1 b) < 0 then (σ 1 b) else 0))) sc ad) (cU11s_5 _) (fun t9 i9 _ h9 => cU11 (by decide) _ t9 i9 h9) (fun H locs hP hS => ?_)
    refine lv_aload_n hx hb dX0_ownReckoning_280 rfl (lv_at hl 0 rfl) ?_
    refine gw_get (C := RX0) (T := TX0) (N := 11) hx hb hL0 hown hK hP 11 b (cDb (by omega) (by decide) (by decide)) rfl rfl 5 (by decide) (hts (.fieldLink RX0 24 "BlockPrograms$Block" "first" "I") (by decide +kernel)) (fun _ h9 => h9) (v := .int (((if (σ 1 b) < 0 then (σ 1 b) else 0)))) (by simp [wr, va_up]) dX0_ownReckoning_281 ?_
    have eσ : wr σ 5 b ((if (σ 1 b) < 0 then (σ 1 b) else 0)) = ownS σ 25 b y0 y1 := by simp [ownS, f_fst, f_snd, f_sum, f_since, wr_wr, wr_id, wr_id6, c_1]
    rw [eσ] at hP
    exact W.iret (v := ((if (σ 1 b) < 0 then (σ 1 b) else 0))) hx hb hr (fun t ht hW => ⟨⟨(((if (σ 1 b) < 0 then (σ 1 b) else 0))), (), rfl, (by simp [f_own, f_limit, f_sum, f_since, wr, c_1]), by rw [← ht] at hP; exact hP⟩, hS.F ht⟩) hS.2.2 dX0_ownReckoning_284
  · refine lv_aload_n hx hb dX0_ownReckoning_260 rfl (lv_at hl 0 rfl) ?_
    refine gw_get (C := RX0) (T := TX0) (N := 11) hx hb hL0 hown hK hP 11 b (cDb (by omega) (by decide) (by decide)) rfl rfl 5 (by decide) (hts (.fieldLink RX0 24 "BlockPrograms$Block" "first" "I") (by decide +kernel)) (fun _ h9 => h9) (v := .int ((σ 5 b))) rfl dX0_ownReckoning_261 ?_
    refine lv_iconst (v := 1) hx hb dX0_ownReckoning_264 (by decide) ?_
    refine lv_iadd hx hb dX0_ownReckoning_265 ?_
    refine lv_goto (tgt := 270) hx hb dX0_ownReckoning_266 (by decide) ?_
    refine lv_aload_n hx hb dX0_ownReckoning_270 rfl (lv_at hl 0 rfl) ?_
    refine gw_get (C := RX0) (T := TX0) (N := 11) hx hb hL0 hown hK hP 11 b (cDb (by omega) (by decide) (by decide)) rfl rfl 1 (by decide) (hts (.fieldLink RX0 9 "BlockPrograms$Block" "p" "I") (by decide +kernel)) (fun _ h9 => h9) (v := .int ((σ 1 b))) rfl dX0_ownReckoning_271 ?_
    refine va_mmin hx hb (hml.trans hl.1.symm) hown (hts (.methodLink RX0 79 Lib.Math.min.name) (by decide +kernel)) (hts (.static Lib.Math.min.name) (by decide +kernel)) (hts (.initialized "java/lang/Math") (by decide +kernel)) (hts (.code Lib.Math.min.name Lib.Math.min.code 2 (some .int)) (by decide +kernel)) (Nat.le_of_ble_eq_true rfl) (Nat.le_of_ble_eq_true rfl) (Nat.le_of_ble_eq_true rfl) (Nat.le_of_ble_eq_true rfl) dX0_ownReckoning_274 ?_
    refine gw_put (ty := .int) (C := RX0) (T := TX0) (N := 11) hx hb hL0 tyX0 tyX0_ok nmX0 hown hK hP hS 11 b (cDb (by omega) (by decide) (by decide)) rfl rfl 5 (by decide) (hts (.fieldLink RX0 24 "BlockPrograms$Block" "first" "I") (by decide +kernel)) (fun _ h9 => h9) rfl (by decide +kernel) rfl rfl (Nat.le_of_ble_eq_true rfl) dX0_ownReckoning_277 (cEn cI cZ cB cS κ (wr σ 5 b ((if (σ 1 b) < ((σ 5 b) + 1) then (σ 1 b) else ((σ 5 b) + 1)))) sc ad) (cU11s_5 _) (fun t9 i9 _ h9 => cU11 (by decide) _ t9 i9 h9) (fun H locs hP hS => ?_)
    refine lv_aload_n hx hb dX0_ownReckoning_280 rfl (lv_at hl 0 rfl) ?_
    refine gw_get (C := RX0) (T := TX0) (N := 11) hx hb hL0 hown hK hP 11 b (cDb (by omega) (by decide) (by decide)) rfl rfl 5 (by decide) (hts (.fieldLink RX0 24 "BlockPrograms$Block" "first" "I") (by decide +kernel)) (fun _ h9 => h9) (v := .int (((if (σ 1 b) < ((σ 5 b) + 1) then (σ 1 b) else ((σ 5 b) + 1))))) (by simp [wr, va_up]) dX0_ownReckoning_281 ?_
    have eσ : wr σ 5 b ((if (σ 1 b) < ((σ 5 b) + 1) then (σ 1 b) else ((σ 5 b) + 1))) = ownS σ 25 b y0 y1 := by simp [ownS, f_fst, f_snd, f_sum, f_since, wr_wr, wr_id, wr_id6, c_1]
    rw [eσ] at hP
    exact W.iret (v := ((if (σ 1 b) < ((σ 5 b) + 1) then (σ 1 b) else ((σ 5 b) + 1)))) hx hb hr (fun t ht hW => ⟨⟨(((if (σ 1 b) < ((σ 5 b) + 1) then (σ 1 b) else ((σ 5 b) + 1)))), (), rfl, (by simp [f_own, f_limit, f_sum, f_since, wr, c_1]), by rw [← ht] at hP; exact hP⟩, hS.F ht⟩) hS.2.2 dX0_ownReckoning_284

theorem k_X0_ownReckoning {l : Launch} {D : va_G} {cI cZ cB cS : ClassId} {A : Nat → Prop} (κ : Nat → Nat) (σ sc : Nat → Nat → Int32) (ad : Nat → Nat → Nat) (b k : Nat) (hb0 : b < κ 0) (hk0 : k < 26) (hk1 : k = 1 ∨ 15 ≤ k) (ek : σ 0 b = nI k) (y0 y1 : Int32) (T : Nat) (hT : T < 2 ^ 31) (h15 : k = 15 → okI 8 y0) : Met l yX0_ownReckoning wsX0_ownReckoning ({ frames := 2, cells := 0, slots := 0, locals := 43 } : Room) (gPc D cI cZ cB cS A (cDm κ) (cEn cI cZ cB cS κ σ sc ad) ad [.ref (ad 11 b), .int y0, .int y1, .int (nI T)]) (va_Qi (fun (r : Int32) (_ : Unit) => r = f_own σ k b y0 y1 (nI (T % 1440))) (fun _ t => gw_P D vwCl A (cDm κ) (cEn cI cZ cB cS κ (ownS σ k b y0 y1) sc ad) ad t.heap) A) 0 0 A := by
  rcases (show k = 1 ∨ k = 15 ∨ k = 16 ∨ k = 17 ∨ k = 18 ∨ k = 19 ∨ k = 20 ∨ k = 21 ∨ k = 22 ∨ k = 23 ∨ k = 24 ∨ k = 25 by omega) with rfl | rfl | rfl | rfl | rfl | rfl | rfl | rfl | rfl | rfl | rfl | rfl
  · exact k_X0_own_1 κ σ sc ad b hb0 ek y0 y1 T hT
  · exact k_X0_own_15 κ σ sc ad b hb0 ek y0 y1 T hT (h15 rfl)
  · exact k_X0_own_16 κ σ sc ad b hb0 ek y0 y1 T hT
  · exact k_X0_own_17 κ σ sc ad b hb0 ek y0 y1 T hT
  · exact k_X0_own_18 κ σ sc ad b hb0 ek y0 y1 T hT
  · exact k_X0_own_19 κ σ sc ad b hb0 ek y0 y1 T hT
  · exact k_X0_own_20 κ σ sc ad b hb0 ek y0 y1 T hT
  · exact k_X0_own_21 κ σ sc ad b hb0 ek y0 y1 T hT
  · exact k_X0_own_22 κ σ sc ad b hb0 ek y0 y1 T hT
  · exact k_X0_own_23 κ σ sc ad b hb0 ek y0 y1 T hT
  · exact k_X0_own_24 κ σ sc ad b hb0 ek y0 y1 T hT
  · exact k_X0_own_25 κ σ sc ad b hb0 ek y0 y1 T hT
