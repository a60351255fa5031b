set_option maxHeartbeats 4000000 in
set_option maxRecDepth 100000 in
theorem k_X3_comb_2 {l : Launch} {D : va_G} {cI cZ cB cS : ClassId} {A : Nat → Prop} (dm : Nat → Nat) (en : Nat → Nat → va_E) (ad : Nat → Nat → Nat) (y0 y1 y2 : Int32) : Met l yX3_combined wsX3_combined ({ frames := 1, cells := 0, slots := 0, locals := 21 } : Room) (gPc D cI cZ cB cS A dm en ad [.int (nI 2), .int y0, .int y1, .int y2]) (va_Qi (fun (r : Int32) (_ : Unit) => r = f_comb 2 y0 y1 y2) (fun _ t => gw_P D vwCl A dm en ad t.heap) A) 0 0 A := by
  refine Met.ofW (cc := cX3_combined) (maxL := 4) (ret := (some .int)) (by decide) rfl ?_
  intro p e s m args below meth c s₁ B hml hv
  obtain ⟨rfl, hP, hE, hA⟩ := hv
  have hx := B.exec
  have hb := B.bytes
  have hr := B.returns
  have hts := atoms_spec (ws := wsX3_combined) B.pre
  have hown : s.vm.findClass RX3 = some m.cls := findClass_of_methodNamed B.named
  have hlocks := B.notSynchronized
  have hK := hE.1
  have hS : va_S A s.heap s.heap [] := va_S.rf
  have hl := lv_entry ([.int (nI 2), .int y0, .int y1, .int y2]) (n := 4) (Nat.le_of_ble_eq_true rfl)
  rw [lg_entry_eq]
  generalize (lg_sl ([.int (nI 2), .int y0, .int y1, .int y2]) ++ List.replicate (4 - (lg_sl ([.int (nI 2), .int y0, .int y1, .int y2])).length) Slot.unset).toArray = ls at hl ⊢
  have hl : lv_has ls 4 [(0, .int (nI 2)), (1, .int y0), (2, .int y1), (3, .int y2)] := hl
  refine lv_iload_n hx hb dX3_combined_0 rfl (lv_at hl 0 rfl) ?_
  refine lv_tableIn (off := 67) (tgt := 68) hx hb dX3_combined_1 (by decide) (by decide) (by decide) (by decide) ?_
  refine lv_iload_n hx hb dX3_combined_68 rfl (lv_at hl 1 rfl) ?_
  refine lv_iload_n hx hb dX3_combined_69 rfl (lv_at hl 2 rfl) ?_
  refine lv_iadd hx hb dX3_combined_70 ?_
  exact W.iret (v := (y0 + y1)) hx hb hr (fun t ht hW => ⟨⟨((y0 + y1)), (), rfl, (by simp [f_comb, f_comb]), by rw [← ht] at hP; exact hP⟩, hS.F ht⟩) hS.2.2 dX3_combined_71

set_option maxHeartbeats 4000000 in
set_option maxRecDepth 100000 in
theorem k_X3_comb_3 {l : Launch} {D : va_G} {cI cZ cB cS : ClassId} {A : Nat → Prop} (dm : Nat → Nat) (en : Nat → Nat → va_E) (ad : Nat → Nat → Nat) (y0 y1 y2 : Int32) : Met l yX3_combined wsX3_combined ({ frames := 1, cells := 0, slots := 0, locals := 21 } : Room) (gPc D cI cZ cB cS A dm en ad [.int (nI 3), .int y0, .int y1, .int y2]) (va_Qi (fun (r : Int32) (_ : Unit) => r = f_comb 3 y0 y1 y2) (fun _ t => gw_P D vwCl A dm en ad t.heap) A) 0 0 A := by
  refine Met.ofW (cc := cX3_combined) (maxL := 4) (ret := (some .int)) (by decide) rfl ?_
  intro p e s m args below meth c s₁ B hml hv
  obtain ⟨rfl, hP, hE, hA⟩ := hv
  have hx := B.exec
  have hb := B.bytes
  have hr := B.returns
  have hts := atoms_spec (ws := wsX3_combined) B.pre
  have hown : s.vm.findClass RX3 = some m.cls := findClass_of_methodNamed B.named
  have hlocks := B.notSynchronized
  have hK := hE.1
  have hS : va_S A s.heap s.heap [] := va_S.rf
  have hl := lv_entry ([.int (nI 3), .int y0, .int y1, .int y2]) (n := 4) (Nat.le_of_ble_eq_true rfl)
  rw [lg_entry_eq]
  generalize (lg_sl ([.int (nI 3), .int y0, .int y1, .int y2]) ++ List.replicate (4 - (lg_sl ([.int (nI 3), .int y0, .int y1, .int y2])).length) Slot.unset).toArray = ls at hl ⊢
  have hl : lv_has ls 4 [(0, .int (nI 3)), (1, .int y0), (2, .int y1), (3, .int y2)] := hl
  refine lv_iload_n hx hb dX3_combined_0 rfl (lv_at hl 0 rfl) ?_
  refine lv_tableIn (off := 71) (tgt := 72) hx hb dX3_combined_1 (by decide) (by decide) (by decide) (by decide) ?_
  refine lv_iload_n hx hb dX3_combined_72 rfl (lv_at hl 1 rfl) ?_
  refine lv_iload_n hx hb dX3_combined_73 rfl (lv_at hl 2 rfl) ?_
  refine lv_isub hx hb dX3_combined_74 ?_
  exact W.iret (v := (y0 - y1)) hx hb hr (fun t ht hW => ⟨⟨((y0 - y1)), (), rfl, (by simp [f_comb, f_comb]), by rw [← ht] at hP; exact hP⟩, hS.F ht⟩) hS.2.2 dX3_combined_75

set_option maxHeartbeats 4000000 in
set_option maxRecDepth 100000 in
theorem k_X3_comb_4 {l : Launch} {D : va_G} {cI cZ cB cS : ClassId} {A : Nat → Prop} (dm : Nat → Nat) (en : Nat → Nat → va_E) (ad : Nat → Nat → Nat) (y0 y1 y2 : Int32) : Met l yX3_combined wsX3_combined ({ frames := 1, cells := 0, slots := 0, locals := 21 } : Room) (gPc D cI cZ cB cS A dm en ad [.int (nI 4), .int y0, .int y1, .int y2]) (va_Qi (fun (r : Int32) (_ : Unit) => r = f_comb 4 y0 y1 y2) (fun _ t => gw_P D vwCl A dm en ad t.heap) A) 0 0 A := by
  refine Met.ofW (cc := cX3_combined) (maxL := 4) (ret := (some .int)) (by decide) rfl ?_
  intro p e s m args below meth c s₁ B hml hv
  obtain ⟨rfl, hP, hE, hA⟩ := hv
  have hx := B.exec
  have hb := B.bytes
  have hr := B.returns
  have hts := atoms_spec (ws := wsX3_combined) B.pre
  have hown : s.vm.findClass RX3 = some m.cls := findClass_of_methodNamed B.named
  have hlocks := B.notSynchronized
  have hK := hE.1
  have hS : va_S A s.heap s.heap [] := va_S.rf
  have hl := lv_entry ([.int (nI 4), .int y0, .int y1, .int y2]) (n := 4) (Nat.le_of_ble_eq_true rfl)
  rw [lg_entry_eq]
  generalize (lg_sl ([.int (nI 4), .int y0, .int y1, .int y2]) ++ List.replicate (4 - (lg_sl ([.int (nI 4), .int y0, .int y1, .int y2])).length) Slot.unset).toArray = ls at hl ⊢
  have hl : lv_has ls 4 [(0, .int (nI 4)), (1, .int y0), (2, .int y1), (3, .int y2)] := hl
  refine lv_iload_n hx hb dX3_combined_0 rfl (lv_at hl 0 rfl) ?_
  refine lv_tableIn (off := 75) (tgt := 76) hx hb dX3_combined_1 (by decide) (by decide) (by decide) (by decide) ?_
  refine lv_iload_n hx hb dX3_combined_76 rfl (lv_at hl 1 rfl) ?_
  refine lv_iload_n hx hb dX3_combined_77 rfl (lv_at hl 2 rfl) ?_
  refine lv_imul hx hb dX3_combined_78 ?_
  exact W.iret (v := (y0 * y1)) hx hb hr (fun t ht hW => ⟨⟨((y0 * y1)), (), rfl, (by simp [f_comb, f_comb]), by rw [← ht] at hP; exact hP⟩, hS.F ht⟩) hS.2.2 dX3_combined_79

set_option maxHeartbeats 4000000 in
set_option maxRecDepth 100000 in
theorem k_X3_comb_5 {l : Launch} {D : va_G} {cI cZ cB cS : ClassId} {A : Nat → Prop} (dm : Nat → Nat) (en : Nat → Nat → va_E) (ad : Nat → Nat → Nat) (y0 y1 y2 : Int32) : Met l yX3_combined wsX3_combined ({ frames := 1, cells := 0, slots := 0, locals := 21 } : Room) (gPc D cI cZ cB cS A dm en ad [.int (nI 5), .int y0, .int y1, .int y2]) (va_Qi (fun (r : Int32) (_ : Unit) => r = f_comb 5 y0 y1 y2) (fun _ t => gw_P D vwCl A dm en ad t.heap) A) 0 0 A := by
  refine Met.ofW (cc := cX3_combined) (maxL := 4) (ret := (some .int)) (by decide) rfl ?_
  intro p e s m args below meth c s₁ B hml hv
  obtain ⟨rfl, hP, hE, hA⟩ := hv
  have hx := B.exec
  have hb := B.bytes
  have hr := B.returns
  have hts := atoms_spec (ws := wsX3_combined) B.pre
  have hown : s.vm.findClass RX3 = some m.cls := findClass_of_methodNamed B.named
  have hlocks := B.notSynchronized
  have hK := hE.1
  have hS : va_S A s.heap s.heap [] := va_S.rf
  have hl := lv_entry ([.int (nI 5), .int y0, .int y1, .int y2]) (n := 4) (Nat.le_of_ble_eq_true rfl)
  rw [lg_entry_eq]
  generalize (lg_sl ([.int (nI 5), .int y0, .int y1, .int y2]) ++ List.replicate (4 - (lg_sl ([.int (nI 5), .int y0, .int y1, .int y2])).length) Slot.unset).toArray = ls at hl ⊢
  have hl : lv_has ls 4 [(0, .int (nI 5)), (1, .int y0), (2, .int y1), (3, .int y2)] := hl
  refine lv_iload_n hx hb dX3_combined_0 rfl (lv_at hl 0 rfl) ?_
  refine lv_tableIn (off := 79) (tgt := 80) hx hb dX3_combined_1 (by decide) (by decide) (by decide) (by decide) ?_
  refine lv_iload_n hx hb dX3_combined_80 rfl (lv_at hl 1 rfl) ?_
  refine lv_iload_n hx hb dX3_combined_81 rfl (lv_at hl 2 rfl) ?_
  refine va_calli (va_runS (As := [.int y0, .int y1]) (rest := []) ⟨hx, hb, hml, hown, hts⟩ (k_X3_quotient (l := l) (D := D) (cI := cI) (cZ := cZ) (cB := cB) (cS := cS) (A := A) dm en ad y0 y1) (va_cwS 2 hts gX3_combined_X3_quotient rfl rfl rfl (by decide +kernel) ⟨Nat.le_of_ble_eq_true rfl, Nat.le_of_ble_eq_true rfl⟩) (gPreS hE hA hS hP) rfl rfl hl.1 rfl (lv_room (Nat.le_of_ble_eq_true rfl)) dX3_combined_82 ⟨Nat.le_of_ble_eq_true rfl, Nat.le_of_ble_eq_true rfl⟩) hS (fun q _ h9 => h9) (fun q h9 => h9) (fun r_1 u9 t9 H locs ht9 hvm9 hw_r_1 hB9 hz9 hk9 hS => ?_)
  have hP : gw_P D vwCl A dm en ad H := by rw [← ht9]; exact hB9
  refine lv_toq ((if y1 = 0 then 0 else y0 / y1)) hw_r_1 ?_
  exact W.iret (v := (if y1 = 0 then 0 else y0 / y1)) hx hb hr (fun t ht hW => ⟨⟨((if y1 = 0 then 0 else y0 / y1)), (), rfl, (by simp [f_comb, f_comb]), by rw [← ht] at hP; exact hP⟩, hS.F ht⟩) hS.2.2 dX3_combined_85

set_option maxHeartbeats 4000000 in
set_option maxRecDepth 100000 in
theorem k_X3_comb_6 {l : Launch} {D : va_G} {cI cZ cB cS : ClassId} {A : Nat → Prop} (dm : Nat → Nat) (en : Nat → Nat → va_E) (ad : Nat → Nat → Nat) (y0 y1 y2 : Int32) : Met l yX3_combined wsX3_combined ({ frames := 1, cells := 0, slots := 0, locals := 21 } : Room) (gPc D cI cZ cB cS A dm en ad [.int (nI 6), .int y0, .int y1, .int y2]) (va_Qi (fun (r : Int32) (_ : Unit) => r = f_comb 6 y0 y1 y2) (fun _ t => gw_P D vwCl A dm en ad t.heap) A) 0 0 A := by
  refine Met.ofW (cc := cX3_combined) (maxL := 4) (ret := (some .int)) (by decide) rfl ?_
  intro p e s m args below meth c s₁ B hml hv
  obtain ⟨rfl, hP, hE, hA⟩ := hv
  have hx := B.exec
  have hb := B.bytes
  have hr := B.returns
  have hts := atoms_spec (ws := wsX3_combined) B.pre
  have hown : s.vm.findClass RX3 = some m.cls := findClass_of_methodNamed B.named
  have hlocks := B.notSynchronized
  have hK := hE.1
  have hS : va_S A s.heap s.heap [] := va_S.rf
  have hl := lv_entry ([.int (nI 6), .int y0, .int y1, .int y2]) (n := 4) (Nat.le_of_ble_eq_true rfl)
  rw [lg_entry_eq]
  generalize (lg_sl ([.int (nI 6), .int y0, .int y1, .int y2]) ++ List.replicate (4 - (lg_sl ([.int (nI 6), .int y0, .int y1, .int y2])).length) Slot.unset).toArray = ls at hl ⊢
  have hl : lv_has ls 4 [(0, .int (nI 6)), (1, .int y0), (2, .int y1), (3, .int y2)] := hl
  refine lv_iload_n hx hb dX3_combined_0 rfl (lv_at hl 0 rfl) ?_
  refine lv_tableIn (off := 85) (tgt := 86) hx hb dX3_combined_1 (by decide) (by decide) (by decide) (by decide) ?_
  refine lv_iload_n hx hb dX3_combined_86 rfl (lv_at hl 1 rfl) ?_
  refine lv_iload_n hx hb dX3_combined_87 rfl (lv_at hl 2 rfl) ?_
  refine lv_iload_n hx hb dX3_combined_88 rfl (lv_at hl 1 rfl) ?_
  refine lv_iload_n hx hb dX3_combined_89 rfl (lv_at hl 2 rfl) ?_
  refine va_calli (va_runS (As := [.int y0, .int y1]) (rest := [.int y1, .int y0]) ⟨hx, hb, hml, hown, hts⟩ (k_X3_quotient (l := l) (D := D) (cI := cI) (cZ := cZ) (cB := cB) (cS := cS) (A := A) dm en ad y0 y1) (va_cwS 2 hts gX3_combined_X3_quotient rfl rfl rfl (by decide +kernel) ⟨Nat.le_of_ble_eq_true rfl, Nat.le_of_ble_eq_true rfl⟩) (gPreS hE hA hS hP) rfl rfl hl.1 rfl (lv_room (Nat.le_of_ble_eq_true rfl)) dX3_combined_90 ⟨Nat.le_of_ble_eq_true rfl, Nat.le_of_ble_eq_true rfl⟩) hS (fun q _ h9 => h9) (fun q h9 => h9) (fun r_1 u9 t9 H locs ht9 hvm9 hw_r_1 hB9 hz9 hk9 hS => ?_)
  have hP : gw_P D vwCl A dm en ad H := by rw [← ht9]; exact hB9
  refine lv_toq ((if y1 = 0 then 0 else y0 / y1)) hw_r_1 ?_
  refine lv_imul hx hb dX3_combined_93 ?_
  refine lv_isub hx hb dX3_combined_94 ?_
  exact W.iret (v := (y0 - (y1 * (if y1 = 0 then 0 else y0 / y1)))) hx hb hr (fun t ht hW => ⟨⟨((y0 - (y1 * (if y1 = 0 then 0 else y0 / y1)))), (), rfl, (by simp [f_comb, f_comb]), by rw [← ht] at hP; exact hP⟩, hS.F ht⟩) hS.2.2 dX3_combined_95

set_option maxHeartbeats 4000000 in
set_option maxRecDepth 100000 in
theorem k_X3_comb_7 {l : Launch} {D : va_G} {cI cZ cB cS : ClassId} {A : Nat → Prop} (dm : Nat → Nat) (en : Nat → Nat → va_E) (ad : Nat → Nat → Nat) (y0 y1 y2 : Int32) : Met l yX3_combined wsX3_combined ({ frames := 1, cells := 0, slots := 0, locals := 21 } : Room) (gPc D cI cZ cB cS A dm en ad [.int (nI 7), .int y0, .int y1, .int y2]) (va_Qi (fun (r : Int32) (_ : Unit) => r = f_comb 7 y0 y1 y2) (fun _ t => gw_P D vwCl A dm en ad t.heap) A) 0 0 A := by
  refine Met.ofW (cc := cX3_combined) (maxL := 4) (ret := (some .int)) (by decide) rfl ?_
  intro p e s m args below meth c s₁ B hml hv
  obtain ⟨rfl, hP, hE, hA⟩ := hv
  have hx := B.exec
  have hb := B.bytes
  have hr := B.returns
  have hts := atoms_spec (ws := wsX3_combined) B.pre
  have hown : s.vm.findClass RX3 = some m.cls := findClass_of_methodNamed B.named
  have hlocks := B.notSynchronized
  have hK := hE.1
  have hS : va_S A s.heap s.heap [] := va_S.rf
  have hl := lv_entry ([.int (nI 7), .int y0, .int y1, .int y2]) (n := 4) (Nat.le_of_ble_eq_true rfl)
  rw [lg_entry_eq]
  generalize (lg_sl ([.int (nI 7), .int y0, .int y1, .int y2]) ++ List.replicate (4 - (lg_sl ([.int (nI 7), .int y0, .int y1, .int y2])).length) Slot.unset).toArray = ls at hl ⊢
  have hl : lv_has ls 4 [(0, .int (nI 7)), (1, .int y0), (2, .int y1), (3, .int y2)] := hl
  refine lv_iload_n hx hb dX3_combined_0 rfl (lv_at hl 0 rfl) ?_
  refine lv_tableIn (off := 95) (tgt := 96) hx hb dX3_combined_1 (by decide) (by decide) (by decide) (by decide) ?_
  refine lv_iload_n hx hb dX3_combined_96 rfl (lv_at hl 1 rfl) ?_
  refine lv_iload_n hx hb dX3_combined_97 rfl (lv_at hl 2 rfl) ?_
  refine va_mmin hx hb (hml.trans hl.1.symm) hown (hts (.methodLink RX3 221 Lib.Math.min.name) (by decide +kernel)) (hts (.static Lib.Math.min.name) (by decide +kernel)) (hts (.initialized "java/lang/Math") (by decide +kernel)) (hts (.code Lib.Math.min.name Lib.Math.min.code 2 (some .int)) (by decide +kernel)) (Nat.le_of_ble_eq_true rfl) (Nat.le_of_ble_eq_true rfl) (Nat.le_of_ble_eq_true rfl) (Nat.le_of_ble_eq_true rfl) dX3_combined_98 ?_
  exact W.iret (v := (if y1 < y0 then y1 else y0)) hx hb hr (fun t ht hW => ⟨⟨((if y1 < y0 then y1 else y0)), (), rfl, (by simp [f_comb, f_comb]), by rw [← ht] at hP; exact hP⟩, hS.F ht⟩) hS.2.2 dX3_combined_101

set_option maxHeartbeats 4000000 in
set_option maxRecDepth 100000 in
theorem k_X3_comb_8 {l : Launch} {D : va_G} {cI cZ cB cS : ClassId} {A : Nat → Prop} (dm : Nat → Nat) (en : Nat → Nat → va_E) (ad : Nat → Nat → Nat) (y0 y1 y2 : Int32) : Met l yX3_combined wsX3_combined ({ frames := 1, cells := 0, slots := 0, locals := 21 } : Room) (gPc D cI cZ cB cS A dm en ad [.int (nI 8), .int y0, .int y1, .int y2]) (va_Qi (fun (r : Int32) (_ : Unit) => r = f_comb 8 y0 y1 y2) (fun _ t => gw_P D vwCl A dm en ad t.heap) A) 0 0 A := by
  refine Met.ofW (cc := cX3_combined) (maxL := 4) (ret := (some .int)) (by decide) rfl ?_
  intro p e s m args below meth c s₁ B hml hv
  obtain ⟨rfl, hP, hE, hA⟩ := hv
  have hx := B.exec
  have hb := B.bytes
  have hr := B.returns
  have hts := atoms_spec (ws := wsX3_combined) B.pre
  have hown : s.vm.findClass RX3 = some m.cls := findClass_of_methodNamed B.named
  have hlocks := B.notSynchronized
  have hK := hE.1
  have hS : va_S A s.heap s.heap [] := va_S.rf
  have hl := lv_entry ([.int (nI 8), .int y0, .int y1, .int y2]) (n := 4) (Nat.le_of_ble_eq_true rfl)
  rw [lg_entry_eq]
  generalize (lg_sl ([.int (nI 8), .int y0, .int y1, .int y2]) ++ List.replicate (4 - (lg_sl ([.int (nI 8), .int y0, .int y1, .int y2])).length) Slot.unset).toArray = ls at hl ⊢
  have hl : lv_has ls 4 [(0, .int (nI 8)), (1, .int y0), (2, .int y1), (3, .int y2)] := hl
  refine lv_iload_n hx hb dX3_combined_0 rfl (lv_at hl 0 rfl) ?_
  refine lv_tableIn (off := 101) (tgt := 102) hx hb dX3_combined_1 (by decide) (by decide) (by decide) (by decide) ?_
  refine lv_iload_n hx hb dX3_combined_102 rfl (lv_at hl 1 rfl) ?_
  refine lv_iload_n hx hb dX3_combined_103 rfl (lv_at hl 2 rfl) ?_
  refine va_mmax hx hb (hml.trans hl.1.symm) hown (hts (.methodLink RX3 226 Lib.Math.max.name) (by decide +kernel)) (hts (.static Lib.Math.max.name) (by decide +kernel)) (hts (.initialized "java/lang/Math") (by decide +kernel)) (hts (.code Lib.Math.max.name Lib.Math.max.code 2 (some .int)) (by decide +kernel)) (Nat.le_of_ble_eq_true rfl) (Nat.le_of_ble_eq_true rfl) (Nat.le_of_ble_eq_true rfl) (Nat.le_of_ble_eq_true rfl) dX3_combined_104 ?_
  exact W.iret (v := (if y0 < y1 then y1 else y0)) hx hb hr (fun t ht hW => ⟨⟨((if y0 < y1 then y1 else y0)), (), rfl, (by simp [f_comb, f_comb]), by rw [← ht] at hP; exact hP⟩, hS.F ht⟩) hS.2.2 dX3_combined_107

set_option maxHeartbeats 4000000 in
set_option maxRecDepth 100000 in
theorem k_X3_comb_9 {l : Launch} {D : va_G} {cI cZ cB cS : ClassId} {A : Nat → Prop} (dm : Nat → Nat) (en : Nat → Nat → va_E) (ad : Nat → Nat → Nat) (y0 y1 y2 : Int32) : Met l yX3_combined wsX3_combined ({ frames := 1, cells := 0, slots := 0, locals := 21 } : Room) (gPc D cI cZ cB cS A dm en ad [.int (nI 9), .int y0, .int y1, .int y2]) (va_Qi (fun (r : Int32) (_ : Unit) => r = f_comb 9 y0 y1 y2) (fun _ t => gw_P D vwCl A dm en ad t.heap) A) 0 0 A := by
  refine Met.ofW (cc := cX3_combined) (maxL := 4) (ret := (some .int)) (by decide) rfl ?_
  intro p e s m args below meth c s₁ B hml hv
  obtain ⟨rfl, hP, hE, hA⟩ := hv
  have hx := B.exec
  have hb := B.bytes
  have hr := B.returns
  have hts := atoms_spec (ws := wsX3_combined) B.pre
  have hown : s.vm.findClass RX3 = some m.cls := findClass_of_methodNamed B.named
  have hlocks := B.notSynchronized
  have hK := hE.1
  have hS : va_S A s.heap s.heap [] := va_S.rf
  have hl := lv_entry ([.int (nI 9), .int y0, .int y1, .int y2]) (n := 4) (Nat.le_of_ble_eq_true rfl)
  rw [lg_entry_eq]
  generalize (lg_sl ([.int (nI 9), .int y0, .int y1, .int y2]) ++ List.replicate (4 - (lg_sl ([.int (nI 9), .int y0, .int y1, .int y2])).length) Slot.unset).toArray = ls at hl ⊢
  have hl : lv_has ls 4 [(0, .int (nI 9)), (1, .int y0), (2, .int y1), (3, .int y2)] := hl
  refine lv_iload_n hx hb dX3_combined_0 rfl (lv_at hl 0 rfl) ?_
  refine lv_tableIn (off := 107) (tgt := 108) hx hb dX3_combined_1 (by decide) (by decide) (by decide) (by decide) ?_
  refine lv_iload_n hx hb dX3_combined_108 rfl (lv_at hl 1 rfl) ?_
  refine lv_iload_n hx hb dX3_combined_109 rfl (lv_at hl 2 rfl) ?_
  refine lv_icmp_ge (tgt := 117) hx hb dX3_combined_110 (by decide) (fun c_1 => ?_) (fun c_1 => ?_)
  · refine lv_iconst (v := 0) hx hb dX3_combined_117 (by decide) ?_
    refine va_calli (va_runS (As := [.int 0]) (rest := []) ⟨hx, hb, hml, hown, hts⟩ (k_X3_asNumber (l := l) (D := D) (cI := cI) (cZ := cZ) (cB := cB) (cS := cS) (A := A) dm en ad 0) (va_cwS 1 hts gX3_combined_X3_asNumber rfl rfl rfl (by decide +kernel) ⟨Nat.le_of_ble_eq_true rfl, Nat.le_of_ble_eq_true rfl⟩) (gPreS hE hA hS hP) rfl rfl hl.1 rfl (lv_room (Nat.le_of_ble_eq_true rfl)) dX3_combined_118 ⟨Nat.le_of_ble_eq_true rfl, Nat.le_of_ble_eq_true rfl⟩) hS (fun q _ h9 => h9) (fun q h9 => h9) (fun r_2 u9 t9 H locs ht9 hvm9 hw_r_2 hB9 hz9 hk9 hS => ?_)
    have hP : gw_P D vwCl A dm en ad H := by rw [← ht9]; exact hB9
    refine lv_toq ((if (0 : Int32) = 0 then 0 else 1)) hw_r_2 ?_
    exact W.iret (v := (if (0 : Int32) = 0 then 0 else 1)) hx hb hr (fun t ht hW => ⟨⟨((if (0 : Int32) = 0 then 0 else 1)), (), rfl, (by simp [f_comb, c_1, Int32.not_lt.mpr c_1]), by rw [← ht] at hP; exact hP⟩, hS.F ht⟩) hS.2.2 dX3_combined_121
  · refine lv_iconst (v := 1) hx hb dX3_combined_113 (by decide) ?_
    refine lv_goto (tgt := 118) hx hb dX3_combined_114 (by decide) ?_
    refine va_calli (va_runS (As := [.int 1]) (rest := []) ⟨hx, hb, hml, hown, hts⟩ (k_X3_asNumber (l := l) (D := D) (cI := cI) (cZ := cZ) (cB := cB) (cS := cS) (A := A) dm en ad 1) (va_cwS 1 hts gX3_combined_X3_asNumber rfl rfl rfl (by decide +kernel) ⟨Nat.le_of_ble_eq_true rfl, Nat.le_of_ble_eq_true rfl⟩) (gPreS hE hA hS hP) rfl rfl hl.1 rfl (lv_room (Nat.le_of_ble_eq_true rfl)) dX3_combined_118 ⟨Nat.le_of_ble_eq_true rfl, Nat.le_of_ble_eq_true rfl⟩) hS (fun q _ h9 => h9) (fun q h9 => h9) (fun r_3 u9 t9 H locs ht9 hvm9 hw_r_3 hB9 hz9 hk9 hS => ?_)
    have hP : gw_P D vwCl A dm en ad H := by rw [← ht9]; exact hB9
    refine lv_toq ((if (1 : Int32) = 0 then 0 else 1)) hw_r_3 ?_
    exact W.iret (v := (if (1 : Int32) = 0 then 0 else 1)) hx hb hr (fun t ht hW => ⟨⟨((if (1 : Int32) = 0 then 0 else 1)), (), rfl, (by simp [f_comb, c_1, Int32.not_le.mp c_1]), by rw [← ht] at hP; exact hP⟩, hS.F ht⟩) hS.2.2 dX3_combined_121

set_option maxHeartbeats 4000000 in
set_option maxRecDepth 100000 in
theorem k_X3_comb_10 {l : Launch} {D : va_G} {cI cZ cB cS : ClassId} {A : Nat → Prop} (dm : Nat → Nat) (en : Nat → Nat → va_E) (ad : Nat → Nat → Nat) (y0 y1 y2 : Int32) : Met l yX3_combined wsX3_combined ({ frames := 1, cells := 0, slots := 0, locals := 21 } : Room) (gPc D cI cZ cB cS A dm en ad [.int (nI 10), .int y0, .int y1, .int y2]) (va_Qi (fun (r : Int32) (_ : Unit) => r = f_comb 10 y0 y1 y2) (fun _ t => gw_P D vwCl A dm en ad t.heap) A) 0 0 A := by
  refine Met.ofW (cc := cX3_combined) (maxL := 4) (ret := (some .int)) (by decide) rfl ?_
  intro p e s m args below meth c s₁ B hml hv
  obtain ⟨rfl, hP, hE, hA⟩ := hv
  have hx := B.exec
  have hb := B.bytes
  have hr := B.returns
  have hts := atoms_spec (ws := wsX3_combined) B.pre
  have hown : s.vm.findClass RX3 = some m.cls := findClass_of_methodNamed B.named
  have hlocks := B.notSynchronized
  have hK := hE.1
  have hS : va_S A s.heap s.heap [] := va_S.rf
  have hl := lv_entry ([.int (nI 10), .int y0, .int y1, .int y2]) (n := 4) (Nat.le_of_ble_eq_true rfl)
  rw [lg_entry_eq]
  generalize (lg_sl ([.int (nI 10), .int y0, .int y1, .int y2]) ++ List.replicate (4 - (lg_sl ([.int (nI 10), .int y0, .int y1, .int y2])).length) Slot.unset).toArray = ls at hl ⊢
  have hl : lv_has ls 4 [(0, .int (nI 10)), (1, .int y0), (2, .int y1), (3, .int y2)] := hl
  refine lv_iload_n hx hb dX3_combined_0 rfl (lv_at hl 0 rfl) ?_
  refine lv_tableIn (off := 121) (tgt := 122) hx hb dX3_combined_1 (by decide) (by decide) (by decide) (by decide) ?_
  refine lv_iload_n hx hb dX3_combined_122 rfl (lv_at hl 1 rfl) ?_
  refine lv_iload_n hx hb dX3_combined_123 rfl (lv_at hl 2 rfl) ?_
  refine lv_icmp_ne (tgt := 131) hx hb dX3_combined_124 (by decide) (fun c_1 => ?_) (fun c_1 => ?_)
  · refine lv_iconst (v := 0) hx hb dX3_combined_131 (by decide) ?_
    refine va_calli (va_runS (As := [.int 0]) (rest := []) ⟨hx, hb, hml, hown, hts⟩ (k_X3_asNumber (l := l) (D := D) (cI := cI) (cZ := cZ) (cB := cB) (cS := cS) (A := A) dm en ad 0) (va_cwS 1 hts gX3_combined_X3_asNumber rfl rfl rfl (by decide +kernel) ⟨Nat.le_of_ble_eq_true rfl, Nat.le_of_ble_eq_true rfl⟩) (gPreS hE hA hS hP) rfl rfl hl.1 rfl (lv_room (Nat.le_of_ble_eq_true rfl)) dX3_combined_132 ⟨Nat.le_of_ble_eq_true rfl, Nat.le_of_ble_eq_true rfl⟩) hS (fun q _ h9 => h9) (fun q h9 => h9) (fun r_2 u9 t9 H locs ht9 hvm9 hw_r_2 hB9 hz9 hk9 hS => ?_)
    have hP : gw_P D vwCl A dm en ad H := by rw [← ht9]; exact hB9
    refine lv_toq ((if (0 : Int32) = 0 then 0 else 1)) hw_r_2 ?_
    exact W.iret (v := (if (0 : Int32) = 0 then 0 else 1)) hx hb hr (fun t ht hW => ⟨⟨((if (0 : Int32) = 0 then 0 else 1)), (), rfl, (by simp [f_comb, c_1]), by rw [← ht] at hP; exact hP⟩, hS.F ht⟩) hS.2.2 dX3_combined_135
  · refine lv_iconst (v := 1) hx hb dX3_combined_127 (by decide) ?_
    refine lv_goto (tgt := 132) hx hb dX3_combined_128 (by decide) ?_
    refine va_calli (va_runS (As := [.int 1]) (rest := []) ⟨hx, hb, hml, hown, hts⟩ (k_X3_asNumber (l := l) (D := D) (cI := cI) (cZ := cZ) (cB := cB) (cS := cS) (A := A) dm en ad 1) (va_cwS 1 hts gX3_combined_X3_asNumber rfl rfl rfl (by decide +kernel) ⟨Nat.le_of_ble_eq_true rfl, Nat.le_of_ble_eq_true rfl⟩) (gPreS hE hA hS hP) rfl rfl hl.1 rfl (lv_room (Nat.le_of_ble_eq_true rfl)) dX3_combined_132 ⟨Nat.le_of_ble_eq_true rfl, Nat.le_of_ble_eq_true rfl⟩) hS (fun q _ h9 => h9) (fun q h9 => h9) (fun r_3 u9 t9 H locs ht9 hvm9 hw_r_3 hB9 hz9 hk9 hS => ?_)
    have hP : gw_P D vwCl A dm en ad H := by rw [← ht9]; exact hB9
    refine lv_toq ((if (1 : Int32) = 0 then 0 else 1)) hw_r_3 ?_
    exact W.iret (v := (if (1 : Int32) = 0 then 0 else 1)) hx hb hr (fun t ht hW => ⟨⟨((if (1 : Int32) = 0 then 0 else 1)), (), rfl, (by simp [f_comb, c_1]), by rw [← ht] at hP; exact hP⟩, hS.F ht⟩) hS.2.2 dX3_combined_135

set_option maxHeartbeats 4000000 in
set_option maxRecDepth 100000 in
theorem k_X3_comb_11 {l : Launch} {D : va_G} {cI cZ cB cS : ClassId} {A : Nat → Prop} (dm : Nat → Nat) (en : Nat → Nat → va_E) (ad : Nat → Nat → Nat) (y0 y1 y2 : Int32) : Met l yX3_combined wsX3_combined ({ frames := 1, cells := 0, slots := 0, locals := 21 } : Room) (gPc D cI cZ cB cS A dm en ad [.int (nI 11), .int y0, .int y1, .int y2]) (va_Qi (fun (r : Int32) (_ : Unit) => r = f_comb 11 y0 y1 y2) (fun _ t => gw_P D vwCl A dm en ad t.heap) A) 0 0 A := by
  refine Met.ofW (cc := cX3_combined) (maxL := 4) (ret := (some .int)) (by decide) rfl ?_
  intro p e s m args below meth c s₁ B hml hv
  obtain ⟨rfl, hP, hE, hA⟩ := hv
  have hx := B.exec
  have hb := B.bytes
  have hr := B.returns
  have hts := atoms_spec (ws := wsX3_combined) B.pre
  have hown : s.vm.findClass RX3 = some m.cls := findClass_of_methodNamed B.named
  have hlocks := B.notSynchronized
  have hK := hE.1
  have hS : va_S A s.heap s.heap [] := va_S.rf
  have hl := lv_entry ([.int (nI 11), .int y0, .int y1, .int y2]) (n := 4) (Nat.le_of_ble_eq_true rfl)
  rw [lg_entry_eq]
  generalize (lg_sl ([.int (nI 11), .int y0, .int y1, .int y2]) ++ List.replicate (4 - (lg_sl ([.int (nI 11), .int y0, .int y1, .int y2])).length) Slot.unset).toArray = ls at hl ⊢
  have hl : lv_has ls 4 [(0, .int (nI 11)), (1, .int y0), (2, .int y1), (3, .int y2)] := hl
  refine lv_iload_n hx hb dX3_combined_0 rfl (lv_at hl 0 rfl) ?_
  refine lv_tableIn (off := 135) (tgt := 136) hx hb dX3_combined_1 (by decide) (by decide) (by decide) (by decide) ?_
  refine lv_iload_n hx hb dX3_combined_136 rfl (lv_at hl 1 rfl) ?_
  refine lv_if_eq (tgt := 148) hx hb dX3_combined_137 (by decide) (fun c_1 => ?_) (fun c_1 => ?_)
  · refine lv_iconst (v := 0) hx hb dX3_combined_148 (by decide) ?_
    refine va_calli (va_runS (As := [.int 0]) (rest := []) ⟨hx, hb, hml, hown, hts⟩ (k_X3_asNumber (l := l) (D := D) (cI := cI) (cZ := cZ) (cB := cB) (cS := cS) (A := A) dm en ad 0) (va_cwS 1 hts gX3_combined_X3_asNumber rfl rfl rfl (by decide +kernel) ⟨Nat.le_of_ble_eq_true rfl, Nat.le_of_ble_eq_true rfl⟩) (gPreS hE hA hS hP) rfl rfl hl.1 rfl (lv_room (Nat.le_of_ble_eq_true rfl)) dX3_combined_149 ⟨Nat.le_of_ble_eq_true rfl, Nat.le_of_ble_eq_true rfl⟩) hS (fun q _ h9 => h9) (fun q h9 => h9) (fun r_2 u9 t9 H locs ht9 hvm9 hw_r_2 hB9 hz9 hk9 hS => ?_)
    have hP : gw_P D vwCl A dm en ad H := by rw [← ht9]; exact hB9
    refine lv_toq ((if (0 : Int32) = 0 then 0 else 1)) hw_r_2 ?_
    exact W.iret (v := (if (0 : Int32) = 0 then 0 else 1)) hx hb hr (fun t ht hW => ⟨⟨((if (0 : Int32) = 0 then 0 else 1)), (), rfl, (by simp [f_comb, c_1]), by rw [← ht] at hP; exact hP⟩, hS.F ht⟩) hS.2.2 dX3_combined_152
  · refine lv_iload_n hx hb dX3_combined_140 rfl (lv_at hl 2 rfl) ?_
    refine lv_if_eq (tgt := 148) hx hb dX3_combined_141 (by decide) (fun c_3 => ?_) (fun c_3 => ?_)
    · refine lv_iconst (v := 0) hx hb dX3_combined_148 (by decide) ?_
      refine va_calli (va_runS (As := [.int 0]) (rest := []) ⟨hx, hb, hml, hown, hts⟩ (k_X3_asNumber (l := l) (D := D) (cI := cI) (cZ := cZ) (cB := cB) (cS := cS) (A := A) dm en ad 0) (va_cwS 1 hts gX3_combined_X3_asNumber rfl rfl rfl (by decide +kernel) ⟨Nat.le_of_ble_eq_true rfl, Nat.le_of_ble_eq_true rfl⟩) (gPreS hE hA hS hP) rfl rfl hl.1 rfl (lv_room (Nat.le_of_ble_eq_true rfl)) dX3_combined_149 ⟨Nat.le_of_ble_eq_true rfl, Nat.le_of_ble_eq_true rfl⟩) hS (fun q _ h9 => h9) (fun q h9 => h9) (fun r_4 u9 t9 H locs ht9 hvm9 hw_r_4 hB9 hz9 hk9 hS => ?_)
      have hP : gw_P D vwCl A dm en ad H := by rw [← ht9]; exact hB9
      refine lv_toq ((if (0 : Int32) = 0 then 0 else 1)) hw_r_4 ?_
      exact W.iret (v := (if (0 : Int32) = 0 then 0 else 1)) hx hb hr (fun t ht hW => ⟨⟨((if (0 : Int32) = 0 then 0 else 1)), (), rfl, (by simp [f_comb, c_1, c_3]), by rw [← ht] at hP; exact hP⟩, hS.F ht⟩) hS.2.2 dX3_combined_152
    · refine lv_iconst (v := 1) hx hb dX3_combined_144 (by decide) ?_
      refine lv_goto (tgt := 149) hx hb dX3_combined_145 (by decide) ?_
      refine va_calli (va_runS (As := [.int 1]) (rest := []) ⟨hx, hb, hml, hown, hts⟩ (k_X3_asNumber (l := l) (D := D) (cI := cI) (cZ := cZ) (cB := cB) (cS := cS) (A := A) dm en ad 1) (va_cwS 1 hts gX3_combined_X3_asNumber rfl rfl rfl (by decide +kernel) ⟨Nat.le_of_ble_eq_true rfl, Nat.le_of_ble_eq_true rfl⟩) (gPreS hE hA hS hP) rfl rfl hl.1 rfl (lv_room (Nat.le_of_ble_eq_true rfl)) dX3_combined_149 ⟨Nat.le_of_ble_eq_true rfl, Nat.le_of_ble_eq_true rfl⟩) hS (fun q _ h9 => h9) (fun q h9 => h9) (fun r_5 u9 t9 H locs ht9 hvm9 hw_r_5 hB9 hz9 hk9 hS => ?_)
      have hP : gw_P D vwCl A dm en ad H := by rw [← ht9]; exact hB9
      refine lv_toq ((if (1 : Int32) = 0 then 0 else 1)) hw_r_5 ?_
      exact W.iret (v := (if (1 : Int32) = 0 then 0 else 1)) hx hb hr (fun t ht hW => ⟨⟨((if (1 : Int32) = 0 then 0 else 1)), (), rfl, (by simp [f_comb, c_1, c_3]), by rw [← ht] at hP; exact hP⟩, hS.F ht⟩) hS.2.2 dX3_combined_152

set_option maxHeartbeats 4000000 in
set_option maxRecDepth 100000 in
theorem k_X3_comb_12 {l : Launch} {D : va_G} {cI cZ cB cS : ClassId} {A : Nat → Prop} (dm : Nat → Nat) (en : Nat → Nat → va_E) (ad : Nat → Nat → Nat) (y0 y1 y2 : Int32) : Met l yX3_combined wsX3_combined ({ frames := 1, cells := 0, slots := 0, locals := 21 } : Room) (gPc D cI cZ cB cS A dm en ad [.int (nI 12), .int y0, .int y1, .int y2]) (va_Qi (fun (r : Int32) (_ : Unit) => r = f_comb 12 y0 y1 y2) (fun _ t => gw_P D vwCl A dm en ad t.heap) A) 0 0 A := by
  refine Met.ofW (cc := cX3_combined) (maxL := 4) (ret := (some .int)) (by decide) rfl ?_
  intro p e s m args below meth c s₁ B hml hv
  obtain ⟨rfl, hP, hE, hA⟩ := hv
  have hx := B.exec
  have hb := B.bytes
  have hr := B.returns
  have hts := atoms_spec (ws := wsX3_combined) B.pre
  have hown : s.vm.findClass RX3 = some m.cls := findClass_of_methodNamed B.named
  have hlocks := B.notSynchronized
  have hK := hE.1
  have hS : va_S A s.heap s.heap [] := va_S.rf
  have hl := lv_entry ([.int (nI 12), .int y0, .int y1, .int y2]) (n := 4) (Nat.le_of_ble_eq_true rfl)
  rw [lg_entry_eq]
  generalize (lg_sl ([.int (nI 12), .int y0, .int y1, .int y2]) ++ List.replicate (4 - (lg_sl ([.int (nI 12), .int y0, .int y1, .int y2])).length) Slot.unset).toArray = ls at hl ⊢
  have hl : lv_has ls 4 [(0, .int (nI 12)), (1, .int y0), (2, .int y1), (3, .int y2)] := hl
  refine lv_iload_n hx hb dX3_combined_0 rfl (lv_at hl 0 rfl) ?_
  refine lv_tableIn (off := 152) (tgt := 153) hx hb dX3_combined_1 (by decide) (by decide) (by decide) (by decide) ?_
  refine lv_iload_n hx hb dX3_combined_153 rfl (lv_at hl 1 rfl) ?_
  refine lv_if_ne (tgt := 161) hx hb dX3_combined_154 (by decide) (fun c_1 => ?_) (fun c_1 => ?_)
  · refine lv_iconst (v := 1) hx hb dX3_combined_161 (by decide) ?_
    refine lv_goto (tgt := 166) hx hb dX3_combined_162 (by decide) ?_
    refine va_calli (va_runS (As := [.int 1]) (rest := []) ⟨hx, hb, hml, hown, hts⟩ (k_X3_asNumber (l := l) (D := D) (cI := cI) (cZ := cZ) (cB := cB) (cS := cS) (A := A) dm en ad 1) (va_cwS 1 hts gX3_combined_X3_asNumber rfl rfl rfl (by decide +kernel) ⟨Nat.le_of_ble_eq_true rfl, Nat.le_of_ble_eq_true rfl⟩) (gPreS hE hA hS hP) rfl rfl hl.1 rfl (lv_room (Nat.le_of_ble_eq_true rfl)) dX3_combined_166 ⟨Nat.le_of_ble_eq_true rfl, Nat.le_of_ble_eq_true rfl⟩) hS (fun q _ h9 => h9) (fun q h9 => h9) (fun r_2 u9 t9 H locs ht9 hvm9 hw_r_2 hB9 hz9 hk9 hS => ?_)
    have hP : gw_P D vwCl A dm en ad H := by rw [← ht9]; exact hB9
    refine lv_toq ((if (1 : Int32) = 0 then 0 else 1)) hw_r_2 ?_
    exact W.iret (v := (if (1 : Int32) = 0 then 0 else 1)) hx hb hr (fun t ht hW => ⟨⟨((if (1 : Int32) = 0 then 0 else 1)), (), rfl, (by simp [f_comb, c_1]), by rw [← ht] at hP; exact hP⟩, hS.F ht⟩) hS.2.2 dX3_combined_169
  · refine lv_iload_n hx hb dX3_combined_157 rfl (lv_at hl 2 rfl) ?_
    refine lv_if_eq (tgt := 165) hx hb dX3_combined_158 (by decide) (fun c_3 => ?_) (fun c_3 => ?_)
    · refine lv_iconst (v := 0) hx hb dX3_combined_165 (by decide) ?_
      refine va_calli (va_runS (As := [.int 0]) (rest := []) ⟨hx, hb, hml, hown, hts⟩ (k_X3_asNumber (l := l) (D := D) (cI := cI) (cZ := cZ) (cB := cB) (cS := cS) (A := A) dm en ad 0) (va_cwS 1 hts gX3_combined_X3_asNumber rfl rfl rfl (by decide +kernel) ⟨Nat.le_of_ble_eq_true rfl, Nat.le_of_ble_eq_true rfl⟩) (gPreS hE hA hS hP) rfl rfl hl.1 rfl (lv_room (Nat.le_of_ble_eq_true rfl)) dX3_combined_166 ⟨Nat.le_of_ble_eq_true rfl, Nat.le_of_ble_eq_true rfl⟩) hS (fun q _ h9 => h9) (fun q h9 => h9) (fun r_4 u9 t9 H locs ht9 hvm9 hw_r_4 hB9 hz9 hk9 hS => ?_)
      have hP : gw_P D vwCl A dm en ad H := by rw [← ht9]; exact hB9
      refine lv_toq ((if (0 : Int32) = 0 then 0 else 1)) hw_r_4 ?_
      exact W.iret (v := (if (0 : Int32) = 0 then 0 else 1)) hx hb hr (fun t ht hW => ⟨⟨((if (0 : Int32) = 0 then 0 else 1)), (), rfl, (by simp [f_comb, c_1, c_3]), by rw [← ht] at hP; exact hP⟩, hS.F ht⟩) hS.2.2 dX3_combined_169
    · refine lv_iconst (v := 1) hx hb dX3_combined_161 (by decide) ?_
      refine lv_goto (tgt := 166) hx hb dX3_combined_162 (by decide) ?_
      refine va_calli (va_runS (As := [.int 1]) (rest := []) ⟨hx, hb, hml, hown, hts⟩ (k_X3_asNumber (l := l) (D := D) (cI := cI) (cZ := cZ) (cB := cB) (cS := cS) (A := A) dm en ad 1) (va_cwS 1 hts gX3_combined_X3_asNumber rfl rfl rfl (by decide +kernel) ⟨Nat.le_of_ble_eq_true rfl, Nat.le_of_ble_eq_true rfl⟩) (gPreS hE hA hS hP) rfl rfl hl.1 rfl (lv_room (Nat.le_of_ble_eq_true rfl)) dX3_combined_166 ⟨Nat.le_of_ble_eq_true rfl, Nat.le_of_ble_eq_true rfl⟩) hS (fun q _ h9 => h9) (fun q h9 => h9) (fun r_5 u9 t9 H locs ht9 hvm9 hw_r_5 hB9 hz9 hk9 hS => ?_)
      have hP : gw_P D vwCl A dm en ad H := by rw [← ht9]; exact hB9
      refine lv_toq ((if (1 : Int32) = 0 then 0 else 1)) hw_r_5 ?_
      exact W.iret (v := (if (1 : Int32) = 0 then 0 else 1)) hx hb hr (fun t ht hW => ⟨⟨((if (1 : Int32) = 0 then 0 else 1)), (), rfl, (by simp [f_comb, c_1, c_3]), by rw [← ht] at hP; exact hP⟩, hS.F ht⟩) hS.2.2 dX3_combined_169

set_option maxHeartbeats 4000000 in
set_option maxRecDepth 100000 in
theorem k_X3_comb_13 {l : Launch} {D : va_G} {cI cZ cB cS : ClassId} {A : Nat → Prop} (dm : Nat → Nat) (en : Nat → Nat → va_E) (ad : Nat → Nat → Nat) (y0 y1 y2 : Int32) : Met l yX3_combined wsX3_combined ({ frames := 1, cells := 0, slots := 0, locals := 21 } : Room) (gPc D cI cZ cB cS A dm en ad [.int (nI 13), .int y0, .int y1, .int y2]) (va_Qi (fun (r : Int32) (_ : Unit) => r = f_comb 13 y0 y1 y2) (fun _ t => gw_P D vwCl A dm en ad t.heap) A) 0 0 A := by
  refine Met.ofW (cc := cX3_combined) (maxL := 4) (ret := (some .int)) (by decide) rfl ?_
  intro p e s m args below meth c s₁ B hml hv
  obtain ⟨rfl, hP, hE, hA⟩ := hv
  have hx := B.exec
  have hb := B.bytes
  have hr := B.returns
  have hts := atoms_spec (ws := wsX3_combined) B.pre
  have hown : s.vm.findClass RX3 = some m.cls := findClass_of_methodNamed B.named
  have hlocks := B.notSynchronized
  have hK := hE.1
  have hS : va_S A s.heap s.heap [] := va_S.rf
  have hl := lv_entry ([.int (nI 13), .int y0, .int y1, .int y2]) (n := 4) (Nat.le_of_ble_eq_true rfl)
  rw [lg_entry_eq]
  generalize (lg_sl ([.int (nI 13), .int y0, .int y1, .int y2]) ++ List.replicate (4 - (lg_sl ([.int (nI 13), .int y0, .int y1, .int y2])).length) Slot.unset).toArray = ls at hl ⊢
  have hl : lv_has ls 4 [(0, .int (nI 13)), (1, .int y0), (2, .int y1), (3, .int y2)] := hl
  refine lv_iload_n hx hb dX3_combined_0 rfl (lv_at hl 0 rfl) ?_
  refine lv_tableIn (off := 169) (tgt := 170) hx hb dX3_combined_1 (by decide) (by decide) (by decide) (by decide) ?_
  refine lv_iload_n hx hb dX3_combined_170 rfl (lv_at hl 1 rfl) ?_
  refine lv_if_ne (tgt := 178) hx hb dX3_combined_171 (by decide) (fun c_1 => ?_) (fun c_1 => ?_)
  · refine lv_iconst (v := 0) hx hb dX3_combined_178 (by decide) ?_
    refine va_calli (va_runS (As := [.int 0]) (rest := []) ⟨hx, hb, hml, hown, hts⟩ (k_X3_asNumber (l := l) (D := D) (cI := cI) (cZ := cZ) (cB := cB) (cS := cS) (A := A) dm en ad 0) (va_cwS 1 hts gX3_combined_X3_asNumber rfl rfl rfl (by decide +kernel) ⟨Nat.le_of_ble_eq_true rfl, Nat.le_of_ble_eq_true rfl⟩) (gPreS hE hA hS hP) rfl rfl hl.1 rfl (lv_room (Nat.le_of_ble_eq_true rfl)) dX3_combined_179 ⟨Nat.le_of_ble_eq_true rfl, Nat.le_of_ble_eq_true rfl⟩) hS (fun q _ h9 => h9) (fun q h9 => h9) (fun r_2 u9 t9 H locs ht9 hvm9 hw_r_2 hB9 hz9 hk9 hS => ?_)
    have hP : gw_P D vwCl A dm en ad H := by rw [← ht9]; exact hB9
    refine lv_toq ((if (0 : Int32) = 0 then 0 else 1)) hw_r_2 ?_
    exact W.iret (v := (if (0 : Int32) = 0 then 0 else 1)) hx hb hr (fun t ht hW => ⟨⟨((if (0 : Int32) = 0 then 0 else 1)), (), rfl, (by simp [f_comb, c_1]), by rw [← ht] at hP; exact hP⟩, hS.F ht⟩) hS.2.2 dX3_combined_182
  · refine lv_iconst (v := 1) hx hb dX3_combined_174 (by decide) ?_
    refine lv_goto (tgt := 179) hx hb dX3_combined_175 (by decide) ?_
    refine va_calli (va_runS (As := [.int 1]) (rest := []) ⟨hx, hb, hml, hown, hts⟩ (k_X3_asNumber (l := l) (D := D) (cI := cI) (cZ := cZ) (cB := cB) (cS := cS) (A := A) dm en ad 1) (va_cwS 1 hts gX3_combined_X3_asNumber rfl rfl rfl (by decide +kernel) ⟨Nat.le_of_ble_eq_true rfl, Nat.le_of_ble_eq_true rfl⟩) (gPreS hE hA hS hP) rfl rfl hl.1 rfl (lv_room (Nat.le_of_ble_eq_true rfl)) dX3_combined_179 ⟨Nat.le_of_ble_eq_true rfl, Nat.le_of_ble_eq_true rfl⟩) hS (fun q _ h9 => h9) (fun q h9 => h9) (fun r_3 u9 t9 H locs ht9 hvm9 hw_r_3 hB9 hz9 hk9 hS => ?_)
    have hP : gw_P D vwCl A dm en ad H := by rw [← ht9]; exact hB9
    refine lv_toq ((if (1 : Int32) = 0 then 0 else 1)) hw_r_3 ?_
    exact W.iret (v := (if (1 : Int32) = 0 then 0 else 1)) hx hb hr (fun t ht hW => ⟨⟨((if (1 : Int32) = 0 then 0 else 1)), (), rfl, (by simp [f_comb, c_1]), by rw [← ht] at hP; exact hP⟩, hS.F ht⟩) hS.2.2 dX3_combined_182

set_option maxHeartbeats 4000000 in
set_option maxRecDepth 100000 in
theorem k_X3_comb_14 {l : Launch} {D : va_G} {cI cZ cB cS : ClassId} {A : Nat → Prop} (dm : Nat → Nat) (en : Nat → Nat → va_E) (ad : Nat → Nat → Nat) (y0 y1 y2 : Int32) : Met l yX3_combined wsX3_combined ({ frames := 1, cells := 0, slots := 0, locals := 21 } : Room) (gPc D cI cZ cB cS A dm en ad [.int (nI 14), .int y0, .int y1, .int y2]) (va_Qi (fun (r : Int32) (_ : Unit) => r = f_comb 14 y0 y1 y2) (fun _ t => gw_P D vwCl A dm en ad t.heap) A) 0 0 A := by
  refine Met.ofW (cc := cX3_combined) (maxL := 4) (ret := (some .int)) (by decide) rfl ?_
  intro p e s m args below meth c s₁ B hml hv
  obtain ⟨rfl, hP, hE, hA⟩ := hv
  have hx := B.exec
  have hb := B.bytes
  have hr := B.returns
  have hts := atoms_spec (ws := wsX3_combined) B.pre
  have hown : s.vm.findClass RX3 = some m.cls := findClass_of_methodNamed B.named
  have hlocks := B.notSynchronized
  have hK := hE.1
  have hS : va_S A s.heap s.heap [] := va_S.rf
  have hl := lv_entry ([.int (nI 14), .int y0, .int y1, .int y2]) (n := 4) (Nat.le_of_ble_eq_true rfl)
  rw [lg_entry_eq]
  generalize (lg_sl ([.int (nI 14), .int y0, .int y1, .int y2]) ++ List.replicate (4 - (lg_sl ([.int (nI 14), .int y0, .int y1, .int y2])).length) Slot.unset).toArray = ls at hl ⊢
  have hl : lv_has ls 4 [(0, .int (nI 14)), (1, .int y0), (2, .int y1), (3, .int y2)] := hl
  refine lv_iload_n hx hb dX3_combined_0 rfl (lv_at hl 0 rfl) ?_
  refine lv_tableIn (off := 182) (tgt := 183) hx hb dX3_combined_1 (by decide) (by decide) (by decide) (by decide) ?_
  refine lv_iload_n hx hb dX3_combined_183 rfl (lv_at hl 1 rfl) ?_
  refine lv_if_eq (tgt := 191) hx hb dX3_combined_184 (by decide) (fun c_1 => ?_) (fun c_1 => ?_)
  · refine lv_iload_n hx hb dX3_combined_191 rfl (lv_at hl 3 rfl) ?_
    exact W.iret (v := y2) hx hb hr (fun t ht hW => ⟨⟨y2, (), rfl, (by simp [f_comb, c_1]), by rw [← ht] at hP; exact hP⟩, hS.F ht⟩) hS.2.2 dX3_combined_192
  · refine lv_iload_n hx hb dX3_combined_187 rfl (lv_at hl 2 rfl) ?_
    refine lv_goto (tgt := 192) hx hb dX3_combined_188 (by decide) ?_
    exact W.iret (v := y1) hx hb hr (fun t ht hW => ⟨⟨y1, (), rfl, (by simp [f_comb, c_1]), by rw [← ht] at hP; exact hP⟩, hS.F ht⟩) hS.2.2 dX3_combined_192

theorem k_X3_combined {l : Launch} {D : va_G} {cI cZ cB cS : ClassId} {A : Nat → Prop} (dm : Nat → Nat) (en : Nat → Nat → va_E) (ad : Nat → Nat → Nat) (k : Nat) (hk0 : 2 ≤ k) (hk1 : k < 15) (y0 y1 y2 : Int32) : Met l yX3_combined wsX3_combined ({ frames := 1, cells := 0, slots := 0, locals := 21 } : Room) (gPc D cI cZ cB cS A dm en ad [.int (nI k), .int y0, .int y1, .int y2]) (va_Qi (fun (r : Int32) (_ : Unit) => r = f_comb k y0 y1 y2) (fun _ t => gw_P D vwCl A dm en ad t.heap) A) 0 0 A := by
  rcases (show k = 2 ∨ k = 3 ∨ k = 4 ∨ k = 5 ∨ k = 6 ∨ k = 7 ∨ k = 8 ∨ k = 9 ∨ k = 10 ∨ k = 11 ∨ k = 12 ∨ k = 13 ∨ k = 14 by omega) with rfl | rfl | rfl | rfl | rfl | rfl | rfl | rfl | rfl | rfl | rfl | rfl | rfl
  · exact k_X3_comb_2 dm en ad y0 y1 y2
  · exact k_X3_comb_3 dm en ad y0 y1 y2
  · exact k_X3_comb_4 dm en ad y0 y1 y2
  · exact k_X3_comb_5 dm en ad y0 y1 y2
  · exact k_X3_comb_6 dm en ad y0 y1 y2
  · exact k_X3_comb_7 dm en ad y0 y1 y2
  · exact k_X3_comb_8 dm en ad y0 y1 y2
  · exact k_X3_comb_9 dm en ad y0 y1 y2
  · exact k_X3_comb_10 dm en ad y0 y1 y2
  · exact k_X3_comb_11 dm en ad y0 y1 y2
  · exact k_X3_comb_12 dm en ad y0 y1 y2
  · exact k_X3_comb_13 dm en ad y0 y1 y2
  · exact k_X3_comb_14 dm en ad y0 y1 y2
theorem iL_X3_failureOf_X0 : ∀ w ∈ u_ws RX0 TX0 11, w ∈ wsX3_failureOf := by decide +kernel
set_option maxHeartbeats 4000000 in
set_option maxRecDepth 100000 in
theorem k_X3_fail_0 {l : Launch} {D : va_G} {cI cZ cB cS : ClassId} {A : Nat → Prop} (κ : Nat → Nat) (σ sc : Nat → Nat → Int32) (ad : Nat → Nat → Nat) (b : Nat) (hb0 : b < κ 0) (ek : σ 0 b = nI 0) (y0 y1 : Int32) : Met l yX3_failureOf wsX3_failureOf ({ frames := 2, cells := 0, slots := 0, locals := 41 } : Room) (gPc D cI cZ cB cS A (cDm κ) (cEn cI cZ cB cS κ σ sc ad) ad [.ref (ad 11 b), .int y0, .int y1]) (va_Qi (fun (r : Int32) (_ : Unit) => r = nI (f_fail σ 0 b y0 y1)) (fun _ t => gw_P D vwCl A (cDm κ) (cEn cI cZ cB cS κ σ sc ad) ad t.heap) A) 0 0 A := by
  refine Met.ofW (cc := cX3_failureOf) (maxL := 3) (ret := (some .int)) (by decide) rfl ?_
  intro p e s m args below meth c s₁ B hml hv
  obtain ⟨rfl, hP, hE, hA⟩ := hv
  have hx := B.exec
  have hb := B.bytes
  have hr := B.returns
  have hts := atoms_spec (ws := wsX3_failureOf) B.pre
  have hown : s.vm.findClass RX3 = some m.cls := findClass_of_methodNamed B.named
  have hlocks := B.notSynchronized
  have hK := hE.1
  have hS : va_S A s.heap s.heap [] := va_S.rf
  have hL0 := fun w (hw : w ∈ u_ws RX0 TX0 11) => hts w (iL_X3_failureOf_X0 w hw)
  have hl := lv_entry ([.ref (ad 11 b), .int y0, .int y1]) (n := 3) (Nat.le_of_ble_eq_true rfl)
  rw [lg_entry_eq]
  generalize (lg_sl ([.ref (ad 11 b), .int y0, .int y1]) ++ List.replicate (3 - (lg_sl ([.ref (ad 11 b), .int y0, .int y1])).length) Slot.unset).toArray = ls at hl ⊢
  have hl : lv_has ls 3 [(0, .ref (ad 11 b)), (1, .int y0), (2, .int y1)] := hl
  refine lv_aload_n hx hb dX3_failureOf_0 rfl (lv_at hl 0 rfl) ?_
  refine gw_get (C := RX0) (T := TX0) (N := 11) hx hb hL0 hown hK hP 11 b (cDb (by omega) (by decide) (by decide)) rfl rfl 0 (by decide) (hts (.fieldLink RX3 86 "BlockPrograms$Block" "kind" "I") (by decide +kernel)) (fun _ h9 => h9) (v := .int (nI 0)) (congrArg (fun z : Int32 => some (Value.int z)) ek) dX3_failureOf_1 ?_
  refine lv_bipush (v := 16) hx hb dX3_failureOf_4 (by decide) ?_
  refine lv_icmp_eq (tgt := 18) hx hb dX3_failureOf_6 (by decide) (fun c_1 => ?_) (fun c_1 => ?_)
  · have c_1 : 0 = 16 := (nI_eq (a := 0) (b := 16) (by omega) (by omega)).mp c_1
    exfalso; omega
  · have c_1 : ¬ (0 = 16) := fun z => c_1 ((nI_eq (a := 0) (b := 16) (by omega) (by omega)).mpr z)
    refine lv_aload_n hx hb dX3_failureOf_9 rfl (lv_at hl 0 rfl) ?_
    refine va_calli (va_runV (As := []) (rest := []) ⟨hx, hb, hml, hown, hts⟩ (k_X0_lacksWire (l := l) (D := D) (cI := cI) (cZ := cZ) (cB := cB) (cS := cS) (A := A) κ σ sc ad b 0 hb0 (by decide) ek) (cwV 0 hts gX3_failureOf_X0_lacksWire rfl rfl rfl (by decide +kernel) ⟨Nat.le_of_ble_eq_true rfl, Nat.le_of_ble_eq_true rfl⟩) (gPreV hE hA hS hP (gw_recv hK hP 11 b (cDb (by omega) (by decide) (by decide)) rfl rfl)) rfl rfl hl.1 rfl (lv_room (Nat.le_of_ble_eq_true rfl)) dX3_failureOf_10 ⟨Nat.le_of_ble_eq_true rfl, Nat.le_of_ble_eq_true rfl⟩) hS (fun q _ h9 => h9) (fun q h9 => h9) (fun r_2 u9 t9 H locs ht9 hvm9 hw_r_2 hB9 hz9 hk9 hS => ?_)
    have hP : gw_P D vwCl A (cDm κ) (cEn cI cZ cB cS κ σ sc ad) ad H := by rw [← ht9]; exact hB9
    refine lv_toq ((if lack σ 0 b = true then 1 else 0)) hw_r_2 ?_
    refine lv_if_eq (tgt := 18) hx hb dX3_failureOf_13 (by decide) (fun c_3 => ?_) (fun c_3 => ?_)
    · refine lv_aload_n hx hb dX3_failureOf_18 rfl (lv_at hl 0 rfl) ?_
      refine gw_get (C := RX0) (T := TX0) (N := 11) hx hb hL0 hown hK hP 11 b (cDb (by omega) (by decide) (by decide)) rfl rfl 0 (by decide) (hts (.fieldLink RX3 86 "BlockPrograms$Block" "kind" "I") (by decide +kernel)) (fun _ h9 => h9) (v := .int (nI 0)) (congrArg (fun z : Int32 => some (Value.int z)) ek) dX3_failureOf_19 ?_
      refine lv_lookup (off := 42) (tgt := 64) hx hb dX3_failureOf_22 (by decide) (by decide) (by decide) ?_
      refine lv_aload_n hx hb dX3_failureOf_64 rfl (lv_at hl 0 rfl) ?_
      refine gw_get (C := RX0) (T := TX0) (N := 11) hx hb hL0 hown hK hP 11 b (cDb (by omega) (by decide) (by decide)) rfl rfl 1 (by decide) (hts (.fieldLink RX3 74 "BlockPrograms$Block" "p" "I") (by decide +kernel)) (fun _ h9 => h9) (v := .int ((σ 1 b))) rfl dX3_failureOf_65 ?_
      refine va_calli (va_runS (As := [.int ((σ 1 b))]) (rest := []) ⟨hx, hb, hml, hown, hts⟩ (k_X3_isPoint (l := l) (D := D) (cI := cI) (cZ := cZ) (cB := cB) (cS := cS) (A := A) (cDm κ) (cEn cI cZ cB cS κ σ sc ad) ad ((σ 1 b))) (va_cwS 1 hts gX3_failureOf_X3_isPoint rfl rfl rfl (by decide +kernel) ⟨Nat.le_of_ble_eq_true rfl, Nat.le_of_ble_eq_true rfl⟩) (gPreS hE hA hS hP) rfl rfl hl.1 rfl (lv_room (Nat.le_of_ble_eq_true rfl)) dX3_failureOf_68 ⟨Nat.le_of_ble_eq_true rfl, Nat.le_of_ble_eq_true rfl⟩) hS (fun q _ h9 => h9) (fun q h9 => h9) (fun r_4 u9 t9 H locs ht9 hvm9 hw_r_4 hB9 hz9 hk9 hS => ?_)
      have hP : gw_P D vwCl A (cDm κ) (cEn cI cZ cB cS κ σ sc ad) ad H := by rw [← ht9]; exact hB9
      refine lv_toq ((if okI 10 (σ 1 b) then 1 else 0)) hw_r_4 ?_
      refine lv_if_eq (tgt := 78) hx hb dX3_failureOf_71 (by decide) (fun c_5 => ?_) (fun c_5 => ?_)
      · refine lv_iconst (v := 2) hx hb dX3_failureOf_78 (by decide) ?_
        have f_0 := lk_f c_3
        have f_1 := lp_f c_5
        exact W.iret (v := 2) hx hb hr (fun t ht hW => ⟨⟨2, (), rfl, (by simp [f_fail, f_0, f_1]; try rfl), by rw [← ht] at hP; exact hP⟩, hS.F ht⟩) hS.2.2 dX3_failureOf_79
      · refine lv_iconst (v := 0) hx hb dX3_failureOf_74 (by decide) ?_
        refine lv_goto (tgt := 79) hx hb dX3_failureOf_75 (by decide) ?_
        have f_0 := lk_f c_3
        have f_1 := lp_t c_5
        exact W.iret (v := 0) hx hb hr (fun t ht hW => ⟨⟨0, (), rfl, (by unfold f_fail; rw [if_neg (by simp [f_0]), if_pos rfl, if_pos f_1]; rfl), by rw [← ht] at hP; exact hP⟩, hS.F ht⟩) hS.2.2 dX3_failureOf_79
    · refine lv_iconst (v := 3) hx hb dX3_failureOf_16 (by decide) ?_
      have f_0 := lk_t c_3
      exact W.iret (v := 3) hx hb hr (fun t ht hW => ⟨⟨3, (), rfl, (by simp [f_fail, f_0]; try rfl), by rw [← ht] at hP; exact hP⟩, hS.F ht⟩) hS.2.2 dX3_failureOf_17

set_option maxHeartbeats 4000000 in
set_option maxRecDepth 100000 in
theorem k_X3_fail_1 {l : Launch} {D : va_G} {cI cZ cB cS : ClassId} {A : Nat → Prop} (κ : Nat → Nat) (σ sc : Nat → Nat → Int32) (ad : Nat → Nat → Nat) (b : Nat) (hb0 : b < κ 0) (ek : σ 0 b = nI 1) (y0 y1 : Int32) : Met l yX3_failureOf wsX3_failureOf ({ frames := 2, cells := 0, slots := 0, locals := 41 } : Room) (gPc D cI cZ cB cS A (cDm κ) (cEn cI cZ cB cS κ σ sc ad) ad [.ref (ad 11 b), .int y0, .int y1]) (va_Qi (fun (r : Int32) (_ : Unit) => r = nI (f_fail σ 1 b y0 y1)) (fun _ t => gw_P D vwCl A (cDm κ) (cEn cI cZ cB cS κ σ sc ad) ad t.heap) A) 0 0 A := by
  refine Met.ofW (cc := cX3_failureOf) (maxL := 3) (ret := (some .int)) (by decide) rfl ?_
  intro p e s m args below meth c s₁ B hml hv
  obtain ⟨rfl, hP, hE, hA⟩ := hv
  have hx := B.exec
  have hb := B.bytes
  have hr := B.returns
  have hts := atoms_spec (ws := wsX3_failureOf) B.pre
  have hown : s.vm.findClass RX3 = some m.cls := findClass_of_methodNamed B.named
  have hlocks := B.notSynchronized
  have hK := hE.1
  have hS : va_S A s.heap s.heap [] := va_S.rf
  have hL0 := fun w (hw : w ∈ u_ws RX0 TX0 11) => hts w (iL_X3_failureOf_X0 w hw)
  have hl := lv_entry ([.ref (ad 11 b), .int y0, .int y1]) (n := 3) (Nat.le_of_ble_eq_true rfl)
  rw [lg_entry_eq]
  generalize (lg_sl ([.ref (ad 11 b), .int y0, .int y1]) ++ List.replicate (3 - (lg_sl ([.ref (ad 11 b), .int y0, .int y1])).length) Slot.unset).toArray = ls at hl ⊢
  have hl : lv_has ls 3 [(0, .ref (ad 11 b)), (1, .int y0), (2, .int y1)] := hl
  refine lv_aload_n hx hb dX3_failureOf_0 rfl (lv_at hl 0 rfl) ?_
  refine gw_get (C := RX0) (T := TX0) (N := 11) hx hb hL0 hown hK hP 11 b (cDb (by omega) (by decide) (by decide)) rfl rfl 0 (by decide) (hts (.fieldLink RX3 86 "BlockPrograms$Block" "kind" "I") (by decide +kernel)) (fun _ h9 => h9) (v := .int (nI 1)) (congrArg (fun z : Int32 => some (Value.int z)) ek) dX3_failureOf_1 ?_
  refine lv_bipush (v := 16) hx hb dX3_failureOf_4 (by decide) ?_
  refine lv_icmp_eq (tgt := 18) hx hb dX3_failureOf_6 (by decide) (fun c_1 => ?_) (fun c_1 => ?_)
  · have c_1 : 1 = 16 := (nI_eq (a := 1) (b := 16) (by omega) (by omega)).mp c_1
    exfalso; omega
  · have c_1 : ¬ (1 = 16) := fun z => c_1 ((nI_eq (a := 1) (b := 16) (by omega) (by omega)).mpr z)
    refine lv_aload_n hx hb dX3_failureOf_9 rfl (lv_at hl 0 rfl) ?_
    refine va_calli (va_runV (As := []) (rest := []) ⟨hx, hb, hml, hown, hts⟩ (k_X0_lacksWire (l := l) (D := D) (cI := cI) (cZ := cZ) (cB := cB) (cS := cS) (A := A) κ σ sc ad b 1 hb0 (by decide) ek) (cwV 0 hts gX3_failureOf_X0_lacksWire rfl rfl rfl (by decide +kernel) ⟨Nat.le_of_ble_eq_true rfl, Nat.le_of_ble_eq_true rfl⟩) (gPreV hE hA hS hP (gw_recv hK hP 11 b (cDb (by omega) (by decide) (by decide)) rfl rfl)) rfl rfl hl.1 rfl (lv_room (Nat.le_of_ble_eq_true rfl)) dX3_failureOf_10 ⟨Nat.le_of_ble_eq_true rfl, Nat.le_of_ble_eq_true rfl⟩) hS (fun q _ h9 => h9) (fun q h9 => h9) (fun r_2 u9 t9 H locs ht9 hvm9 hw_r_2 hB9 hz9 hk9 hS => ?_)
    have hP : gw_P D vwCl A (cDm κ) (cEn cI cZ cB cS κ σ sc ad) ad H := by rw [← ht9]; exact hB9
    refine lv_toq ((if lack σ 1 b = true then 1 else 0)) hw_r_2 ?_
    refine lv_if_eq (tgt := 18) hx hb dX3_failureOf_13 (by decide) (fun c_3 => ?_) (fun c_3 => ?_)
    · refine lv_aload_n hx hb dX3_failureOf_18 rfl (lv_at hl 0 rfl) ?_
      refine gw_get (C := RX0) (T := TX0) (N := 11) hx hb hL0 hown hK hP 11 b (cDb (by omega) (by decide) (by decide)) rfl rfl 0 (by decide) (hts (.fieldLink RX3 86 "BlockPrograms$Block" "kind" "I") (by decide +kernel)) (fun _ h9 => h9) (v := .int (nI 1)) (congrArg (fun z : Int32 => some (Value.int z)) ek) dX3_failureOf_19 ?_
      refine lv_lookup (off := 81) (tgt := 103) hx hb dX3_failureOf_22 (by decide) (by decide) (by decide) ?_
      refine lv_iconst (v := 0) hx hb dX3_failureOf_103 (by decide) ?_
      have f_0 := lk_f c_3
      exact W.iret (v := 0) hx hb hr (fun t ht hW => ⟨⟨0, (), rfl, (by simp [f_fail, f_0]; try rfl), by rw [← ht] at hP; exact hP⟩, hS.F ht⟩) hS.2.2 dX3_failureOf_104
    · refine lv_iconst (v := 3) hx hb dX3_failureOf_16 (by decide) ?_
      have f_0 := lk_t c_3
      exact W.iret (v := 3) hx hb hr (fun t ht hW => ⟨⟨3, (), rfl, (by simp [f_fail, f_0]; try rfl), by rw [← ht] at hP; exact hP⟩, hS.F ht⟩) hS.2.2 dX3_failureOf_17

set_option maxHeartbeats 4000000 in
set_option maxRecDepth 100000 in
theorem k_X3_fail_2 {l : Launch} {D : va_G} {cI cZ cB cS : ClassId} {A : Nat → Prop} (κ : Nat → Nat) (σ sc : Nat → Nat → Int32) (ad : Nat → Nat → Nat) (b : Nat) (hb0 : b < κ 0) (ek : σ 0 b = nI 2) (y0 y1 : Int32) : Met l yX3_failureOf wsX3_failureOf ({ frames := 2, cells := 0, slots := 0, locals := 41 } : Room) (gPc D cI cZ cB cS A (cDm κ) (cEn cI cZ cB cS κ σ sc ad) ad [.ref (ad 11 b), .int y0, .int y1]) (va_Qi (fun (r : Int32) (_ : Unit) => r = nI (f_fail σ 2 b y0 y1)) (fun _ t => gw_P D vwCl A (cDm κ) (cEn cI cZ cB cS κ σ sc ad) ad t.heap) A) 0 0 A := by
  refine Met.ofW (cc := cX3_failureOf) (maxL := 3) (ret := (some .int)) (by decide) rfl ?_
  intro p e s m args below meth c s₁ B hml hv
  obtain ⟨rfl, hP, hE, hA⟩ := hv
  have hx := B.exec
  have hb := B.bytes
  have hr := B.returns
  have hts := atoms_spec (ws := wsX3_failureOf) B.pre
  have hown : s.vm.findClass RX3 = some m.cls := findClass_of_methodNamed B.named
  have hlocks := B.notSynchronized
  have hK := hE.1
  have hS : va_S A s.heap s.heap [] := va_S.rf
  have hL0 := fun w (hw : w ∈ u_ws RX0 TX0 11) => hts w (iL_X3_failureOf_X0 w hw)
  have hl := lv_entry ([.ref (ad 11 b), .int y0, .int y1]) (n := 3) (Nat.le_of_ble_eq_true rfl)
  rw [lg_entry_eq]
  generalize (lg_sl ([.ref (ad 11 b), .int y0, .int y1]) ++ List.replicate (3 - (lg_sl ([.ref (ad 11 b), .int y0, .int y1])).length) Slot.unset).toArray = ls at hl ⊢
  have hl : lv_has ls 3 [(0, .ref (ad 11 b)), (1, .int y0), (2, .int y1)] := hl
  refine lv_aload_n hx hb dX3_failureOf_0 rfl (lv_at hl 0 rfl) ?_
  refine gw_get (C := RX0) (T := TX0) (N := 11) hx hb hL0 hown hK hP 11 b (cDb (by omega) (by decide) (by decide)) rfl rfl 0 (by decide) (hts (.fieldLink RX3 86 "BlockPrograms$Block" "kind" "I") (by decide +kernel)) (fun _ h9 => h9) (v := .int (nI 2)) (congrArg (fun z : Int32 => some (Value.int z)) ek) dX3_failureOf_1 ?_
  refine lv_bipush (v := 16) hx hb dX3_failureOf_4 (by decide) ?_
  refine lv_icmp_eq (tgt := 18) hx hb dX3_failureOf_6 (by decide) (fun c_1 => ?_) (fun c_1 => ?_)
  · have c_1 : 2 = 16 := (nI_eq (a := 2) (b := 16) (by omega) (by omega)).mp c_1
    exfalso; omega
  · have c_1 : ¬ (2 = 16) := fun z => c_1 ((nI_eq (a := 2) (b := 16) (by omega) (by omega)).mpr z)
    refine lv_aload_n hx hb dX3_failureOf_9 rfl (lv_at hl 0 rfl) ?_
    refine va_calli (va_runV (As := []) (rest := []) ⟨hx, hb, hml, hown, hts⟩ (k_X0_lacksWire (l := l) (D := D) (cI := cI) (cZ := cZ) (cB := cB) (cS := cS) (A := A) κ σ sc ad b 2 hb0 (by decide) ek) (cwV 0 hts gX3_failureOf_X0_lacksWire rfl rfl rfl (by decide +kernel) ⟨Nat.le_of_ble_eq_true rfl, Nat.le_of_ble_eq_true rfl⟩) (gPreV hE hA hS hP (gw_recv hK hP 11 b (cDb (by omega) (by decide) (by decide)) rfl rfl)) rfl rfl hl.1 rfl (lv_room (Nat.le_of_ble_eq_true rfl)) dX3_failureOf_10 ⟨Nat.le_of_ble_eq_true rfl, Nat.le_of_ble_eq_true rfl⟩) hS (fun q _ h9 => h9) (fun q h9 => h9) (fun r_2 u9 t9 H locs ht9 hvm9 hw_r_2 hB9 hz9 hk9 hS => ?_)
    have hP : gw_P D vwCl A (cDm κ) (cEn cI cZ cB cS κ σ sc ad) ad H := by rw [← ht9]; exact hB9
    refine lv_toq ((if lack σ 2 b = true then 1 else 0)) hw_r_2 ?_
    refine lv_if_eq (tgt := 18) hx hb dX3_failureOf_13 (by decide) (fun c_3 => ?_) (fun c_3 => ?_)
    · refine lv_aload_n hx hb dX3_failureOf_18 rfl (lv_at hl 0 rfl) ?_
      refine gw_get (C := RX0) (T := TX0) (N := 11) hx hb hL0 hown hK hP 11 b (cDb (by omega) (by decide) (by decide)) rfl rfl 0 (by decide) (hts (.fieldLink RX3 86 "BlockPrograms$Block" "kind" "I") (by decide +kernel)) (fun _ h9 => h9) (v := .int (nI 2)) (congrArg (fun z : Int32 => some (Value.int z)) ek) dX3_failureOf_19 ?_
      refine lv_lookup (off := 81) (tgt := 103) hx hb dX3_failureOf_22 (by decide) (by decide) (by decide) ?_
      refine lv_iconst (v := 0) hx hb dX3_failureOf_103 (by decide) ?_
      have f_0 := lk_f c_3
      exact W.iret (v := 0) hx hb hr (fun t ht hW => ⟨⟨0, (), rfl, (by simp [f_fail, f_0]; try rfl), by rw [← ht] at hP; exact hP⟩, hS.F ht⟩) hS.2.2 dX3_failureOf_104
    · refine lv_iconst (v := 3) hx hb dX3_failureOf_16 (by decide) ?_
      have f_0 := lk_t c_3
      exact W.iret (v := 3) hx hb hr (fun t ht hW => ⟨⟨3, (), rfl, (by simp [f_fail, f_0]; try rfl), by rw [← ht] at hP; exact hP⟩, hS.F ht⟩) hS.2.2 dX3_failureOf_17

set_option maxHeartbeats 4000000 in
set_option maxRecDepth 100000 in
theorem k_X3_fail_3 {l : Launch} {D : va_G} {cI cZ cB cS : ClassId} {A : Nat → Prop} (κ : Nat → Nat) (σ sc : Nat → Nat → Int32) (ad : Nat → Nat → Nat) (b : Nat) (hb0 : b < κ 0) (ek : σ 0 b = nI 3) (y0 y1 : Int32) : Met l yX3_failureOf wsX3_failureOf ({ frames := 2, cells := 0, slots := 0, locals := 41 } : Room) (gPc D cI cZ cB cS A (cDm κ) (cEn cI cZ cB cS κ σ sc ad) ad [.ref (ad 11 b), .int y0, .int y1]) (va_Qi (fun (r : Int32) (_ : Unit) => r = nI (f_fail σ 3 b y0 y1)) (fun _ t => gw_P D vwCl A (cDm κ) (cEn cI cZ cB cS κ σ sc ad) ad t.heap) A) 0 0 A := by
  refine Met.ofW (cc := cX3_failureOf) (maxL := 3) (ret := (some .int)) (by decide) rfl ?_
  intro p e s m args below meth c s₁ B hml hv
  obtain ⟨rfl, hP, hE, hA⟩ := hv
  have hx := B.exec
  have hb := B.bytes
  have hr := B.returns
  have hts := atoms_spec (ws := wsX3_failureOf) B.pre
  have hown : s.vm.findClass RX3 = some m.cls := findClass_of_methodNamed B.named
  have hlocks := B.notSynchronized
  have hK := hE.1
  have hS : va_S A s.heap s.heap [] := va_S.rf
  have hL0 := fun w (hw : w ∈ u_ws RX0 TX0 11) => hts w (iL_X3_failureOf_X0 w hw)
  have hl := lv_entry ([.ref (ad 11 b), .int y0, .int y1]) (n := 3) (Nat.le_of_ble_eq_true rfl)
  rw [lg_entry_eq]
  generalize (lg_sl ([.ref (ad 11 b), .int y0, .int y1]) ++ List.replicate (3 - (lg_sl ([.ref (ad 11 b), .int y0, .int y1])).length) Slot.unset).toArray = ls at hl ⊢
  have hl : lv_has ls 3 [(0, .ref (ad 11 b)), (1, .int y0), (2, .int y1)] := hl
  refine lv_aload_n hx hb dX3_failureOf_0 rfl (lv_at hl 0 rfl) ?_
  refine gw_get (C := RX0) (T := TX0) (N := 11) hx hb hL0 hown hK hP 11 b (cDb (by omega) (by decide) (by decide)) rfl rfl 0 (by decide) (hts (.fieldLink RX3 86 "BlockPrograms$Block" "kind" "I") (by decide +kernel)) (fun _ h9 => h9) (v := .int (nI 3)) (congrArg (fun z : Int32 => some (Value.int z)) ek) dX3_failureOf_1 ?_
  refine lv_bipush (v := 16) hx hb dX3_failureOf_4 (by decide) ?_
  refine lv_icmp_eq (tgt := 18) hx hb dX3_failureOf_6 (by decide) (fun c_1 => ?_) (fun c_1 => ?_)
  · have c_1 : 3 = 16 := (nI_eq (a := 3) (b := 16) (by omega) (by omega)).mp c_1
    exfalso; omega
  · have c_1 : ¬ (3 = 16) := fun z => c_1 ((nI_eq (a := 3) (b := 16) (by omega) (by omega)).mpr z)
    refine lv_aload_n hx hb dX3_failureOf_9 rfl (lv_at hl 0 rfl) ?_
    refine va_calli (va_runV (As := []) (rest := []) ⟨hx, hb, hml, hown, hts⟩ (k_X0_lacksWire (l := l) (D := D) (cI := cI) (cZ := cZ) (cB := cB) (cS := cS) (A := A) κ σ sc ad b 3 hb0 (by decide) ek) (cwV 0 hts gX3_failureOf_X0_lacksWire rfl rfl rfl (by decide +kernel) ⟨Nat.le_of_ble_eq_true rfl, Nat.le_of_ble_eq_true rfl⟩) (gPreV hE hA hS hP (gw_recv hK hP 11 b (cDb (by omega) (by decide) (by decide)) rfl rfl)) rfl rfl hl.1 rfl (lv_room (Nat.le_of_ble_eq_true rfl)) dX3_failureOf_10 ⟨Nat.le_of_ble_eq_true rfl, Nat.le_of_ble_eq_true rfl⟩) hS (fun q _ h9 => h9) (fun q h9 => h9) (fun r_2 u9 t9 H locs ht9 hvm9 hw_r_2 hB9 hz9 hk9 hS => ?_)
    have hP : gw_P D vwCl A (cDm κ) (cEn cI cZ cB cS κ σ sc ad) ad H := by rw [← ht9]; exact hB9
    refine lv_toq ((if lack σ 3 b = true then 1 else 0)) hw_r_2 ?_
    refine lv_if_eq (tgt := 18) hx hb dX3_failureOf_13 (by decide) (fun c_3 => ?_) (fun c_3 => ?_)
    · refine lv_aload_n hx hb dX3_failureOf_18 rfl (lv_at hl 0 rfl) ?_
      refine gw_get (C := RX0) (T := TX0) (N := 11) hx hb hL0 hown hK hP 11 b (cDb (by omega) (by decide) (by decide)) rfl rfl 0 (by decide) (hts (.fieldLink RX3 86 "BlockPrograms$Block" "kind" "I") (by decide +kernel)) (fun _ h9 => h9) (v := .int (nI 3)) (congrArg (fun z : Int32 => some (Value.int z)) ek) dX3_failureOf_19 ?_
      refine lv_lookup (off := 81) (tgt := 103) hx hb dX3_failureOf_22 (by decide) (by decide) (by decide) ?_
      refine lv_iconst (v := 0) hx hb dX3_failureOf_103 (by decide) ?_
      have f_0 := lk_f c_3
      exact W.iret (v := 0) hx hb hr (fun t ht hW => ⟨⟨0, (), rfl, (by simp [f_fail, f_0]; try rfl), by rw [← ht] at hP; exact hP⟩, hS.F ht⟩) hS.2.2 dX3_failureOf_104
    · refine lv_iconst (v := 3) hx hb dX3_failureOf_16 (by decide) ?_
      have f_0 := lk_t c_3
      exact W.iret (v := 3) hx hb hr (fun t ht hW => ⟨⟨3, (), rfl, (by simp [f_fail, f_0]; try rfl), by rw [← ht] at hP; exact hP⟩, hS.F ht⟩) hS.2.2 dX3_failureOf_17

set_option maxHeartbeats 4000000 in
set_option maxRecDepth 100000 in
theorem k_X3_fail_4 {l : Launch} {D : va_G} {cI cZ cB cS : ClassId} {A : Nat → Prop} (κ : Nat → Nat) (σ sc : Nat → Nat → Int32) (ad : Nat → Nat → Nat) (b : Nat) (hb0 : b < κ 0) (ek : σ 0 b = nI 4) (y0 y1 : Int32) : Met l yX3_failureOf wsX3_failureOf ({ frames := 2, cells := 0, slots := 0, locals := 41 } : Room) (gPc D cI cZ cB cS A (cDm κ) (cEn cI cZ cB cS κ σ sc ad) ad [.ref (ad 11 b), .int y0, .int y1]) (va_Qi (fun (r : Int32) (_ : Unit) => r = nI (f_fail σ 4 b y0 y1)) (fun _ t => gw_P D vwCl A (cDm κ) (cEn cI cZ cB cS κ σ sc ad) ad t.heap) A) 0 0 A := by
  refine Met.ofW (cc := cX3_failureOf) (maxL := 3) (ret := (some .int)) (by decide) rfl ?_
  intro p e s m args below meth c s₁ B hml hv
  obtain ⟨rfl, hP, hE, hA⟩ := hv
  have hx := B.exec
  have hb := B.bytes
  have hr := B.returns
  have hts := atoms_spec (ws := wsX3_failureOf) B.pre
  have hown : s.vm.findClass RX3 = some m.cls := findClass_of_methodNamed B.named
  have hlocks := B.notSynchronized
  have hK := hE.1
  have hS : va_S A s.heap s.heap [] := va_S.rf
  have hL0 := fun w (hw : w ∈ u_ws RX0 TX0 11) => hts w (iL_X3_failureOf_X0 w hw)
  have hl := lv_entry ([.ref (ad 11 b), .int y0, .int y1]) (n := 3) (Nat.le_of_ble_eq_true rfl)
  rw [lg_entry_eq]
  generalize (lg_sl ([.ref (ad 11 b), .int y0, .int y1]) ++ List.replicate (3 - (lg_sl ([.ref (ad 11 b), .int y0, .int y1])).length) Slot.unset).toArray = ls at hl ⊢
  have hl : lv_has ls 3 [(0, .ref (ad 11 b)), (1, .int y0), (2, .int y1)] := hl
  refine lv_aload_n hx hb dX3_failureOf_0 rfl (lv_at hl 0 rfl) ?_
  refine gw_get (C := RX0) (T := TX0) (N := 11) hx hb hL0 hown hK hP 11 b (cDb (by omega) (by decide) (by decide)) rfl rfl 0 (by decide) (hts (.fieldLink RX3 86 "BlockPrograms$Block" "kind" "I") (by decide +kernel)) (fun _ h9 => h9) (v := .int (nI 4)) (congrArg (fun z : Int32 => some (Value.int z)) ek) dX3_failureOf_1 ?_
  refine lv_bipush (v := 16) hx hb dX3_failureOf_4 (by decide) ?_
  refine lv_icmp_eq (tgt := 18) hx hb dX3_failureOf_6 (by decide) (fun c_1 => ?_) (fun c_1 => ?_)
  · have c_1 : 4 = 16 := (nI_eq (a := 4) (b := 16) (by omega) (by omega)).mp c_1
    exfalso; omega
  · have c_1 : ¬ (4 = 16) := fun z => c_1 ((nI_eq (a := 4) (b := 16) (by omega) (by omega)).mpr z)
    refine lv_aload_n hx hb dX3_failureOf_9 rfl (lv_at hl 0 rfl) ?_
    refine va_calli (va_runV (As := []) (rest := []) ⟨hx, hb, hml, hown, hts⟩ (k_X0_lacksWire (l := l) (D := D) (cI := cI) (cZ := cZ) (cB := cB) (cS := cS) (A := A) κ σ sc ad b 4 hb0 (by decide) ek) (cwV 0 hts gX3_failureOf_X0_lacksWire rfl rfl rfl (by decide +kernel) ⟨Nat.le_of_ble_eq_true rfl, Nat.le_of_ble_eq_true rfl⟩) (gPreV hE hA hS hP (gw_recv hK hP 11 b (cDb (by omega) (by decide) (by decide)) rfl rfl)) rfl rfl hl.1 rfl (lv_room (Nat.le_of_ble_eq_true rfl)) dX3_failureOf_10 ⟨Nat.le_of_ble_eq_true rfl, Nat.le_of_ble_eq_true rfl⟩) hS (fun q _ h9 => h9) (fun q h9 => h9) (fun r_2 u9 t9 H locs ht9 hvm9 hw_r_2 hB9 hz9 hk9 hS => ?_)
    have hP : gw_P D vwCl A (cDm κ) (cEn cI cZ cB cS κ σ sc ad) ad H := by rw [← ht9]; exact hB9
    refine lv_toq ((if lack σ 4 b = true then 1 else 0)) hw_r_2 ?_
    refine lv_if_eq (tgt := 18) hx hb dX3_failureOf_13 (by decide) (fun c_3 => ?_) (fun c_3 => ?_)
    · refine lv_aload_n hx hb dX3_failureOf_18 rfl (lv_at hl 0 rfl) ?_
      refine gw_get (C := RX0) (T := TX0) (N := 11) hx hb hL0 hown hK hP 11 b (cDb (by omega) (by decide) (by decide)) rfl rfl 0 (by decide) (hts (.fieldLink RX3 86 "BlockPrograms$Block" "kind" "I") (by decide +kernel)) (fun _ h9 => h9) (v := .int (nI 4)) (congrArg (fun z : Int32 => some (Value.int z)) ek) dX3_failureOf_19 ?_
      refine lv_lookup (off := 81) (tgt := 103) hx hb dX3_failureOf_22 (by decide) (by decide) (by decide) ?_
      refine lv_iconst (v := 0) hx hb dX3_failureOf_103 (by decide) ?_
      have f_0 := lk_f c_3
      exact W.iret (v := 0) hx hb hr (fun t ht hW => ⟨⟨0, (), rfl, (by simp [f_fail, f_0]; try rfl), by rw [← ht] at hP; exact hP⟩, hS.F ht⟩) hS.2.2 dX3_failureOf_104
    · refine lv_iconst (v := 3) hx hb dX3_failureOf_16 (by decide) ?_
      have f_0 := lk_t c_3
      exact W.iret (v := 3) hx hb hr (fun t ht hW => ⟨⟨3, (), rfl, (by simp [f_fail, f_0]; try rfl), by rw [← ht] at hP; exact hP⟩, hS.F ht⟩) hS.2.2 dX3_failureOf_17

set_option maxHeartbeats 4000000 in
set_option maxRecDepth 100000 in
theorem k_X3_fail_5 {l : Launch} {D : va_G} {cI cZ cB cS : ClassId} {A : Nat → Prop} (κ : Nat → Nat) (σ sc : Nat → Nat → Int32) (ad : Nat → Nat → Nat) (b : Nat) (hb0 : b < κ 0) (ek : σ 0 b = nI 5) (y0 y1 : Int32) : Met l yX3_failureOf wsX3_failureOf ({ frames := 2, cells := 0, slots := 0, locals := 41 } : Room) (gPc D cI cZ cB cS A (cDm κ) (cEn cI cZ cB cS κ σ sc ad) ad [.ref (ad 11 b), .int y0, .int y1]) (va_Qi (fun (r : Int32) (_ : Unit) => r = nI (f_fail σ 5 b y0 y1)) (fun _ t => gw_P D vwCl A (cDm κ) (cEn cI cZ cB cS κ σ sc ad) ad t.heap) A) 0 0 A := by
  refine Met.ofW (cc := cX3_failureOf) (maxL := 3) (ret := (some .int)) (by decide) rfl ?_
  intro p e s m args below meth c s₁ B hml hv
  obtain ⟨rfl, hP, hE, hA⟩ := hv
  have hx := B.exec
  have hb := B.bytes
  have hr := B.returns
  have hts := atoms_spec (ws := wsX3_failureOf) B.pre
  have hown : s.vm.findClass RX3 = some m.cls := findClass_of_methodNamed B.named
  have hlocks := B.notSynchronized
  have hK := hE.1
  have hS : va_S A s.heap s.heap [] := va_S.rf
  have hL0 := fun w (hw : w ∈ u_ws RX0 TX0 11) => hts w (iL_X3_failureOf_X0 w hw)
  have hl := lv_entry ([.ref (ad 11 b), .int y0, .int y1]) (n := 3) (Nat.le_of_ble_eq_true rfl)
  rw [lg_entry_eq]
  generalize (lg_sl ([.ref (ad 11 b), .int y0, .int y1]) ++ List.replicate (3 - (lg_sl ([.ref (ad 11 b), .int y0, .int y1])).length) Slot.unset).toArray = ls at hl ⊢
  have hl : lv_has ls 3 [(0, .ref (ad 11 b)), (1, .int y0), (2, .int y1)] := hl
  refine lv_aload_n hx hb dX3_failureOf_0 rfl (lv_at hl 0 rfl) ?_
  refine gw_get (C := RX0) (T := TX0) (N := 11) hx hb hL0 hown hK hP 11 b (cDb (by omega) (by decide) (by decide)) rfl rfl 0 (by decide) (hts (.fieldLink RX3 86 "BlockPrograms$Block" "kind" "I") (by decide +kernel)) (fun _ h9 => h9) (v := .int (nI 5)) (congrArg (fun z : Int32 => some (Value.int z)) ek) dX3_failureOf_1 ?_
  refine lv_bipush (v := 16) hx hb dX3_failureOf_4 (by decide) ?_
  refine lv_icmp_eq (tgt := 18) hx hb dX3_failureOf_6 (by decide) (fun c_1 => ?_) (fun c_1 => ?_)
  · have c_1 : 5 = 16 := (nI_eq (a := 5) (b := 16) (by omega) (by omega)).mp c_1
    exfalso; omega
  · have c_1 : ¬ (5 = 16) := fun z => c_1 ((nI_eq (a := 5) (b := 16) (by omega) (by omega)).mpr z)
    refine lv_aload_n hx hb dX3_failureOf_9 rfl (lv_at hl 0 rfl) ?_
    refine va_calli (va_runV (As := []) (rest := []) ⟨hx, hb, hml, hown, hts⟩ (k_X0_lacksWire (l := l) (D := D) (cI := cI) (cZ := cZ) (cB := cB) (cS := cS) (A := A) κ σ sc ad b 5 hb0 (by decide) ek) (cwV 0 hts gX3_failureOf_X0_lacksWire rfl rfl rfl (by decide +kernel) ⟨Nat.le_of_ble_eq_true rfl, Nat.le_of_ble_eq_true rfl⟩) (gPreV hE hA hS hP (gw_recv hK hP 11 b (cDb (by omega) (by decide) (by decide)) rfl rfl)) rfl rfl hl.1 rfl (lv_room (Nat.le_of_ble_eq_true rfl)) dX3_failureOf_10 ⟨Nat.le_of_ble_eq_true rfl, Nat.le_of_ble_eq_true rfl⟩) hS (fun q _ h9 => h9) (fun q h9 => h9) (fun r_2 u9 t9 H locs ht9 hvm9 hw_r_2 hB9 hz9 hk9 hS => ?_)
    have hP : gw_P D vwCl A (cDm κ) (cEn cI cZ cB cS κ σ sc ad) ad H := by rw [← ht9]; exact hB9
    refine lv_toq ((if lack σ 5 b = true then 1 else 0)) hw_r_2 ?_
    refine lv_if_eq (tgt := 18) hx hb dX3_failureOf_13 (by decide) (fun c_3 => ?_) (fun c_3 => ?_)
    · refine lv_aload_n hx hb dX3_failureOf_18 rfl (lv_at hl 0 rfl) ?_
      refine gw_get (C := RX0) (T := TX0) (N := 11) hx hb hL0 hown hK hP 11 b (cDb (by omega) (by decide) (by decide)) rfl rfl 0 (by decide) (hts (.fieldLink RX3 86 "BlockPrograms$Block" "kind" "I") (by decide +kernel)) (fun _ h9 => h9) (v := .int (nI 5)) (congrArg (fun z : Int32 => some (Value.int z)) ek) dX3_failureOf_19 ?_
      refine lv_lookup (off := 71) (tgt := 93) hx hb dX3_failureOf_22 (by decide) (by decide) (by decide) ?_
      refine lv_iload_n hx hb dX3_failureOf_93 rfl (lv_at hl 2 rfl) ?_
      refine lv_if_ne (tgt := 101) hx hb dX3_failureOf_94 (by decide) (fun c_4 => ?_) (fun c_4 => ?_)
      · refine lv_iconst (v := 0) hx hb dX3_failureOf_101 (by decide) ?_
        have f_0 := lk_f c_3
        have f_1 := c_4
        exact W.iret (v := 0) hx hb hr (fun t ht hW => ⟨⟨0, (), rfl, (by simp [f_fail, f_0, f_1]; try rfl), by rw [← ht] at hP; exact hP⟩, hS.F ht⟩) hS.2.2 dX3_failureOf_102
      · refine lv_iconst (v := 1) hx hb dX3_failureOf_97 (by decide) ?_
        refine lv_goto (tgt := 102) hx hb dX3_failureOf_98 (by decide) ?_
        have f_0 := lk_f c_3
        have f_1 := c_4
        exact W.iret (v := 1) hx hb hr (fun t ht hW => ⟨⟨1, (), rfl, (by simp [f_fail, f_0, f_1]; try rfl), by rw [← ht] at hP; exact hP⟩, hS.F ht⟩) hS.2.2 dX3_failureOf_102
    · refine lv_iconst (v := 3) hx hb dX3_failureOf_16 (by decide) ?_
      have f_0 := lk_t c_3
      exact W.iret (v := 3) hx hb hr (fun t ht hW => ⟨⟨3, (), rfl, (by simp [f_fail, f_0]; try rfl), by rw [← ht] at hP; exact hP⟩, hS.F ht⟩) hS.2.2 dX3_failureOf_17

set_option maxHeartbeats 4000000 in
set_option maxRecDepth 100000 in
theorem k_X3_fail_6 {l : Launch} {D : va_G} {cI cZ cB cS : ClassId} {A : Nat → Prop} (κ : Nat → Nat) (σ sc : Nat → Nat → Int32) (ad : Nat → Nat → Nat) (b : Nat) (hb0 : b < κ 0) (ek : σ 0 b = nI 6) (y0 y1 : Int32) : Met l yX3_failureOf wsX3_failureOf ({ frames := 2, cells := 0, slots := 0, locals := 41 } : Room) (gPc D cI cZ cB cS A (cDm κ) (cEn cI cZ cB cS κ σ sc ad) ad [.ref (ad 11 b), .int y0, .int y1]) (va_Qi (fun (r : Int32) (_ : Unit) => r = nI (f_fail σ 6 b y0 y1)) (fun _ t => gw_P D vwCl A (cDm κ) (cEn cI cZ cB cS κ σ sc ad) ad t.heap) A) 0 0 A := by
  refine Met.ofW (cc := cX3_failureOf) (maxL := 3) (ret := (some .int)) (by decide) rfl ?_
  intro p e s m args below meth c s₁ B hml hv
  obtain ⟨rfl, hP, hE, hA⟩ := hv
  have hx := B.exec
  have hb := B.bytes
  have hr := B.returns
  have hts := atoms_spec (ws := wsX3_failureOf) B.pre
  have hown : s.vm.findClass RX3 = some m.cls := findClass_of_methodNamed B.named
  have hlocks := B.notSynchronized
  have hK := hE.1
  have hS : va_S A s.heap s.heap [] := va_S.rf
  have hL0 := fun w (hw : w ∈ u_ws RX0 TX0 11) => hts w (iL_X3_failureOf_X0 w hw)
  have hl := lv_entry ([.ref (ad 11 b), .int y0, .int y1]) (n := 3) (Nat.le_of_ble_eq_true rfl)
  rw [lg_entry_eq]
  generalize (lg_sl ([.ref (ad 11 b), .int y0, .int y1]) ++ List.replicate (3 - (lg_sl ([.ref (ad 11 b), .int y0, .int y1])).length) Slot.unset).toArray = ls at hl ⊢
  have hl : lv_has ls 3 [(0, .ref (ad 11 b)), (1, .int y0), (2, .int y1)] := hl
  refine lv_aload_n hx hb dX3_failureOf_0 rfl (lv_at hl 0 rfl) ?_
  refine gw_get (C := RX0) (T := TX0) (N := 11) hx hb hL0 hown hK hP 11 b (cDb (by omega) (by decide) (by decide)) rfl rfl 0 (by decide) (hts (.fieldLink RX3 86 "BlockPrograms$Block" "kind" "I") (by decide +kernel)) (fun _ h9 => h9) (v := .int (nI 6)) (congrArg (fun z : Int32 => some (Value.int z)) ek) dX3_failureOf_1 ?_
  refine lv_bipush (v := 16) hx hb dX3_failureOf_4 (by decide) ?_
  refine lv_icmp_eq (tgt := 18) hx hb dX3_failureOf_6 (by decide) (fun c_1 => ?_) (fun c_1 => ?_)
  · have c_1 : 6 = 16 := (nI_eq (a := 6) (b := 16) (by omega) (by omega)).mp c_1
    exfalso; omega
  · have c_1 : ¬ (6 = 16) := fun z => c_1 ((nI_eq (a := 6) (b := 16) (by omega) (by omega)).mpr z)
    refine lv_aload_n hx hb dX3_failureOf_9 rfl (lv_at hl 0 rfl) ?_
    refine va_calli (va_runV (As := []) (rest := []) ⟨hx, hb, hml, hown, hts⟩ (k_X0_lacksWire (l := l) (D := D) (cI := cI) (cZ := cZ) (cB := cB) (cS := cS) (A := A) κ σ sc ad b 6 hb0 (by decide) ek) (cwV 0 hts gX3_failureOf_X0_lacksWire rfl rfl rfl (by decide +kernel) ⟨Nat.le_of_ble_eq_true rfl, Nat.le_of_ble_eq_true rfl⟩) (gPreV hE hA hS hP (gw_recv hK hP 11 b (cDb (by omega) (by decide) (by decide)) rfl rfl)) rfl rfl hl.1 rfl (lv_room (Nat.le_of_ble_eq_true rfl)) dX3_failureOf_10 ⟨Nat.le_of_ble_eq_true rfl, Nat.le_of_ble_eq_true rfl⟩) hS (fun q _ h9 => h9) (fun q h9 => h9) (fun r_2 u9 t9 H locs ht9 hvm9 hw_r_2 hB9 hz9 hk9 hS => ?_)
    have hP : gw_P D vwCl A (cDm κ) (cEn cI cZ cB cS κ σ sc ad) ad H := by rw [← ht9]; exact hB9
    refine lv_toq ((if lack σ 6 b = true then 1 else 0)) hw_r_2 ?_
    refine lv_if_eq (tgt := 18) hx hb dX3_failureOf_13 (by decide) (fun c_3 => ?_) (fun c_3 => ?_)
    · refine lv_aload_n hx hb dX3_failureOf_18 rfl (lv_at hl 0 rfl) ?_
      refine gw_get (C := RX0) (T := TX0) (N := 11) hx hb hL0 hown hK hP 11 b (cDb (by omega) (by decide) (by decide)) rfl rfl 0 (by decide) (hts (.fieldLink RX3 86 "BlockPrograms$Block" "kind" "I") (by decide +kernel)) (fun _ h9 => h9) (v := .int (nI 6)) (congrArg (fun z : Int32 => some (Value.int z)) ek) dX3_failureOf_19 ?_
      refine lv_lookup (off := 71) (tgt := 93) hx hb dX3_failureOf_22 (by decide) (by decide) (by decide) ?_
      refine lv_iload_n hx hb dX3_failureOf_93 rfl (lv_at hl 2 rfl) ?_
      refine lv_if_ne (tgt := 101) hx hb dX3_failureOf_94 (by decide) (fun c_4 => ?_) (fun c_4 => ?_)
      · refine lv_iconst (v := 0) hx hb dX3_failureOf_101 (by decide) ?_
        have f_0 := lk_f c_3
        have f_1 := c_4
        exact W.iret (v := 0) hx hb hr (fun t ht hW => ⟨⟨0, (), rfl, (by simp [f_fail, f_0, f_1]; try rfl), by rw [← ht] at hP; exact hP⟩, hS.F ht⟩) hS.2.2 dX3_failureOf_102
      · refine lv_iconst (v := 1) hx hb dX3_failureOf_97 (by decide) ?_
        refine lv_goto (tgt := 102) hx hb dX3_failureOf_98 (by decide) ?_
        have f_0 := lk_f c_3
        have f_1 := c_4
        exact W.iret (v := 1) hx hb hr (fun t ht hW => ⟨⟨1, (), rfl, (by simp [f_fail, f_0, f_1]; try rfl), by rw [← ht] at hP; exact hP⟩, hS.F ht⟩) hS.2.2 dX3_failureOf_102
    · refine lv_iconst (v := 3) hx hb dX3_failureOf_16 (by decide) ?_
      have f_0 := lk_t c_3
      exact W.iret (v := 3) hx hb hr (fun t ht hW => ⟨⟨3, (), rfl, (by simp [f_fail, f_0]; try rfl), by rw [← ht] at hP; exact hP⟩, hS.F ht⟩) hS.2.2 dX3_failureOf_17

set_option maxHeartbeats 4000000 in
set_option maxRecDepth 100000 in
theorem k_X3_fail_7 {l : Launch} {D : va_G} {cI cZ cB cS : ClassId} {A : Nat → Prop} (κ : Nat → Nat) (σ sc : Nat → Nat → Int32) (ad : Nat → Nat → Nat) (b : Nat) (hb0 : b < κ 0) (ek : σ 0 b = nI 7) (y0 y1 : Int32) : Met l yX3_failureOf wsX3_failureOf ({ frames := 2, cells := 0, slots := 0, locals := 41 } : Room) (gPc D cI cZ cB cS A (cDm κ) (cEn cI cZ cB cS κ σ sc ad) ad [.ref (ad 11 b), .int y0, .int y1]) (va_Qi (fun (r : Int32) (_ : Unit) => r = nI (f_fail σ 7 b y0 y1)) (fun _ t => gw_P D vwCl A (cDm κ) (cEn cI cZ cB cS κ σ sc ad) ad t.heap) A) 0 0 A := by
  refine Met.ofW (cc := cX3_failureOf) (maxL := 3) (ret := (some .int)) (by decide) rfl ?_
  intro p e s m args below meth c s₁ B hml hv
  obtain ⟨rfl, hP, hE, hA⟩ := hv
  have hx := B.exec
  have hb := B.bytes
  have hr := B.returns
  have hts := atoms_spec (ws := wsX3_failureOf) B.pre
  have hown : s.vm.findClass RX3 = some m.cls := findClass_of_methodNamed B.named
  have hlocks := B.notSynchronized
  have hK := hE.1
  have hS : va_S A s.heap s.heap [] := va_S.rf
  have hL0 := fun w (hw : w ∈ u_ws RX0 TX0 11) => hts w (iL_X3_failureOf_X0 w hw)
  have hl := lv_entry ([.ref (ad 11 b), .int y0, .int y1]) (n := 3) (Nat.le_of_ble_eq_true rfl)
  rw [lg_entry_eq]
  generalize (lg_sl ([.ref (ad 11 b), .int y0, .int y1]) ++ List.replicate (3 - (lg_sl ([.ref (ad 11 b), .int y0, .int y1])).length) Slot.unset).toArray = ls at hl ⊢
  have hl : lv_has ls 3 [(0, .ref (ad 11 b)), (1, .int y0), (2, .int y1)] := hl
  refine lv_aload_n hx hb dX3_failureOf_0 rfl (lv_at hl 0 rfl) ?_
  refine gw_get (C := RX0) (T := TX0) (N := 11) hx hb hL0 hown hK hP 11 b (cDb (by omega) (by decide) (by decide)) rfl rfl 0 (by decide) (hts (.fieldLink RX3 86 "BlockPrograms$Block" "kind" "I") (by decide +kernel)) (fun _ h9 => h9) (v := .int (nI 7)) (congrArg (fun z : Int32 => some (Value.int z)) ek) dX3_failureOf_1 ?_
  refine lv_bipush (v := 16) hx hb dX3_failureOf_4 (by decide) ?_
  refine lv_icmp_eq (tgt := 18) hx hb dX3_failureOf_6 (by decide) (fun c_1 => ?_) (fun c_1 => ?_)
  · have c_1 : 7 = 16 := (nI_eq (a := 7) (b := 16) (by omega) (by omega)).mp c_1
    exfalso; omega
  · have c_1 : ¬ (7 = 16) := fun z => c_1 ((nI_eq (a := 7) (b := 16) (by omega) (by omega)).mpr z)
    refine lv_aload_n hx hb dX3_failureOf_9 rfl (lv_at hl 0 rfl) ?_
    refine va_calli (va_runV (As := []) (rest := []) ⟨hx, hb, hml, hown, hts⟩ (k_X0_lacksWire (l := l) (D := D) (cI := cI) (cZ := cZ) (cB := cB) (cS := cS) (A := A) κ σ sc ad b 7 hb0 (by decide) ek) (cwV 0 hts gX3_failureOf_X0_lacksWire rfl rfl rfl (by decide +kernel) ⟨Nat.le_of_ble_eq_true rfl, Nat.le_of_ble_eq_true rfl⟩) (gPreV hE hA hS hP (gw_recv hK hP 11 b (cDb (by omega) (by decide) (by decide)) rfl rfl)) rfl rfl hl.1 rfl (lv_room (Nat.le_of_ble_eq_true rfl)) dX3_failureOf_10 ⟨Nat.le_of_ble_eq_true rfl, Nat.le_of_ble_eq_true rfl⟩) hS (fun q _ h9 => h9) (fun q h9 => h9) (fun r_2 u9 t9 H locs ht9 hvm9 hw_r_2 hB9 hz9 hk9 hS => ?_)
    have hP : gw_P D vwCl A (cDm κ) (cEn cI cZ cB cS κ σ sc ad) ad H := by rw [← ht9]; exact hB9
    refine lv_toq ((if lack σ 7 b = true then 1 else 0)) hw_r_2 ?_
    refine lv_if_eq (tgt := 18) hx hb dX3_failureOf_13 (by decide) (fun c_3 => ?_) (fun c_3 => ?_)
    · refine lv_aload_n hx hb dX3_failureOf_18 rfl (lv_at hl 0 rfl) ?_
      refine gw_get (C := RX0) (T := TX0) (N := 11) hx hb hL0 hown hK hP 11 b (cDb (by omega) (by decide) (by decide)) rfl rfl 0 (by decide) (hts (.fieldLink RX3 86 "BlockPrograms$Block" "kind" "I") (by decide +kernel)) (fun _ h9 => h9) (v := .int (nI 7)) (congrArg (fun z : Int32 => some (Value.int z)) ek) dX3_failureOf_19 ?_
      refine lv_lookup (off := 81) (tgt := 103) hx hb dX3_failureOf_22 (by decide) (by decide) (by decide) ?_
      refine lv_iconst (v := 0) hx hb dX3_failureOf_103 (by decide) ?_
      have f_0 := lk_f c_3
      exact W.iret (v := 0) hx hb hr (fun t ht hW => ⟨⟨0, (), rfl, (by simp [f_fail, f_0]; try rfl), by rw [← ht] at hP; exact hP⟩, hS.F ht⟩) hS.2.2 dX3_failureOf_104
    · refine lv_iconst (v := 3) hx hb dX3_failureOf_16 (by decide) ?_
      have f_0 := lk_t c_3
      exact W.iret (v := 3) hx hb hr (fun t ht hW => ⟨⟨3, (), rfl, (by simp [f_fail, f_0]; try rfl), by rw [← ht] at hP; exact hP⟩, hS.F ht⟩) hS.2.2 dX3_failureOf_17

set_option maxHeartbeats 4000000 in
set_option maxRecDepth 100000 in
theorem k_X3_fail_8 {l : Launch} {D : va_G} {cI cZ cB cS : ClassId} {A : Nat → Prop} (κ : Nat → Nat) (σ sc : Nat → Nat → Int32) (ad : Nat → Nat → Nat) (b : Nat) (hb0 : b < κ 0) (ek : σ 0 b = nI 8) (y0 y1 : Int32) : Met l yX3_failureOf wsX3_failureOf ({ frames := 2, cells := 0, slots := 0, locals := 41 } : Room) (gPc D cI cZ cB cS A (cDm κ) (cEn cI cZ cB cS κ σ sc ad) ad [.ref (ad 11 b), .int y0, .int y1]) (va_Qi (fun (r : Int32) (_ : Unit) => r = nI (f_fail σ 8 b y0 y1)) (fun _ t => gw_P D vwCl A (cDm κ) (cEn cI cZ cB cS κ σ sc ad) ad t.heap) A) 0 0 A := by
  refine Met.ofW (cc := cX3_failureOf) (maxL := 3) (ret := (some .int)) (by decide) rfl ?_
  intro p e s m args below meth c s₁ B hml hv
  obtain ⟨rfl, hP, hE, hA⟩ := hv
  have hx := B.exec
  have hb := B.bytes
  have hr := B.returns
  have hts := atoms_spec (ws := wsX3_failureOf) B.pre
  have hown : s.vm.findClass RX3 = some m.cls := findClass_of_methodNamed B.named
  have hlocks := B.notSynchronized
  have hK := hE.1
  have hS : va_S A s.heap s.heap [] := va_S.rf
  have hL0 := fun w (hw : w ∈ u_ws RX0 TX0 11) => hts w (iL_X3_failureOf_X0 w hw)
  have hl := lv_entry ([.ref (ad 11 b), .int y0, .int y1]) (n := 3) (Nat.le_of_ble_eq_true rfl)
  rw [lg_entry_eq]
  generalize (lg_sl ([.ref (ad 11 b), .int y0, .int y1]) ++ List.replicate (3 - (lg_sl ([.ref (ad 11 b), .int y0, .int y1])).length) Slot.unset).toArray = ls at hl ⊢
  have hl : lv_has ls 3 [(0, .ref (ad 11 b)), (1, .int y0), (2, .int y1)] := hl
  refine lv_aload_n hx hb dX3_failureOf_0 rfl (lv_at hl 0 rfl) ?_
  refine gw_get (C := RX0) (T := TX0) (N := 11) hx hb hL0 hown hK hP 11 b (cDb (by omega) (by decide) (by decide)) rfl rfl 0 (by decide) (hts (.fieldLink RX3 86 "BlockPrograms$Block" "kind" "I") (by decide +kernel)) (fun _ h9 => h9) (v := .int (nI 8)) (congrArg (fun z : Int32 => some (Value.int z)) ek) dX3_failureOf_1 ?_
  refine lv_bipush (v := 16) hx hb dX3_failureOf_4 (by decide) ?_
  refine lv_icmp_eq (tgt := 18) hx hb dX3_failureOf_6 (by decide) (fun c_1 => ?_) (fun c_1 => ?_)
  · have c_1 : 8 = 16 := (nI_eq (a := 8) (b := 16) (by omega) (by omega)).mp c_1
    exfalso; omega
  · have c_1 : ¬ (8 = 16) := fun z => c_1 ((nI_eq (a := 8) (b := 16) (by omega) (by omega)).mpr z)
    refine lv_aload_n hx hb dX3_failureOf_9 rfl (lv_at hl 0 rfl) ?_
    refine va_calli (va_runV (As := []) (rest := []) ⟨hx, hb, hml, hown, hts⟩ (k_X0_lacksWire (l := l) (D := D) (cI := cI) (cZ := cZ) (cB := cB) (cS := cS) (A := A) κ σ sc ad b 8 hb0 (by decide) ek) (cwV 0 hts gX3_failureOf_X0_lacksWire rfl rfl rfl (by decide +kernel) ⟨Nat.le_of_ble_eq_true rfl, Nat.le_of_ble_eq_true rfl⟩) (gPreV hE hA hS hP (gw_recv hK hP 11 b (cDb (by omega) (by decide) (by decide)) rfl rfl)) rfl rfl hl.1 rfl (lv_room (Nat.le_of_ble_eq_true rfl)) dX3_failureOf_10 ⟨Nat.le_of_ble_eq_true rfl, Nat.le_of_ble_eq_true rfl⟩) hS (fun q _ h9 => h9) (fun q h9 => h9) (fun r_2 u9 t9 H locs ht9 hvm9 hw_r_2 hB9 hz9 hk9 hS => ?_)
    have hP : gw_P D vwCl A (cDm κ) (cEn cI cZ cB cS κ σ sc ad) ad H := by rw [← ht9]; exact hB9
    refine lv_toq ((if lack σ 8 b = true then 1 else 0)) hw_r_2 ?_
    refine lv_if_eq (tgt := 18) hx hb dX3_failureOf_13 (by decide) (fun c_3 => ?_) (fun c_3 => ?_)
    · refine lv_aload_n hx hb dX3_failureOf_18 rfl (lv_at hl 0 rfl) ?_
      refine gw_get (C := RX0) (T := TX0) (N := 11) hx hb hL0 hown hK hP 11 b (cDb (by omega) (by decide) (by decide)) rfl rfl 0 (by decide) (hts (.fieldLink RX3 86 "BlockPrograms$Block" "kind" "I") (by decide +kernel)) (fun _ h9 => h9) (v := .int (nI 8)) (congrArg (fun z : Int32 => some (Value.int z)) ek) dX3_failureOf_19 ?_
      refine lv_lookup (off := 81) (tgt := 103) hx hb dX3_failureOf_22 (by decide) (by decide) (by decide) ?_
      refine lv_iconst (v := 0) hx hb dX3_failureOf_103 (by decide) ?_
      have f_0 := lk_f c_3
      exact W.iret (v := 0) hx hb hr (fun t ht hW => ⟨⟨0, (), rfl, (by simp [f_fail, f_0]; try rfl), by rw [← ht] at hP; exact hP⟩, hS.F ht⟩) hS.2.2 dX3_failureOf_104
    · refine lv_iconst (v := 3) hx hb dX3_failureOf_16 (by decide) ?_
      have f_0 := lk_t c_3
      exact W.iret (v := 3) hx hb hr (fun t ht hW => ⟨⟨3, (), rfl, (by simp [f_fail, f_0]; try rfl), by rw [← ht] at hP; exact hP⟩, hS.F ht⟩) hS.2.2 dX3_failureOf_17

set_option maxHeartbeats 4000000 in
set_option maxRecDepth 100000 in
theorem k_X3_fail_9 {l : Launch} {D : va_G} {cI cZ cB cS : ClassId} {A : Nat → Prop} (κ : Nat → Nat) (σ sc : Nat → Nat → Int32) (ad : Nat → Nat → Nat) (b : Nat) (hb0 : b < κ 0) (ek : σ 0 b = nI 9) (y0 y1 : Int32) : Met l yX3_failureOf wsX3_failureOf ({ frames := 2, cells := 0, slots := 0, locals := 41 } : Room) (gPc D cI cZ cB cS A (cDm κ) (cEn cI cZ cB cS κ σ sc ad) ad [.ref (ad 11 b), .int y0, .int y1]) (va_Qi (fun (r : Int32) (_ : Unit) => r = nI (f_fail σ 9 b y0 y1)) (fun _ t => gw_P D vwCl A (cDm κ) (cEn cI cZ cB cS κ σ sc ad) ad t.heap) A) 0 0 A := by
  refine Met.ofW (cc := cX3_failureOf) (maxL := 3) (ret := (some .int)) (by decide) rfl ?_
  intro p e s m args below meth c s₁ B hml hv
  obtain ⟨rfl, hP, hE, hA⟩ := hv
  have hx := B.exec
  have hb := B.bytes
  have hr := B.returns
  have hts := atoms_spec (ws := wsX3_failureOf) B.pre
  have hown : s.vm.findClass RX3 = some m.cls := findClass_of_methodNamed B.named
  have hlocks := B.notSynchronized
  have hK := hE.1
  have hS : va_S A s.heap s.heap [] := va_S.rf
  have hL0 := fun w (hw : w ∈ u_ws RX0 TX0 11) => hts w (iL_X3_failureOf_X0 w hw)
  have hl := lv_entry ([.ref (ad 11 b), .int y0, .int y1]) (n := 3) (Nat.le_of_ble_eq_true rfl)
  rw [lg_entry_eq]
  generalize (lg_sl ([.ref (ad 11 b), .int y0, .int y1]) ++ List.replicate (3 - (lg_sl ([.ref (ad 11 b), .int y0, .int y1])).length) Slot.unset).toArray = ls at hl ⊢
  have hl : lv_has ls 3 [(0, .ref (ad 11 b)), (1, .int y0), (2, .int y1)] := hl
  refine lv_aload_n hx hb dX3_failureOf_0 rfl (lv_at hl 0 rfl) ?_
  refine gw_get (C := RX0) (T := TX0) (N := 11) hx hb hL0 hown hK hP 11 b (cDb (by omega) (by decide) (by decide)) rfl rfl 0 (by decide) (hts (.fieldLink RX3 86 "BlockPrograms$Block" "kind" "I") (by decide +kernel)) (fun _ h9 => h9) (v := .int (nI 9)) (congrArg (fun z : Int32 => some (Value.int z)) ek) dX3_failureOf_1 ?_
  refine lv_bipush (v := 16) hx hb dX3_failureOf_4 (by decide) ?_
  refine lv_icmp_eq (tgt := 18) hx hb dX3_failureOf_6 (by decide) (fun c_1 => ?_) (fun c_1 => ?_)
  · have c_1 : 9 = 16 := (nI_eq (a := 9) (b := 16) (by omega) (by omega)).mp c_1
    exfalso; omega
  · have c_1 : ¬ (9 = 16) := fun z => c_1 ((nI_eq (a := 9) (b := 16) (by omega) (by omega)).mpr z)
    refine lv_aload_n hx hb dX3_failureOf_9 rfl (lv_at hl 0 rfl) ?_
    refine va_calli (va_runV (As := []) (rest := []) ⟨hx, hb, hml, hown, hts⟩ (k_X0_lacksWire (l := l) (D := D) (cI := cI) (cZ := cZ) (cB := cB) (cS := cS) (A := A) κ σ sc ad b 9 hb0 (by decide) ek) (cwV 0 hts gX3_failureOf_X0_lacksWire rfl rfl rfl (by decide +kernel) ⟨Nat.le_of_ble_eq_true rfl, Nat.le_of_ble_eq_true rfl⟩) (gPreV hE hA hS hP (gw_recv hK hP 11 b (cDb (by omega) (by decide) (by decide)) rfl rfl)) rfl rfl hl.1 rfl (lv_room (Nat.le_of_ble_eq_true rfl)) dX3_failureOf_10 ⟨Nat.le_of_ble_eq_true rfl, Nat.le_of_ble_eq_true rfl⟩) hS (fun q _ h9 => h9) (fun q h9 => h9) (fun r_2 u9 t9 H locs ht9 hvm9 hw_r_2 hB9 hz9 hk9 hS => ?_)
    have hP : gw_P D vwCl A (cDm κ) (cEn cI cZ cB cS κ σ sc ad) ad H := by rw [← ht9]; exact hB9
    refine lv_toq ((if lack σ 9 b = true then 1 else 0)) hw_r_2 ?_
    refine lv_if_eq (tgt := 18) hx hb dX3_failureOf_13 (by decide) (fun c_3 => ?_) (fun c_3 => ?_)
    · refine lv_aload_n hx hb dX3_failureOf_18 rfl (lv_at hl 0 rfl) ?_
      refine gw_get (C := RX0) (T := TX0) (N := 11) hx hb hL0 hown hK hP 11 b (cDb (by omega) (by decide) (by decide)) rfl rfl 0 (by decide) (hts (.fieldLink RX3 86 "BlockPrograms$Block" "kind" "I") (by decide +kernel)) (fun _ h9 => h9) (v := .int (nI 9)) (congrArg (fun z : Int32 => some (Value.int z)) ek) dX3_failureOf_19 ?_
      refine lv_lookup (off := 81) (tgt := 103) hx hb dX3_failureOf_22 (by decide) (by decide) (by decide) ?_
      refine lv_iconst (v := 0) hx hb dX3_failureOf_103 (by decide) ?_
      have f_0 := lk_f c_3
      exact W.iret (v := 0) hx hb hr (fun t ht hW => ⟨⟨0, (), rfl, (by simp [f_fail, f_0]; try rfl), by rw [← ht] at hP; exact hP⟩, hS.F ht⟩) hS.2.2 dX3_failureOf_104
    · refine lv_iconst (v := 3) hx hb dX3_failureOf_16 (by decide) ?_
      have f_0 := lk_t c_3
      exact W.iret (v := 3) hx hb hr (fun t ht hW => ⟨⟨3, (), rfl, (by simp [f_fail, f_0]; try rfl), by rw [← ht] at hP; exact hP⟩, hS.F ht⟩) hS.2.2 dX3_failureOf_17

set_option maxHeartbeats 4000000 in
set_option maxRecDepth 100000 in
theorem k_X3_fail_10 {l : Launch} {D : va_G} {cI cZ cB cS : ClassId} {A : Nat → Prop} (κ : Nat → Nat) (σ sc : Nat → Nat → Int32) (ad : Nat → Nat → Nat) (b : Nat) (hb0 : b < κ 0) (ek : σ 0 b = nI 10) (y0 y1 : Int32) : Met l yX3_failureOf wsX3_failureOf ({ frames := 2, cells := 0, slots := 0, locals := 41 } : Room) (gPc D cI cZ cB cS A (cDm κ) (cEn cI cZ cB cS κ σ sc ad) ad [.ref (ad 11 b), .int y0, .int y1]) (va_Qi (fun (r : Int32) (_ : Unit) => r = nI (f_fail σ 10 b y0 y1)) (fun _ t => gw_P D vwCl A (cDm κ) (cEn cI cZ cB cS κ σ sc ad) ad t.heap) A) 0 0 A := by
  refine Met.ofW (cc := cX3_failureOf) (maxL := 3) (ret := (some .int)) (by decide) rfl ?_
  intro p e s m args below meth c s₁ B hml hv
  obtain ⟨rfl, hP, hE, hA⟩ := hv
  have hx := B.exec
  have hb := B.bytes
  have hr := B.returns
  have hts := atoms_spec (ws := wsX3_failureOf) B.pre
  have hown : s.vm.findClass RX3 = some m.cls := findClass_of_methodNamed B.named
  have hlocks := B.notSynchronized
  have hK := hE.1
  have hS : va_S A s.heap s.heap [] := va_S.rf
  have hL0 := fun w (hw : w ∈ u_ws RX0 TX0 11) => hts w (iL_X3_failureOf_X0 w hw)
  have hl := lv_entry ([.ref (ad 11 b), .int y0, .int y1]) (n := 3) (Nat.le_of_ble_eq_true rfl)
  rw [lg_entry_eq]
  generalize (lg_sl ([.ref (ad 11 b), .int y0, .int y1]) ++ List.replicate (3 - (lg_sl ([.ref (ad 11 b), .int y0, .int y1])).length) Slot.unset).toArray = ls at hl ⊢
  have hl : lv_has ls 3 [(0, .ref (ad 11 b)), (1, .int y0), (2, .int y1)] := hl
  refine lv_aload_n hx hb dX3_failureOf_0 rfl (lv_at hl 0 rfl) ?_
  refine gw_get (C := RX0) (T := TX0) (N := 11) hx hb hL0 hown hK hP 11 b (cDb (by omega) (by decide) (by decide)) rfl rfl 0 (by decide) (hts (.fieldLink RX3 86 "BlockPrograms$Block" "kind" "I") (by decide +kernel)) (fun _ h9 => h9) (v := .int (nI 10)) (congrArg (fun z : Int32 => some (Value.int z)) ek) dX3_failureOf_1 ?_
  refine lv_bipush (v := 16) hx hb dX3_failureOf_4 (by decide) ?_
  refine lv_icmp_eq (tgt := 18) hx hb dX3_failureOf_6 (by decide) (fun c_1 => ?_) (fun c_1 => ?_)
  · have c_1 : 10 = 16 := (nI_eq (a := 10) (b := 16) (by omega) (by omega)).mp c_1
    exfalso; omega
  · have c_1 : ¬ (10 = 16) := fun z => c_1 ((nI_eq (a := 10) (b := 16) (by omega) (by omega)).mpr z)
    refine lv_aload_n hx hb dX3_failureOf_9 rfl (lv_at hl 0 rfl) ?_
    refine va_calli (va_runV (As := []) (rest := []) ⟨hx, hb, hml, hown, hts⟩ (k_X0_lacksWire (l := l) (D := D) (cI := cI) (cZ := cZ) (cB := cB) (cS := cS) (A := A) κ σ sc ad b 10 hb0 (by decide) ek) (cwV 0 hts gX3_failureOf_X0_lacksWire rfl rfl rfl (by decide +kernel) ⟨Nat.le_of_ble_eq_true rfl, Nat.le_of_ble_eq_true rfl⟩) (gPreV hE hA hS hP (gw_recv hK hP 11 b (cDb (by omega) (by decide) (by decide)) rfl rfl)) rfl rfl hl.1 rfl (lv_room (Nat.le_of_ble_eq_true rfl)) dX3_failureOf_10 ⟨Nat.le_of_ble_eq_true rfl, Nat.le_of_ble_eq_true rfl⟩) hS (fun q _ h9 => h9) (fun q h9 => h9) (fun r_2 u9 t9 H locs ht9 hvm9 hw_r_2 hB9 hz9 hk9 hS => ?_)
    have hP : gw_P D vwCl A (cDm κ) (cEn cI cZ cB cS κ σ sc ad) ad H := by rw [← ht9]; exact hB9
    refine lv_toq ((if lack σ 10 b = true then 1 else 0)) hw_r_2 ?_
    refine lv_if_eq (tgt := 18) hx hb dX3_failureOf_13 (by decide) (fun c_3 => ?_) (fun c_3 => ?_)
    · refine lv_aload_n hx hb dX3_failureOf_18 rfl (lv_at hl 0 rfl) ?_
      refine gw_get (C := RX0) (T := TX0) (N := 11) hx hb hL0 hown hK hP 11 b (cDb (by omega) (by decide) (by decide)) rfl rfl 0 (by decide) (hts (.fieldLink RX3 86 "BlockPrograms$Block" "kind" "I") (by decide +kernel)) (fun _ h9 => h9) (v := .int (nI 10)) (congrArg (fun z : Int32 => some (Value.int z)) ek) dX3_failureOf_19 ?_
      refine lv_lookup (off := 81) (tgt := 103) hx hb dX3_failureOf_22 (by decide) (by decide) (by decide) ?_
      refine lv_iconst (v := 0) hx hb dX3_failureOf_103 (by decide) ?_
      have f_0 := lk_f c_3
      exact W.iret (v := 0) hx hb hr (fun t ht hW => ⟨⟨0, (), rfl, (by simp [f_fail, f_0]; try rfl), by rw [← ht] at hP; exact hP⟩, hS.F ht⟩) hS.2.2 dX3_failureOf_104
    · refine lv_iconst (v := 3) hx hb dX3_failureOf_16 (by decide) ?_
      have f_0 := lk_t c_3
      exact W.iret (v := 3) hx hb hr (fun t ht hW => ⟨⟨3, (), rfl, (by simp [f_fail, f_0]; try rfl), by rw [← ht] at hP; exact hP⟩, hS.F ht⟩) hS.2.2 dX3_failureOf_17

set_option maxHeartbeats 4000000 in
set_option maxRecDepth 100000 in
theorem k_X3_fail_11 {l : Launch} {D : va_G} {cI cZ cB cS : ClassId} {A : Nat → Prop} (κ : Nat → Nat) (σ sc : Nat → Nat → Int32) (ad : Nat → Nat → Nat) (b : Nat) (hb0 : b < κ 0) (ek : σ 0 b = nI 11) (y0 y1 : Int32) : Met l yX3_failureOf wsX3_failureOf ({ frames := 2, cells := 0, slots := 0, locals := 41 } : Room) (gPc D cI cZ cB cS A (cDm κ) (cEn cI cZ cB cS κ σ sc ad) ad [.ref (ad 11 b), .int y0, .int y1]) (va_Qi (fun (r : Int32) (_ : Unit) => r = nI (f_fail σ 11 b y0 y1)) (fun _ t => gw_P D vwCl A (cDm κ) (cEn cI cZ cB cS κ σ sc ad) ad t.heap) A) 0 0 A := by
  refine Met.ofW (cc := cX3_failureOf) (maxL := 3) (ret := (some .int)) (by decide) rfl ?_
  intro p e s m args below meth c s₁ B hml hv
  obtain ⟨rfl, hP, hE, hA⟩ := hv
  have hx := B.exec
  have hb := B.bytes
  have hr := B.returns
  have hts := atoms_spec (ws := wsX3_failureOf) B.pre
  have hown : s.vm.findClass RX3 = some m.cls := findClass_of_methodNamed B.named
  have hlocks := B.notSynchronized
  have hK := hE.1
  have hS : va_S A s.heap s.heap [] := va_S.rf
  have hL0 := fun w (hw : w ∈ u_ws RX0 TX0 11) => hts w (iL_X3_failureOf_X0 w hw)
  have hl := lv_entry ([.ref (ad 11 b), .int y0, .int y1]) (n := 3) (Nat.le_of_ble_eq_true rfl)
  rw [lg_entry_eq]
  generalize (lg_sl ([.ref (ad 11 b), .int y0, .int y1]) ++ List.replicate (3 - (lg_sl ([.ref (ad 11 b), .int y0, .int y1])).length) Slot.unset).toArray = ls at hl ⊢
  have hl : lv_has ls 3 [(0, .ref (ad 11 b)), (1, .int y0), (2, .int y1)] := hl
  refine lv_aload_n hx hb dX3_failureOf_0 rfl (lv_at hl 0 rfl) ?_
  refine gw_get (C := RX0) (T := TX0) (N := 11) hx hb hL0 hown hK hP 11 b (cDb (by omega) (by decide) (by decide)) rfl rfl 0 (by decide) (hts (.fieldLink RX3 86 "BlockPrograms$Block" "kind" "I") (by decide +kernel)) (fun _ h9 => h9) (v := .int (nI 11)) (congrArg (fun z : Int32 => some (Value.int z)) ek) dX3_failureOf_1 ?_
  refine lv_bipush (v := 16) hx hb dX3_failureOf_4 (by decide) ?_
  refine lv_icmp_eq (tgt := 18) hx hb dX3_failureOf_6 (by decide) (fun c_1 => ?_) (fun c_1 => ?_)
  · have c_1 : 11 = 16 := (nI_eq (a := 11) (b := 16) (by omega) (by omega)).mp c_1
    exfalso; omega
  · have c_1 : ¬ (11 = 16) := fun z => c_1 ((nI_eq (a := 11) (b := 16) (by omega) (by omega)).mpr z)
    refine lv_aload_n hx hb dX3_failureOf_9 rfl (lv_at hl 0 rfl) ?_
    refine va_calli (va_runV (As := []) (rest := []) ⟨hx, hb, hml, hown, hts⟩ (k_X0_lacksWire (l := l) (D := D) (cI := cI) (cZ := cZ) (cB := cB) (cS := cS) (A := A) κ σ sc ad b 11 hb0 (by decide) ek) (cwV 0 hts gX3_failureOf_X0_lacksWire rfl rfl rfl (by decide +kernel) ⟨Nat.le_of_ble_eq_true rfl, Nat.le_of_ble_eq_true rfl⟩) (gPreV hE hA hS hP (gw_recv hK hP 11 b (cDb (by omega) (by decide) (by decide)) rfl rfl)) rfl rfl hl.1 rfl (lv_room (Nat.le_of_ble_eq_true rfl)) dX3_failureOf_10 ⟨Nat.le_of_ble_eq_true rfl, Nat.le_of_ble_eq_true rfl⟩) hS (fun q _ h9 => h9) (fun q h9 => h9) (fun r_2 u9 t9 H locs ht9 hvm9 hw_r_2 hB9 hz9 hk9 hS => ?_)
    have hP : gw_P D vwCl A (cDm κ) (cEn cI cZ cB cS κ σ sc ad) ad H := by rw [← ht9]; exact hB9
    refine lv_toq ((if lack σ 11 b = true then 1 else 0)) hw_r_2 ?_
    refine lv_if_eq (tgt := 18) hx hb dX3_failureOf_13 (by decide) (fun c_3 => ?_) (fun c_3 => ?_)
    · refine lv_aload_n hx hb dX3_failureOf_18 rfl (lv_at hl 0 rfl) ?_
      refine gw_get (C := RX0) (T := TX0) (N := 11) hx hb hL0 hown hK hP 11 b (cDb (by omega) (by decide) (by decide)) rfl rfl 0 (by decide) (hts (.fieldLink RX3 86 "BlockPrograms$Block" "kind" "I") (by decide +kernel)) (fun _ h9 => h9) (v := .int (nI 11)) (congrArg (fun z : Int32 => some (Value.int z)) ek) dX3_failureOf_19 ?_
      refine lv_lookup (off := 81) (tgt := 103) hx hb dX3_failureOf_22 (by decide) (by decide) (by decide) ?_
      refine lv_iconst (v := 0) hx hb dX3_failureOf_103 (by decide) ?_
      have f_0 := lk_f c_3
      exact W.iret (v := 0) hx hb hr (fun t ht hW => ⟨⟨0, (), rfl, (by simp [f_fail, f_0]; try rfl), by rw [← ht] at hP; exact hP⟩, hS.F ht⟩) hS.2.2 dX3_failureOf_104
    · refine lv_iconst (v := 3) hx hb dX3_failureOf_16 (by decide) ?_
      have f_0 := lk_t c_3
      exact W.iret (v := 3) hx hb hr (fun t ht hW => ⟨⟨3, (), rfl, (by simp [f_fail, f_0]; try rfl), by rw [← ht] at hP; exact hP⟩, hS.F ht⟩) hS.2.2 dX3_failureOf_17

set_option maxHeartbeats 4000000 in
set_option maxRecDepth 100000 in
theorem k_X3_fail_12 {l : Launch} {D : va_G} {cI cZ cB cS : ClassId} {A : Nat → Prop} (κ : Nat → Nat) (σ sc : Nat → Nat → Int32) (ad : Nat → Nat → Nat) (b : Nat) (hb0 : b < κ 0) (ek : σ 0 b = nI 12) (y0 y1 : Int32) : Met l yX3_failureOf wsX3_failureOf ({ frames := 2, cells := 0, slots := 0, locals := 41 } : Room) (gPc D cI cZ cB cS A (cDm κ) (cEn cI cZ cB cS κ σ sc ad) ad [.ref (ad 11 b), .int y0, .int y1]) (va_Qi (fun (r : Int32) (_ : Unit) => r = nI (f_fail σ 12 b y0 y1)) (fun _ t => gw_P D vwCl A (cDm κ) (cEn cI cZ cB cS κ σ sc ad) ad t.heap) A) 0 0 A := by
  refine Met.ofW (cc := cX3_failureOf) (maxL := 3) (ret := (some .int)) (by decide) rfl ?_
  intro p e s m args below meth c s₁ B hml hv
  obtain ⟨rfl, hP, hE, hA⟩ := hv
  have hx := B.exec
  have hb := B.bytes
  have hr := B.returns
  have hts := atoms_spec (ws := wsX3_failureOf) B.pre
  have hown : s.vm.findClass RX3 = some m.cls := findClass_of_methodNamed B.named
  have hlocks := B.notSynchronized
  have hK := hE.1
  have hS : va_S A s.heap s.heap [] := va_S.rf
  have hL0 := fun w (hw : w ∈ u_ws RX0 TX0 11) => hts w (iL_X3_failureOf_X0 w hw)
  have hl := lv_entry ([.ref (ad 11 b), .int y0, .int y1]) (n := 3) (Nat.le_of_ble_eq_true rfl)
  rw [lg_entry_eq]
  generalize (lg_sl ([.ref (ad 11 b), .int y0, .int y1]) ++ List.replicate (3 - (lg_sl ([.ref (ad 11 b), .int y0, .int y1])).length) Slot.unset).toArray = ls at hl ⊢
  have hl : lv_has ls 3 [(0, .ref (ad 11 b)), (1, .int y0), (2, .int y1)] := hl
  refine lv_aload_n hx hb dX3_failureOf_0 rfl (lv_at hl 0 rfl) ?_
  refine gw_get (C := RX0) (T := TX0) (N := 11) hx hb hL0 hown hK hP 11 b (cDb (by omega) (by decide) (by decide)) rfl rfl 0 (by decide) (hts (.fieldLink RX3 86 "BlockPrograms$Block" "kind" "I") (by decide +kernel)) (fun _ h9 => h9) (v := .int (nI 12)) (congrArg (fun z : Int32 => some (Value.int z)) ek) dX3_failureOf_1 ?_
  refine lv_bipush (v := 16) hx hb dX3_failureOf_4 (by decide) ?_
  refine lv_icmp_eq (tgt := 18) hx hb dX3_failureOf_6 (by decide) (fun c_1 => ?_) (fun c_1 => ?_)
  · have c_1 : 12 = 16 := (nI_eq (a := 12) (b := 16) (by omega) (by omega)).mp c_1
    exfalso; omega
  · have c_1 : ¬ (12 = 16) := fun z => c_1 ((nI_eq (a := 12) (b := 16) (by omega) (by omega)).mpr z)
    refine lv_aload_n hx hb dX3_failureOf_9 rfl (lv_at hl 0 rfl) ?_
    refine va_calli (va_runV (As := []) (rest := []) ⟨hx, hb, hml, hown, hts⟩ (k_X0_lacksWire (l := l) (D := D) (cI := cI) (cZ := cZ) (cB := cB) (cS := cS) (A := A) κ σ sc ad b 12 hb0 (by decide) ek) (cwV 0 hts gX3_failureOf_X0_lacksWire rfl rfl rfl (by decide +kernel) ⟨Nat.le_of_ble_eq_true rfl, Nat.le_of_ble_eq_true rfl⟩) (gPreV hE hA hS hP (gw_recv hK hP 11 b (cDb (by omega) (by decide) (by decide)) rfl rfl)) rfl rfl hl.1 rfl (lv_room (Nat.le_of_ble_eq_true rfl)) dX3_failureOf_10 ⟨Nat.le_of_ble_eq_true rfl, Nat.le_of_ble_eq_true rfl⟩) hS (fun q _ h9 => h9) (fun q h9 => h9) (fun r_2 u9 t9 H locs ht9 hvm9 hw_r_2 hB9 hz9 hk9 hS => ?_)
    have hP : gw_P D vwCl A (cDm κ) (cEn cI cZ cB cS κ σ sc ad) ad H := by rw [← ht9]; exact hB9
    refine lv_toq ((if lack σ 12 b = true then 1 else 0)) hw_r_2 ?_
    refine lv_if_eq (tgt := 18) hx hb dX3_failureOf_13 (by decide) (fun c_3 => ?_) (fun c_3 => ?_)
    · refine lv_aload_n hx hb dX3_failureOf_18 rfl (lv_at hl 0 rfl) ?_
      refine gw_get (C := RX0) (T := TX0) (N := 11) hx hb hL0 hown hK hP 11 b (cDb (by omega) (by decide) (by decide)) rfl rfl 0 (by decide) (hts (.fieldLink RX3 86 "BlockPrograms$Block" "kind" "I") (by decide +kernel)) (fun _ h9 => h9) (v := .int (nI 12)) (congrArg (fun z : Int32 => some (Value.int z)) ek) dX3_failureOf_19 ?_
      refine lv_lookup (off := 81) (tgt := 103) hx hb dX3_failureOf_22 (by decide) (by decide) (by decide) ?_
      refine lv_iconst (v := 0) hx hb dX3_failureOf_103 (by decide) ?_
      have f_0 := lk_f c_3
      exact W.iret (v := 0) hx hb hr (fun t ht hW => ⟨⟨0, (), rfl, (by simp [f_fail, f_0]; try rfl), by rw [← ht] at hP; exact hP⟩, hS.F ht⟩) hS.2.2 dX3_failureOf_104
    · refine lv_iconst (v := 3) hx hb dX3_failureOf_16 (by decide) ?_
      have f_0 := lk_t c_3
      exact W.iret (v := 3) hx hb hr (fun t ht hW => ⟨⟨3, (), rfl, (by simp [f_fail, f_0]; try rfl), by rw [← ht] at hP; exact hP⟩, hS.F ht⟩) hS.2.2 dX3_failureOf_17

set_option maxHeartbeats 4000000 in
set_option maxRecDepth 100000 in
theorem k_X3_fail_13 {l : Launch} {D : va_G} {cI cZ cB cS : ClassId} {A : Nat → Prop} (κ : Nat → Nat) (σ sc : Nat → Nat → Int32) (ad : Nat → Nat → Nat) (b : Nat) (hb0 : b < κ 0) (ek : σ 0 b = nI 13) (y0 y1 : Int32) : Met l yX3_failureOf wsX3_failureOf ({ frames := 2, cells := 0, slots := 0, locals := 41 } : Room) (gPc D cI cZ cB cS A (cDm κ) (cEn cI cZ cB cS κ σ sc ad) ad [.ref (ad 11 b), .int y0, .int y1]) (va_Qi (fun (r : Int32) (_ : Unit) => r = nI (f_fail σ 13 b y0 y1)) (fun _ t => gw_P D vwCl A (cDm κ) (cEn cI cZ cB cS κ σ sc ad) ad t.heap) A) 0 0 A := by
  refine Met.ofW (cc := cX3_failureOf) (maxL := 3) (ret := (some .int)) (by decide) rfl ?_
  intro p e s m args below meth c s₁ B hml hv
  obtain ⟨rfl, hP, hE, hA⟩ := hv
  have hx := B.exec
  have hb := B.bytes
  have hr := B.returns
  have hts := atoms_spec (ws := wsX3_failureOf) B.pre
  have hown : s.vm.findClass RX3 = some m.cls := findClass_of_methodNamed B.named
  have hlocks := B.notSynchronized
  have hK := hE.1
  have hS : va_S A s.heap s.heap [] := va_S.rf
  have hL0 := fun w (hw : w ∈ u_ws RX0 TX0 11) => hts w (iL_X3_failureOf_X0 w hw)
  have hl := lv_entry ([.ref (ad 11 b), .int y0, .int y1]) (n := 3) (Nat.le_of_ble_eq_true rfl)
  rw [lg_entry_eq]
  generalize (lg_sl ([.ref (ad 11 b), .int y0, .int y1]) ++ List.replicate (3 - (lg_sl ([.ref (ad 11 b), .int y0, .int y1])).length) Slot.unset).toArray = ls at hl ⊢
  have hl : lv_has ls 3 [(0, .ref (ad 11 b)), (1, .int y0), (2, .int y1)] := hl
  refine lv_aload_n hx hb dX3_failureOf_0 rfl (lv_at hl 0 rfl) ?_
  refine gw_get (C := RX0) (T := TX0) (N := 11) hx hb hL0 hown hK hP 11 b (cDb (by omega) (by decide) (by decide)) rfl rfl 0 (by decide) (hts (.fieldLink RX3 86 "BlockPrograms$Block" "kind" "I") (by decide +kernel)) (fun _ h9 => h9) (v := .int (nI 13)) (congrArg (fun z : Int32 => some (Value.int z)) ek) dX3_failureOf_1 ?_
  refine lv_bipush (v := 16) hx hb dX3_failureOf_4 (by decide) ?_
  refine lv_icmp_eq (tgt := 18) hx hb dX3_failureOf_6 (by decide) (fun c_1 => ?_) (fun c_1 => ?_)
  · have c_1 : 13 = 16 := (nI_eq (a := 13) (b := 16) (by omega) (by omega)).mp c_1
    exfalso; omega
  · have c_1 : ¬ (13 = 16) := fun z => c_1 ((nI_eq (a := 13) (b := 16) (by omega) (by omega)).mpr z)
    refine lv_aload_n hx hb dX3_failureOf_9 rfl (lv_at hl 0 rfl) ?_
    refine va_calli (va_runV (As := []) (rest := []) ⟨hx, hb, hml, hown, hts⟩ (k_X0_lacksWire (l := l) (D := D) (cI := cI) (cZ := cZ) (cB := cB) (cS := cS) (A := A) κ σ sc ad b 13 hb0 (by decide) ek) (cwV 0 hts gX3_failureOf_X0_lacksWire rfl rfl rfl (by decide +kernel) ⟨Nat.le_of_ble_eq_true rfl, Nat.le_of_ble_eq_true rfl⟩) (gPreV hE hA hS hP (gw_recv hK hP 11 b (cDb (by omega) (by decide) (by decide)) rfl rfl)) rfl rfl hl.1 rfl (lv_room (Nat.le_of_ble_eq_true rfl)) dX3_failureOf_10 ⟨Nat.le_of_ble_eq_true rfl, Nat.le_of_ble_eq_true rfl⟩) hS (fun q _ h9 => h9) (fun q h9 => h9) (fun r_2 u9 t9 H locs ht9 hvm9 hw_r_2 hB9 hz9 hk9 hS => ?_)
    have hP : gw_P D vwCl A (cDm κ) (cEn cI cZ cB cS κ σ sc ad) ad H := by rw [← ht9]; exact hB9
    refine lv_toq ((if lack σ 13 b = true then 1 else 0)) hw_r_2 ?_
    refine lv_if_eq (tgt := 18) hx hb dX3_failureOf_13 (by decide) (fun c_3 => ?_) (fun c_3 => ?_)
    · refine lv_aload_n hx hb dX3_failureOf_18 rfl (lv_at hl 0 rfl) ?_
      refine gw_get (C := RX0) (T := TX0) (N := 11) hx hb hL0 hown hK hP 11 b (cDb (by omega) (by decide) (by decide)) rfl rfl 0 (by decide) (hts (.fieldLink RX3 86 "BlockPrograms$Block" "kind" "I") (by decide +kernel)) (fun _ h9 => h9) (v := .int (nI 13)) (congrArg (fun z : Int32 => some (Value.int z)) ek) dX3_failureOf_19 ?_
      refine lv_lookup (off := 81) (tgt := 103) hx hb dX3_failureOf_22 (by decide) (by decide) (by decide) ?_
      refine lv_iconst (v := 0) hx hb dX3_failureOf_103 (by decide) ?_
      have f_0 := lk_f c_3
      exact W.iret (v := 0) hx hb hr (fun t ht hW => ⟨⟨0, (), rfl, (by simp [f_fail, f_0]; try rfl), by rw [← ht] at hP; exact hP⟩, hS.F ht⟩) hS.2.2 dX3_failureOf_104
    · refine lv_iconst (v := 3) hx hb dX3_failureOf_16 (by decide) ?_
      have f_0 := lk_t c_3
      exact W.iret (v := 3) hx hb hr (fun t ht hW => ⟨⟨3, (), rfl, (by simp [f_fail, f_0]; try rfl), by rw [← ht] at hP; exact hP⟩, hS.F ht⟩) hS.2.2 dX3_failureOf_17

set_option maxHeartbeats 4000000 in
set_option maxRecDepth 100000 in
theorem k_X3_fail_14 {l : Launch} {D : va_G} {cI cZ cB cS : ClassId} {A : Nat → Prop} (κ : Nat → Nat) (σ sc : Nat → Nat → Int32) (ad : Nat → Nat → Nat) (b : Nat) (hb0 : b < κ 0) (ek : σ 0 b = nI 14) (y0 y1 : Int32) : Met l yX3_failureOf wsX3_failureOf ({ frames := 2, cells := 0, slots := 0, locals := 41 } : Room) (gPc D cI cZ cB cS A (cDm κ) (cEn cI cZ cB cS κ σ sc ad) ad [.ref (ad 11 b), .int y0, .int y1]) (va_Qi (fun (r : Int32) (_ : Unit) => r = nI (f_fail σ 14 b y0 y1)) (fun _ t => gw_P D vwCl A (cDm κ) (cEn cI cZ cB cS κ σ sc ad) ad t.heap) A) 0 0 A := by
  refine Met.ofW (cc := cX3_failureOf) (maxL := 3) (ret := (some .int)) (by decide) rfl ?_
  intro p e s m args below meth c s₁ B hml hv
  obtain ⟨rfl, hP, hE, hA⟩ := hv
  have hx := B.exec
  have hb := B.bytes
  have hr := B.returns
  have hts := atoms_spec (ws := wsX3_failureOf) B.pre
  have hown : s.vm.findClass RX3 = some m.cls := findClass_of_methodNamed B.named
  have hlocks := B.notSynchronized
  have hK := hE.1
  have hS : va_S A s.heap s.heap [] := va_S.rf
  have hL0 := fun w (hw : w ∈ u_ws RX0 TX0 11) => hts w (iL_X3_failureOf_X0 w hw)
  have hl := lv_entry ([.ref (ad 11 b), .int y0, .int y1]) (n := 3) (Nat.le_of_ble_eq_true rfl)
  rw [lg_entry_eq]
  generalize (lg_sl ([.ref (ad 11 b), .int y0, .int y1]) ++ List.replicate (3 - (lg_sl ([.ref (ad 11 b), .int y0, .int y1])).length) Slot.unset).toArray = ls at hl ⊢
  have hl : lv_has ls 3 [(0, .ref (ad 11 b)), (1, .int y0), (2, .int y1)] := hl
  refine lv_aload_n hx hb dX3_failureOf_0 rfl (lv_at hl 0 rfl) ?_
  refine gw_get (C := RX0) (T := TX0) (N := 11) hx hb hL0 hown hK hP 11 b (cDb (by omega) (by decide) (by decide)) rfl rfl 0 (by decide) (hts (.fieldLink RX3 86 "BlockPrograms$Block" "kind" "I") (by decide +kernel)) (fun _ h9 => h9) (v := .int (nI 14)) (congrArg (fun z : Int32 => some (Value.int z)) ek) dX3_failureOf_1 ?_
  refine lv_bipush (v := 16) hx hb dX3_failureOf_4 (by decide) ?_
  refine lv_icmp_eq (tgt := 18) hx hb dX3_failureOf_6 (by decide) (fun c_1 => ?_) (fun c_1 => ?_)
  · have c_1 : 14 = 16 := (nI_eq (a := 14) (b := 16) (by omega) (by omega)).mp c_1
    exfalso; omega
  · have c_1 : ¬ (14 = 16) := fun z => c_1 ((nI_eq (a := 14) (b := 16) (by omega) (by omega)).mpr z)
    refine lv_aload_n hx hb dX3_failureOf_9 rfl (lv_at hl 0 rfl) ?_
    refine va_calli (va_runV (As := []) (rest := []) ⟨hx, hb, hml, hown, hts⟩ (k_X0_lacksWire (l := l) (D := D) (cI := cI) (cZ := cZ) (cB := cB) (cS := cS) (A := A) κ σ sc ad b 14 hb0 (by decide) ek) (cwV 0 hts gX3_failureOf_X0_lacksWire rfl rfl rfl (by decide +kernel) ⟨Nat.le_of_ble_eq_true rfl, Nat.le_of_ble_eq_true rfl⟩) (gPreV hE hA hS hP (gw_recv hK hP 11 b (cDb (by omega) (by decide) (by decide)) rfl rfl)) rfl rfl hl.1 rfl (lv_room (Nat.le_of_ble_eq_true rfl)) dX3_failureOf_10 ⟨Nat.le_of_ble_eq_true rfl, Nat.le_of_ble_eq_true rfl⟩) hS (fun q _ h9 => h9) (fun q h9 => h9) (fun r_2 u9 t9 H locs ht9 hvm9 hw_r_2 hB9 hz9 hk9 hS => ?_)
    have hP : gw_P D vwCl A (cDm κ) (cEn cI cZ cB cS κ σ sc ad) ad H := by rw [← ht9]; exact hB9
    refine lv_toq ((if lack σ 14 b = true then 1 else 0)) hw_r_2 ?_
    refine lv_if_eq (tgt := 18) hx hb dX3_failureOf_13 (by decide) (fun c_3 => ?_) (fun c_3 => ?_)
    · refine lv_aload_n hx hb dX3_failureOf_18 rfl (lv_at hl 0 rfl) ?_
      refine gw_get (C := RX0) (T := TX0) (N := 11) hx hb hL0 hown hK hP 11 b (cDb (by omega) (by decide) (by decide)) rfl rfl 0 (by decide) (hts (.fieldLink RX3 86 "BlockPrograms$Block" "kind" "I") (by decide +kernel)) (fun _ h9 => h9) (v := .int (nI 14)) (congrArg (fun z : Int32 => some (Value.int z)) ek) dX3_failureOf_19 ?_
      refine lv_lookup (off := 81) (tgt := 103) hx hb dX3_failureOf_22 (by decide) (by decide) (by decide) ?_
      refine lv_iconst (v := 0) hx hb dX3_failureOf_103 (by decide) ?_
      have f_0 := lk_f c_3
      exact W.iret (v := 0) hx hb hr (fun t ht hW => ⟨⟨0, (), rfl, (by simp [f_fail, f_0]; try rfl), by rw [← ht] at hP; exact hP⟩, hS.F ht⟩) hS.2.2 dX3_failureOf_104
    · refine lv_iconst (v := 3) hx hb dX3_failureOf_16 (by decide) ?_
      have f_0 := lk_t c_3
      exact W.iret (v := 3) hx hb hr (fun t ht hW => ⟨⟨3, (), rfl, (by simp [f_fail, f_0]; try rfl), by rw [← ht] at hP; exact hP⟩, hS.F ht⟩) hS.2.2 dX3_failureOf_17

set_option maxHeartbeats 4000000 in
set_option maxRecDepth 100000 in
theorem k_X3_fail_15 {l : Launch} {D : va_G} {cI cZ cB cS : ClassId} {A : Nat → Prop} (κ : Nat → Nat) (σ sc : Nat → Nat → Int32) (ad : Nat → Nat → Nat) (b : Nat) (hb0 : b < κ 0) (ek : σ 0 b = nI 15) (y0 y1 : Int32) : Met l yX3_failureOf wsX3_failureOf ({ frames := 2, cells := 0, slots := 0, locals := 41 } : Room) (gPc D cI cZ cB cS A (cDm κ) (cEn cI cZ cB cS κ σ sc ad) ad [.ref (ad 11 b), .int y0, .int y1]) (va_Qi (fun (r : Int32) (_ : Unit) => r = nI (f_fail σ 15 b y0 y1)) (fun _ t => gw_P D vwCl A (cDm κ) (cEn cI cZ cB cS κ σ sc ad) ad t.heap) A) 0 0 A := by
  refine Met.ofW (cc := cX3_failureOf) (maxL := 3) (ret := (some .int)) (by decide) rfl ?_
  intro p e s m args below meth c s₁ B hml hv
  obtain ⟨rfl, hP, hE, hA⟩ := hv
  have hx := B.exec
  have hb := B.bytes
  have hr := B.returns
  have hts := atoms_spec (ws := wsX3_failureOf) B.pre
  have hown : s.vm.findClass RX3 = some m.cls := findClass_of_methodNamed B.named
  have hlocks := B.notSynchronized
  have hK := hE.1
  have hS : va_S A s.heap s.heap [] := va_S.rf
  have hL0 := fun w (hw : w ∈ u_ws RX0 TX0 11) => hts w (iL_X3_failureOf_X0 w hw)
  have hl := lv_entry ([.ref (ad 11 b), .int y0, .int y1]) (n := 3) (Nat.le_of_ble_eq_true rfl)
  rw [lg_entry_eq]
  generalize (lg_sl ([.ref (ad 11 b), .int y0, .int y1]) ++ List.replicate (3 - (lg_sl ([.ref (ad 11 b), .int y0, .int y1])).length) Slot.unset).toArray = ls at hl ⊢
  have hl : lv_has ls 3 [(0, .ref (ad 11 b)), (1, .int y0), (2, .int y1)] := hl
  refine lv_aload_n hx hb dX3_failureOf_0 rfl (lv_at hl 0 rfl) ?_
  refine gw_get (C := RX0) (T := TX0) (N := 11) hx hb hL0 hown hK hP 11 b (cDb (by omega) (by decide) (by decide)) rfl rfl 0 (by decide) (hts (.fieldLink RX3 86 "BlockPrograms$Block" "kind" "I") (by decide +kernel)) (fun _ h9 => h9) (v := .int (nI 15)) (congrArg (fun z : Int32 => some (Value.int z)) ek) dX3_failureOf_1 ?_
  refine lv_bipush (v := 16) hx hb dX3_failureOf_4 (by decide) ?_
  refine lv_icmp_eq (tgt := 18) hx hb dX3_failureOf_6 (by decide) (fun c_1 => ?_) (fun c_1 => ?_)
  · have c_1 : 15 = 16 := (nI_eq (a := 15) (b := 16) (by omega) (by omega)).mp c_1
    exfalso; omega
  · have c_1 : ¬ (15 = 16) := fun z => c_1 ((nI_eq (a := 15) (b := 16) (by omega) (by omega)).mpr z)
    refine lv_aload_n hx hb dX3_failureOf_9 rfl (lv_at hl 0 rfl) ?_
    refine va_calli (va_runV (As := []) (rest := []) ⟨hx, hb, hml, hown, hts⟩ (k_X0_lacksWire (l := l) (D := D) (cI := cI) (cZ := cZ) (cB := cB) (cS := cS) (A := A) κ σ sc ad b 15 hb0 (by decide) ek) (cwV 0 hts gX3_failureOf_X0_lacksWire rfl rfl rfl (by decide +kernel) ⟨Nat.le_of_ble_eq_true rfl, Nat.le_of_ble_eq_true rfl⟩) (gPreV hE hA hS hP (gw_recv hK hP 11 b (cDb (by omega) (by decide) (by decide)) rfl rfl)) rfl rfl hl.1 rfl (lv_room (Nat.le_of_ble_eq_true rfl)) dX3_failureOf_10 ⟨Nat.le_of_ble_eq_true rfl, Nat.le_of_ble_eq_true rfl⟩) hS (fun q _ h9 => h9) (fun q h9 => h9) (fun r_2 u9 t9 H locs ht9 hvm9 hw_r_2 hB9 hz9 hk9 hS => ?_)
    have hP : gw_P D vwCl A (cDm κ) (cEn cI cZ cB cS κ σ sc ad) ad H := by rw [← ht9]; exact hB9
    refine lv_toq ((if lack σ 15 b = true then 1 else 0)) hw_r_2 ?_
    refine lv_if_eq (tgt := 18) hx hb dX3_failureOf_13 (by decide) (fun c_3 => ?_) (fun c_3 => ?_)
    · refine lv_aload_n hx hb dX3_failureOf_18 rfl (lv_at hl 0 rfl) ?_
      refine gw_get (C := RX0) (T := TX0) (N := 11) hx hb hL0 hown hK hP 11 b (cDb (by omega) (by decide) (by decide)) rfl rfl 0 (by decide) (hts (.fieldLink RX3 86 "BlockPrograms$Block" "kind" "I") (by decide +kernel)) (fun _ h9 => h9) (v := .int (nI 15)) (congrArg (fun z : Int32 => some (Value.int z)) ek) dX3_failureOf_19 ?_
      refine lv_lookup (off := 58) (tgt := 80) hx hb dX3_failureOf_22 (by decide) (by decide) (by decide) ?_
      refine lv_iload_n hx hb dX3_failureOf_80 rfl (lv_at hl 1 rfl) ?_
      refine va_calli (va_runS (As := [.int y0]) (rest := []) ⟨hx, hb, hml, hown, hts⟩ (k_X3_isPlaceInRow (l := l) (D := D) (cI := cI) (cZ := cZ) (cB := cB) (cS := cS) (A := A) (cDm κ) (cEn cI cZ cB cS κ σ sc ad) ad y0) (va_cwS 1 hts gX3_failureOf_X3_isPlaceInRow rfl rfl rfl (by decide +kernel) ⟨Nat.le_of_ble_eq_true rfl, Nat.le_of_ble_eq_true rfl⟩) (gPreS hE hA hS hP) rfl rfl hl.1 rfl (lv_room (Nat.le_of_ble_eq_true rfl)) dX3_failureOf_81 ⟨Nat.le_of_ble_eq_true rfl, Nat.le_of_ble_eq_true rfl⟩) hS (fun q _ h9 => h9) (fun q h9 => h9) (fun r_4 u9 t9 H locs ht9 hvm9 hw_r_4 hB9 hz9 hk9 hS => ?_)
      have hP : gw_P D vwCl A (cDm κ) (cEn cI cZ cB cS κ σ sc ad) ad H := by rw [← ht9]; exact hB9
      refine lv_toq ((if okI 8 y0 then 1 else 0)) hw_r_4 ?_
      refine lv_if_eq (tgt := 91) hx hb dX3_failureOf_84 (by decide) (fun c_5 => ?_) (fun c_5 => ?_)
      · refine lv_iconst (v := 2) hx hb dX3_failureOf_91 (by decide) ?_
        have f_0 := lk_f c_3
        have f_1 := lp_f c_5
        exact W.iret (v := 2) hx hb hr (fun t ht hW => ⟨⟨2, (), rfl, (by simp [f_fail, f_0, f_1]; try rfl), by rw [← ht] at hP; exact hP⟩, hS.F ht⟩) hS.2.2 dX3_failureOf_92
      · refine lv_iconst (v := 0) hx hb dX3_failureOf_87 (by decide) ?_
        refine lv_goto (tgt := 92) hx hb dX3_failureOf_88 (by decide) ?_
        have f_0 := lk_f c_3
        have f_1 := lp_t c_5
        exact W.iret (v := 0) hx hb hr (fun t ht hW => ⟨⟨0, (), rfl, (by unfold f_fail; rw [if_neg (by simp [f_0]), if_neg (by decide), if_pos rfl, if_pos f_1]; rfl), by rw [← ht] at hP; exact hP⟩, hS.F ht⟩) hS.2.2 dX3_failureOf_92
    · refine lv_iconst (v := 3) hx hb dX3_failureOf_16 (by decide) ?_
      have f_0 := lk_t c_3
      exact W.iret (v := 3) hx hb hr (fun t ht hW => ⟨⟨3, (), rfl, (by simp [f_fail, f_0]; try rfl), by rw [← ht] at hP; exact hP⟩, hS.F ht⟩) hS.2.2 dX3_failureOf_17

set_option maxHeartbeats 4000000 in
set_option maxRecDepth 100000 in
theorem k_X3_fail_16 {l : Launch} {D : va_G} {cI cZ cB cS : ClassId} {A : Nat → Prop} (κ : Nat → Nat) (σ sc : Nat → Nat → Int32) (ad : Nat → Nat → Nat) (b : Nat) (hb0 : b < κ 0) (ek : σ 0 b = nI 16) (y0 y1 : Int32) : Met l yX3_failureOf wsX3_failureOf ({ frames := 2, cells := 0, slots := 0, locals := 41 } : Room) (gPc D cI cZ cB cS A (cDm κ) (cEn cI cZ cB cS κ σ sc ad) ad [.ref (ad 11 b), .int y0, .int y1]) (va_Qi (fun (r : Int32) (_ : Unit) => r = nI (f_fail σ 16 b y0 y1)) (fun _ t => gw_P D vwCl A (cDm κ) (cEn cI cZ cB cS κ σ sc ad) ad t.heap) A) 0 0 A := by
  refine Met.ofW (cc := cX3_failureOf) (maxL := 3) (ret := (some .int)) (by decide) rfl ?_
  intro p e s m args below meth c s₁ B hml hv
  obtain ⟨rfl, hP, hE, hA⟩ := hv
  have hx := B.exec
  have hb := B.bytes
  have hr := B.returns
  have hts := atoms_spec (ws := wsX3_failureOf) B.pre
  have hown : s.vm.findClass RX3 = some m.cls := findClass_of_methodNamed B.named
  have hlocks := B.notSynchronized
  have hK := hE.1
  have hS : va_S A s.heap s.heap [] := va_S.rf
  have hL0 := fun w (hw : w ∈ u_ws RX0 TX0 11) => hts w (iL_X3_failureOf_X0 w hw)
  have hl := lv_entry ([.ref (ad 11 b), .int y0, .int y1]) (n := 3) (Nat.le_of_ble_eq_true rfl)
  rw [lg_entry_eq]
  generalize (lg_sl ([.ref (ad 11 b), .int y0, .int y1]) ++ List.replicate (3 - (lg_sl ([.ref (ad 11 b), .int y0, .int y1])).length) Slot.unset).toArray = ls at hl ⊢
  have hl : lv_has ls 3 [(0, .ref (ad 11 b)), (1, .int y0), (2, .int y1)] := hl
  refine lv_aload_n hx hb dX3_failureOf_0 rfl (lv_at hl 0 rfl) ?_
  refine gw_get (C := RX0) (T := TX0) (N := 11) hx hb hL0 hown hK hP 11 b (cDb (by omega) (by decide) (by decide)) rfl rfl 0 (by decide) (hts (.fieldLink RX3 86 "BlockPrograms$Block" "kind" "I") (by decide +kernel)) (fun _ h9 => h9) (v := .int (nI 16)) (congrArg (fun z : Int32 => some (Value.int z)) ek) dX3_failureOf_1 ?_
  refine lv_bipush (v := 16) hx hb dX3_failureOf_4 (by decide) ?_
  refine lv_icmp_eq (tgt := 18) hx hb dX3_failureOf_6 (by decide) (fun c_1 => ?_) (fun c_1 => ?_)
  · have c_1 : 16 = 16 := (nI_eq (a := 16) (b := 16) (by omega) (by omega)).mp c_1
    refine lv_aload_n hx hb dX3_failureOf_18 rfl (lv_at hl 0 rfl) ?_
    refine gw_get (C := RX0) (T := TX0) (N := 11) hx hb hL0 hown hK hP 11 b (cDb (by omega) (by decide) (by decide)) rfl rfl 0 (by decide) (hts (.fieldLink RX3 86 "BlockPrograms$Block" "kind" "I") (by decide +kernel)) (fun _ h9 => h9) (v := .int (nI 16)) (congrArg (fun z : Int32 => some (Value.int z)) ek) dX3_failureOf_19 ?_
    refine lv_lookup (off := 81) (tgt := 103) hx hb dX3_failureOf_22 (by decide) (by decide) (by decide) ?_
    refine lv_iconst (v := 0) hx hb dX3_failureOf_103 (by decide) ?_
    exact W.iret (v := 0) hx hb hr (fun t ht hW => ⟨⟨0, (), rfl, (by simp [f_fail, f_fail]; try rfl), by rw [← ht] at hP; exact hP⟩, hS.F ht⟩) hS.2.2 dX3_failureOf_104
  · have c_1 : ¬ (16 = 16) := fun z => c_1 ((nI_eq (a := 16) (b := 16) (by omega) (by omega)).mpr z)
    exfalso; omega

set_option maxHeartbeats 4000000 in
set_option maxRecDepth 100000 in
theorem k_X3_fail_17 {l : Launch} {D : va_G} {cI cZ cB cS : ClassId} {A : Nat → Prop} (κ : Nat → Nat) (σ sc : Nat → Nat → Int32) (ad : Nat → Nat → Nat) (b : Nat) (hb0 : b < κ 0) (ek : σ 0 b = nI 17) (y0 y1 : Int32) : Met l yX3_failureOf wsX3_failureOf ({ frames := 2, cells := 0, slots := 0, locals := 41 } : Room) (gPc D cI cZ cB cS A (cDm κ) (cEn cI cZ cB cS κ σ sc ad) ad [.ref (ad 11 b), .int y0, .int y1]) (va_Qi (fun (r : Int32) (_ : Unit) => r = nI (f_fail σ 17 b y0 y1)) (fun _ t => gw_P D vwCl A (cDm κ) (cEn cI cZ cB cS κ σ sc ad) ad t.heap) A) 0 0 A := by
  refine Met.ofW (cc := cX3_failureOf) (maxL := 3) (ret := (some .int)) (by decide) rfl ?_
  intro p e s m args below meth c s₁ B hml hv
  obtain ⟨rfl, hP, hE, hA⟩ := hv
  have hx := B.exec
  have hb := B.bytes
  have hr := B.returns
  have hts := atoms_spec (ws := wsX3_failureOf) B.pre
  have hown : s.vm.findClass RX3 = some m.cls := findClass_of_methodNamed B.named
  have hlocks := B.notSynchronized
  have hK := hE.1
  have hS : va_S A s.heap s.heap [] := va_S.rf
  have hL0 := fun w (hw : w ∈ u_ws RX0 TX0 11) => hts w (iL_X3_failureOf_X0 w hw)
  have hl := lv_entry ([.ref (ad 11 b), .int y0, .int y1]) (n := 3) (Nat.le_of_ble_eq_true rfl)
  rw [lg_entry_eq]
  generalize (lg_sl ([.ref (ad 11 b), .int y0, .int y1]) ++ List.replicate (3 - (lg_sl ([.ref (ad 11 b), .int y0, .int y1])).length) Slot.unset).toArray = ls at hl ⊢
  have hl : lv_has ls 3 [(0, .ref (ad 11 b)), (1, .int y0), (2, .int y1)] := hl
  refine lv_aload_n hx hb dX3_failureOf_0 rfl (lv_at hl 0 rfl) ?_
  refine gw_get (C := RX0) (T := TX0) (N := 11) hx hb hL0 hown hK hP 11 b (cDb (by omega) (by decide) (by decide)) rfl rfl 0 (by decide) (hts (.fieldLink RX3 86 "BlockPrograms$Block" "kind" "I") (by decide +kernel)) (fun _ h9 => h9) (v := .int (nI 17)) (congrArg (fun z : Int32 => some (Value.int z)) ek) dX3_failureOf_1 ?_
  refine lv_bipush (v := 16) hx hb dX3_failureOf_4 (by decide) ?_
  refine lv_icmp_eq (tgt := 18) hx hb dX3_failureOf_6 (by decide) (fun c_1 => ?_) (fun c_1 => ?_)
  · have c_1 : 17 = 16 := (nI_eq (a := 17) (b := 16) (by omega) (by omega)).mp c_1
    exfalso; omega
  · have c_1 : ¬ (17 = 16) := fun z => c_1 ((nI_eq (a := 17) (b := 16) (by omega) (by omega)).mpr z)
    refine lv_aload_n hx hb dX3_failureOf_9 rfl (lv_at hl 0 rfl) ?_
    refine va_calli (va_runV (As := []) (rest := []) ⟨hx, hb, hml, hown, hts⟩ (k_X0_lacksWire (l := l) (D := D) (cI := cI) (cZ := cZ) (cB := cB) (cS := cS) (A := A) κ σ sc ad b 17 hb0 (by decide) ek) (cwV 0 hts gX3_failureOf_X0_lacksWire rfl rfl rfl (by decide +kernel) ⟨Nat.le_of_ble_eq_true rfl, Nat.le_of_ble_eq_true rfl⟩) (gPreV hE hA hS hP (gw_recv hK hP 11 b (cDb (by omega) (by decide) (by decide)) rfl rfl)) rfl rfl hl.1 rfl (lv_room (Nat.le_of_ble_eq_true rfl)) dX3_failureOf_10 ⟨Nat.le_of_ble_eq_true rfl, Nat.le_of_ble_eq_true rfl⟩) hS (fun q _ h9 => h9) (fun q h9 => h9) (fun r_2 u9 t9 H locs ht9 hvm9 hw_r_2 hB9 hz9 hk9 hS => ?_)
    have hP : gw_P D vwCl A (cDm κ) (cEn cI cZ cB cS κ σ sc ad) ad H := by rw [← ht9]; exact hB9
    refine lv_toq ((if lack σ 17 b = true then 1 else 0)) hw_r_2 ?_
    refine lv_if_eq (tgt := 18) hx hb dX3_failureOf_13 (by decide) (fun c_3 => ?_) (fun c_3 => ?_)
    · refine lv_aload_n hx hb dX3_failureOf_18 rfl (lv_at hl 0 rfl) ?_
      refine gw_get (C := RX0) (T := TX0) (N := 11) hx hb hL0 hown hK hP 11 b (cDb (by omega) (by decide) (by decide)) rfl rfl 0 (by decide) (hts (.fieldLink RX3 86 "BlockPrograms$Block" "kind" "I") (by decide +kernel)) (fun _ h9 => h9) (v := .int (nI 17)) (congrArg (fun z : Int32 => some (Value.int z)) ek) dX3_failureOf_19 ?_
      refine lv_lookup (off := 81) (tgt := 103) hx hb dX3_failureOf_22 (by decide) (by decide) (by decide) ?_
      refine lv_iconst (v := 0) hx hb dX3_failureOf_103 (by decide) ?_
      have f_0 := lk_f c_3
      exact W.iret (v := 0) hx hb hr (fun t ht hW => ⟨⟨0, (), rfl, (by simp [f_fail, f_0]; try rfl), by rw [← ht] at hP; exact hP⟩, hS.F ht⟩) hS.2.2 dX3_failureOf_104
    · refine lv_iconst (v := 3) hx hb dX3_failureOf_16 (by decide) ?_
      have f_0 := lk_t c_3
      exact W.iret (v := 3) hx hb hr (fun t ht hW => ⟨⟨3, (), rfl, (by simp [f_fail, f_0]; try rfl), by rw [← ht] at hP; exact hP⟩, hS.F ht⟩) hS.2.2 dX3_failureOf_17

set_option maxHeartbeats 4000000 in
set_option maxRecDepth 100000 in
theorem k_X3_fail_18 {l : Launch} {D : va_G} {cI cZ cB cS : ClassId} {A : Nat → Prop} (κ : Nat → Nat) (σ sc : Nat → Nat → Int32) (ad : Nat → Nat → Nat) (b : Nat) (hb0 : b < κ 0) (ek : σ 0 b = nI 18) (y0 y1 : Int32) : Met l yX3_failureOf wsX3_failureOf ({ frames := 2, cells := 0, slots := 0, locals := 41 } : Room) (gPc D cI cZ cB cS A (cDm κ) (cEn cI cZ cB cS κ σ sc ad) ad [.ref (ad 11 b), .int y0, .int y1]) (va_Qi (fun (r : Int32) (_ : Unit) => r = nI (f_fail σ 18 b y0 y1)) (fun _ t => gw_P D vwCl A (cDm κ) (cEn cI cZ cB cS κ σ sc ad) ad t.heap) A) 0 0 A := by
  refine Met.ofW (cc := cX3_failureOf) (maxL := 3) (ret := (some .int)) (by decide) rfl ?_
  intro p e s m args below meth c s₁ B hml hv
  obtain ⟨rfl, hP, hE, hA⟩ := hv
  have hx := B.exec
  have hb := B.bytes
  have hr := B.returns
  have hts := atoms_spec (ws := wsX3_failureOf) B.pre
  have hown : s.vm.findClass RX3 = some m.cls := findClass_of_methodNamed B.named
  have hlocks := B.notSynchronized
  have hK := hE.1
  have hS : va_S A s.heap s.heap [] := va_S.rf
  have hL0 := fun w (hw : w ∈ u_ws RX0 TX0 11) => hts w (iL_X3_failureOf_X0 w hw)
  have hl := lv_entry ([.ref (ad 11 b), .int y0, .int y1]) (n := 3) (Nat.le_of_ble_eq_true rfl)
  rw [lg_entry_eq]
  generalize (lg_sl ([.ref (ad 11 b), .int y0, .int y1]) ++ List.replicate (3 - (lg_sl ([.ref (ad 11 b), .int y0, .int y1])).length) Slot.unset).toArray = ls at hl ⊢
  have hl : lv_has ls 3 [(0, .ref (ad 11 b)), (1, .int y0), (2, .int y1)] := hl
  refine lv_aload_n hx hb dX3_failureOf_0 rfl (lv_at hl 0 rfl) ?_
  refine gw_get (C := RX0) (T := TX0) (N := 11) hx hb hL0 hown hK hP 11 b (cDb (by omega) (by decide) (by decide)) rfl rfl 0 (by decide) (hts (.fieldLink RX3 86 "BlockPrograms$Block" "kind" "I") (by decide +kernel)) (fun _ h9 => h9) (v := .int (nI 18)) (congrArg (fun z : Int32 => some (Value.int z)) ek) dX3_failureOf_1 ?_
  refine lv_bipush (v := 16) hx hb dX3_failureOf_4 (by decide) ?_
  refine lv_icmp_eq (tgt := 18) hx hb dX3_failureOf_6 (by decide) (fun c_1 => ?_) (fun c_1 => ?_)
  · have c_1 : 18 = 16 := (nI_eq (a := 18) (b := 16) (by omega) (by omega)).mp c_1
    exfalso; omega
  · have c_1 : ¬ (18 = 16) := fun z => c_1 ((nI_eq (a := 18) (b := 16) (by omega) (by omega)).mpr z)
    refine lv_aload_n hx hb dX3_failureOf_9 rfl (lv_at hl 0 rfl) ?_
    refine va_calli (va_runV (As := []) (rest := []) ⟨hx, hb, hml, hown, hts⟩ (k_X0_lacksWire (l := l) (D := D) (cI := cI) (cZ := cZ) (cB := cB) (cS := cS) (A := A) κ σ sc ad b 18 hb0 (by decide) ek) (cwV 0 hts gX3_failureOf_X0_lacksWire rfl rfl rfl (by decide +kernel) ⟨Nat.le_of_ble_eq_true rfl, Nat.le_of_ble_eq_true rfl⟩) (gPreV hE hA hS hP (gw_recv hK hP 11 b (cDb (by omega) (by decide) (by decide)) rfl rfl)) rfl rfl hl.1 rfl (lv_room (Nat.le_of_ble_eq_true rfl)) dX3_failureOf_10 ⟨Nat.le_of_ble_eq_true rfl, Nat.le_of_ble_eq_true rfl⟩) hS (fun q _ h9 => h9) (fun q h9 => h9) (fun r_2 u9 t9 H locs ht9 hvm9 hw_r_2 hB9 hz9 hk9 hS => ?_)
    have hP : gw_P D vwCl A (cDm κ) (cEn cI cZ cB cS κ σ sc ad) ad H := by rw [← ht9]; exact hB9
    refine lv_toq ((if lack σ 18 b = true then 1 else 0)) hw_r_2 ?_
    refine lv_if_eq (tgt := 18) hx hb dX3_failureOf_13 (by decide) (fun c_3 => ?_) (fun c_3 => ?_)
    · refine lv_aload_n hx hb dX3_failureOf_18 rfl (lv_at hl 0 rfl) ?_
      refine gw_get (C := RX0) (T := TX0) (N := 11) hx hb hL0 hown hK hP 11 b (cDb (by omega) (by decide) (by decide)) rfl rfl 0 (by decide) (hts (.fieldLink RX3 86 "BlockPrograms$Block" "kind" "I") (by decide +kernel)) (fun _ h9 => h9) (v := .int (nI 18)) (congrArg (fun z : Int32 => some (Value.int z)) ek) dX3_failureOf_19 ?_
      refine lv_lookup (off := 81) (tgt := 103) hx hb dX3_failureOf_22 (by decide) (by decide) (by decide) ?_
      refine lv_iconst (v := 0) hx hb dX3_failureOf_103 (by decide) ?_
      have f_0 := lk_f c_3
      exact W.iret (v := 0) hx hb hr (fun t ht hW => ⟨⟨0, (), rfl, (by simp [f_fail, f_0]; try rfl), by rw [← ht] at hP; exact hP⟩, hS.F ht⟩) hS.2.2 dX3_failureOf_104
    · refine lv_iconst (v := 3) hx hb dX3_failureOf_16 (by decide) ?_
      have f_0 := lk_t c_3
      exact W.iret (v := 3) hx hb hr (fun t ht hW => ⟨⟨3, (), rfl, (by simp [f_fail, f_0]; try rfl), by rw [← ht] at hP; exact hP⟩, hS.F ht⟩) hS.2.2 dX3_failureOf_17

set_option maxHeartbeats 4000000 in
set_option maxRecDepth 100000 in
theorem k_X3_fail_19 {l : Launch} {D : va_G} {cI cZ cB cS : ClassId} {A : Nat → Prop} (κ : Nat → Nat) (σ sc : Nat → Nat → Int32) (ad : Nat → Nat → Nat) (b : Nat) (hb0 : b < κ 0) (ek : σ 0 b = nI 19) (y0 y1 : Int32) : Met l yX3_failureOf wsX3_failureOf ({ frames := 2, cells := 0, slots := 0, locals := 41 } : Room) (gPc D cI cZ cB cS A (cDm κ) (cEn cI cZ cB cS κ σ sc ad) ad [.ref (ad 11 b), .int y0, .int y1]) (va_Qi (fun (r : Int32) (_ : Unit) => r = nI (f_fail σ 19 b y0 y1)) (fun _ t => gw_P D vwCl A (cDm κ) (cEn cI cZ cB cS κ σ sc ad) ad t.heap) A) 0 0 A := by
  refine Met.ofW (cc := cX3_failureOf) (maxL := 3) (ret := (some .int)) (by decide) rfl ?_
  intro p e s m args below meth c s₁ B hml hv
  obtain ⟨rfl, hP, hE, hA⟩ := hv
  have hx := B.exec
  have hb := B.bytes
  have hr := B.returns
  have hts := atoms_spec (ws := wsX3_failureOf) B.pre
  have hown : s.vm.findClass RX3 = some m.cls := findClass_of_methodNamed B.named
  have hlocks := B.notSynchronized
  have hK := hE.1
  have hS : va_S A s.heap s.heap [] := va_S.rf
  have hL0 := fun w (hw : w ∈ u_ws RX0 TX0 11) => hts w (iL_X3_failureOf_X0 w hw)
  have hl := lv_entry ([.ref (ad 11 b), .int y0, .int y1]) (n := 3) (Nat.le_of_ble_eq_true rfl)
  rw [lg_entry_eq]
  generalize (lg_sl ([.ref (ad 11 b), .int y0, .int y1]) ++ List.replicate (3 - (lg_sl ([.ref (ad 11 b), .int y0, .int y1])).length) Slot.unset).toArray = ls at hl ⊢
  have hl : lv_has ls 3 [(0, .ref (ad 11 b)), (1, .int y0), (2, .int y1)] := hl
  refine lv_aload_n hx hb dX3_failureOf_0 rfl (lv_at hl 0 rfl) ?_
  refine gw_get (C := RX0) (T := TX0) (N := 11) hx hb hL0 hown hK hP 11 b (cDb (by omega) (by decide) (by decide)) rfl rfl 0 (by decide) (hts (.fieldLink RX3 86 "BlockPrograms$Block" "kind" "I") (by decide +kernel)) (fun _ h9 => h9) (v := .int (nI 19)) (congrArg (fun z : Int32 => some (Value.int z)) ek) dX3_failureOf_1 ?_
  refine lv_bipush (v := 16) hx hb dX3_failureOf_4 (by decide) ?_
  refine lv_icmp_eq (tgt := 18) hx hb dX3_failureOf_6 (by decide) (fun c_1 => ?_) (fun c_1 => ?_)
  · have c_1 : 19 = 16 := (nI_eq (a := 19) (b := 16) (by omega) (by omega)).mp c_1
    exfalso; omega
  · have c_1 : ¬ (19 = 16) := fun z => c_1 ((nI_eq (a := 19) (b := 16) (by omega) (by omega)).mpr z)
    refine lv_aload_n hx hb dX3_failureOf_9 rfl (lv_at hl 0 rfl) ?_
    refine va_calli (va_runV (As := []) (rest := []) ⟨hx, hb, hml, hown, hts⟩ (k_X0_lacksWire (l := l) (D := D) (cI := cI) (cZ := cZ) (cB := cB) (cS := cS) (A := A) κ σ sc ad b 19 hb0 (by decide) ek) (cwV 0 hts gX3_failureOf_X0_lacksWire rfl rfl rfl (by decide +kernel) ⟨Nat.le_of_ble_eq_true rfl, Nat.le_of_ble_eq_true rfl⟩) (gPreV hE hA hS hP (gw_recv hK hP 11 b (cDb (by omega) (by decide) (by decide)) rfl rfl)) rfl rfl hl.1 rfl (lv_room (Nat.le_of_ble_eq_true rfl)) dX3_failureOf_10 ⟨Nat.le_of_ble_eq_true rfl, Nat.le_of_ble_eq_true rfl⟩) hS (fun q _ h9 => h9) (fun q h9 => h9) (fun r_2 u9 t9 H locs ht9 hvm9 hw_r_2 hB9 hz9 hk9 hS => ?_)
    have hP : gw_P D vwCl A (cDm κ) (cEn cI cZ cB cS κ σ sc ad) ad H := by rw [← ht9]; exact hB9
    refine lv_toq ((if lack σ 19 b = true then 1 else 0)) hw_r_2 ?_
    refine lv_if_eq (tgt := 18) hx hb dX3_failureOf_13 (by decide) (fun c_3 => ?_) (fun c_3 => ?_)
    · refine lv_aload_n hx hb dX3_failureOf_18 rfl (lv_at hl 0 rfl) ?_
      refine gw_get (C := RX0) (T := TX0) (N := 11) hx hb hL0 hown hK hP 11 b (cDb (by omega) (by decide) (by decide)) rfl rfl 0 (by decide) (hts (.fieldLink RX3 86 "BlockPrograms$Block" "kind" "I") (by decide +kernel)) (fun _ h9 => h9) (v := .int (nI 19)) (congrArg (fun z : Int32 => some (Value.int z)) ek) dX3_failureOf_19 ?_
      refine lv_lookup (off := 81) (tgt := 103) hx hb dX3_failureOf_22 (by decide) (by decide) (by decide) ?_
      refine lv_iconst (v := 0) hx hb dX3_failureOf_103 (by decide) ?_
      have f_0 := lk_f c_3
      exact W.iret (v := 0) hx hb hr (fun t ht hW => ⟨⟨0, (), rfl, (by simp [f_fail, f_0]; try rfl), by rw [← ht] at hP; exact hP⟩, hS.F ht⟩) hS.2.2 dX3_failureOf_104
    · refine lv_iconst (v := 3) hx hb dX3_failureOf_16 (by decide) ?_
      have f_0 := lk_t c_3
      exact W.iret (v := 3) hx hb hr (fun t ht hW => ⟨⟨3, (), rfl, (by simp [f_fail, f_0]; try rfl), by rw [← ht] at hP; exact hP⟩, hS.F ht⟩) hS.2.2 dX3_failureOf_17

set_option maxHeartbeats 4000000 in
set_option maxRecDepth 100000 in
theorem k_X3_fail_20 {l : Launch} {D : va_G} {cI cZ cB cS : ClassId} {A : Nat → Prop} (κ : Nat → Nat) (σ sc : Nat → Nat → Int32) (ad : Nat → Nat → Nat) (b : Nat) (hb0 : b < κ 0) (ek : σ 0 b = nI 20) (y0 y1 : Int32) : Met l yX3_failureOf wsX3_failureOf ({ frames := 2, cells := 0, slots := 0, locals := 41 } : Room) (gPc D cI cZ cB cS A (cDm κ) (cEn cI cZ cB cS κ σ sc ad) ad [.ref (ad 11 b), .int y0, .int y1]) (va_Qi (fun (r : Int32) (_ : Unit) => r = nI (f_fail σ 20 b y0 y1)) (fun _ t => gw_P D vwCl A (cDm κ) (cEn cI cZ cB cS κ σ sc ad) ad t.heap) A) 0 0 A := by
  refine Met.ofW (cc := cX3_failureOf) (maxL := 3) (ret := (some .int)) (by decide) rfl ?_
  intro p e s m args below meth c s₁ B hml hv
  obtain ⟨rfl, hP, hE, hA⟩ := hv
  have hx := B.exec
  have hb := B.bytes
  have hr := B.returns
  have hts := atoms_spec (ws := wsX3_failureOf) B.pre
  have hown : s.vm.findClass RX3 = some m.cls := findClass_of_methodNamed B.named
  have hlocks := B.notSynchronized
  have hK := hE.1
  have hS : va_S A s.heap s.heap [] := va_S.rf
  have hL0 := fun w (hw : w ∈ u_ws RX0 TX0 11) => hts w (iL_X3_failureOf_X0 w hw)
  have hl := lv_entry ([.ref (ad 11 b), .int y0, .int y1]) (n := 3) (Nat.le_of_ble_eq_true rfl)
  rw [lg_entry_eq]
  generalize (lg_sl ([.ref (ad 11 b), .int y0, .int y1]) ++ List.replicate (3 - (lg_sl ([.ref (ad 11 b), .int y0, .int y1])).length) Slot.unset).toArray = ls at hl ⊢
  have hl : lv_has ls 3 [(0, .ref (ad 11 b)), (1, .int y0), (2, .int y1)] := hl
  refine lv_aload_n hx hb dX3_failureOf_0 rfl (lv_at hl 0 rfl) ?_
  refine gw_get (C := RX0) (T := TX0) (N := 11) hx hb hL0 hown hK hP 11 b (cDb (by omega) (by decide) (by decide)) rfl rfl 0 (by decide) (hts (.fieldLink RX3 86 "BlockPrograms$Block" "kind" "I") (by decide +kernel)) (fun _ h9 => h9) (v := .int (nI 20)) (congrArg (fun z : Int32 => some (Value.int z)) ek) dX3_failureOf_1 ?_
  refine lv_bipush (v := 16) hx hb dX3_failureOf_4 (by decide) ?_
  refine lv_icmp_eq (tgt := 18) hx hb dX3_failureOf_6 (by decide) (fun c_1 => ?_) (fun c_1 => ?_)
  · have c_1 : 20 = 16 := (nI_eq (a := 20) (b := 16) (by omega) (by omega)).mp c_1
    exfalso; omega
  · have c_1 : ¬ (20 = 16) := fun z => c_1 ((nI_eq (a := 20) (b := 16) (by omega) (by omega)).mpr z)
    refine lv_aload_n hx hb dX3_failureOf_9 rfl (lv_at hl 0 rfl) ?_
    refine va_calli (va_runV (As := []) (rest := []) ⟨hx, hb, hml, hown, hts⟩ (k_X0_lacksWire (l := l) (D := D) (cI := cI) (cZ := cZ) (cB := cB) (cS := cS) (A := A) κ σ sc ad b 20 hb0 (by decide) ek) (cwV 0 hts gX3_failureOf_X0_lacksWire rfl rfl rfl (by decide +kernel) ⟨Nat.le_of_ble_eq_true rfl, Nat.le_of_ble_eq_true rfl⟩) (gPreV hE hA hS hP (gw_recv hK hP 11 b (cDb (by omega) (by decide) (by decide)) rfl rfl)) rfl rfl hl.1 rfl (lv_room (Nat.le_of_ble_eq_true rfl)) dX3_failureOf_10 ⟨Nat.le_of_ble_eq_true rfl, Nat.le_of_ble_eq_true rfl⟩) hS (fun q _ h9 => h9) (fun q h9 => h9) (fun r_2 u9 t9 H locs ht9 hvm9 hw_r_2 hB9 hz9 hk9 hS => ?_)
    have hP : gw_P D vwCl A (cDm κ) (cEn cI cZ cB cS κ σ sc ad) ad H := by rw [← ht9]; exact hB9
    refine lv_toq ((if lack σ 20 b = true then 1 else 0)) hw_r_2 ?_
    refine lv_if_eq (tgt := 18) hx hb dX3_failureOf_13 (by decide) (fun c_3 => ?_) (fun c_3 => ?_)
    · refine lv_aload_n hx hb dX3_failureOf_18 rfl (lv_at hl 0 rfl) ?_
      refine gw_get (C := RX0) (T := TX0) (N := 11) hx hb hL0 hown hK hP 11 b (cDb (by omega) (by decide) (by decide)) rfl rfl 0 (by decide) (hts (.fieldLink RX3 86 "BlockPrograms$Block" "kind" "I") (by decide +kernel)) (fun _ h9 => h9) (v := .int (nI 20)) (congrArg (fun z : Int32 => some (Value.int z)) ek) dX3_failureOf_19 ?_
      refine lv_lookup (off := 81) (tgt := 103) hx hb dX3_failureOf_22 (by decide) (by decide) (by decide) ?_
      refine lv_iconst (v := 0) hx hb dX3_failureOf_103 (by decide) ?_
      have f_0 := lk_f c_3
      exact W.iret (v := 0) hx hb hr (fun t ht hW => ⟨⟨0, (), rfl, (by simp [f_fail, f_0]; try rfl), by rw [← ht] at hP; exact hP⟩, hS.F ht⟩) hS.2.2 dX3_failureOf_104
    · refine lv_iconst (v := 3) hx hb dX3_failureOf_16 (by decide) ?_
      have f_0 := lk_t c_3
      exact W.iret (v := 3) hx hb hr (fun t ht hW => ⟨⟨3, (), rfl, (by simp [f_fail, f_0]; try rfl), by rw [← ht] at hP; exact hP⟩, hS.F ht⟩) hS.2.2 dX3_failureOf_17

set_option maxHeartbeats 4000000 in
set_option maxRecDepth 100000 in
theorem k_X3_fail_21 {l : Launch} {D : va_G} {cI cZ cB cS : ClassId} {A : Nat → Prop} (κ : Nat → Nat) (σ sc : Nat → Nat → Int32) (ad : Nat → Nat → Nat) (b : Nat) (hb0 : b < κ 0) (ek : σ 0 b = nI 21) (y0 y1 : Int32) : Met l yX3_failureOf wsX3_failureOf ({ frames := 2, cells := 0, slots := 0, locals := 41 } : Room) (gPc D cI cZ cB cS A (cDm κ) (cEn cI cZ cB cS κ σ sc ad) ad [.ref (ad 11 b), .int y0, .int y1]) (va_Qi (fun (r : Int32) (_ : Unit) => r = nI (f_fail σ 21 b y0 y1)) (fun _ t => gw_P D vwCl A (cDm κ) (cEn cI cZ cB cS κ σ sc ad) ad t.heap) A) 0 0 A := by
  refine Met.ofW (cc := cX3_failureOf) (maxL := 3) (ret := (some .int)) (by decide) rfl ?_
  intro p e s m args below meth c s₁ B hml hv
  obtain ⟨rfl, hP, hE, hA⟩ := hv
  have hx := B.exec
  have hb := B.bytes
  have hr := B.returns
  have hts := atoms_spec (ws := wsX3_failureOf) B.pre
  have hown : s.vm.findClass RX3 = some m.cls := findClass_of_methodNamed B.named
  have hlocks := B.notSynchronized
  have hK := hE.1
  have hS : va_S A s.heap s.heap [] := va_S.rf
  have hL0 := fun w (hw : w ∈ u_ws RX0 TX0 11) => hts w (iL_X3_failureOf_X0 w hw)
  have hl := lv_entry ([.ref (ad 11 b), .int y0, .int y1]) (n := 3) (Nat.le_of_ble_eq_true rfl)
  rw [lg_entry_eq]
  generalize (lg_sl ([.ref (ad 11 b), .int y0, .int y1]) ++ List.replicate (3 - (lg_sl ([.ref (ad 11 b), .int y0, .int y1])).length) Slot.unset).toArray = ls at hl ⊢
  have hl : lv_has ls 3 [(0, .ref (ad 11 b)), (1, .int y0), (2, .int y1)] := hl
  refine lv_aload_n hx hb dX3_failureOf_0 rfl (lv_at hl 0 rfl) ?_
  refine gw_get (C := RX0) (T := TX0) (N := 11) hx hb hL0 hown hK hP 11 b (cDb (by omega) (by decide) (by decide)) rfl rfl 0 (by decide) (hts (.fieldLink RX3 86 "BlockPrograms$Block" "kind" "I") (by decide +kernel)) (fun _ h9 => h9) (v := .int (nI 21)) (congrArg (fun z : Int32 => some (Value.int z)) ek) dX3_failureOf_1 ?_
  refine lv_bipush (v := 16) hx hb dX3_failureOf_4 (by decide) ?_
  refine lv_icmp_eq (tgt := 18) hx hb dX3_failureOf_6 (by decide) (fun c_1 => ?_) (fun c_1 => ?_)
  · have c_1 : 21 = 16 := (nI_eq (a := 21) (b := 16) (by omega) (by omega)).mp c_1
    exfalso; omega
  · have c_1 : ¬ (21 = 16) := fun z => c_1 ((nI_eq (a := 21) (b := 16) (by omega) (by omega)).mpr z)
    refine lv_aload_n hx hb dX3_failureOf_9 rfl (lv_at hl 0 rfl) ?_
    refine va_calli (va_runV (As := []) (rest := []) ⟨hx, hb, hml, hown, hts⟩ (k_X0_lacksWire (l := l) (D := D) (cI := cI) (cZ := cZ) (cB := cB) (cS := cS) (A := A) κ σ sc ad b 21 hb0 (by decide) ek) (cwV 0 hts gX3_failureOf_X0_lacksWire rfl rfl rfl (by decide +kernel) ⟨Nat.le_of_ble_eq_true rfl, Nat.le_of_ble_eq_true rfl⟩) (gPreV hE hA hS hP (gw_recv hK hP 11 b (cDb (by omega) (by decide) (by decide)) rfl rfl)) rfl rfl hl.1 rfl (lv_room (Nat.le_of_ble_eq_true rfl)) dX3_failureOf_10 ⟨Nat.le_of_ble_eq_true rfl, Nat.le_of_ble_eq_true rfl⟩) hS (fun q _ h9 => h9) (fun q h9 => h9) (fun r_2 u9 t9 H locs ht9 hvm9 hw_r_2 hB9 hz9 hk9 hS => ?_)
    have hP : gw_P D vwCl A (cDm κ) (cEn cI cZ cB cS κ σ sc ad) ad H := by rw [← ht9]; exact hB9
    refine lv_toq ((if lack σ 21 b = true then 1 else 0)) hw_r_2 ?_
    refine lv_if_eq (tgt := 18) hx hb dX3_failureOf_13 (by decide) (fun c_3 => ?_) (fun c_3 => ?_)
    · refine lv_aload_n hx hb dX3_failureOf_18 rfl (lv_at hl 0 rfl) ?_
      refine gw_get (C := RX0) (T := TX0) (N := 11) hx hb hL0 hown hK hP 11 b (cDb (by omega) (by decide) (by decide)) rfl rfl 0 (by decide) (hts (.fieldLink RX3 86 "BlockPrograms$Block" "kind" "I") (by decide +kernel)) (fun _ h9 => h9) (v := .int (nI 21)) (congrArg (fun z : Int32 => some (Value.int z)) ek) dX3_failureOf_19 ?_
      refine lv_lookup (off := 81) (tgt := 103) hx hb dX3_failureOf_22 (by decide) (by decide) (by decide) ?_
      refine lv_iconst (v := 0) hx hb dX3_failureOf_103 (by decide) ?_
      have f_0 := lk_f c_3
      exact W.iret (v := 0) hx hb hr (fun t ht hW => ⟨⟨0, (), rfl, (by simp [f_fail, f_0]; try rfl), by rw [← ht] at hP; exact hP⟩, hS.F ht⟩) hS.2.2 dX3_failureOf_104
    · refine lv_iconst (v := 3) hx hb dX3_failureOf_16 (by decide) ?_
      have f_0 := lk_t c_3
      exact W.iret (v := 3) hx hb hr (fun t ht hW => ⟨⟨3, (), rfl, (by simp [f_fail, f_0]; try rfl), by rw [← ht] at hP; exact hP⟩, hS.F ht⟩) hS.2.2 dX3_failureOf_17

set_option maxHeartbeats 4000000 in
set_option maxRecDepth 100000 in
theorem k_X3_fail_22 {l : Launch} {D : va_G} {cI cZ cB cS : ClassId} {A : Nat → Prop} (κ : Nat → Nat) (σ sc : Nat → Nat → Int32) (ad : Nat → Nat → Nat) (b : Nat) (hb0 : b < κ 0) (ek : σ 0 b = nI 22) (y0 y1 : Int32) : Met l yX3_failureOf wsX3_failureOf ({ frames := 2, cells := 0, slots := 0, locals := 41 } : Room) (gPc D cI cZ cB cS A (cDm κ) (cEn cI cZ cB cS κ σ sc ad) ad [.ref (ad 11 b), .int y0, .int y1]) (va_Qi (fun (r : Int32) (_ : Unit) => r = nI (f_fail σ 22 b y0 y1)) (fun _ t => gw_P D vwCl A (cDm κ) (cEn cI cZ cB cS κ σ sc ad) ad t.heap) A) 0 0 A := by
  refine Met.ofW (cc := cX3_failureOf) (maxL := 3) (ret := (some .int)) (by decide) rfl ?_
  intro p e s m args below meth c s₁ B hml hv
  obtain ⟨rfl, hP, hE, hA⟩ := hv
  have hx := B.exec
  have hb := B.bytes
  have hr := B.returns
  have hts := atoms_spec (ws := wsX3_failureOf) B.pre
  have hown : s.vm.findClass RX3 = some m.cls := findClass_of_methodNamed B.named
  have hlocks := B.notSynchronized
  have hK := hE.1
  have hS : va_S A s.heap s.heap [] := va_S.rf
  have hL0 := fun w (hw : w ∈ u_ws RX0 TX0 11) => hts w (iL_X3_failureOf_X0 w hw)
  have hl := lv_entry ([.ref (ad 11 b), .int y0, .int y1]) (n := 3) (Nat.le_of_ble_eq_true rfl)
  rw [lg_entry_eq]
  generalize (lg_sl ([.ref (ad 11 b), .int y0, .int y1]) ++ List.replicate (3 - (lg_sl ([.ref (ad 11 b), .int y0, .int y1])).length) Slot.unset).toArray = ls at hl ⊢
  have hl : lv_has ls 3 [(0, .ref (ad 11 b)), (1, .int y0), (2, .int y1)] := hl
  refine lv_aload_n hx hb dX3_failureOf_0 rfl (lv_at hl 0 rfl) ?_
  refine gw_get (C := RX0) (T := TX0) (N := 11) hx hb hL0 hown hK hP 11 b (cDb (by omega) (by decide) (by decide)) rfl rfl 0 (by decide) (hts (.fieldLink RX3 86 "BlockPrograms$Block" "kind" "I") (by decide +kernel)) (fun _ h9 => h9) (v := .int (nI 22)) (congrArg (fun z : Int32 => some (Value.int z)) ek) dX3_failureOf_1 ?_
  refine lv_bipush (v := 16) hx hb dX3_failureOf_4 (by decide) ?_
  refine lv_icmp_eq (tgt := 18) hx hb dX3_failureOf_6 (by decide) (fun c_1 => ?_) (fun c_1 => ?_)
  · have c_1 : 22 = 16 := (nI_eq (a := 22) (b := 16) (by omega) (by omega)).mp c_1
    exfalso; omega
  · have c_1 : ¬ (22 = 16) := fun z => c_1 ((nI_eq (a := 22) (b := 16) (by omega) (by omega)).mpr z)
    refine lv_aload_n hx hb dX3_failureOf_9 rfl (lv_at hl 0 rfl) ?_
    refine va_calli (va_runV (As := []) (rest := []) ⟨hx, hb, hml, hown, hts⟩ (k_X0_lacksWire (l := l) (D := D) (cI := cI) (cZ := cZ) (cB := cB) (cS := cS) (A := A) κ σ sc ad b 22 hb0 (by decide) ek) (cwV 0 hts gX3_failureOf_X0_lacksWire rfl rfl rfl (by decide +kernel) ⟨Nat.le_of_ble_eq_true rfl, Nat.le_of_ble_eq_true rfl⟩) (gPreV hE hA hS hP (gw_recv hK hP 11 b (cDb (by omega) (by decide) (by decide)) rfl rfl)) rfl rfl hl.1 rfl (lv_room (Nat.le_of_ble_eq_true rfl)) dX3_failureOf_10 ⟨Nat.le_of_ble_eq_true rfl, Nat.le_of_ble_eq_true rfl⟩) hS (fun q _ h9 => h9) (fun q h9 => h9) (fun r_2 u9 t9 H locs ht9 hvm9 hw_r_2 hB9 hz9 hk9 hS => ?_)
    have hP : gw_P D vwCl A (cDm κ) (cEn cI cZ cB cS κ σ sc ad) ad H := by rw [← ht9]; exact hB9
    refine lv_toq ((if lack σ 22 b = true then 1 else 0)) hw_r_2 ?_
    refine lv_if_eq (tgt := 18) hx hb dX3_failureOf_13 (by decide) (fun c_3 => ?_) (fun c_3 => ?_)
    · refine lv_aload_n hx hb dX3_failureOf_18 rfl (lv_at hl 0 rfl) ?_
      refine gw_get (C := RX0) (T := TX0) (N := 11) hx hb hL0 hown hK hP 11 b (cDb (by omega) (by decide) (by decide)) rfl rfl 0 (by decide) (hts (.fieldLink RX3 86 "BlockPrograms$Block" "kind" "I") (by decide +kernel)) (fun _ h9 => h9) (v := .int (nI 22)) (congrArg (fun z : Int32 => some (Value.int z)) ek) dX3_failureOf_19 ?_
      refine lv_lookup (off := 81) (tgt := 103) hx hb dX3_failureOf_22 (by decide) (by decide) (by decide) ?_
      refine lv_iconst (v := 0) hx hb dX3_failureOf_103 (by decide) ?_
      have f_0 := lk_f c_3
      exact W.iret (v := 0) hx hb hr (fun t ht hW => ⟨⟨0, (), rfl, (by simp [f_fail, f_0]; try rfl), by rw [← ht] at hP; exact hP⟩, hS.F ht⟩) hS.2.2 dX3_failureOf_104
    · refine lv_iconst (v := 3) hx hb dX3_failureOf_16 (by decide) ?_
      have f_0 := lk_t c_3
      exact W.iret (v := 3) hx hb hr (fun t ht hW => ⟨⟨3, (), rfl, (by simp [f_fail, f_0]; try rfl), by rw [← ht] at hP; exact hP⟩, hS.F ht⟩) hS.2.2 dX3_failureOf_17

set_option maxHeartbeats 4000000 in
set_option maxRecDepth 100000 in
theorem k_X3_fail_23 {l : Launch} {D : va_G} {cI cZ cB cS : ClassId} {A : Nat → Prop} (κ : Nat → Nat) (σ sc : Nat → Nat → Int32) (ad : Nat → Nat → Nat) (b : Nat) (hb0 : b < κ 0) (ek : σ 0 b = nI 23) (y0 y1 : Int32) : Met l yX3_failureOf wsX3_failureOf ({ frames := 2, cells := 0, slots := 0, locals := 41 } : Room) (gPc D cI cZ cB cS A (cDm κ) (cEn cI cZ cB cS κ σ sc ad) ad [.ref (ad 11 b), .int y0, .int y1]) (va_Qi (fun (r : Int32) (_ : Unit) => r = nI (f_fail σ 23 b y0 y1)) (fun _ t => gw_P D vwCl A (cDm κ) (cEn cI cZ cB cS κ σ sc ad) ad t.heap) A) 0 0 A := by
  refine Met.ofW (cc := cX3_failureOf) (maxL := 3) (ret := (some .int)) (by decide) rfl ?_
  intro p e s m args below meth c s₁ B hml hv
  obtain ⟨rfl, hP, hE, hA⟩ := hv
  have hx := B.exec
  have hb := B.bytes
  have hr := B.returns
  have hts := atoms_spec (ws := wsX3_failureOf) B.pre
  have hown : s.vm.findClass RX3 = some m.cls := findClass_of_methodNamed B.named
  have hlocks := B.notSynchronized
  have hK := hE.1
  have hS : va_S A s.heap s.heap [] := va_S.rf
  have hL0 := fun w (hw : w ∈ u_ws RX0 TX0 11) => hts w (iL_X3_failureOf_X0 w hw)
  have hl := lv_entry ([.ref (ad 11 b), .int y0, .int y1]) (n := 3) (Nat.le_of_ble_eq_true rfl)
  rw [lg_entry_eq]
  generalize (lg_sl ([.ref (ad 11 b), .int y0, .int y1]) ++ List.replicate (3 - (lg_sl ([.ref (ad 11 b), .int y0, .int y1])).length) Slot.unset).toArray = ls at hl ⊢
  have hl : lv_has ls 3 [(0, .ref (ad 11 b)), (1, .int y0), (2, .int y1)] := hl
  refine lv_aload_n hx hb dX3_failureOf_0 rfl (lv_at hl 0 rfl) ?_
  refine gw_get (C := RX0) (T := TX0) (N := 11) hx hb hL0 hown hK hP 11 b (cDb (by omega) (by decide) (by decide)) rfl rfl 0 (by decide) (hts (.fieldLink RX3 86 "BlockPrograms$Block" "kind" "I") (by decide +kernel)) (fun _ h9 => h9) (v := .int (nI 23)) (congrArg (fun z : Int32 => some (Value.int z)) ek) dX3_failureOf_1 ?_
  refine lv_bipush (v := 16) hx hb dX3_failureOf_4 (by decide) ?_
  refine lv_icmp_eq (tgt := 18) hx hb dX3_failureOf_6 (by decide) (fun c_1 => ?_) (fun c_1 => ?_)
  · have c_1 : 23 = 16 := (nI_eq (a := 23) (b := 16) (by omega) (by omega)).mp c_1
    exfalso; omega
  · have c_1 : ¬ (23 = 16) := fun z => c_1 ((nI_eq (a := 23) (b := 16) (by omega) (by omega)).mpr z)
    refine lv_aload_n hx hb dX3_failureOf_9 rfl (lv_at hl 0 rfl) ?_
    refine va_calli (va_runV (As := []) (rest := []) ⟨hx, hb, hml, hown, hts⟩ (k_X0_lacksWire (l := l) (D := D) (cI := cI) (cZ := cZ) (cB := cB) (cS := cS) (A := A) κ σ sc ad b 23 hb0 (by decide) ek) (cwV 0 hts gX3_failureOf_X0_lacksWire rfl rfl rfl (by decide +kernel) ⟨Nat.le_of_ble_eq_true rfl, Nat.le_of_ble_eq_true rfl⟩) (gPreV hE hA hS hP (gw_recv hK hP 11 b (cDb (by omega) (by decide) (by decide)) rfl rfl)) rfl rfl hl.1 rfl (lv_room (Nat.le_of_ble_eq_true rfl)) dX3_failureOf_10 ⟨Nat.le_of_ble_eq_true rfl, Nat.le_of_ble_eq_true rfl⟩) hS (fun q _ h9 => h9) (fun q h9 => h9) (fun r_2 u9 t9 H locs ht9 hvm9 hw_r_2 hB9 hz9 hk9 hS => ?_)
    have hP : gw_P D vwCl A (cDm κ) (cEn cI cZ cB cS κ σ sc ad) ad H := by rw [← ht9]; exact hB9
    refine lv_toq ((if lack σ 23 b = true then 1 else 0)) hw_r_2 ?_
    refine lv_if_eq (tgt := 18) hx hb dX3_failureOf_13 (by decide) (fun c_3 => ?_) (fun c_3 => ?_)
    · refine lv_aload_n hx hb dX3_failureOf_18 rfl (lv_at hl 0 rfl) ?_
      refine gw_get (C := RX0) (T := TX0) (N := 11) hx hb hL0 hown hK hP 11 b (cDb (by omega) (by decide) (by decide)) rfl rfl 0 (by decide) (hts (.fieldLink RX3 86 "BlockPrograms$Block" "kind" "I") (by decide +kernel)) (fun _ h9 => h9) (v := .int (nI 23)) (congrArg (fun z : Int32 => some (Value.int z)) ek) dX3_failureOf_19 ?_
      refine lv_lookup (off := 81) (tgt := 103) hx hb dX3_failureOf_22 (by decide) (by decide) (by decide) ?_
      refine lv_iconst (v := 0) hx hb dX3_failureOf_103 (by decide) ?_
      have f_0 := lk_f c_3
      exact W.iret (v := 0) hx hb hr (fun t ht hW => ⟨⟨0, (), rfl, (by simp [f_fail, f_0]; try rfl), by rw [← ht] at hP; exact hP⟩, hS.F ht⟩) hS.2.2 dX3_failureOf_104
    · refine lv_iconst (v := 3) hx hb dX3_failureOf_16 (by decide) ?_
      have f_0 := lk_t c_3
      exact W.iret (v := 3) hx hb hr (fun t ht hW => ⟨⟨3, (), rfl, (by simp [f_fail, f_0]; try rfl), by rw [← ht] at hP; exact hP⟩, hS.F ht⟩) hS.2.2 dX3_failureOf_17

set_option maxHeartbeats 4000000 in
set_option maxRecDepth 100000 in
theorem k_X3_fail_24 {l : Launch} {D : va_G} {cI cZ cB cS : ClassId} {A : Nat → Prop} (κ : Nat → Nat) (σ sc : Nat → Nat → Int32) (ad : Nat → Nat → Nat) (b : Nat) (hb0 : b < κ 0) (ek : σ 0 b = nI 24) (y0 y1 : Int32) : Met l yX3_failureOf wsX3_failureOf ({ frames := 2, cells := 0, slots := 0, locals := 41 } : Room) (gPc D cI cZ cB cS A (cDm κ) (cEn cI cZ cB cS κ σ sc ad) ad [.ref (ad 11 b), .int y0, .int y1]) (va_Qi (fun (r : Int32) (_ : Unit) => r = nI (f_fail σ 24 b y0 y1)) (fun _ t => gw_P D vwCl A (cDm κ) (cEn cI cZ cB cS κ σ sc ad) ad t.heap) A) 0 0 A := by
  refine Met.ofW (cc := cX3_failureOf) (maxL := 3) (ret := (some .int)) (by decide) rfl ?_
  intro p e s m args below meth c s₁ B hml hv
  obtain ⟨rfl, hP, hE, hA⟩ := hv
  have hx := B.exec
  have hb := B.bytes
  have hr := B.returns
  have hts := atoms_spec (ws := wsX3_failureOf) B.pre
  have hown : s.vm.findClass RX3 = some m.cls := findClass_of_methodNamed B.named
  have hlocks := B.notSynchronized
  have hK := hE.1
  have hS : va_S A s.heap s.heap [] := va_S.rf
  have hL0 := fun w (hw : w ∈ u_ws RX0 TX0 11) => hts w (iL_X3_failureOf_X0 w hw)
  have hl := lv_entry ([.ref (ad 11 b), .int y0, .int y1]) (n := 3) (Nat.le_of_ble_eq_true rfl)
  rw [lg_entry_eq]
  generalize (lg_sl ([.ref (ad 11 b), .int y0, .int y1]) ++ List.replicate (3 - (lg_sl ([.ref (ad 11 b), .int y0, .int y1])).length) Slot.unset).toArray = ls at hl ⊢
  have hl : lv_has ls 3 [(0, .ref (ad 11 b)), (1, .int y0), (2, .int y1)] := hl
  refine lv_aload_n hx hb dX3_failureOf_0 rfl (lv_at hl 0 rfl) ?_
  refine gw_get (C := RX0) (T := TX0) (N := 11) hx hb hL0 hown hK hP 11 b (cDb (by omega) (by decide) (by decide)) rfl rfl 0 (by decide) (hts (.fieldLink RX3 86 "BlockPrograms$Block" "kind" "I") (by decide +kernel)) (fun _ h9 => h9) (v := .int (nI 24)) (congrArg (fun z : Int32 => some (Value.int z)) ek) dX3_failureOf_1 ?_
  refine lv_bipush (v := 16) hx hb dX3_failureOf_4 (by decide) ?_
  refine lv_icmp_eq (tgt := 18) hx hb dX3_failureOf_6 (by decide) (fun c_1 => ?_) (fun c_1 => ?_)
  · have c_1 : 24 = 16 := (nI_eq (a := 24) (b := 16) (by omega) (by omega)).mp c_1
    exfalso; omega
  · have c_1 : ¬ (24 = 16) := fun z => c_1 ((nI_eq (a := 24) (b := 16) (by omega) (by omega)).mpr z)
    refine lv_aload_n hx hb dX3_failureOf_9 rfl (lv_at hl 0 rfl) ?_
    refine va_calli (va_runV (As := []) (rest := []) ⟨hx, hb, hml, hown, hts⟩ (k_X0_lacksWire (l := l) (D := D) (cI := cI) (cZ := cZ) (cB := cB) (cS := cS) (A := A) κ σ sc ad b 24 hb0 (by decide) ek) (cwV 0 hts gX3_failureOf_X0_lacksWire rfl rfl rfl (by decide +kernel) ⟨Nat.le_of_ble_eq_true rfl, Nat.le_of_ble_eq_true rfl⟩) (gPreV hE hA hS hP (gw_recv hK hP 11 b (cDb (by omega) (by decide) (by decide)) rfl rfl)) rfl rfl hl.1 rfl (lv_room (Nat.le_of_ble_eq_true rfl)) dX3_failureOf_10 ⟨Nat.le_of_ble_eq_true rfl, Nat.le_of_ble_eq_true rfl⟩) hS (fun q _ h9 => h9) (fun q h9 => h9) (fun r_2 u9 t9 H locs ht9 hvm9 hw_r_2 hB9 hz9 hk9 hS => ?_)
    have hP : gw_P D vwCl A (cDm κ) (cEn cI cZ cB cS κ σ sc ad) ad H := by rw [← ht9]; exact hB9
    refine lv_toq ((if lack σ 24 b = true then 1 else 0)) hw_r_2 ?_
    refine lv_if_eq (tgt := 18) hx hb dX3_failureOf_13 (by decide) (fun c_3 => ?_) (fun c_3 => ?_)
    · refine lv_aload_n hx hb dX3_failureOf_18 rfl (lv_at hl 0 rfl) ?_
      refine gw_get (C := RX0) (T := TX0) (N := 11) hx hb hL0 hown hK hP 11 b (cDb (by omega) (by decide) (by decide)) rfl rfl 0 (by decide) (hts (.fieldLink RX3 86 "BlockPrograms$Block" "kind" "I") (by decide +kernel)) (fun _ h9 => h9) (v := .int (nI 24)) (congrArg (fun z : Int32 => some (Value.int z)) ek) dX3_failureOf_19 ?_
      refine lv_lookup (off := 81) (tgt := 103) hx hb dX3_failureOf_22 (by decide) (by decide) (by decide) ?_
      refine lv_iconst (v := 0) hx hb dX3_failureOf_103 (by decide) ?_
      have f_0 := lk_f c_3
      exact W.iret (v := 0) hx hb hr (fun t ht hW => ⟨⟨0, (), rfl, (by simp [f_fail, f_0]; try rfl), by rw [← ht] at hP; exact hP⟩, hS.F ht⟩) hS.2.2 dX3_failureOf_104
    · refine lv_iconst (v := 3) hx hb dX3_failureOf_16 (by decide) ?_
      have f_0 := lk_t c_3
      exact W.iret (v := 3) hx hb hr (fun t ht hW => ⟨⟨3, (), rfl, (by simp [f_fail, f_0]; try rfl), by rw [← ht] at hP; exact hP⟩, hS.F ht⟩) hS.2.2 dX3_failureOf_17

set_option maxHeartbeats 4000000 in
set_option maxRecDepth 100000 in
theorem k_X3_fail_25 {l : Launch} {D : va_G} {cI cZ cB cS : ClassId} {A : Nat → Prop} (κ : Nat → Nat) (σ sc : Nat → Nat → Int32) (ad : Nat → Nat → Nat) (b : Nat) (hb0 : b < κ 0) (ek : σ 0 b = nI 25) (y0 y1 : Int32) : Met l yX3_failureOf wsX3_failureOf ({ frames := 2, cells := 0, slots := 0, locals := 41 } : Room) (gPc D cI cZ cB cS A (cDm κ) (cEn cI cZ cB cS κ σ sc ad) ad [.ref (ad 11 b), .int y0, .int y1]) (va_Qi (fun (r : Int32) (_ : Unit) => r = nI (f_fail σ 25 b y0 y1)) (fun _ t => gw_P D vwCl A (cDm κ) (cEn cI cZ cB cS κ σ sc ad) ad t.heap) A) 0 0 A := by
  refine Met.ofW (cc := cX3_failureOf) (maxL := 3) (ret := (some .int)) (by decide) rfl ?_
  intro p e s m args below meth c s₁ B hml hv
  obtain ⟨rfl, hP, hE, hA⟩ := hv
  have hx := B.exec
  have hb := B.bytes
  have hr := B.returns
  have hts := atoms_spec (ws := wsX3_failureOf) B.pre
  have hown : s.vm.findClass RX3 = some m.cls := findClass_of_methodNamed B.named
  have hlocks := B.notSynchronized
  have hK := hE.1
  have hS : va_S A s.heap s.heap [] := va_S.rf
  have hL0 := fun w (hw : w ∈ u_ws RX0 TX0 11) => hts w (iL_X3_failureOf_X0 w hw)
  have hl := lv_entry ([.ref (ad 11 b), .int y0, .int y1]) (n := 3) (Nat.le_of_ble_eq_true rfl)
  rw [lg_entry_eq]
  generalize (lg_sl ([.ref (ad 11 b), .int y0, .int y1]) ++ List.replicate (3 - (lg_sl ([.ref (ad 11 b), .int y0, .int y1])).length) Slot.unset).toArray = ls at hl ⊢
  have hl : lv_has ls 3 [(0, .ref (ad 11 b)), (1, .int y0), (2, .int y1)] := hl
  refine lv_aload_n hx hb dX3_failureOf_0 rfl (lv_at hl 0 rfl) ?_
  refine gw_get (C := RX0) (T := TX0) (N := 11) hx hb hL0 hown hK hP 11 b (cDb (by omega) (by decide) (by decide)) rfl rfl 0 (by decide) (hts (.fieldLink RX3 86 "BlockPrograms$Block" "kind" "I") (by decide +kernel)) (fun _ h9 => h9) (v := .int (nI 25)) (congrArg (fun z : Int32 => some (Value.int z)) ek) dX3_failureOf_1 ?_
  refine lv_bipush (v := 16) hx hb dX3_failureOf_4 (by decide) ?_
  refine lv_icmp_eq (tgt := 18) hx hb dX3_failureOf_6 (by decide) (fun c_1 => ?_) (fun c_1 => ?_)
  · have c_1 : 25 = 16 := (nI_eq (a := 25) (b := 16) (by omega) (by omega)).mp c_1
    exfalso; omega
  · have c_1 : ¬ (25 = 16) := fun z => c_1 ((nI_eq (a := 25) (b := 16) (by omega) (by omega)).mpr z)
    refine lv_aload_n hx hb dX3_failureOf_9 rfl (lv_at hl 0 rfl) ?_
    refine va_calli (va_runV (As := []) (rest := []) ⟨hx, hb, hml, hown, hts⟩ (k_X0_lacksWire (l := l) (D := D) (cI := cI) (cZ := cZ) (cB := cB) (cS := cS) (A := A) κ σ sc ad b 25 hb0 (by decide) ek) (cwV 0 hts gX3_failureOf_X0_lacksWire rfl rfl rfl (by decide +kernel) ⟨Nat.le_of_ble_eq_true rfl, Nat.le_of_ble_eq_true rfl⟩) (gPreV hE hA hS hP (gw_recv hK hP 11 b (cDb (by omega) (by decide) (by decide)) rfl rfl)) rfl rfl hl.1 rfl (lv_room (Nat.le_of_ble_eq_true rfl)) dX3_failureOf_10 ⟨Nat.le_of_ble_eq_true rfl, Nat.le_of_ble_eq_true rfl⟩) hS (fun q _ h9 => h9) (fun q h9 => h9) (fun r_2 u9 t9 H locs ht9 hvm9 hw_r_2 hB9 hz9 hk9 hS => ?_)
    have hP : gw_P D vwCl A (cDm κ) (cEn cI cZ cB cS κ σ sc ad) ad H := by rw [← ht9]; exact hB9
    refine lv_toq ((if lack σ 25 b = true then 1 else 0)) hw_r_2 ?_
    refine lv_if_eq (tgt := 18) hx hb dX3_failureOf_13 (by decide) (fun c_3 => ?_) (fun c_3 => ?_)
    · refine lv_aload_n hx hb dX3_failureOf_18 rfl (lv_at hl 0 rfl) ?_
      refine gw_get (C := RX0) (T := TX0) (N := 11) hx hb hL0 hown hK hP 11 b (cDb (by omega) (by decide) (by decide)) rfl rfl 0 (by decide) (hts (.fieldLink RX3 86 "BlockPrograms$Block" "kind" "I") (by decide +kernel)) (fun _ h9 => h9) (v := .int (nI 25)) (congrArg (fun z : Int32 => some (Value.int z)) ek) dX3_failureOf_19 ?_
      refine lv_lookup (off := 81) (tgt := 103) hx hb dX3_failureOf_22 (by decide) (by decide) (by decide) ?_
      refine lv_iconst (v := 0) hx hb dX3_failureOf_103 (by decide) ?_
      have f_0 := lk_f c_3
      exact W.iret (v := 0) hx hb hr (fun t ht hW => ⟨⟨0, (), rfl, (by simp [f_fail, f_0]; try rfl), by rw [← ht] at hP; exact hP⟩, hS.F ht⟩) hS.2.2 dX3_failureOf_104
    · refine lv_iconst (v := 3) hx hb dX3_failureOf_16 (by decide) ?_
      have f_0 := lk_t c_3
      exact W.iret (v := 3) hx hb hr (fun t ht hW => ⟨⟨3, (), rfl, (by simp [f_fail, f_0]; try rfl), by rw [← ht] at hP; exact hP⟩, hS.F ht⟩) hS.2.2 dX3_failureOf_17

theorem k_X3_failureOf {l : Launch} {D : va_G} {cI cZ cB cS : ClassId} {A : Nat → Prop} (κ : Nat → Nat) (σ sc : Nat → Nat → Int32) (ad : Nat → Nat → Nat) (b k : Nat) (hb0 : b < κ 0) (hk0 : k < 26) (ek : σ 0 b = nI k) (y0 y1 : Int32) : Met l yX3_failureOf wsX3_failureOf ({ frames := 2, cells := 0, slots := 0, locals := 41 } : Room) (gPc D cI cZ cB cS A (cDm κ) (cEn cI cZ cB cS κ σ sc ad) ad [.ref (ad 11 b), .int y0, .int y1]) (va_Qi (fun (r : Int32) (_ : Unit) => r = nI (f_fail σ k b y0 y1)) (fun _ t => gw_P D vwCl A (cDm κ) (cEn cI cZ cB cS κ σ sc ad) ad t.heap) A) 0 0 A := by
  rcases (show k = 0 ∨ k = 1 ∨ k = 2 ∨ k = 3 ∨ k = 4 ∨ k = 5 ∨ k = 6 ∨ k = 7 ∨ k = 8 ∨ k = 9 ∨ k = 10 ∨ k = 11 ∨ k = 12 ∨ k = 13 ∨ k = 14 ∨ k = 15 ∨ k = 16 ∨ k = 17 ∨ k = 18 ∨ k = 19 ∨ k = 20 ∨ k = 21 ∨ k = 22 ∨ k = 23 ∨ k = 24 ∨ k = 25 by omega) with rfl | rfl | rfl | rfl | rfl | rfl | rfl | rfl | rfl | rfl | rfl | rfl | rfl | rfl | rfl | rfl | rfl | rfl | rfl | rfl | rfl | rfl | rfl | rfl | rfl | rfl
  · exact k_X3_fail_0 κ σ sc ad b hb0 ek y0 y1
  · exact k_X3_fail_1 κ σ sc ad b hb0 ek y0 y1
  · exact k_X3_fail_2 κ σ sc ad b hb0 ek y0 y1
  · exact k_X3_fail_3 κ σ sc ad b hb0 ek y0 y1
  · exact k_X3_fail_4 κ σ sc ad b hb0 ek y0 y1
  · exact k_X3_fail_5 κ σ sc ad b hb0 ek y0 y1
  · exact k_X3_fail_6 κ σ sc ad b hb0 ek y0 y1
  · exact k_X3_fail_7 κ σ sc ad b hb0 ek y0 y1
  · exact k_X3_fail_8 κ σ sc ad b hb0 ek y0 y1
  · exact k_X3_fail_9 κ σ sc ad b hb0 ek y0 y1
  · exact k_X3_fail_10 κ σ sc ad b hb0 ek y0 y1
  · exact k_X3_fail_11 κ σ sc ad b hb0 ek y0 y1
  · exact k_X3_fail_12 κ σ sc ad b hb0 ek y0 y1
  · exact k_X3_fail_13 κ σ sc ad b hb0 ek y0 y1
  · exact k_X3_fail_14 κ σ sc ad b hb0 ek y0 y1
  · exact k_X3_fail_15 κ σ sc ad b hb0 ek y0 y1
  · exact k_X3_fail_16 κ σ sc ad b hb0 ek y0 y1
  · exact k_X3_fail_17 κ σ sc ad b hb0 ek y0 y1
  · exact k_X3_fail_18 κ σ sc ad b hb0 ek y0 y1
  · exact k_X3_fail_19 κ σ sc ad b hb0 ek y0 y1
  · exact k_X3_fail_20 κ σ sc ad b hb0 ek y0 y1
  · exact k_X3_fail_21 κ σ sc ad b hb0 ek y0 y1
  · exact k_X3_fail_22 κ σ sc ad b hb0 ek y0 y1
  · exact k_X3_fail_23 κ σ sc ad b hb0 ek y0 y1
  · exact k_X3_fail_24 κ σ sc ad b hb0 ek y0 y1
  · exact k_X3_fail_25 κ σ sc ad b hb0 ek y0 y1
