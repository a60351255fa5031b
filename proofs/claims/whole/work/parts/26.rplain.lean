def plW (σ : Nat → Nat → Int32) (k b : Nat) (x y : Int32) : Nat := if k = 0 then (if okI 10 (σ 1 b) then 0 else 2) else if k = 15 then (if okI 8 x then 0 else 2) else if k = 5 ∨ k = 6 then (if y = 0 then 1 else 0) else 0
def plV (σ : Nat → Nat → Int32) (k b : Nat) (x y z : Int32) : Int32 := if k = 0 then (if okI 10 (σ 1 b) then σ 20 (σ 1 b).toNatClampNeg else 0) else if k = 1 then σ 1 b else if k = 15 then (if okI 8 x then σ 10 (8 * b + x.toNatClampNeg) else 0) else f_comb k x y z
theorem lp_2f {q : Prop} [Decidable q] (h : ¬ (if q then (1 : Int32) else 0) = 0) : q := lp_t h
theorem ok_if {n : Nat} {x : Int32} (h : okI n x) : (if okI n x then (0 : Nat) else 2) = 0 := if_pos h
theorem no_if {n : Nat} {x : Int32} (h : ¬ okI n x) : (if okI n x then (0 : Nat) else 2) = 2 := if_neg h
theorem iL_X4_plain_X4 : ∀ w ∈ u_ws RX4 TX4 25, w ∈ wsX4_plain := by decide +kernel
set_option maxHeartbeats 4000000 in
set_option maxRecDepth 100000 in
theorem k_X4_plain_0 {l : Launch} {D : va_G} {cI cZ cB cS : ClassId} {A : Nat → Prop} (κ : Nat → Nat) (σ sc : Nat → Nat → Int32) (ad : Nat → Nat → Nat) (b : Nat) (hb0 : b < κ 0) (hn : κ 0 ≤ 40) (ek : σ 0 b = nI 0) (hw0 : sc 2 2 = 0) (y0 y1 y2 : Int32) : Met l yX4_plain wsX4_plain ({ frames := 1, cells := 0, slots := 0, locals := 22 } : Room) (gPc D cI cZ cB cS A rDm (rEn cI cZ κ σ sc ad) ad [.ref (ad 0 0), .int (nI b), .int y0, .int y1, .int y2]) (va_Qi (fun (r : Int32) (_ : Unit) => r = plV σ 0 b y0 y1 y2) (fun _ t => gw_P D vwCl A rDm (rEn cI cZ κ σ (wr sc 2 2 (nI (plW σ 0 b y0 y1))) ad) ad t.heap) A) 0 0 A := by
  refine Met.ofW (cc := cX4_plain) (maxL := 6) (ret := (some .int)) (by decide) rfl ?_
  intro p e s m args below meth c s₁ B hml hv
  obtain ⟨rfl, hP, hE, hA⟩ := hv
  have hx := B.exec
  have hb := B.bytes
  have hr := B.returns
  have hts := atoms_spec (ws := wsX4_plain) B.pre
  have hown : s.vm.findClass RX4 = some m.cls := findClass_of_methodNamed B.named
  have hlocks := B.notSynchronized
  have hK := hE.1
  have hS : va_S A s.heap s.heap [] := va_S.rf
  have hL4 := fun w (hw : w ∈ u_ws RX4 TX4 25) => hts w (iL_X4_plain_X4 w hw)
  have hl := lv_entry ([.ref (ad 0 0), .int (nI b), .int y0, .int y1, .int y2]) (n := 6) (Nat.le_of_ble_eq_true rfl)
  rw [lg_entry_eq]
  generalize (lg_sl ([.ref (ad 0 0), .int (nI b), .int y0, .int y1, .int y2]) ++ List.replicate (6 - (lg_sl ([.ref (ad 0 0), .int (nI b), .int y0, .int y1, .int y2])).length) Slot.unset).toArray = ls at hl ⊢
  have hl : lv_has ls 6 [(0, .ref (ad 0 0)), (1, .int (nI b)), (2, .int y0), (3, .int y1), (4, .int y2)] := hl
  refine lv_aload_n hx hb dX4_plain_0 rfl (lv_at hl 0 rfl) ?_
  refine gw_get (C := RX4) (T := TX4) (N := 25) hx hb hL4 hown hK hP 0 0 (rDf (by decide)) rfl rfl 2 (by decide) (hts (.fieldLink RX4 7 "BlockProgramsModel" "kinds" "[I") (by decide +kernel)) (fun _ h9 => h9) (v := .ref (ad 2 0)) rfl dX4_plain_1 ?_
  refine lv_iload_n hx hb dX4_plain_4 rfl (lv_at hl 1 rfl) ?_
  refine gw_iald hx hb hK hP 2 0 (rDf (by decide)) 0 rfl rfl (b) rfl (by omega) (by decide) (v := nI 0) ek dX4_plain_5 ?_
  refine lv_tableIn (off := 74) (tgt := 80) hx hb dX4_plain_6 (by decide) (by decide) (by decide) (by decide) ?_
  refine lv_aload_n hx hb dX4_plain_80 rfl (lv_at hl 0 rfl) ?_
  refine lv_aload_n hx hb dX4_plain_81 rfl (lv_at hl 0 rfl) ?_
  refine gw_get (C := RX4) (T := TX4) (N := 25) hx hb hL4 hown hK hP 0 0 (rDf (by decide)) rfl rfl 3 (by decide) (hts (.fieldLink RX4 13 "BlockProgramsModel" "ps" "[I") (by decide +kernel)) (fun _ h9 => h9) (v := .ref (ad 3 0)) rfl dX4_plain_82 ?_
  refine lv_iload_n hx hb dX4_plain_85 rfl (lv_at hl 1 rfl) ?_
  refine gw_iald hx hb hK hP 3 0 (rDf (by decide)) 0 rfl rfl (b) rfl (by omega) (by decide) (v := (σ 1 b)) rfl dX4_plain_86 ?_
  refine lv_iconst (v := 0) hx hb dX4_plain_87 (by decide) ?_
  refine lv_bipush (v := 9) hx hb dX4_plain_88 (by decide) ?_
  refine va_calli (va_runS (As := [.int ((σ 1 b)), .int 0, .int 9]) (rest := [.ref (ad 0 0)]) ⟨hx, hb, hml, hown, hts⟩ (k_X4_in (l := l) (D := D) (cI := cI) (cZ := cZ) (cB := cB) (cS := cS) (A := A) rDm (rEn cI cZ κ σ sc ad) ad ((σ 1 b)) 0 9) (va_cwS 3 hts gX4_plain_X4_in rfl rfl rfl (by decide +kernel) ⟨Nat.le_of_ble_eq_true rfl, Nat.le_of_ble_eq_true rfl⟩) (gPreS hE hA hS hP) rfl rfl hl.1 rfl (lv_room (Nat.le_of_ble_eq_true rfl)) dX4_plain_90 ⟨Nat.le_of_ble_eq_true rfl, Nat.le_of_ble_eq_true rfl⟩) hS (fun q _ h9 => h9) (fun q h9 => h9) (fun r_1 u9 t9 H locs ht9 hvm9 hw_r_1 hB9 hz9 hk9 hS => ?_)
  have hP : gw_P D vwCl A rDm (rEn cI cZ κ σ sc ad) ad H := by rw [← ht9]; exact hB9
  by_cases hok : okI 10 (σ 1 b)
  · refine lv_toq 1 (hw_r_1.trans ((in_i (by decide) (by decide)).trans (if_pos hok))) ?_
    refine lv_if_eq (tgt := 100) hx hb dX4_plain_93 (by decide) (fun c_2 => ?_) (fun c_2 => ?_)
    · have c_2 : 1 = 0 := (nI_eq (a := 1) (b := 0) (by omega) (by omega)).mp c_2
      exfalso; omega
    · have c_2 : ¬ (1 = 0) := fun z => c_2 ((nI_eq (a := 1) (b := 0) (by omega) (by omega)).mpr z)
      refine lv_iconst (v := 0) hx hb dX4_plain_96 (by decide) ?_
      refine lv_goto (tgt := 101) hx hb dX4_plain_97 (by decide) ?_
      refine gw_put (ty := .int) (C := RX4) (T := TX4) (N := 25) hx hb hL4 tyX4 tyX4_ok nmX4 hown hK hP hS 0 0 (rDf (by decide)) rfl rfl 24 (by decide) (hts (.fieldLink RX4 93 "BlockProgramsModel" "wrong" "I") (by decide +kernel)) (fun _ h9 => h9) rfl (by decide +kernel) rfl rfl (Nat.le_of_ble_eq_true rfl) dX4_plain_101 (rEn cI cZ κ σ (wr sc 2 2 0) ad) (rU0s_24 _) (fun t9 i9 z9 h9 => rU0 _ _ t9 i9 h9 z9) (fun H locs hP hS => ?_)
      refine lv_aload_n hx hb dX4_plain_104 rfl (lv_at hl 0 rfl) ?_
      refine gw_get (C := RX4) (T := TX4) (N := 25) hx hb hL4 hown hK hP 0 0 (rDf (by decide)) rfl rfl 24 (by decide) (hts (.fieldLink RX4 93 "BlockProgramsModel" "wrong" "I") (by decide +kernel)) (fun _ h9 => h9) (v := .int 0) (by simp [wr, va_up]) dX4_plain_105 ?_
      refine lv_if_ne (tgt := 125) hx hb dX4_plain_108 (by decide) (fun c_3 => ?_) (fun c_3 => ?_)
      · have c_3 : ¬ (0 = 0) := fun z => c_3 ((nI_eq (a := 0) (b := 0) (by omega) (by omega)).mpr z)
        exfalso; omega
      · have c_3 : 0 = 0 := (nI_eq (a := 0) (b := 0) (by omega) (by omega)).mp c_3
        refine lv_aload_n hx hb dX4_plain_111 rfl (lv_at hl 0 rfl) ?_
        refine gw_get (C := RX4) (T := TX4) (N := 25) hx hb hL4 hown hK hP 0 0 (rDf (by decide)) rfl rfl 13 (by decide) (hts (.fieldLink RX4 44 "BlockProgramsModel" "points" "[I") (by decide +kernel)) (fun _ h9 => h9) (v := .ref (ad 13 0)) rfl dX4_plain_112 ?_
        refine lv_aload_n hx hb dX4_plain_115 rfl (lv_at hl 0 rfl) ?_
        refine gw_get (C := RX4) (T := TX4) (N := 25) hx hb hL4 hown hK hP 0 0 (rDf (by decide)) rfl rfl 3 (by decide) (hts (.fieldLink RX4 13 "BlockProgramsModel" "ps" "[I") (by decide +kernel)) (fun _ h9 => h9) (v := .ref (ad 3 0)) rfl dX4_plain_116 ?_
        refine lv_iload_n hx hb dX4_plain_119 rfl (lv_at hl 1 rfl) ?_
        refine gw_iald hx hb hK hP 3 0 (rDf (by decide)) 0 rfl rfl (b) rfl (by omega) (by decide) (v := (σ 1 b)) rfl dX4_plain_120 ?_
        obtain ⟨j, hj, ej⟩ := ix_of (n := 10) (by decide) hok.1 hok.2
        refine lv_toq (nI j) ej ?_
        refine gw_iald hx hb hK hP 13 0 (rDf (by decide)) 0 rfl rfl (j) rfl (by omega) (by decide) (v := (σ 20 j)) rfl dX4_plain_121 ?_
        refine lv_goto (tgt := 126) hx hb dX4_plain_122 (by decide) ?_
        have e9 : plW σ 0 b y0 y1 = 0 := by simp [plW, hok]
        rw [show wr sc 2 2 0 = wr sc 2 2 (nI (plW σ 0 b y0 y1)) from by rw [e9]; rfl] at hP
        exact W.iret (v := (σ 20 j)) hx hb hr (fun t ht hW => ⟨⟨((σ 20 j)), (), rfl, (by unfold plV; rw [if_pos rfl, if_pos hok, ej, nI_clamp (show j < 2 ^ 31 by omega)]), by rw [← ht] at hP; exact hP⟩, hS.F ht⟩) hS.2.2 dX4_plain_126
  · refine lv_toq 0 (hw_r_1.trans ((in_i (by decide) (by decide)).trans (if_neg hok))) ?_
    refine lv_if_eq (tgt := 100) hx hb dX4_plain_93 (by decide) (fun c_4 => ?_) (fun c_4 => ?_)
    · have c_4 : 0 = 0 := (nI_eq (a := 0) (b := 0) (by omega) (by omega)).mp c_4
      refine lv_iconst (v := 2) hx hb dX4_plain_100 (by decide) ?_
      refine gw_put (ty := .int) (C := RX4) (T := TX4) (N := 25) hx hb hL4 tyX4 tyX4_ok nmX4 hown hK hP hS 0 0 (rDf (by decide)) rfl rfl 24 (by decide) (hts (.fieldLink RX4 93 "BlockProgramsModel" "wrong" "I") (by decide +kernel)) (fun _ h9 => h9) rfl (by decide +kernel) rfl rfl (Nat.le_of_ble_eq_true rfl) dX4_plain_101 (rEn cI cZ κ σ (wr sc 2 2 2) ad) (rU0s_24 _) (fun t9 i9 z9 h9 => rU0 _ _ t9 i9 h9 z9) (fun H locs hP hS => ?_)
      refine lv_aload_n hx hb dX4_plain_104 rfl (lv_at hl 0 rfl) ?_
      refine gw_get (C := RX4) (T := TX4) (N := 25) hx hb hL4 hown hK hP 0 0 (rDf (by decide)) rfl rfl 24 (by decide) (hts (.fieldLink RX4 93 "BlockProgramsModel" "wrong" "I") (by decide +kernel)) (fun _ h9 => h9) (v := .int 2) (by simp [wr, va_up]) dX4_plain_105 ?_
      refine lv_if_ne (tgt := 125) hx hb dX4_plain_108 (by decide) (fun c_5 => ?_) (fun c_5 => ?_)
      · have c_5 : ¬ (2 = 0) := fun z => c_5 ((nI_eq (a := 2) (b := 0) (by omega) (by omega)).mpr z)
        refine lv_iconst (v := 0) hx hb dX4_plain_125 (by decide) ?_
        have e9 : plW σ 0 b y0 y1 = 2 := by simp [plW, hok]
        rw [show wr sc 2 2 2 = wr sc 2 2 (nI (plW σ 0 b y0 y1)) from by rw [e9]; rfl] at hP
        exact W.iret (v := 0) hx hb hr (fun t ht hW => ⟨⟨0, (), rfl, (by simp [plV, hok]), by rw [← ht] at hP; exact hP⟩, hS.F ht⟩) hS.2.2 dX4_plain_126
      · have c_5 : 2 = 0 := (nI_eq (a := 2) (b := 0) (by omega) (by omega)).mp c_5
        exfalso; omega
    · have c_4 : ¬ (0 = 0) := fun z => c_4 ((nI_eq (a := 0) (b := 0) (by omega) (by omega)).mpr z)
      exfalso; omega

set_option maxHeartbeats 4000000 in
set_option maxRecDepth 100000 in
theorem k_X4_plain_1 {l : Launch} {D : va_G} {cI cZ cB cS : ClassId} {A : Nat → Prop} (κ : Nat → Nat) (σ sc : Nat → Nat → Int32) (ad : Nat → Nat → Nat) (b : Nat) (hb0 : b < κ 0) (hn : κ 0 ≤ 40) (ek : σ 0 b = nI 1) (hw0 : sc 2 2 = 0) (y0 y1 y2 : Int32) : Met l yX4_plain wsX4_plain ({ frames := 1, cells := 0, slots := 0, locals := 22 } : Room) (gPc D cI cZ cB cS A rDm (rEn cI cZ κ σ sc ad) ad [.ref (ad 0 0), .int (nI b), .int y0, .int y1, .int y2]) (va_Qi (fun (r : Int32) (_ : Unit) => r = plV σ 1 b y0 y1 y2) (fun _ t => gw_P D vwCl A rDm (rEn cI cZ κ σ (wr sc 2 2 (nI (plW σ 1 b y0 y1))) ad) ad t.heap) A) 0 0 A := by
  refine Met.ofW (cc := cX4_plain) (maxL := 6) (ret := (some .int)) (by decide) rfl ?_
  intro p e s m args below meth c s₁ B hml hv
  obtain ⟨rfl, hP, hE, hA⟩ := hv
  have hx := B.exec
  have hb := B.bytes
  have hr := B.returns
  have hts := atoms_spec (ws := wsX4_plain) B.pre
  have hown : s.vm.findClass RX4 = some m.cls := findClass_of_methodNamed B.named
  have hlocks := B.notSynchronized
  have hK := hE.1
  have hS : va_S A s.heap s.heap [] := va_S.rf
  have hL4 := fun w (hw : w ∈ u_ws RX4 TX4 25) => hts w (iL_X4_plain_X4 w hw)
  have hl := lv_entry ([.ref (ad 0 0), .int (nI b), .int y0, .int y1, .int y2]) (n := 6) (Nat.le_of_ble_eq_true rfl)
  rw [lg_entry_eq]
  generalize (lg_sl ([.ref (ad 0 0), .int (nI b), .int y0, .int y1, .int y2]) ++ List.replicate (6 - (lg_sl ([.ref (ad 0 0), .int (nI b), .int y0, .int y1, .int y2])).length) Slot.unset).toArray = ls at hl ⊢
  have hl : lv_has ls 6 [(0, .ref (ad 0 0)), (1, .int (nI b)), (2, .int y0), (3, .int y1), (4, .int y2)] := hl
  refine lv_aload_n hx hb dX4_plain_0 rfl (lv_at hl 0 rfl) ?_
  refine gw_get (C := RX4) (T := TX4) (N := 25) hx hb hL4 hown hK hP 0 0 (rDf (by decide)) rfl rfl 2 (by decide) (hts (.fieldLink RX4 7 "BlockProgramsModel" "kinds" "[I") (by decide +kernel)) (fun _ h9 => h9) (v := .ref (ad 2 0)) rfl dX4_plain_1 ?_
  refine lv_iload_n hx hb dX4_plain_4 rfl (lv_at hl 1 rfl) ?_
  refine gw_iald hx hb hK hP 2 0 (rDf (by decide)) 0 rfl rfl (b) rfl (by omega) (by decide) (v := nI 1) ek dX4_plain_5 ?_
  refine lv_tableIn (off := 121) (tgt := 127) hx hb dX4_plain_6 (by decide) (by decide) (by decide) (by decide) ?_
  refine lv_aload_n hx hb dX4_plain_127 rfl (lv_at hl 0 rfl) ?_
  refine gw_get (C := RX4) (T := TX4) (N := 25) hx hb hL4 hown hK hP 0 0 (rDf (by decide)) rfl rfl 3 (by decide) (hts (.fieldLink RX4 13 "BlockProgramsModel" "ps" "[I") (by decide +kernel)) (fun _ h9 => h9) (v := .ref (ad 3 0)) rfl dX4_plain_128 ?_
  refine lv_iload_n hx hb dX4_plain_131 rfl (lv_at hl 1 rfl) ?_
  refine gw_iald hx hb hK hP 3 0 (rDf (by decide)) 0 rfl rfl (b) rfl (by omega) (by decide) (v := (σ 1 b)) rfl dX4_plain_132 ?_
  have e9 : wr sc 2 2 (nI (plW σ 1 b y0 y1)) = sc := by rw [show plW σ 1 b y0 y1 = 0 from rfl]; exact wr_same hw0
  rw [← e9] at hP
  exact W.iret (v := (σ 1 b)) hx hb hr (fun t ht hW => ⟨⟨((σ 1 b)), (), rfl, (by simp [plV, f_comb, plW]), by rw [← ht] at hP; exact hP⟩, hS.F ht⟩) hS.2.2 dX4_plain_133

set_option maxHeartbeats 4000000 in
set_option maxRecDepth 100000 in
theorem k_X4_plain_2 {l : Launch} {D : va_G} {cI cZ cB cS : ClassId} {A : Nat → Prop} (κ : Nat → Nat) (σ sc : Nat → Nat → Int32) (ad : Nat → Nat → Nat) (b : Nat) (hb0 : b < κ 0) (hn : κ 0 ≤ 40) (ek : σ 0 b = nI 2) (hw0 : sc 2 2 = 0) (y0 y1 y2 : Int32) : Met l yX4_plain wsX4_plain ({ frames := 1, cells := 0, slots := 0, locals := 22 } : Room) (gPc D cI cZ cB cS A rDm (rEn cI cZ κ σ sc ad) ad [.ref (ad 0 0), .int (nI b), .int y0, .int y1, .int y2]) (va_Qi (fun (r : Int32) (_ : Unit) => r = plV σ 2 b y0 y1 y2) (fun _ t => gw_P D vwCl A rDm (rEn cI cZ κ σ (wr sc 2 2 (nI (plW σ 2 b y0 y1))) ad) ad t.heap) A) 0 0 A := by
  refine Met.ofW (cc := cX4_plain) (maxL := 6) (ret := (some .int)) (by decide) rfl ?_
  intro p e s m args below meth c s₁ B hml hv
  obtain ⟨rfl, hP, hE, hA⟩ := hv
  have hx := B.exec
  have hb := B.bytes
  have hr := B.returns
  have hts := atoms_spec (ws := wsX4_plain) B.pre
  have hown : s.vm.findClass RX4 = some m.cls := findClass_of_methodNamed B.named
  have hlocks := B.notSynchronized
  have hK := hE.1
  have hS : va_S A s.heap s.heap [] := va_S.rf
  have hL4 := fun w (hw : w ∈ u_ws RX4 TX4 25) => hts w (iL_X4_plain_X4 w hw)
  have hl := lv_entry ([.ref (ad 0 0), .int (nI b), .int y0, .int y1, .int y2]) (n := 6) (Nat.le_of_ble_eq_true rfl)
  rw [lg_entry_eq]
  generalize (lg_sl ([.ref (ad 0 0), .int (nI b), .int y0, .int y1, .int y2]) ++ List.replicate (6 - (lg_sl ([.ref (ad 0 0), .int (nI b), .int y0, .int y1, .int y2])).length) Slot.unset).toArray = ls at hl ⊢
  have hl : lv_has ls 6 [(0, .ref (ad 0 0)), (1, .int (nI b)), (2, .int y0), (3, .int y1), (4, .int y2)] := hl
  refine lv_aload_n hx hb dX4_plain_0 rfl (lv_at hl 0 rfl) ?_
  refine gw_get (C := RX4) (T := TX4) (N := 25) hx hb hL4 hown hK hP 0 0 (rDf (by decide)) rfl rfl 2 (by decide) (hts (.fieldLink RX4 7 "BlockProgramsModel" "kinds" "[I") (by decide +kernel)) (fun _ h9 => h9) (v := .ref (ad 2 0)) rfl dX4_plain_1 ?_
  refine lv_iload_n hx hb dX4_plain_4 rfl (lv_at hl 1 rfl) ?_
  refine gw_iald hx hb hK hP 2 0 (rDf (by decide)) 0 rfl rfl (b) rfl (by omega) (by decide) (v := nI 2) ek dX4_plain_5 ?_
  refine lv_tableIn (off := 128) (tgt := 134) hx hb dX4_plain_6 (by decide) (by decide) (by decide) (by decide) ?_
  refine lv_iload_n hx hb dX4_plain_134 rfl (lv_at hl 2 rfl) ?_
  refine lv_iload_n hx hb dX4_plain_135 rfl (lv_at hl 3 rfl) ?_
  refine lv_iadd hx hb dX4_plain_136 ?_
  have e9 : wr sc 2 2 (nI (plW σ 2 b y0 y1)) = sc := by rw [show plW σ 2 b y0 y1 = 0 from rfl]; exact wr_same hw0
  rw [← e9] at hP
  exact W.iret (v := (y0 + y1)) hx hb hr (fun t ht hW => ⟨⟨((y0 + y1)), (), rfl, (by simp [plV, f_comb, plW]), by rw [← ht] at hP; exact hP⟩, hS.F ht⟩) hS.2.2 dX4_plain_137

set_option maxHeartbeats 4000000 in
set_option maxRecDepth 100000 in
theorem k_X4_plain_3 {l : Launch} {D : va_G} {cI cZ cB cS : ClassId} {A : Nat → Prop} (κ : Nat → Nat) (σ sc : Nat → Nat → Int32) (ad : Nat → Nat → Nat) (b : Nat) (hb0 : b < κ 0) (hn : κ 0 ≤ 40) (ek : σ 0 b = nI 3) (hw0 : sc 2 2 = 0) (y0 y1 y2 : Int32) : Met l yX4_plain wsX4_plain ({ frames := 1, cells := 0, slots := 0, locals := 22 } : Room) (gPc D cI cZ cB cS A rDm (rEn cI cZ κ σ sc ad) ad [.ref (ad 0 0), .int (nI b), .int y0, .int y1, .int y2]) (va_Qi (fun (r : Int32) (_ : Unit) => r = plV σ 3 b y0 y1 y2) (fun _ t => gw_P D vwCl A rDm (rEn cI cZ κ σ (wr sc 2 2 (nI (plW σ 3 b y0 y1))) ad) ad t.heap) A) 0 0 A := by
  refine Met.ofW (cc := cX4_plain) (maxL := 6) (ret := (some .int)) (by decide) rfl ?_
  intro p e s m args below meth c s₁ B hml hv
  obtain ⟨rfl, hP, hE, hA⟩ := hv
  have hx := B.exec
  have hb := B.bytes
  have hr := B.returns
  have hts := atoms_spec (ws := wsX4_plain) B.pre
  have hown : s.vm.findClass RX4 = some m.cls := findClass_of_methodNamed B.named
  have hlocks := B.notSynchronized
  have hK := hE.1
  have hS : va_S A s.heap s.heap [] := va_S.rf
  have hL4 := fun w (hw : w ∈ u_ws RX4 TX4 25) => hts w (iL_X4_plain_X4 w hw)
  have hl := lv_entry ([.ref (ad 0 0), .int (nI b), .int y0, .int y1, .int y2]) (n := 6) (Nat.le_of_ble_eq_true rfl)
  rw [lg_entry_eq]
  generalize (lg_sl ([.ref (ad 0 0), .int (nI b), .int y0, .int y1, .int y2]) ++ List.replicate (6 - (lg_sl ([.ref (ad 0 0), .int (nI b), .int y0, .int y1, .int y2])).length) Slot.unset).toArray = ls at hl ⊢
  have hl : lv_has ls 6 [(0, .ref (ad 0 0)), (1, .int (nI b)), (2, .int y0), (3, .int y1), (4, .int y2)] := hl
  refine lv_aload_n hx hb dX4_plain_0 rfl (lv_at hl 0 rfl) ?_
  refine gw_get (C := RX4) (T := TX4) (N := 25) hx hb hL4 hown hK hP 0 0 (rDf (by decide)) rfl rfl 2 (by decide) (hts (.fieldLink RX4 7 "BlockProgramsModel" "kinds" "[I") (by decide +kernel)) (fun _ h9 => h9) (v := .ref (ad 2 0)) rfl dX4_plain_1 ?_
  refine lv_iload_n hx hb dX4_plain_4 rfl (lv_at hl 1 rfl) ?_
  refine gw_iald hx hb hK hP 2 0 (rDf (by decide)) 0 rfl rfl (b) rfl (by omega) (by decide) (v := nI 3) ek dX4_plain_5 ?_
  refine lv_tableIn (off := 132) (tgt := 138) hx hb dX4_plain_6 (by decide) (by decide) (by decide) (by decide) ?_
  refine lv_iload_n hx hb dX4_plain_138 rfl (lv_at hl 2 rfl) ?_
  refine lv_iload_n hx hb dX4_plain_139 rfl (lv_at hl 3 rfl) ?_
  refine lv_isub hx hb dX4_plain_140 ?_
  have e9 : wr sc 2 2 (nI (plW σ 3 b y0 y1)) = sc := by rw [show plW σ 3 b y0 y1 = 0 from rfl]; exact wr_same hw0
  rw [← e9] at hP
  exact W.iret (v := (y0 - y1)) hx hb hr (fun t ht hW => ⟨⟨((y0 - y1)), (), rfl, (by simp [plV, f_comb, plW]), by rw [← ht] at hP; exact hP⟩, hS.F ht⟩) hS.2.2 dX4_plain_141

set_option maxHeartbeats 4000000 in
set_option maxRecDepth 100000 in
theorem k_X4_plain_4 {l : Launch} {D : va_G} {cI cZ cB cS : ClassId} {A : Nat → Prop} (κ : Nat → Nat) (σ sc : Nat → Nat → Int32) (ad : Nat → Nat → Nat) (b : Nat) (hb0 : b < κ 0) (hn : κ 0 ≤ 40) (ek : σ 0 b = nI 4) (hw0 : sc 2 2 = 0) (y0 y1 y2 : Int32) : Met l yX4_plain wsX4_plain ({ frames := 1, cells := 0, slots := 0, locals := 22 } : Room) (gPc D cI cZ cB cS A rDm (rEn cI cZ κ σ sc ad) ad [.ref (ad 0 0), .int (nI b), .int y0, .int y1, .int y2]) (va_Qi (fun (r : Int32) (_ : Unit) => r = plV σ 4 b y0 y1 y2) (fun _ t => gw_P D vwCl A rDm (rEn cI cZ κ σ (wr sc 2 2 (nI (plW σ 4 b y0 y1))) ad) ad t.heap) A) 0 0 A := by
  refine Met.ofW (cc := cX4_plain) (maxL := 6) (ret := (some .int)) (by decide) rfl ?_
  intro p e s m args below meth c s₁ B hml hv
  obtain ⟨rfl, hP, hE, hA⟩ := hv
  have hx := B.exec
  have hb := B.bytes
  have hr := B.returns
  have hts := atoms_spec (ws := wsX4_plain) B.pre
  have hown : s.vm.findClass RX4 = some m.cls := findClass_of_methodNamed B.named
  have hlocks := B.notSynchronized
  have hK := hE.1
  have hS : va_S A s.heap s.heap [] := va_S.rf
  have hL4 := fun w (hw : w ∈ u_ws RX4 TX4 25) => hts w (iL_X4_plain_X4 w hw)
  have hl := lv_entry ([.ref (ad 0 0), .int (nI b), .int y0, .int y1, .int y2]) (n := 6) (Nat.le_of_ble_eq_true rfl)
  rw [lg_entry_eq]
  generalize (lg_sl ([.ref (ad 0 0), .int (nI b), .int y0, .int y1, .int y2]) ++ List.replicate (6 - (lg_sl ([.ref (ad 0 0), .int (nI b), .int y0, .int y1, .int y2])).length) Slot.unset).toArray = ls at hl ⊢
  have hl : lv_has ls 6 [(0, .ref (ad 0 0)), (1, .int (nI b)), (2, .int y0), (3, .int y1), (4, .int y2)] := hl
  refine lv_aload_n hx hb dX4_plain_0 rfl (lv_at hl 0 rfl) ?_
  refine gw_get (C := RX4) (T := TX4) (N := 25) hx hb hL4 hown hK hP 0 0 (rDf (by decide)) rfl rfl 2 (by decide) (hts (.fieldLink RX4 7 "BlockProgramsModel" "kinds" "[I") (by decide +kernel)) (fun _ h9 => h9) (v := .ref (ad 2 0)) rfl dX4_plain_1 ?_
  refine lv_iload_n hx hb dX4_plain_4 rfl (lv_at hl 1 rfl) ?_
  refine gw_iald hx hb hK hP 2 0 (rDf (by decide)) 0 rfl rfl (b) rfl (by omega) (by decide) (v := nI 4) ek dX4_plain_5 ?_
  refine lv_tableIn (off := 136) (tgt := 142) hx hb dX4_plain_6 (by decide) (by decide) (by decide) (by decide) ?_
  refine lv_iload_n hx hb dX4_plain_142 rfl (lv_at hl 2 rfl) ?_
  refine lv_iload_n hx hb dX4_plain_143 rfl (lv_at hl 3 rfl) ?_
  refine lv_imul hx hb dX4_plain_144 ?_
  have e9 : wr sc 2 2 (nI (plW σ 4 b y0 y1)) = sc := by rw [show plW σ 4 b y0 y1 = 0 from rfl]; exact wr_same hw0
  rw [← e9] at hP
  exact W.iret (v := (y0 * y1)) hx hb hr (fun t ht hW => ⟨⟨((y0 * y1)), (), rfl, (by simp [plV, f_comb, plW]), by rw [← ht] at hP; exact hP⟩, hS.F ht⟩) hS.2.2 dX4_plain_145

set_option maxHeartbeats 4000000 in
set_option maxRecDepth 100000 in
theorem k_X4_plain_5 {l : Launch} {D : va_G} {cI cZ cB cS : ClassId} {A : Nat → Prop} (κ : Nat → Nat) (σ sc : Nat → Nat → Int32) (ad : Nat → Nat → Nat) (b : Nat) (hb0 : b < κ 0) (hn : κ 0 ≤ 40) (ek : σ 0 b = nI 5) (hw0 : sc 2 2 = 0) (y0 y1 y2 : Int32) : Met l yX4_plain wsX4_plain ({ frames := 1, cells := 0, slots := 0, locals := 22 } : Room) (gPc D cI cZ cB cS A rDm (rEn cI cZ κ σ sc ad) ad [.ref (ad 0 0), .int (nI b), .int y0, .int y1, .int y2]) (va_Qi (fun (r : Int32) (_ : Unit) => r = plV σ 5 b y0 y1 y2) (fun _ t => gw_P D vwCl A rDm (rEn cI cZ κ σ (wr sc 2 2 (nI (plW σ 5 b y0 y1))) ad) ad t.heap) A) 0 0 A := by
  refine Met.ofW (cc := cX4_plain) (maxL := 6) (ret := (some .int)) (by decide) rfl ?_
  intro p e s m args below meth c s₁ B hml hv
  obtain ⟨rfl, hP, hE, hA⟩ := hv
  have hx := B.exec
  have hb := B.bytes
  have hr := B.returns
  have hts := atoms_spec (ws := wsX4_plain) B.pre
  have hown : s.vm.findClass RX4 = some m.cls := findClass_of_methodNamed B.named
  have hlocks := B.notSynchronized
  have hK := hE.1
  have hS : va_S A s.heap s.heap [] := va_S.rf
  have hL4 := fun w (hw : w ∈ u_ws RX4 TX4 25) => hts w (iL_X4_plain_X4 w hw)
  have hl := lv_entry ([.ref (ad 0 0), .int (nI b), .int y0, .int y1, .int y2]) (n := 6) (Nat.le_of_ble_eq_true rfl)
  rw [lg_entry_eq]
  generalize (lg_sl ([.ref (ad 0 0), .int (nI b), .int y0, .int y1, .int y2]) ++ List.replicate (6 - (lg_sl ([.ref (ad 0 0), .int (nI b), .int y0, .int y1, .int y2])).length) Slot.unset).toArray = ls at hl ⊢
  have hl : lv_has ls 6 [(0, .ref (ad 0 0)), (1, .int (nI b)), (2, .int y0), (3, .int y1), (4, .int y2)] := hl
  refine lv_aload_n hx hb dX4_plain_0 rfl (lv_at hl 0 rfl) ?_
  refine gw_get (C := RX4) (T := TX4) (N := 25) hx hb hL4 hown hK hP 0 0 (rDf (by decide)) rfl rfl 2 (by decide) (hts (.fieldLink RX4 7 "BlockProgramsModel" "kinds" "[I") (by decide +kernel)) (fun _ h9 => h9) (v := .ref (ad 2 0)) rfl dX4_plain_1 ?_
  refine lv_iload_n hx hb dX4_plain_4 rfl (lv_at hl 1 rfl) ?_
  refine gw_iald hx hb hK hP 2 0 (rDf (by decide)) 0 rfl rfl (b) rfl (by omega) (by decide) (v := nI 5) ek dX4_plain_5 ?_
  refine lv_tableIn (off := 140) (tgt := 146) hx hb dX4_plain_6 (by decide) (by decide) (by decide) (by decide) ?_
  refine lv_aload_n hx hb dX4_plain_146 rfl (lv_at hl 0 rfl) ?_
  refine lv_iload_n hx hb dX4_plain_147 rfl (lv_at hl 3 rfl) ?_
  refine lv_if_ne (tgt := 155) hx hb dX4_plain_148 (by decide) (fun c_1 => ?_) (fun c_1 => ?_)
  · refine lv_iconst (v := 0) hx hb dX4_plain_155 (by decide) ?_
    refine gw_put (ty := .int) (C := RX4) (T := TX4) (N := 25) hx hb hL4 tyX4 tyX4_ok nmX4 hown hK hP hS 0 0 (rDf (by decide)) rfl rfl 24 (by decide) (hts (.fieldLink RX4 93 "BlockProgramsModel" "wrong" "I") (by decide +kernel)) (fun _ h9 => h9) rfl (by decide +kernel) rfl rfl (Nat.le_of_ble_eq_true rfl) dX4_plain_156 (rEn cI cZ κ σ (wr sc 2 2 0) ad) (rU0s_24 _) (fun t9 i9 z9 h9 => rU0 _ _ t9 i9 h9 z9) (fun H locs hP hS => ?_)
    refine lv_aload_n hx hb dX4_plain_159 rfl (lv_at hl 0 rfl) ?_
    refine gw_get (C := RX4) (T := TX4) (N := 25) hx hb hL4 hown hK hP 0 0 (rDf (by decide)) rfl rfl 24 (by decide) (hts (.fieldLink RX4 93 "BlockProgramsModel" "wrong" "I") (by decide +kernel)) (fun _ h9 => h9) (v := .int 0) (by simp [wr, va_up]) dX4_plain_160 ?_
    refine lv_if_ne (tgt := 172) hx hb dX4_plain_163 (by decide) (fun c_2 => ?_) (fun c_2 => ?_)
    · have c_2 : ¬ (0 = 0) := fun z => c_2 ((nI_eq (a := 0) (b := 0) (by omega) (by omega)).mpr z)
      exfalso; omega
    · have c_2 : 0 = 0 := (nI_eq (a := 0) (b := 0) (by omega) (by omega)).mp c_2
      refine lv_iload_n hx hb dX4_plain_166 rfl (lv_at hl 2 rfl) ?_
      refine lv_iload_n hx hb dX4_plain_167 rfl (lv_at hl 3 rfl) ?_
      refine lv_idiv hx hb dX4_plain_168 c_1 ?_
      refine lv_goto (tgt := 173) hx hb dX4_plain_169 (by decide) ?_
      refine lv_istore (lv' := [(5, .int ((y0 / y1))), (0, .ref (ad 0 0)), (1, .int (nI b)), (2, .int y0), (3, .int y1), (4, .int y2)]) hx hb dX4_plain_173 hl (by decide) rfl (fun ls hl => ?_)
      refine lv_aload_n hx hb dX4_plain_175 rfl (lv_at hl 1 rfl) ?_
      refine gw_get (C := RX4) (T := TX4) (N := 25) hx hb hL4 hown hK hP 0 0 (rDf (by decide)) rfl rfl 2 (by decide) (hts (.fieldLink RX4 7 "BlockProgramsModel" "kinds" "[I") (by decide +kernel)) (fun _ h9 => h9) (v := .ref (ad 2 0)) rfl dX4_plain_176 ?_
      refine lv_iload_n hx hb dX4_plain_179 rfl (lv_at hl 2 rfl) ?_
      refine gw_iald hx hb hK hP 2 0 (rDf (by decide)) 0 rfl rfl (b) rfl (by omega) (by decide) (v := nI 5) ek dX4_plain_180 ?_
      refine lv_iconst (v := 5) hx hb dX4_plain_181 (by decide) ?_
      refine lv_icmp_ne (tgt := 190) hx hb dX4_plain_182 (by decide) (fun c_3 => ?_) (fun c_3 => ?_)
      · have c_3 : ¬ (5 = 5) := fun z => c_3 ((nI_eq (a := 5) (b := 5) (by omega) (by omega)).mpr z)
        exfalso; omega
      · have c_3 : 5 = 5 := (nI_eq (a := 5) (b := 5) (by omega) (by omega)).mp c_3
        refine lv_iload hx hb dX4_plain_185 (lv_at hl 0 rfl) ?_
        refine lv_goto (tgt := 196) hx hb dX4_plain_187 (by decide) ?_
        have e9 : plW σ 5 b y0 y1 = 0 := by simp [plW, c_1]
        rw [show wr sc 2 2 0 = wr sc 2 2 (nI (plW σ 5 b y0 y1)) from by rw [e9]; rfl] at hP
        exact W.iret (v := (y0 / y1)) hx hb hr (fun t ht hW => ⟨⟨((y0 / y1)), (), rfl, (by simp [plV, f_comb, c_1, c_2, c_3]), by rw [← ht] at hP; exact hP⟩, hS.F ht⟩) hS.2.2 dX4_plain_196
  · refine lv_iconst (v := 1) hx hb dX4_plain_151 (by decide) ?_
    refine lv_goto (tgt := 156) hx hb dX4_plain_152 (by decide) ?_
    refine gw_put (ty := .int) (C := RX4) (T := TX4) (N := 25) hx hb hL4 tyX4 tyX4_ok nmX4 hown hK hP hS 0 0 (rDf (by decide)) rfl rfl 24 (by decide) (hts (.fieldLink RX4 93 "BlockProgramsModel" "wrong" "I") (by decide +kernel)) (fun _ h9 => h9) rfl (by decide +kernel) rfl rfl (Nat.le_of_ble_eq_true rfl) dX4_plain_156 (rEn cI cZ κ σ (wr sc 2 2 1) ad) (rU0s_24 _) (fun t9 i9 z9 h9 => rU0 _ _ t9 i9 h9 z9) (fun H locs hP hS => ?_)
    refine lv_aload_n hx hb dX4_plain_159 rfl (lv_at hl 0 rfl) ?_
    refine gw_get (C := RX4) (T := TX4) (N := 25) hx hb hL4 hown hK hP 0 0 (rDf (by decide)) rfl rfl 24 (by decide) (hts (.fieldLink RX4 93 "BlockProgramsModel" "wrong" "I") (by decide +kernel)) (fun _ h9 => h9) (v := .int 1) (by simp [wr, va_up]) dX4_plain_160 ?_
    refine lv_if_ne (tgt := 172) hx hb dX4_plain_163 (by decide) (fun c_4 => ?_) (fun c_4 => ?_)
    · have c_4 : ¬ (1 = 0) := fun z => c_4 ((nI_eq (a := 1) (b := 0) (by omega) (by omega)).mpr z)
      refine lv_iconst (v := 0) hx hb dX4_plain_172 (by decide) ?_
      refine lv_istore (lv' := [(5, .int 0), (0, .ref (ad 0 0)), (1, .int (nI b)), (2, .int y0), (3, .int y1), (4, .int y2)]) hx hb dX4_plain_173 hl (by decide) rfl (fun ls hl => ?_)
      refine lv_aload_n hx hb dX4_plain_175 rfl (lv_at hl 1 rfl) ?_
      refine gw_get (C := RX4) (T := TX4) (N := 25) hx hb hL4 hown hK hP 0 0 (rDf (by decide)) rfl rfl 2 (by decide) (hts (.fieldLink RX4 7 "BlockProgramsModel" "kinds" "[I") (by decide +kernel)) (fun _ h9 => h9) (v := .ref (ad 2 0)) rfl dX4_plain_176 ?_
      refine lv_iload_n hx hb dX4_plain_179 rfl (lv_at hl 2 rfl) ?_
      refine gw_iald hx hb hK hP 2 0 (rDf (by decide)) 0 rfl rfl (b) rfl (by omega) (by decide) (v := nI 5) ek dX4_plain_180 ?_
      refine lv_iconst (v := 5) hx hb dX4_plain_181 (by decide) ?_
      refine lv_icmp_ne (tgt := 190) hx hb dX4_plain_182 (by decide) (fun c_5 => ?_) (fun c_5 => ?_)
      · have c_5 : ¬ (5 = 5) := fun z => c_5 ((nI_eq (a := 5) (b := 5) (by omega) (by omega)).mpr z)
        exfalso; omega
      · have c_5 : 5 = 5 := (nI_eq (a := 5) (b := 5) (by omega) (by omega)).mp c_5
        refine lv_iload hx hb dX4_plain_185 (lv_at hl 0 rfl) ?_
        refine lv_goto (tgt := 196) hx hb dX4_plain_187 (by decide) ?_
        have e9 : plW σ 5 b y0 y1 = 1 := by simp [plW, c_1]
        rw [show wr sc 2 2 1 = wr sc 2 2 (nI (plW σ 5 b y0 y1)) from by rw [e9]; rfl] at hP
        exact W.iret (v := 0) hx hb hr (fun t ht hW => ⟨⟨0, (), rfl, (by simp [plV, f_comb, c_1, c_4, c_5]), by rw [← ht] at hP; exact hP⟩, hS.F ht⟩) hS.2.2 dX4_plain_196
    · have c_4 : 1 = 0 := (nI_eq (a := 1) (b := 0) (by omega) (by omega)).mp c_4
      exfalso; omega

set_option maxHeartbeats 4000000 in
set_option maxRecDepth 100000 in
theorem k_X4_plain_6 {l : Launch} {D : va_G} {cI cZ cB cS : ClassId} {A : Nat → Prop} (κ : Nat → Nat) (σ sc : Nat → Nat → Int32) (ad : Nat → Nat → Nat) (b : Nat) (hb0 : b < κ 0) (hn : κ 0 ≤ 40) (ek : σ 0 b = nI 6) (hw0 : sc 2 2 = 0) (y0 y1 y2 : Int32) : Met l yX4_plain wsX4_plain ({ frames := 1, cells := 0, slots := 0, locals := 22 } : Room) (gPc D cI cZ cB cS A rDm (rEn cI cZ κ σ sc ad) ad [.ref (ad 0 0), .int (nI b), .int y0, .int y1, .int y2]) (va_Qi (fun (r : Int32) (_ : Unit) => r = plV σ 6 b y0 y1 y2) (fun _ t => gw_P D vwCl A rDm (rEn cI cZ κ σ (wr sc 2 2 (nI (plW σ 6 b y0 y1))) ad) ad t.heap) A) 0 0 A := by
  refine Met.ofW (cc := cX4_plain) (maxL := 6) (ret := (some .int)) (by decide) rfl ?_
  intro p e s m args below meth c s₁ B hml hv
  obtain ⟨rfl, hP, hE, hA⟩ := hv
  have hx := B.exec
  have hb := B.bytes
  have hr := B.returns
  have hts := atoms_spec (ws := wsX4_plain) B.pre
  have hown : s.vm.findClass RX4 = some m.cls := findClass_of_methodNamed B.named
  have hlocks := B.notSynchronized
  have hK := hE.1
  have hS : va_S A s.heap s.heap [] := va_S.rf
  have hL4 := fun w (hw : w ∈ u_ws RX4 TX4 25) => hts w (iL_X4_plain_X4 w hw)
  have hl := lv_entry ([.ref (ad 0 0), .int (nI b), .int y0, .int y1, .int y2]) (n := 6) (Nat.le_of_ble_eq_true rfl)
  rw [lg_entry_eq]
  generalize (lg_sl ([.ref (ad 0 0), .int (nI b), .int y0, .int y1, .int y2]) ++ List.replicate (6 - (lg_sl ([.ref (ad 0 0), .int (nI b), .int y0, .int y1, .int y2])).length) Slot.unset).toArray = ls at hl ⊢
  have hl : lv_has ls 6 [(0, .ref (ad 0 0)), (1, .int (nI b)), (2, .int y0), (3, .int y1), (4, .int y2)] := hl
  refine lv_aload_n hx hb dX4_plain_0 rfl (lv_at hl 0 rfl) ?_
  refine gw_get (C := RX4) (T := TX4) (N := 25) hx hb hL4 hown hK hP 0 0 (rDf (by decide)) rfl rfl 2 (by decide) (hts (.fieldLink RX4 7 "BlockProgramsModel" "kinds" "[I") (by decide +kernel)) (fun _ h9 => h9) (v := .ref (ad 2 0)) rfl dX4_plain_1 ?_
  refine lv_iload_n hx hb dX4_plain_4 rfl (lv_at hl 1 rfl) ?_
  refine gw_iald hx hb hK hP 2 0 (rDf (by decide)) 0 rfl rfl (b) rfl (by omega) (by decide) (v := nI 6) ek dX4_plain_5 ?_
  refine lv_tableIn (off := 140) (tgt := 146) hx hb dX4_plain_6 (by decide) (by decide) (by decide) (by decide) ?_
  refine lv_aload_n hx hb dX4_plain_146 rfl (lv_at hl 0 rfl) ?_
  refine lv_iload_n hx hb dX4_plain_147 rfl (lv_at hl 3 rfl) ?_
  refine lv_if_ne (tgt := 155) hx hb dX4_plain_148 (by decide) (fun c_1 => ?_) (fun c_1 => ?_)
  · refine lv_iconst (v := 0) hx hb dX4_plain_155 (by decide) ?_
    refine gw_put (ty := .int) (C := RX4) (T := TX4) (N := 25) hx hb hL4 tyX4 tyX4_ok nmX4 hown hK hP hS 0 0 (rDf (by decide)) rfl rfl 24 (by decide) (hts (.fieldLink RX4 93 "BlockProgramsModel" "wrong" "I") (by decide +kernel)) (fun _ h9 => h9) rfl (by decide +kernel) rfl rfl (Nat.le_of_ble_eq_true rfl) dX4_plain_156 (rEn cI cZ κ σ (wr sc 2 2 0) ad) (rU0s_24 _) (fun t9 i9 z9 h9 => rU0 _ _ t9 i9 h9 z9) (fun H locs hP hS => ?_)
    refine lv_aload_n hx hb dX4_plain_159 rfl (lv_at hl 0 rfl) ?_
    refine gw_get (C := RX4) (T := TX4) (N := 25) hx hb hL4 hown hK hP 0 0 (rDf (by decide)) rfl rfl 24 (by decide) (hts (.fieldLink RX4 93 "BlockProgramsModel" "wrong" "I") (by decide +kernel)) (fun _ h9 => h9) (v := .int 0) (by simp [wr, va_up]) dX4_plain_160 ?_
    refine lv_if_ne (tgt := 172) hx hb dX4_plain_163 (by decide) (fun c_2 => ?_) (fun c_2 => ?_)
    · have c_2 : ¬ (0 = 0) := fun z => c_2 ((nI_eq (a := 0) (b := 0) (by omega) (by omega)).mpr z)
      exfalso; omega
    · have c_2 : 0 = 0 := (nI_eq (a := 0) (b := 0) (by omega) (by omega)).mp c_2
      refine lv_iload_n hx hb dX4_plain_166 rfl (lv_at hl 2 rfl) ?_
      refine lv_iload_n hx hb dX4_plain_167 rfl (lv_at hl 3 rfl) ?_
      refine lv_idiv hx hb dX4_plain_168 c_1 ?_
      refine lv_goto (tgt := 173) hx hb dX4_plain_169 (by decide) ?_
      refine lv_istore (lv' := [(5, .int ((y0 / y1))), (0, .ref (ad 0 0)), (1, .int (nI b)), (2, .int y0), (3, .int y1), (4, .int y2)]) hx hb dX4_plain_173 hl (by decide) rfl (fun ls hl => ?_)
      refine lv_aload_n hx hb dX4_plain_175 rfl (lv_at hl 1 rfl) ?_
      refine gw_get (C := RX4) (T := TX4) (N := 25) hx hb hL4 hown hK hP 0 0 (rDf (by decide)) rfl rfl 2 (by decide) (hts (.fieldLink RX4 7 "BlockProgramsModel" "kinds" "[I") (by decide +kernel)) (fun _ h9 => h9) (v := .ref (ad 2 0)) rfl dX4_plain_176 ?_
      refine lv_iload_n hx hb dX4_plain_179 rfl (lv_at hl 2 rfl) ?_
      refine gw_iald hx hb hK hP 2 0 (rDf (by decide)) 0 rfl rfl (b) rfl (by omega) (by decide) (v := nI 6) ek dX4_plain_180 ?_
      refine lv_iconst (v := 5) hx hb dX4_plain_181 (by decide) ?_
      refine lv_icmp_ne (tgt := 190) hx hb dX4_plain_182 (by decide) (fun c_3 => ?_) (fun c_3 => ?_)
      · have c_3 : ¬ (6 = 5) := fun z => c_3 ((nI_eq (a := 6) (b := 5) (by omega) (by omega)).mpr z)
        refine lv_iload_n hx hb dX4_plain_190 rfl (lv_at hl 3 rfl) ?_
        refine lv_iload_n hx hb dX4_plain_191 rfl (lv_at hl 4 rfl) ?_
        refine lv_iload hx hb dX4_plain_192 (lv_at hl 0 rfl) ?_
        refine lv_imul hx hb dX4_plain_194 ?_
        refine lv_isub hx hb dX4_plain_195 ?_
        have e9 : plW σ 6 b y0 y1 = 0 := by simp [plW, c_1]
        rw [show wr sc 2 2 0 = wr sc 2 2 (nI (plW σ 6 b y0 y1)) from by rw [e9]; rfl] at hP
        exact W.iret (v := (y0 - (y1 * (y0 / y1)))) hx hb hr (fun t ht hW => ⟨⟨((y0 - (y1 * (y0 / y1)))), (), rfl, (by simp [plV, f_comb, c_1, c_2, c_3]), by rw [← ht] at hP; exact hP⟩, hS.F ht⟩) hS.2.2 dX4_plain_196
      · have c_3 : 6 = 5 := (nI_eq (a := 6) (b := 5) (by omega) (by omega)).mp c_3
        exfalso; omega
  · refine lv_iconst (v := 1) hx hb dX4_plain_151 (by decide) ?_
    refine lv_goto (tgt := 156) hx hb dX4_plain_152 (by decide) ?_
    refine gw_put (ty := .int) (C := RX4) (T := TX4) (N := 25) hx hb hL4 tyX4 tyX4_ok nmX4 hown hK hP hS 0 0 (rDf (by decide)) rfl rfl 24 (by decide) (hts (.fieldLink RX4 93 "BlockProgramsModel" "wrong" "I") (by decide +kernel)) (fun _ h9 => h9) rfl (by decide +kernel) rfl rfl (Nat.le_of_ble_eq_true rfl) dX4_plain_156 (rEn cI cZ κ σ (wr sc 2 2 1) ad) (rU0s_24 _) (fun t9 i9 z9 h9 => rU0 _ _ t9 i9 h9 z9) (fun H locs hP hS => ?_)
    refine lv_aload_n hx hb dX4_plain_159 rfl (lv_at hl 0 rfl) ?_
    refine gw_get (C := RX4) (T := TX4) (N := 25) hx hb hL4 hown hK hP 0 0 (rDf (by decide)) rfl rfl 24 (by decide) (hts (.fieldLink RX4 93 "BlockProgramsModel" "wrong" "I") (by decide +kernel)) (fun _ h9 => h9) (v := .int 1) (by simp [wr, va_up]) dX4_plain_160 ?_
    refine lv_if_ne (tgt := 172) hx hb dX4_plain_163 (by decide) (fun c_4 => ?_) (fun c_4 => ?_)
    · have c_4 : ¬ (1 = 0) := fun z => c_4 ((nI_eq (a := 1) (b := 0) (by omega) (by omega)).mpr z)
      refine lv_iconst (v := 0) hx hb dX4_plain_172 (by decide) ?_
      refine lv_istore (lv' := [(5, .int 0), (0, .ref (ad 0 0)), (1, .int (nI b)), (2, .int y0), (3, .int y1), (4, .int y2)]) hx hb dX4_plain_173 hl (by decide) rfl (fun ls hl => ?_)
      refine lv_aload_n hx hb dX4_plain_175 rfl (lv_at hl 1 rfl) ?_
      refine gw_get (C := RX4) (T := TX4) (N := 25) hx hb hL4 hown hK hP 0 0 (rDf (by decide)) rfl rfl 2 (by decide) (hts (.fieldLink RX4 7 "BlockProgramsModel" "kinds" "[I") (by decide +kernel)) (fun _ h9 => h9) (v := .ref (ad 2 0)) rfl dX4_plain_176 ?_
      refine lv_iload_n hx hb dX4_plain_179 rfl (lv_at hl 2 rfl) ?_
      refine gw_iald hx hb hK hP 2 0 (rDf (by decide)) 0 rfl rfl (b) rfl (by omega) (by decide) (v := nI 6) ek dX4_plain_180 ?_
      refine lv_iconst (v := 5) hx hb dX4_plain_181 (by decide) ?_
      refine lv_icmp_ne (tgt := 190) hx hb dX4_plain_182 (by decide) (fun c_5 => ?_) (fun c_5 => ?_)
      · have c_5 : ¬ (6 = 5) := fun z => c_5 ((nI_eq (a := 6) (b := 5) (by omega) (by omega)).mpr z)
        refine lv_iload_n hx hb dX4_plain_190 rfl (lv_at hl 3 rfl) ?_
        refine lv_iload_n hx hb dX4_plain_191 rfl (lv_at hl 4 rfl) ?_
        refine lv_iload hx hb dX4_plain_192 (lv_at hl 0 rfl) ?_
        refine lv_imul hx hb dX4_plain_194 ?_
        refine lv_isub hx hb dX4_plain_195 ?_
        have e9 : plW σ 6 b y0 y1 = 1 := by simp [plW, c_1]
        rw [show wr sc 2 2 1 = wr sc 2 2 (nI (plW σ 6 b y0 y1)) from by rw [e9]; rfl] at hP
        exact W.iret (v := (y0 - (y1 * 0))) hx hb hr (fun t ht hW => ⟨⟨((y0 - (y1 * 0))), (), rfl, (by simp [plV, f_comb, c_1, c_4, c_5]), by rw [← ht] at hP; exact hP⟩, hS.F ht⟩) hS.2.2 dX4_plain_196
      · have c_5 : 6 = 5 := (nI_eq (a := 6) (b := 5) (by omega) (by omega)).mp c_5
        exfalso; omega
    · have c_4 : 1 = 0 := (nI_eq (a := 1) (b := 0) (by omega) (by omega)).mp c_4
      exfalso; omega

set_option maxHeartbeats 4000000 in
set_option maxRecDepth 100000 in
theorem k_X4_plain_7 {l : Launch} {D : va_G} {cI cZ cB cS : ClassId} {A : Nat → Prop} (κ : Nat → Nat) (σ sc : Nat → Nat → Int32) (ad : Nat → Nat → Nat) (b : Nat) (hb0 : b < κ 0) (hn : κ 0 ≤ 40) (ek : σ 0 b = nI 7) (hw0 : sc 2 2 = 0) (y0 y1 y2 : Int32) : Met l yX4_plain wsX4_plain ({ frames := 1, cells := 0, slots := 0, locals := 22 } : Room) (gPc D cI cZ cB cS A rDm (rEn cI cZ κ σ sc ad) ad [.ref (ad 0 0), .int (nI b), .int y0, .int y1, .int y2]) (va_Qi (fun (r : Int32) (_ : Unit) => r = plV σ 7 b y0 y1 y2) (fun _ t => gw_P D vwCl A rDm (rEn cI cZ κ σ (wr sc 2 2 (nI (plW σ 7 b y0 y1))) ad) ad t.heap) A) 0 0 A := by
  refine Met.ofW (cc := cX4_plain) (maxL := 6) (ret := (some .int)) (by decide) rfl ?_
  intro p e s m args below meth c s₁ B hml hv
  obtain ⟨rfl, hP, hE, hA⟩ := hv
  have hx := B.exec
  have hb := B.bytes
  have hr := B.returns
  have hts := atoms_spec (ws := wsX4_plain) B.pre
  have hown : s.vm.findClass RX4 = some m.cls := findClass_of_methodNamed B.named
  have hlocks := B.notSynchronized
  have hK := hE.1
  have hS : va_S A s.heap s.heap [] := va_S.rf
  have hL4 := fun w (hw : w ∈ u_ws RX4 TX4 25) => hts w (iL_X4_plain_X4 w hw)
  have hl := lv_entry ([.ref (ad 0 0), .int (nI b), .int y0, .int y1, .int y2]) (n := 6) (Nat.le_of_ble_eq_true rfl)
  rw [lg_entry_eq]
  generalize (lg_sl ([.ref (ad 0 0), .int (nI b), .int y0, .int y1, .int y2]) ++ List.replicate (6 - (lg_sl ([.ref (ad 0 0), .int (nI b), .int y0, .int y1, .int y2])).length) Slot.unset).toArray = ls at hl ⊢
  have hl : lv_has ls 6 [(0, .ref (ad 0 0)), (1, .int (nI b)), (2, .int y0), (3, .int y1), (4, .int y2)] := hl
  refine lv_aload_n hx hb dX4_plain_0 rfl (lv_at hl 0 rfl) ?_
  refine gw_get (C := RX4) (T := TX4) (N := 25) hx hb hL4 hown hK hP 0 0 (rDf (by decide)) rfl rfl 2 (by decide) (hts (.fieldLink RX4 7 "BlockProgramsModel" "kinds" "[I") (by decide +kernel)) (fun _ h9 => h9) (v := .ref (ad 2 0)) rfl dX4_plain_1 ?_
  refine lv_iload_n hx hb dX4_plain_4 rfl (lv_at hl 1 rfl) ?_
  refine gw_iald hx hb hK hP 2 0 (rDf (by decide)) 0 rfl rfl (b) rfl (by omega) (by decide) (v := nI 7) ek dX4_plain_5 ?_
  refine lv_tableIn (off := 191) (tgt := 197) hx hb dX4_plain_6 (by decide) (by decide) (by decide) (by decide) ?_
  refine lv_iload_n hx hb dX4_plain_197 rfl (lv_at hl 2 rfl) ?_
  refine lv_iload_n hx hb dX4_plain_198 rfl (lv_at hl 3 rfl) ?_
  refine lv_icmp_ge (tgt := 206) hx hb dX4_plain_199 (by decide) (fun c_1 => ?_) (fun c_1 => ?_)
  · refine lv_iload_n hx hb dX4_plain_206 rfl (lv_at hl 3 rfl) ?_
    have e9 : wr sc 2 2 (nI (plW σ 7 b y0 y1)) = sc := by rw [show plW σ 7 b y0 y1 = 0 from rfl]; exact wr_same hw0
    rw [← e9] at hP
    exact W.iret (v := y1) hx hb hr (fun t ht hW => ⟨⟨y1, (), rfl, (by simp [plV, f_comb, c_1, Int32.not_lt.mpr c_1] <;> (intro h9; apply Int32.toInt_inj.mp; simp only [Int32.le_iff_toInt_le, Int32.lt_iff_toInt_lt] at h9 c_1; omega)), by rw [← ht] at hP; exact hP⟩, hS.F ht⟩) hS.2.2 dX4_plain_207
  · refine lv_iload_n hx hb dX4_plain_202 rfl (lv_at hl 2 rfl) ?_
    refine lv_goto (tgt := 207) hx hb dX4_plain_203 (by decide) ?_
    have e9 : wr sc 2 2 (nI (plW σ 7 b y0 y1)) = sc := by rw [show plW σ 7 b y0 y1 = 0 from rfl]; exact wr_same hw0
    rw [← e9] at hP
    exact W.iret (v := y0) hx hb hr (fun t ht hW => ⟨⟨y0, (), rfl, (by simp [plV, f_comb, c_1, Int32.not_le.mp c_1] <;> (intro h9; apply Int32.toInt_inj.mp; simp only [Int32.le_iff_toInt_le, Int32.lt_iff_toInt_lt] at h9 c_1; omega)), by rw [← ht] at hP; exact hP⟩, hS.F ht⟩) hS.2.2 dX4_plain_207

set_option maxHeartbeats 4000000 in
set_option maxRecDepth 100000 in
theorem k_X4_plain_8 {l : Launch} {D : va_G} {cI cZ cB cS : ClassId} {A : Nat → Prop} (κ : Nat → Nat) (σ sc : Nat → Nat → Int32) (ad : Nat → Nat → Nat) (b : Nat) (hb0 : b < κ 0) (hn : κ 0 ≤ 40) (ek : σ 0 b = nI 8) (hw0 : sc 2 2 = 0) (y0 y1 y2 : Int32) : Met l yX4_plain wsX4_plain ({ frames := 1, cells := 0, slots := 0, locals := 22 } : Room) (gPc D cI cZ cB cS A rDm (rEn cI cZ κ σ sc ad) ad [.ref (ad 0 0), .int (nI b), .int y0, .int y1, .int y2]) (va_Qi (fun (r : Int32) (_ : Unit) => r = plV σ 8 b y0 y1 y2) (fun _ t => gw_P D vwCl A rDm (rEn cI cZ κ σ (wr sc 2 2 (nI (plW σ 8 b y0 y1))) ad) ad t.heap) A) 0 0 A := by
  refine Met.ofW (cc := cX4_plain) (maxL := 6) (ret := (some .int)) (by decide) rfl ?_
  intro p e s m args below meth c s₁ B hml hv
  obtain ⟨rfl, hP, hE, hA⟩ := hv
  have hx := B.exec
  have hb := B.bytes
  have hr := B.returns
  have hts := atoms_spec (ws := wsX4_plain) B.pre
  have hown : s.vm.findClass RX4 = some m.cls := findClass_of_methodNamed B.named
  have hlocks := B.notSynchronized
  have hK := hE.1
  have hS : va_S A s.heap s.heap [] := va_S.rf
  have hL4 := fun w (hw : w ∈ u_ws RX4 TX4 25) => hts w (iL_X4_plain_X4 w hw)
  have hl := lv_entry ([.ref (ad 0 0), .int (nI b), .int y0, .int y1, .int y2]) (n := 6) (Nat.le_of_ble_eq_true rfl)
  rw [lg_entry_eq]
  generalize (lg_sl ([.ref (ad 0 0), .int (nI b), .int y0, .int y1, .int y2]) ++ List.replicate (6 - (lg_sl ([.ref (ad 0 0), .int (nI b), .int y0, .int y1, .int y2])).length) Slot.unset).toArray = ls at hl ⊢
  have hl : lv_has ls 6 [(0, .ref (ad 0 0)), (1, .int (nI b)), (2, .int y0), (3, .int y1), (4, .int y2)] := hl
  refine lv_aload_n hx hb dX4_plain_0 rfl (lv_at hl 0 rfl) ?_
  refine gw_get (C := RX4) (T := TX4) (N := 25) hx hb hL4 hown hK hP 0 0 (rDf (by decide)) rfl rfl 2 (by decide) (hts (.fieldLink RX4 7 "BlockProgramsModel" "kinds" "[I") (by decide +kernel)) (fun _ h9 => h9) (v := .ref (ad 2 0)) rfl dX4_plain_1 ?_
  refine lv_iload_n hx hb dX4_plain_4 rfl (lv_at hl 1 rfl) ?_
  refine gw_iald hx hb hK hP 2 0 (rDf (by decide)) 0 rfl rfl (b) rfl (by omega) (by decide) (v := nI 8) ek dX4_plain_5 ?_
  refine lv_tableIn (off := 202) (tgt := 208) hx hb dX4_plain_6 (by decide) (by decide) (by decide) (by decide) ?_
  refine lv_iload_n hx hb dX4_plain_208 rfl (lv_at hl 2 rfl) ?_
  refine lv_iload_n hx hb dX4_plain_209 rfl (lv_at hl 3 rfl) ?_
  refine lv_icmp_le (tgt := 217) hx hb dX4_plain_210 (by decide) (fun c_1 => ?_) (fun c_1 => ?_)
  · refine lv_iload_n hx hb dX4_plain_217 rfl (lv_at hl 3 rfl) ?_
    have e9 : wr sc 2 2 (nI (plW σ 8 b y0 y1)) = sc := by rw [show plW σ 8 b y0 y1 = 0 from rfl]; exact wr_same hw0
    rw [← e9] at hP
    exact W.iret (v := y1) hx hb hr (fun t ht hW => ⟨⟨y1, (), rfl, (by simp [plV, f_comb, c_1, Int32.not_lt.mpr c_1] <;> (intro h9; apply Int32.toInt_inj.mp; simp only [Int32.le_iff_toInt_le, Int32.lt_iff_toInt_lt] at h9 c_1; omega)), by rw [← ht] at hP; exact hP⟩, hS.F ht⟩) hS.2.2 dX4_plain_218
  · refine lv_iload_n hx hb dX4_plain_213 rfl (lv_at hl 2 rfl) ?_
    refine lv_goto (tgt := 218) hx hb dX4_plain_214 (by decide) ?_
    have e9 : wr sc 2 2 (nI (plW σ 8 b y0 y1)) = sc := by rw [show plW σ 8 b y0 y1 = 0 from rfl]; exact wr_same hw0
    rw [← e9] at hP
    exact W.iret (v := y0) hx hb hr (fun t ht hW => ⟨⟨y0, (), rfl, (by simp [plV, f_comb, c_1, Int32.not_le.mp c_1] <;> (intro h9; apply Int32.toInt_inj.mp; simp only [Int32.le_iff_toInt_le, Int32.lt_iff_toInt_lt] at h9 c_1; omega)), by rw [← ht] at hP; exact hP⟩, hS.F ht⟩) hS.2.2 dX4_plain_218

set_option maxHeartbeats 4000000 in
set_option maxRecDepth 100000 in
theorem k_X4_plain_9 {l : Launch} {D : va_G} {cI cZ cB cS : ClassId} {A : Nat → Prop} (κ : Nat → Nat) (σ sc : Nat → Nat → Int32) (ad : Nat → Nat → Nat) (b : Nat) (hb0 : b < κ 0) (hn : κ 0 ≤ 40) (ek : σ 0 b = nI 9) (hw0 : sc 2 2 = 0) (y0 y1 y2 : Int32) : Met l yX4_plain wsX4_plain ({ frames := 1, cells := 0, slots := 0, locals := 22 } : Room) (gPc D cI cZ cB cS A rDm (rEn cI cZ κ σ sc ad) ad [.ref (ad 0 0), .int (nI b), .int y0, .int y1, .int y2]) (va_Qi (fun (r : Int32) (_ : Unit) => r = plV σ 9 b y0 y1 y2) (fun _ t => gw_P D vwCl A rDm (rEn cI cZ κ σ (wr sc 2 2 (nI (plW σ 9 b y0 y1))) ad) ad t.heap) A) 0 0 A := by
  refine Met.ofW (cc := cX4_plain) (maxL := 6) (ret := (some .int)) (by decide) rfl ?_
  intro p e s m args below meth c s₁ B hml hv
  obtain ⟨rfl, hP, hE, hA⟩ := hv
  have hx := B.exec
  have hb := B.bytes
  have hr := B.returns
  have hts := atoms_spec (ws := wsX4_plain) B.pre
  have hown : s.vm.findClass RX4 = some m.cls := findClass_of_methodNamed B.named
  have hlocks := B.notSynchronized
  have hK := hE.1
  have hS : va_S A s.heap s.heap [] := va_S.rf
  have hL4 := fun w (hw : w ∈ u_ws RX4 TX4 25) => hts w (iL_X4_plain_X4 w hw)
  have hl := lv_entry ([.ref (ad 0 0), .int (nI b), .int y0, .int y1, .int y2]) (n := 6) (Nat.le_of_ble_eq_true rfl)
  rw [lg_entry_eq]
  generalize (lg_sl ([.ref (ad 0 0), .int (nI b), .int y0, .int y1, .int y2]) ++ List.replicate (6 - (lg_sl ([.ref (ad 0 0), .int (nI b), .int y0, .int y1, .int y2])).length) Slot.unset).toArray = ls at hl ⊢
  have hl : lv_has ls 6 [(0, .ref (ad 0 0)), (1, .int (nI b)), (2, .int y0), (3, .int y1), (4, .int y2)] := hl
  refine lv_aload_n hx hb dX4_plain_0 rfl (lv_at hl 0 rfl) ?_
  refine gw_get (C := RX4) (T := TX4) (N := 25) hx hb hL4 hown hK hP 0 0 (rDf (by decide)) rfl rfl 2 (by decide) (hts (.fieldLink RX4 7 "BlockProgramsModel" "kinds" "[I") (by decide +kernel)) (fun _ h9 => h9) (v := .ref (ad 2 0)) rfl dX4_plain_1 ?_
  refine lv_iload_n hx hb dX4_plain_4 rfl (lv_at hl 1 rfl) ?_
  refine gw_iald hx hb hK hP 2 0 (rDf (by decide)) 0 rfl rfl (b) rfl (by omega) (by decide) (v := nI 9) ek dX4_plain_5 ?_
  refine lv_tableIn (off := 213) (tgt := 219) hx hb dX4_plain_6 (by decide) (by decide) (by decide) (by decide) ?_
  refine lv_iload_n hx hb dX4_plain_219 rfl (lv_at hl 2 rfl) ?_
  refine lv_iload_n hx hb dX4_plain_220 rfl (lv_at hl 3 rfl) ?_
  refine lv_icmp_ge (tgt := 228) hx hb dX4_plain_221 (by decide) (fun c_1 => ?_) (fun c_1 => ?_)
  · refine lv_iconst (v := 0) hx hb dX4_plain_228 (by decide) ?_
    refine va_calli (va_runS (As := [.int 0]) (rest := []) ⟨hx, hb, hml, hown, hts⟩ (k_X4_one (l := l) (D := D) (cI := cI) (cZ := cZ) (cB := cB) (cS := cS) (A := A) rDm (rEn cI cZ κ σ sc ad) ad 0) (va_cwS 1 hts gX4_plain_X4_one rfl rfl rfl (by decide +kernel) ⟨Nat.le_of_ble_eq_true rfl, Nat.le_of_ble_eq_true rfl⟩) (gPreS hE hA hS hP) rfl rfl hl.1 rfl (lv_room (Nat.le_of_ble_eq_true rfl)) dX4_plain_229 ⟨Nat.le_of_ble_eq_true rfl, Nat.le_of_ble_eq_true rfl⟩) hS (fun q _ h9 => h9) (fun q h9 => h9) (fun r_2 u9 t9 H locs ht9 hvm9 hw_r_2 hB9 hz9 hk9 hS => ?_)
    have hP : gw_P D vwCl A rDm (rEn cI cZ κ σ sc ad) ad H := by rw [← ht9]; exact hB9
    refine lv_toq ((if (0 : Int32) = 0 then 0 else 1)) hw_r_2 ?_
    have e9 : wr sc 2 2 (nI (plW σ 9 b y0 y1)) = sc := by rw [show plW σ 9 b y0 y1 = 0 from rfl]; exact wr_same hw0
    rw [← e9] at hP
    exact W.iret (v := (if (0 : Int32) = 0 then 0 else 1)) hx hb hr (fun t ht hW => ⟨⟨((if (0 : Int32) = 0 then 0 else 1)), (), rfl, (by simp [plV, f_comb, c_1, Int32.not_lt.mpr c_1]), by rw [← ht] at hP; exact hP⟩, hS.F ht⟩) hS.2.2 dX4_plain_232
  · refine lv_iconst (v := 1) hx hb dX4_plain_224 (by decide) ?_
    refine lv_goto (tgt := 229) hx hb dX4_plain_225 (by decide) ?_
    refine va_calli (va_runS (As := [.int 1]) (rest := []) ⟨hx, hb, hml, hown, hts⟩ (k_X4_one (l := l) (D := D) (cI := cI) (cZ := cZ) (cB := cB) (cS := cS) (A := A) rDm (rEn cI cZ κ σ sc ad) ad 1) (va_cwS 1 hts gX4_plain_X4_one rfl rfl rfl (by decide +kernel) ⟨Nat.le_of_ble_eq_true rfl, Nat.le_of_ble_eq_true rfl⟩) (gPreS hE hA hS hP) rfl rfl hl.1 rfl (lv_room (Nat.le_of_ble_eq_true rfl)) dX4_plain_229 ⟨Nat.le_of_ble_eq_true rfl, Nat.le_of_ble_eq_true rfl⟩) hS (fun q _ h9 => h9) (fun q h9 => h9) (fun r_3 u9 t9 H locs ht9 hvm9 hw_r_3 hB9 hz9 hk9 hS => ?_)
    have hP : gw_P D vwCl A rDm (rEn cI cZ κ σ sc ad) ad H := by rw [← ht9]; exact hB9
    refine lv_toq ((if (1 : Int32) = 0 then 0 else 1)) hw_r_3 ?_
    have e9 : wr sc 2 2 (nI (plW σ 9 b y0 y1)) = sc := by rw [show plW σ 9 b y0 y1 = 0 from rfl]; exact wr_same hw0
    rw [← e9] at hP
    exact W.iret (v := (if (1 : Int32) = 0 then 0 else 1)) hx hb hr (fun t ht hW => ⟨⟨((if (1 : Int32) = 0 then 0 else 1)), (), rfl, (by simp [plV, f_comb, c_1, Int32.not_le.mp c_1]), by rw [← ht] at hP; exact hP⟩, hS.F ht⟩) hS.2.2 dX4_plain_232

set_option maxHeartbeats 4000000 in
set_option maxRecDepth 100000 in
theorem k_X4_plain_10 {l : Launch} {D : va_G} {cI cZ cB cS : ClassId} {A : Nat → Prop} (κ : Nat → Nat) (σ sc : Nat → Nat → Int32) (ad : Nat → Nat → Nat) (b : Nat) (hb0 : b < κ 0) (hn : κ 0 ≤ 40) (ek : σ 0 b = nI 10) (hw0 : sc 2 2 = 0) (y0 y1 y2 : Int32) : Met l yX4_plain wsX4_plain ({ frames := 1, cells := 0, slots := 0, locals := 22 } : Room) (gPc D cI cZ cB cS A rDm (rEn cI cZ κ σ sc ad) ad [.ref (ad 0 0), .int (nI b), .int y0, .int y1, .int y2]) (va_Qi (fun (r : Int32) (_ : Unit) => r = plV σ 10 b y0 y1 y2) (fun _ t => gw_P D vwCl A rDm (rEn cI cZ κ σ (wr sc 2 2 (nI (plW σ 10 b y0 y1))) ad) ad t.heap) A) 0 0 A := by
  refine Met.ofW (cc := cX4_plain) (maxL := 6) (ret := (some .int)) (by decide) rfl ?_
  intro p e s m args below meth c s₁ B hml hv
  obtain ⟨rfl, hP, hE, hA⟩ := hv
  have hx := B.exec
  have hb := B.bytes
  have hr := B.returns
  have hts := atoms_spec (ws := wsX4_plain) B.pre
  have hown : s.vm.findClass RX4 = some m.cls := findClass_of_methodNamed B.named
  have hlocks := B.notSynchronized
  have hK := hE.1
  have hS : va_S A s.heap s.heap [] := va_S.rf
  have hL4 := fun w (hw : w ∈ u_ws RX4 TX4 25) => hts w (iL_X4_plain_X4 w hw)
  have hl := lv_entry ([.ref (ad 0 0), .int (nI b), .int y0, .int y1, .int y2]) (n := 6) (Nat.le_of_ble_eq_true rfl)
  rw [lg_entry_eq]
  generalize (lg_sl ([.ref (ad 0 0), .int (nI b), .int y0, .int y1, .int y2]) ++ List.replicate (6 - (lg_sl ([.ref (ad 0 0), .int (nI b), .int y0, .int y1, .int y2])).length) Slot.unset).toArray = ls at hl ⊢
  have hl : lv_has ls 6 [(0, .ref (ad 0 0)), (1, .int (nI b)), (2, .int y0), (3, .int y1), (4, .int y2)] := hl
  refine lv_aload_n hx hb dX4_plain_0 rfl (lv_at hl 0 rfl) ?_
  refine gw_get (C := RX4) (T := TX4) (N := 25) hx hb hL4 hown hK hP 0 0 (rDf (by decide)) rfl rfl 2 (by decide) (hts (.fieldLink RX4 7 "BlockProgramsModel" "kinds" "[I") (by decide +kernel)) (fun _ h9 => h9) (v := .ref (ad 2 0)) rfl dX4_plain_1 ?_
  refine lv_iload_n hx hb dX4_plain_4 rfl (lv_at hl 1 rfl) ?_
  refine gw_iald hx hb hK hP 2 0 (rDf (by decide)) 0 rfl rfl (b) rfl (by omega) (by decide) (v := nI 10) ek dX4_plain_5 ?_
  refine lv_tableIn (off := 227) (tgt := 233) hx hb dX4_plain_6 (by decide) (by decide) (by decide) (by decide) ?_
  refine lv_iload_n hx hb dX4_plain_233 rfl (lv_at hl 2 rfl) ?_
  refine lv_iload_n hx hb dX4_plain_234 rfl (lv_at hl 3 rfl) ?_
  refine lv_icmp_ne (tgt := 242) hx hb dX4_plain_235 (by decide) (fun c_1 => ?_) (fun c_1 => ?_)
  · refine lv_iconst (v := 0) hx hb dX4_plain_242 (by decide) ?_
    refine va_calli (va_runS (As := [.int 0]) (rest := []) ⟨hx, hb, hml, hown, hts⟩ (k_X4_one (l := l) (D := D) (cI := cI) (cZ := cZ) (cB := cB) (cS := cS) (A := A) rDm (rEn cI cZ κ σ sc ad) ad 0) (va_cwS 1 hts gX4_plain_X4_one rfl rfl rfl (by decide +kernel) ⟨Nat.le_of_ble_eq_true rfl, Nat.le_of_ble_eq_true rfl⟩) (gPreS hE hA hS hP) rfl rfl hl.1 rfl (lv_room (Nat.le_of_ble_eq_true rfl)) dX4_plain_243 ⟨Nat.le_of_ble_eq_true rfl, Nat.le_of_ble_eq_true rfl⟩) hS (fun q _ h9 => h9) (fun q h9 => h9) (fun r_2 u9 t9 H locs ht9 hvm9 hw_r_2 hB9 hz9 hk9 hS => ?_)
    have hP : gw_P D vwCl A rDm (rEn cI cZ κ σ sc ad) ad H := by rw [← ht9]; exact hB9
    refine lv_toq ((if (0 : Int32) = 0 then 0 else 1)) hw_r_2 ?_
    have e9 : wr sc 2 2 (nI (plW σ 10 b y0 y1)) = sc := by rw [show plW σ 10 b y0 y1 = 0 from rfl]; exact wr_same hw0
    rw [← e9] at hP
    exact W.iret (v := (if (0 : Int32) = 0 then 0 else 1)) hx hb hr (fun t ht hW => ⟨⟨((if (0 : Int32) = 0 then 0 else 1)), (), rfl, (by simp [plV, f_comb, c_1]), by rw [← ht] at hP; exact hP⟩, hS.F ht⟩) hS.2.2 dX4_plain_246
  · refine lv_iconst (v := 1) hx hb dX4_plain_238 (by decide) ?_
    refine lv_goto (tgt := 243) hx hb dX4_plain_239 (by decide) ?_
    refine va_calli (va_runS (As := [.int 1]) (rest := []) ⟨hx, hb, hml, hown, hts⟩ (k_X4_one (l := l) (D := D) (cI := cI) (cZ := cZ) (cB := cB) (cS := cS) (A := A) rDm (rEn cI cZ κ σ sc ad) ad 1) (va_cwS 1 hts gX4_plain_X4_one rfl rfl rfl (by decide +kernel) ⟨Nat.le_of_ble_eq_true rfl, Nat.le_of_ble_eq_true rfl⟩) (gPreS hE hA hS hP) rfl rfl hl.1 rfl (lv_room (Nat.le_of_ble_eq_true rfl)) dX4_plain_243 ⟨Nat.le_of_ble_eq_true rfl, Nat.le_of_ble_eq_true rfl⟩) hS (fun q _ h9 => h9) (fun q h9 => h9) (fun r_3 u9 t9 H locs ht9 hvm9 hw_r_3 hB9 hz9 hk9 hS => ?_)
    have hP : gw_P D vwCl A rDm (rEn cI cZ κ σ sc ad) ad H := by rw [← ht9]; exact hB9
    refine lv_toq ((if (1 : Int32) = 0 then 0 else 1)) hw_r_3 ?_
    have e9 : wr sc 2 2 (nI (plW σ 10 b y0 y1)) = sc := by rw [show plW σ 10 b y0 y1 = 0 from rfl]; exact wr_same hw0
    rw [← e9] at hP
    exact W.iret (v := (if (1 : Int32) = 0 then 0 else 1)) hx hb hr (fun t ht hW => ⟨⟨((if (1 : Int32) = 0 then 0 else 1)), (), rfl, (by simp [plV, f_comb, c_1]), by rw [← ht] at hP; exact hP⟩, hS.F ht⟩) hS.2.2 dX4_plain_246

set_option maxHeartbeats 4000000 in
set_option maxRecDepth 100000 in
theorem k_X4_plain_11 {l : Launch} {D : va_G} {cI cZ cB cS : ClassId} {A : Nat → Prop} (κ : Nat → Nat) (σ sc : Nat → Nat → Int32) (ad : Nat → Nat → Nat) (b : Nat) (hb0 : b < κ 0) (hn : κ 0 ≤ 40) (ek : σ 0 b = nI 11) (hw0 : sc 2 2 = 0) (y0 y1 y2 : Int32) : Met l yX4_plain wsX4_plain ({ frames := 1, cells := 0, slots := 0, locals := 22 } : Room) (gPc D cI cZ cB cS A rDm (rEn cI cZ κ σ sc ad) ad [.ref (ad 0 0), .int (nI b), .int y0, .int y1, .int y2]) (va_Qi (fun (r : Int32) (_ : Unit) => r = plV σ 11 b y0 y1 y2) (fun _ t => gw_P D vwCl A rDm (rEn cI cZ κ σ (wr sc 2 2 (nI (plW σ 11 b y0 y1))) ad) ad t.heap) A) 0 0 A := by
  refine Met.ofW (cc := cX4_plain) (maxL := 6) (ret := (some .int)) (by decide) rfl ?_
  intro p e s m args below meth c s₁ B hml hv
  obtain ⟨rfl, hP, hE, hA⟩ := hv
  have hx := B.exec
  have hb := B.bytes
  have hr := B.returns
  have hts := atoms_spec (ws := wsX4_plain) B.pre
  have hown : s.vm.findClass RX4 = some m.cls := findClass_of_methodNamed B.named
  have hlocks := B.notSynchronized
  have hK := hE.1
  have hS : va_S A s.heap s.heap [] := va_S.rf
  have hL4 := fun w (hw : w ∈ u_ws RX4 TX4 25) => hts w (iL_X4_plain_X4 w hw)
  have hl := lv_entry ([.ref (ad 0 0), .int (nI b), .int y0, .int y1, .int y2]) (n := 6) (Nat.le_of_ble_eq_true rfl)
  rw [lg_entry_eq]
  generalize (lg_sl ([.ref (ad 0 0), .int (nI b), .int y0, .int y1, .int y2]) ++ List.replicate (6 - (lg_sl ([.ref (ad 0 0), .int (nI b), .int y0, .int y1, .int y2])).length) Slot.unset).toArray = ls at hl ⊢
  have hl : lv_has ls 6 [(0, .ref (ad 0 0)), (1, .int (nI b)), (2, .int y0), (3, .int y1), (4, .int y2)] := hl
  refine lv_aload_n hx hb dX4_plain_0 rfl (lv_at hl 0 rfl) ?_
  refine gw_get (C := RX4) (T := TX4) (N := 25) hx hb hL4 hown hK hP 0 0 (rDf (by decide)) rfl rfl 2 (by decide) (hts (.fieldLink RX4 7 "BlockProgramsModel" "kinds" "[I") (by decide +kernel)) (fun _ h9 => h9) (v := .ref (ad 2 0)) rfl dX4_plain_1 ?_
  refine lv_iload_n hx hb dX4_plain_4 rfl (lv_at hl 1 rfl) ?_
  refine gw_iald hx hb hK hP 2 0 (rDf (by decide)) 0 rfl rfl (b) rfl (by omega) (by decide) (v := nI 11) ek dX4_plain_5 ?_
  refine lv_tableIn (off := 241) (tgt := 247) hx hb dX4_plain_6 (by decide) (by decide) (by decide) (by decide) ?_
  refine lv_iload_n hx hb dX4_plain_247 rfl (lv_at hl 2 rfl) ?_
  refine lv_if_eq (tgt := 259) hx hb dX4_plain_248 (by decide) (fun c_1 => ?_) (fun c_1 => ?_)
  · refine lv_iconst (v := 0) hx hb dX4_plain_259 (by decide) ?_
    refine va_calli (va_runS (As := [.int 0]) (rest := []) ⟨hx, hb, hml, hown, hts⟩ (k_X4_one (l := l) (D := D) (cI := cI) (cZ := cZ) (cB := cB) (cS := cS) (A := A) rDm (rEn cI cZ κ σ sc ad) ad 0) (va_cwS 1 hts gX4_plain_X4_one rfl rfl rfl (by decide +kernel) ⟨Nat.le_of_ble_eq_true rfl, Nat.le_of_ble_eq_true rfl⟩) (gPreS hE hA hS hP) rfl rfl hl.1 rfl (lv_room (Nat.le_of_ble_eq_true rfl)) dX4_plain_260 ⟨Nat.le_of_ble_eq_true rfl, Nat.le_of_ble_eq_true rfl⟩) hS (fun q _ h9 => h9) (fun q h9 => h9) (fun r_2 u9 t9 H locs ht9 hvm9 hw_r_2 hB9 hz9 hk9 hS => ?_)
    have hP : gw_P D vwCl A rDm (rEn cI cZ κ σ sc ad) ad H := by rw [← ht9]; exact hB9
    refine lv_toq ((if (0 : Int32) = 0 then 0 else 1)) hw_r_2 ?_
    have e9 : wr sc 2 2 (nI (plW σ 11 b y0 y1)) = sc := by rw [show plW σ 11 b y0 y1 = 0 from rfl]; exact wr_same hw0
    rw [← e9] at hP
    exact W.iret (v := (if (0 : Int32) = 0 then 0 else 1)) hx hb hr (fun t ht hW => ⟨⟨((if (0 : Int32) = 0 then 0 else 1)), (), rfl, (by simp [plV, f_comb, c_1]), by rw [← ht] at hP; exact hP⟩, hS.F ht⟩) hS.2.2 dX4_plain_263
  · refine lv_iload_n hx hb dX4_plain_251 rfl (lv_at hl 3 rfl) ?_
    refine lv_if_eq (tgt := 259) hx hb dX4_plain_252 (by decide) (fun c_3 => ?_) (fun c_3 => ?_)
    · refine lv_iconst (v := 0) hx hb dX4_plain_259 (by decide) ?_
      refine va_calli (va_runS (As := [.int 0]) (rest := []) ⟨hx, hb, hml, hown, hts⟩ (k_X4_one (l := l) (D := D) (cI := cI) (cZ := cZ) (cB := cB) (cS := cS) (A := A) rDm (rEn cI cZ κ σ sc ad) ad 0) (va_cwS 1 hts gX4_plain_X4_one rfl rfl rfl (by decide +kernel) ⟨Nat.le_of_ble_eq_true rfl, Nat.le_of_ble_eq_true rfl⟩) (gPreS hE hA hS hP) rfl rfl hl.1 rfl (lv_room (Nat.le_of_ble_eq_true rfl)) dX4_plain_260 ⟨Nat.le_of_ble_eq_true rfl, Nat.le_of_ble_eq_true rfl⟩) hS (fun q _ h9 => h9) (fun q h9 => h9) (fun r_4 u9 t9 H locs ht9 hvm9 hw_r_4 hB9 hz9 hk9 hS => ?_)
      have hP : gw_P D vwCl A rDm (rEn cI cZ κ σ sc ad) ad H := by rw [← ht9]; exact hB9
      refine lv_toq ((if (0 : Int32) = 0 then 0 else 1)) hw_r_4 ?_
      have e9 : wr sc 2 2 (nI (plW σ 11 b y0 y1)) = sc := by rw [show plW σ 11 b y0 y1 = 0 from rfl]; exact wr_same hw0
      rw [← e9] at hP
      exact W.iret (v := (if (0 : Int32) = 0 then 0 else 1)) hx hb hr (fun t ht hW => ⟨⟨((if (0 : Int32) = 0 then 0 else 1)), (), rfl, (by simp [plV, f_comb, c_1, c_3]), by rw [← ht] at hP; exact hP⟩, hS.F ht⟩) hS.2.2 dX4_plain_263
    · refine lv_iconst (v := 1) hx hb dX4_plain_255 (by decide) ?_
      refine lv_goto (tgt := 260) hx hb dX4_plain_256 (by decide) ?_
      refine va_calli (va_runS (As := [.int 1]) (rest := []) ⟨hx, hb, hml, hown, hts⟩ (k_X4_one (l := l) (D := D) (cI := cI) (cZ := cZ) (cB := cB) (cS := cS) (A := A) rDm (rEn cI cZ κ σ sc ad) ad 1) (va_cwS 1 hts gX4_plain_X4_one rfl rfl rfl (by decide +kernel) ⟨Nat.le_of_ble_eq_true rfl, Nat.le_of_ble_eq_true rfl⟩) (gPreS hE hA hS hP) rfl rfl hl.1 rfl (lv_room (Nat.le_of_ble_eq_true rfl)) dX4_plain_260 ⟨Nat.le_of_ble_eq_true rfl, Nat.le_of_ble_eq_true rfl⟩) hS (fun q _ h9 => h9) (fun q h9 => h9) (fun r_5 u9 t9 H locs ht9 hvm9 hw_r_5 hB9 hz9 hk9 hS => ?_)
      have hP : gw_P D vwCl A rDm (rEn cI cZ κ σ sc ad) ad H := by rw [← ht9]; exact hB9
      refine lv_toq ((if (1 : Int32) = 0 then 0 else 1)) hw_r_5 ?_
      have e9 : wr sc 2 2 (nI (plW σ 11 b y0 y1)) = sc := by rw [show plW σ 11 b y0 y1 = 0 from rfl]; exact wr_same hw0
      rw [← e9] at hP
      exact W.iret (v := (if (1 : Int32) = 0 then 0 else 1)) hx hb hr (fun t ht hW => ⟨⟨((if (1 : Int32) = 0 then 0 else 1)), (), rfl, (by simp [plV, f_comb, c_1, c_3]), by rw [← ht] at hP; exact hP⟩, hS.F ht⟩) hS.2.2 dX4_plain_263

set_option maxHeartbeats 4000000 in
set_option maxRecDepth 100000 in
theorem k_X4_plain_12 {l : Launch} {D : va_G} {cI cZ cB cS : ClassId} {A : Nat → Prop} (κ : Nat → Nat) (σ sc : Nat → Nat → Int32) (ad : Nat → Nat → Nat) (b : Nat) (hb0 : b < κ 0) (hn : κ 0 ≤ 40) (ek : σ 0 b = nI 12) (hw0 : sc 2 2 = 0) (y0 y1 y2 : Int32) : Met l yX4_plain wsX4_plain ({ frames := 1, cells := 0, slots := 0, locals := 22 } : Room) (gPc D cI cZ cB cS A rDm (rEn cI cZ κ σ sc ad) ad [.ref (ad 0 0), .int (nI b), .int y0, .int y1, .int y2]) (va_Qi (fun (r : Int32) (_ : Unit) => r = plV σ 12 b y0 y1 y2) (fun _ t => gw_P D vwCl A rDm (rEn cI cZ κ σ (wr sc 2 2 (nI (plW σ 12 b y0 y1))) ad) ad t.heap) A) 0 0 A := by
  refine Met.ofW (cc := cX4_plain) (maxL := 6) (ret := (some .int)) (by decide) rfl ?_
  intro p e s m args below meth c s₁ B hml hv
  obtain ⟨rfl, hP, hE, hA⟩ := hv
  have hx := B.exec
  have hb := B.bytes
  have hr := B.returns
  have hts := atoms_spec (ws := wsX4_plain) B.pre
  have hown : s.vm.findClass RX4 = some m.cls := findClass_of_methodNamed B.named
  have hlocks := B.notSynchronized
  have hK := hE.1
  have hS : va_S A s.heap s.heap [] := va_S.rf
  have hL4 := fun w (hw : w ∈ u_ws RX4 TX4 25) => hts w (iL_X4_plain_X4 w hw)
  have hl := lv_entry ([.ref (ad 0 0), .int (nI b), .int y0, .int y1, .int y2]) (n := 6) (Nat.le_of_ble_eq_true rfl)
  rw [lg_entry_eq]
  generalize (lg_sl ([.ref (ad 0 0), .int (nI b), .int y0, .int y1, .int y2]) ++ List.replicate (6 - (lg_sl ([.ref (ad 0 0), .int (nI b), .int y0, .int y1, .int y2])).length) Slot.unset).toArray = ls at hl ⊢
  have hl : lv_has ls 6 [(0, .ref (ad 0 0)), (1, .int (nI b)), (2, .int y0), (3, .int y1), (4, .int y2)] := hl
  refine lv_aload_n hx hb dX4_plain_0 rfl (lv_at hl 0 rfl) ?_
  refine gw_get (C := RX4) (T := TX4) (N := 25) hx hb hL4 hown hK hP 0 0 (rDf (by decide)) rfl rfl 2 (by decide) (hts (.fieldLink RX4 7 "BlockProgramsModel" "kinds" "[I") (by decide +kernel)) (fun _ h9 => h9) (v := .ref (ad 2 0)) rfl dX4_plain_1 ?_
  refine lv_iload_n hx hb dX4_plain_4 rfl (lv_at hl 1 rfl) ?_
  refine gw_iald hx hb hK hP 2 0 (rDf (by decide)) 0 rfl rfl (b) rfl (by omega) (by decide) (v := nI 12) ek dX4_plain_5 ?_
  refine lv_tableIn (off := 258) (tgt := 264) hx hb dX4_plain_6 (by decide) (by decide) (by decide) (by decide) ?_
  refine lv_iload_n hx hb dX4_plain_264 rfl (lv_at hl 2 rfl) ?_
  refine lv_if_ne (tgt := 272) hx hb dX4_plain_265 (by decide) (fun c_1 => ?_) (fun c_1 => ?_)
  · refine lv_iconst (v := 1) hx hb dX4_plain_272 (by decide) ?_
    refine lv_goto (tgt := 277) hx hb dX4_plain_273 (by decide) ?_
    refine va_calli (va_runS (As := [.int 1]) (rest := []) ⟨hx, hb, hml, hown, hts⟩ (k_X4_one (l := l) (D := D) (cI := cI) (cZ := cZ) (cB := cB) (cS := cS) (A := A) rDm (rEn cI cZ κ σ sc ad) ad 1) (va_cwS 1 hts gX4_plain_X4_one rfl rfl rfl (by decide +kernel) ⟨Nat.le_of_ble_eq_true rfl, Nat.le_of_ble_eq_true rfl⟩) (gPreS hE hA hS hP) rfl rfl hl.1 rfl (lv_room (Nat.le_of_ble_eq_true rfl)) dX4_plain_277 ⟨Nat.le_of_ble_eq_true rfl, Nat.le_of_ble_eq_true rfl⟩) hS (fun q _ h9 => h9) (fun q h9 => h9) (fun r_2 u9 t9 H locs ht9 hvm9 hw_r_2 hB9 hz9 hk9 hS => ?_)
    have hP : gw_P D vwCl A rDm (rEn cI cZ κ σ sc ad) ad H := by rw [← ht9]; exact hB9
    refine lv_toq ((if (1 : Int32) = 0 then 0 else 1)) hw_r_2 ?_
    have e9 : wr sc 2 2 (nI (plW σ 12 b y0 y1)) = sc := by rw [show plW σ 12 b y0 y1 = 0 from rfl]; exact wr_same hw0
    rw [← e9] at hP
    exact W.iret (v := (if (1 : Int32) = 0 then 0 else 1)) hx hb hr (fun t ht hW => ⟨⟨((if (1 : Int32) = 0 then 0 else 1)), (), rfl, (by simp [plV, f_comb, c_1]), by rw [← ht] at hP; exact hP⟩, hS.F ht⟩) hS.2.2 dX4_plain_280
  · refine lv_iload_n hx hb dX4_plain_268 rfl (lv_at hl 3 rfl) ?_
    refine lv_if_eq (tgt := 276) hx hb dX4_plain_269 (by decide) (fun c_3 => ?_) (fun c_3 => ?_)
    · refine lv_iconst (v := 0) hx hb dX4_plain_276 (by decide) ?_
      refine va_calli (va_runS (As := [.int 0]) (rest := []) ⟨hx, hb, hml, hown, hts⟩ (k_X4_one (l := l) (D := D) (cI := cI) (cZ := cZ) (cB := cB) (cS := cS) (A := A) rDm (rEn cI cZ κ σ sc ad) ad 0) (va_cwS 1 hts gX4_plain_X4_one rfl rfl rfl (by decide +kernel) ⟨Nat.le_of_ble_eq_true rfl, Nat.le_of_ble_eq_true rfl⟩) (gPreS hE hA hS hP) rfl rfl hl.1 rfl (lv_room (Nat.le_of_ble_eq_true rfl)) dX4_plain_277 ⟨Nat.le_of_ble_eq_true rfl, Nat.le_of_ble_eq_true rfl⟩) hS (fun q _ h9 => h9) (fun q h9 => h9) (fun r_4 u9 t9 H locs ht9 hvm9 hw_r_4 hB9 hz9 hk9 hS => ?_)
      have hP : gw_P D vwCl A rDm (rEn cI cZ κ σ sc ad) ad H := by rw [← ht9]; exact hB9
      refine lv_toq ((if (0 : Int32) = 0 then 0 else 1)) hw_r_4 ?_
      have e9 : wr sc 2 2 (nI (plW σ 12 b y0 y1)) = sc := by rw [show plW σ 12 b y0 y1 = 0 from rfl]; exact wr_same hw0
      rw [← e9] at hP
      exact W.iret (v := (if (0 : Int32) = 0 then 0 else 1)) hx hb hr (fun t ht hW => ⟨⟨((if (0 : Int32) = 0 then 0 else 1)), (), rfl, (by simp [plV, f_comb, c_1, c_3]), by rw [← ht] at hP; exact hP⟩, hS.F ht⟩) hS.2.2 dX4_plain_280
    · refine lv_iconst (v := 1) hx hb dX4_plain_272 (by decide) ?_
      refine lv_goto (tgt := 277) hx hb dX4_plain_273 (by decide) ?_
      refine va_calli (va_runS (As := [.int 1]) (rest := []) ⟨hx, hb, hml, hown, hts⟩ (k_X4_one (l := l) (D := D) (cI := cI) (cZ := cZ) (cB := cB) (cS := cS) (A := A) rDm (rEn cI cZ κ σ sc ad) ad 1) (va_cwS 1 hts gX4_plain_X4_one rfl rfl rfl (by decide +kernel) ⟨Nat.le_of_ble_eq_true rfl, Nat.le_of_ble_eq_true rfl⟩) (gPreS hE hA hS hP) rfl rfl hl.1 rfl (lv_room (Nat.le_of_ble_eq_true rfl)) dX4_plain_277 ⟨Nat.le_of_ble_eq_true rfl, Nat.le_of_ble_eq_true rfl⟩) hS (fun q _ h9 => h9) (fun q h9 => h9) (fun r_5 u9 t9 H locs ht9 hvm9 hw_r_5 hB9 hz9 hk9 hS => ?_)
      have hP : gw_P D vwCl A rDm (rEn cI cZ κ σ sc ad) ad H := by rw [← ht9]; exact hB9
      refine lv_toq ((if (1 : Int32) = 0 then 0 else 1)) hw_r_5 ?_
      have e9 : wr sc 2 2 (nI (plW σ 12 b y0 y1)) = sc := by rw [show plW σ 12 b y0 y1 = 0 from rfl]; exact wr_same hw0
      rw [← e9] at hP
      exact W.iret (v := (if (1 : Int32) = 0 then 0 else 1)) hx hb hr (fun t ht hW => ⟨⟨((if (1 : Int32) = 0 then 0 else 1)), (), rfl, (by simp [plV, f_comb, c_1, c_3]), by rw [← ht] at hP; exact hP⟩, hS.F ht⟩) hS.2.2 dX4_plain_280

set_option maxHeartbeats 4000000 in
set_option maxRecDepth 100000 in
theorem k_X4_plain_13 {l : Launch} {D : va_G} {cI cZ cB cS : ClassId} {A : Nat → Prop} (κ : Nat → Nat) (σ sc : Nat → Nat → Int32) (ad : Nat → Nat → Nat) (b : Nat) (hb0 : b < κ 0) (hn : κ 0 ≤ 40) (ek : σ 0 b = nI 13) (hw0 : sc 2 2 = 0) (y0 y1 y2 : Int32) : Met l yX4_plain wsX4_plain ({ frames := 1, cells := 0, slots := 0, locals := 22 } : Room) (gPc D cI cZ cB cS A rDm (rEn cI cZ κ σ sc ad) ad [.ref (ad 0 0), .int (nI b), .int y0, .int y1, .int y2]) (va_Qi (fun (r : Int32) (_ : Unit) => r = plV σ 13 b y0 y1 y2) (fun _ t => gw_P D vwCl A rDm (rEn cI cZ κ σ (wr sc 2 2 (nI (plW σ 13 b y0 y1))) ad) ad t.heap) A) 0 0 A := by
  refine Met.ofW (cc := cX4_plain) (maxL := 6) (ret := (some .int)) (by decide) rfl ?_
  intro p e s m args below meth c s₁ B hml hv
  obtain ⟨rfl, hP, hE, hA⟩ := hv
  have hx := B.exec
  have hb := B.bytes
  have hr := B.returns
  have hts := atoms_spec (ws := wsX4_plain) B.pre
  have hown : s.vm.findClass RX4 = some m.cls := findClass_of_methodNamed B.named
  have hlocks := B.notSynchronized
  have hK := hE.1
  have hS : va_S A s.heap s.heap [] := va_S.rf
  have hL4 := fun w (hw : w ∈ u_ws RX4 TX4 25) => hts w (iL_X4_plain_X4 w hw)
  have hl := lv_entry ([.ref (ad 0 0), .int (nI b), .int y0, .int y1, .int y2]) (n := 6) (Nat.le_of_ble_eq_true rfl)
  rw [lg_entry_eq]
  generalize (lg_sl ([.ref (ad 0 0), .int (nI b), .int y0, .int y1, .int y2]) ++ List.replicate (6 - (lg_sl ([.ref (ad 0 0), .int (nI b), .int y0, .int y1, .int y2])).length) Slot.unset).toArray = ls at hl ⊢
  have hl : lv_has ls 6 [(0, .ref (ad 0 0)), (1, .int (nI b)), (2, .int y0), (3, .int y1), (4, .int y2)] := hl
  refine lv_aload_n hx hb dX4_plain_0 rfl (lv_at hl 0 rfl) ?_
  refine gw_get (C := RX4) (T := TX4) (N := 25) hx hb hL4 hown hK hP 0 0 (rDf (by decide)) rfl rfl 2 (by decide) (hts (.fieldLink RX4 7 "BlockProgramsModel" "kinds" "[I") (by decide +kernel)) (fun _ h9 => h9) (v := .ref (ad 2 0)) rfl dX4_plain_1 ?_
  refine lv_iload_n hx hb dX4_plain_4 rfl (lv_at hl 1 rfl) ?_
  refine gw_iald hx hb hK hP 2 0 (rDf (by decide)) 0 rfl rfl (b) rfl (by omega) (by decide) (v := nI 13) ek dX4_plain_5 ?_
  refine lv_tableIn (off := 275) (tgt := 281) hx hb dX4_plain_6 (by decide) (by decide) (by decide) (by decide) ?_
  refine lv_iload_n hx hb dX4_plain_281 rfl (lv_at hl 2 rfl) ?_
  refine lv_if_ne (tgt := 289) hx hb dX4_plain_282 (by decide) (fun c_1 => ?_) (fun c_1 => ?_)
  · refine lv_iconst (v := 0) hx hb dX4_plain_289 (by decide) ?_
    refine va_calli (va_runS (As := [.int 0]) (rest := []) ⟨hx, hb, hml, hown, hts⟩ (k_X4_one (l := l) (D := D) (cI := cI) (cZ := cZ) (cB := cB) (cS := cS) (A := A) rDm (rEn cI cZ κ σ sc ad) ad 0) (va_cwS 1 hts gX4_plain_X4_one rfl rfl rfl (by decide +kernel) ⟨Nat.le_of_ble_eq_true rfl, Nat.le_of_ble_eq_true rfl⟩) (gPreS hE hA hS hP) rfl rfl hl.1 rfl (lv_room (Nat.le_of_ble_eq_true rfl)) dX4_plain_290 ⟨Nat.le_of_ble_eq_true rfl, Nat.le_of_ble_eq_true rfl⟩) hS (fun q _ h9 => h9) (fun q h9 => h9) (fun r_2 u9 t9 H locs ht9 hvm9 hw_r_2 hB9 hz9 hk9 hS => ?_)
    have hP : gw_P D vwCl A rDm (rEn cI cZ κ σ sc ad) ad H := by rw [← ht9]; exact hB9
    refine lv_toq ((if (0 : Int32) = 0 then 0 else 1)) hw_r_2 ?_
    have e9 : wr sc 2 2 (nI (plW σ 13 b y0 y1)) = sc := by rw [show plW σ 13 b y0 y1 = 0 from rfl]; exact wr_same hw0
    rw [← e9] at hP
    exact W.iret (v := (if (0 : Int32) = 0 then 0 else 1)) hx hb hr (fun t ht hW => ⟨⟨((if (0 : Int32) = 0 then 0 else 1)), (), rfl, (by simp [plV, f_comb, c_1]), by rw [← ht] at hP; exact hP⟩, hS.F ht⟩) hS.2.2 dX4_plain_293
  · refine lv_iconst (v := 1) hx hb dX4_plain_285 (by decide) ?_
    refine lv_goto (tgt := 290) hx hb dX4_plain_286 (by decide) ?_
    refine va_calli (va_runS (As := [.int 1]) (rest := []) ⟨hx, hb, hml, hown, hts⟩ (k_X4_one (l := l) (D := D) (cI := cI) (cZ := cZ) (cB := cB) (cS := cS) (A := A) rDm (rEn cI cZ κ σ sc ad) ad 1) (va_cwS 1 hts gX4_plain_X4_one rfl rfl rfl (by decide +kernel) ⟨Nat.le_of_ble_eq_true rfl, Nat.le_of_ble_eq_true rfl⟩) (gPreS hE hA hS hP) rfl rfl hl.1 rfl (lv_room (Nat.le_of_ble_eq_true rfl)) dX4_plain_290 ⟨Nat.le_of_ble_eq_true rfl, Nat.le_of_ble_eq_true rfl⟩) hS (fun q _ h9 => h9) (fun q h9 => h9) (fun r_3 u9 t9 H locs ht9 hvm9 hw_r_3 hB9 hz9 hk9 hS => ?_)
    have hP : gw_P D vwCl A rDm (rEn cI cZ κ σ sc ad) ad H := by rw [← ht9]; exact hB9
    refine lv_toq ((if (1 : Int32) = 0 then 0 else 1)) hw_r_3 ?_
    have e9 : wr sc 2 2 (nI (plW σ 13 b y0 y1)) = sc := by rw [show plW σ 13 b y0 y1 = 0 from rfl]; exact wr_same hw0
    rw [← e9] at hP
    exact W.iret (v := (if (1 : Int32) = 0 then 0 else 1)) hx hb hr (fun t ht hW => ⟨⟨((if (1 : Int32) = 0 then 0 else 1)), (), rfl, (by simp [plV, f_comb, c_1]), by rw [← ht] at hP; exact hP⟩, hS.F ht⟩) hS.2.2 dX4_plain_293

set_option maxHeartbeats 4000000 in
set_option maxRecDepth 100000 in
theorem k_X4_plain_14 {l : Launch} {D : va_G} {cI cZ cB cS : ClassId} {A : Nat → Prop} (κ : Nat → Nat) (σ sc : Nat → Nat → Int32) (ad : Nat → Nat → Nat) (b : Nat) (hb0 : b < κ 0) (hn : κ 0 ≤ 40) (ek : σ 0 b = nI 14) (hw0 : sc 2 2 = 0) (y0 y1 y2 : Int32) : Met l yX4_plain wsX4_plain ({ frames := 1, cells := 0, slots := 0, locals := 22 } : Room) (gPc D cI cZ cB cS A rDm (rEn cI cZ κ σ sc ad) ad [.ref (ad 0 0), .int (nI b), .int y0, .int y1, .int y2]) (va_Qi (fun (r : Int32) (_ : Unit) => r = plV σ 14 b y0 y1 y2) (fun _ t => gw_P D vwCl A rDm (rEn cI cZ κ σ (wr sc 2 2 (nI (plW σ 14 b y0 y1))) ad) ad t.heap) A) 0 0 A := by
  refine Met.ofW (cc := cX4_plain) (maxL := 6) (ret := (some .int)) (by decide) rfl ?_
  intro p e s m args below meth c s₁ B hml hv
  obtain ⟨rfl, hP, hE, hA⟩ := hv
  have hx := B.exec
  have hb := B.bytes
  have hr := B.returns
  have hts := atoms_spec (ws := wsX4_plain) B.pre
  have hown : s.vm.findClass RX4 = some m.cls := findClass_of_methodNamed B.named
  have hlocks := B.notSynchronized
  have hK := hE.1
  have hS : va_S A s.heap s.heap [] := va_S.rf
  have hL4 := fun w (hw : w ∈ u_ws RX4 TX4 25) => hts w (iL_X4_plain_X4 w hw)
  have hl := lv_entry ([.ref (ad 0 0), .int (nI b), .int y0, .int y1, .int y2]) (n := 6) (Nat.le_of_ble_eq_true rfl)
  rw [lg_entry_eq]
  generalize (lg_sl ([.ref (ad 0 0), .int (nI b), .int y0, .int y1, .int y2]) ++ List.replicate (6 - (lg_sl ([.ref (ad 0 0), .int (nI b), .int y0, .int y1, .int y2])).length) Slot.unset).toArray = ls at hl ⊢
  have hl : lv_has ls 6 [(0, .ref (ad 0 0)), (1, .int (nI b)), (2, .int y0), (3, .int y1), (4, .int y2)] := hl
  refine lv_aload_n hx hb dX4_plain_0 rfl (lv_at hl 0 rfl) ?_
  refine gw_get (C := RX4) (T := TX4) (N := 25) hx hb hL4 hown hK hP 0 0 (rDf (by decide)) rfl rfl 2 (by decide) (hts (.fieldLink RX4 7 "BlockProgramsModel" "kinds" "[I") (by decide +kernel)) (fun _ h9 => h9) (v := .ref (ad 2 0)) rfl dX4_plain_1 ?_
  refine lv_iload_n hx hb dX4_plain_4 rfl (lv_at hl 1 rfl) ?_
  refine gw_iald hx hb hK hP 2 0 (rDf (by decide)) 0 rfl rfl (b) rfl (by omega) (by decide) (v := nI 14) ek dX4_plain_5 ?_
  refine lv_tableIn (off := 288) (tgt := 294) hx hb dX4_plain_6 (by decide) (by decide) (by decide) (by decide) ?_
  refine lv_iload_n hx hb dX4_plain_294 rfl (lv_at hl 2 rfl) ?_
  refine lv_if_eq (tgt := 302) hx hb dX4_plain_295 (by decide) (fun c_1 => ?_) (fun c_1 => ?_)
  · refine lv_iload hx hb dX4_plain_302 (lv_at hl 4 rfl) ?_
    have e9 : wr sc 2 2 (nI (plW σ 14 b y0 y1)) = sc := by rw [show plW σ 14 b y0 y1 = 0 from rfl]; exact wr_same hw0
    rw [← e9] at hP
    exact W.iret (v := y2) hx hb hr (fun t ht hW => ⟨⟨y2, (), rfl, (by simp [plV, f_comb, c_1]), by rw [← ht] at hP; exact hP⟩, hS.F ht⟩) hS.2.2 dX4_plain_304
  · refine lv_iload_n hx hb dX4_plain_298 rfl (lv_at hl 3 rfl) ?_
    refine lv_goto (tgt := 304) hx hb dX4_plain_299 (by decide) ?_
    have e9 : wr sc 2 2 (nI (plW σ 14 b y0 y1)) = sc := by rw [show plW σ 14 b y0 y1 = 0 from rfl]; exact wr_same hw0
    rw [← e9] at hP
    exact W.iret (v := y1) hx hb hr (fun t ht hW => ⟨⟨y1, (), rfl, (by simp [plV, f_comb, c_1]), by rw [← ht] at hP; exact hP⟩, hS.F ht⟩) hS.2.2 dX4_plain_304

set_option maxHeartbeats 4000000 in
set_option maxRecDepth 100000 in
theorem k_X4_plain_15 {l : Launch} {D : va_G} {cI cZ cB cS : ClassId} {A : Nat → Prop} (κ : Nat → Nat) (σ sc : Nat → Nat → Int32) (ad : Nat → Nat → Nat) (b : Nat) (hb0 : b < κ 0) (hn : κ 0 ≤ 40) (ek : σ 0 b = nI 15) (hw0 : sc 2 2 = 0) (y0 y1 y2 : Int32) : Met l yX4_plain wsX4_plain ({ frames := 1, cells := 0, slots := 0, locals := 22 } : Room) (gPc D cI cZ cB cS A rDm (rEn cI cZ κ σ sc ad) ad [.ref (ad 0 0), .int (nI b), .int y0, .int y1, .int y2]) (va_Qi (fun (r : Int32) (_ : Unit) => r = plV σ 15 b y0 y1 y2) (fun _ t => gw_P D vwCl A rDm (rEn cI cZ κ σ (wr sc 2 2 (nI (plW σ 15 b y0 y1))) ad) ad t.heap) A) 0 0 A := by
  refine Met.ofW (cc := cX4_plain) (maxL := 6) (ret := (some .int)) (by decide) rfl ?_
  intro p e s m args below meth c s₁ B hml hv
  obtain ⟨rfl, hP, hE, hA⟩ := hv
  have hx := B.exec
  have hb := B.bytes
  have hr := B.returns
  have hts := atoms_spec (ws := wsX4_plain) B.pre
  have hown : s.vm.findClass RX4 = some m.cls := findClass_of_methodNamed B.named
  have hlocks := B.notSynchronized
  have hK := hE.1
  have hS : va_S A s.heap s.heap [] := va_S.rf
  have hL4 := fun w (hw : w ∈ u_ws RX4 TX4 25) => hts w (iL_X4_plain_X4 w hw)
  have hl := lv_entry ([.ref (ad 0 0), .int (nI b), .int y0, .int y1, .int y2]) (n := 6) (Nat.le_of_ble_eq_true rfl)
  rw [lg_entry_eq]
  generalize (lg_sl ([.ref (ad 0 0), .int (nI b), .int y0, .int y1, .int y2]) ++ List.replicate (6 - (lg_sl ([.ref (ad 0 0), .int (nI b), .int y0, .int y1, .int y2])).length) Slot.unset).toArray = ls at hl ⊢
  have hl : lv_has ls 6 [(0, .ref (ad 0 0)), (1, .int (nI b)), (2, .int y0), (3, .int y1), (4, .int y2)] := hl
  refine lv_aload_n hx hb dX4_plain_0 rfl (lv_at hl 0 rfl) ?_
  refine gw_get (C := RX4) (T := TX4) (N := 25) hx hb hL4 hown hK hP 0 0 (rDf (by decide)) rfl rfl 2 (by decide) (hts (.fieldLink RX4 7 "BlockProgramsModel" "kinds" "[I") (by decide +kernel)) (fun _ h9 => h9) (v := .ref (ad 2 0)) rfl dX4_plain_1 ?_
  refine lv_iload_n hx hb dX4_plain_4 rfl (lv_at hl 1 rfl) ?_
  refine gw_iald hx hb hK hP 2 0 (rDf (by decide)) 0 rfl rfl (b) rfl (by omega) (by decide) (v := nI 15) ek dX4_plain_5 ?_
  refine lv_tableOut (tgt := 305) hx hb dX4_plain_6 (by decide) (by decide) ?_
  refine lv_aload_n hx hb dX4_plain_305 rfl (lv_at hl 0 rfl) ?_
  refine lv_iload_n hx hb dX4_plain_306 rfl (lv_at hl 2 rfl) ?_
  refine lv_iconst (v := 0) hx hb dX4_plain_307 (by decide) ?_
  refine lv_bipush (v := 7) hx hb dX4_plain_308 (by decide) ?_
  refine va_calli (va_runS (As := [.int y0, .int 0, .int 7]) (rest := [.ref (ad 0 0)]) ⟨hx, hb, hml, hown, hts⟩ (k_X4_in (l := l) (D := D) (cI := cI) (cZ := cZ) (cB := cB) (cS := cS) (A := A) rDm (rEn cI cZ κ σ sc ad) ad y0 0 7) (va_cwS 3 hts gX4_plain_X4_in rfl rfl rfl (by decide +kernel) ⟨Nat.le_of_ble_eq_true rfl, Nat.le_of_ble_eq_true rfl⟩) (gPreS hE hA hS hP) rfl rfl hl.1 rfl (lv_room (Nat.le_of_ble_eq_true rfl)) dX4_plain_310 ⟨Nat.le_of_ble_eq_true rfl, Nat.le_of_ble_eq_true rfl⟩) hS (fun q _ h9 => h9) (fun q h9 => h9) (fun r_1 u9 t9 H locs ht9 hvm9 hw_r_1 hB9 hz9 hk9 hS => ?_)
  have hP : gw_P D vwCl A rDm (rEn cI cZ κ σ sc ad) ad H := by rw [← ht9]; exact hB9
  by_cases hok : okI 8 y0
  · refine lv_toq 1 (hw_r_1.trans ((in_i (by decide) (by decide)).trans (if_pos hok))) ?_
    refine lv_if_eq (tgt := 320) hx hb dX4_plain_313 (by decide) (fun c_2 => ?_) (fun c_2 => ?_)
    · have c_2 : 1 = 0 := (nI_eq (a := 1) (b := 0) (by omega) (by omega)).mp c_2
      exfalso; omega
    · have c_2 : ¬ (1 = 0) := fun z => c_2 ((nI_eq (a := 1) (b := 0) (by omega) (by omega)).mpr z)
      refine lv_iconst (v := 0) hx hb dX4_plain_316 (by decide) ?_
      refine lv_goto (tgt := 321) hx hb dX4_plain_317 (by decide) ?_
      refine gw_put (ty := .int) (C := RX4) (T := TX4) (N := 25) hx hb hL4 tyX4 tyX4_ok nmX4 hown hK hP hS 0 0 (rDf (by decide)) rfl rfl 24 (by decide) (hts (.fieldLink RX4 93 "BlockProgramsModel" "wrong" "I") (by decide +kernel)) (fun _ h9 => h9) rfl (by decide +kernel) rfl rfl (Nat.le_of_ble_eq_true rfl) dX4_plain_321 (rEn cI cZ κ σ (wr sc 2 2 0) ad) (rU0s_24 _) (fun t9 i9 z9 h9 => rU0 _ _ t9 i9 h9 z9) (fun H locs hP hS => ?_)
      refine lv_aload_n hx hb dX4_plain_324 rfl (lv_at hl 0 rfl) ?_
      refine gw_get (C := RX4) (T := TX4) (N := 25) hx hb hL4 hown hK hP 0 0 (rDf (by decide)) rfl rfl 24 (by decide) (hts (.fieldLink RX4 93 "BlockProgramsModel" "wrong" "I") (by decide +kernel)) (fun _ h9 => h9) (v := .int 0) (by simp [wr, va_up]) dX4_plain_325 ?_
      refine lv_if_ne (tgt := 345) hx hb dX4_plain_328 (by decide) (fun c_3 => ?_) (fun c_3 => ?_)
      · have c_3 : ¬ (0 = 0) := fun z => c_3 ((nI_eq (a := 0) (b := 0) (by omega) (by omega)).mpr z)
        exfalso; omega
      · have c_3 : 0 = 0 := (nI_eq (a := 0) (b := 0) (by omega) (by omega)).mp c_3
        refine lv_aload_n hx hb dX4_plain_331 rfl (lv_at hl 0 rfl) ?_
        refine gw_get (C := RX4) (T := TX4) (N := 25) hx hb hL4 hown hK hP 0 0 (rDf (by decide)) rfl rfl 10 (by decide) (hts (.fieldLink RX4 34 "BlockProgramsModel" "rows" "[I") (by decide +kernel)) (fun _ h9 => h9) (v := .ref (ad 10 0)) rfl dX4_plain_332 ?_
        refine lv_bipush (v := 8) hx hb dX4_plain_335 (by decide) ?_
        refine lv_iload_n hx hb dX4_plain_337 rfl (lv_at hl 1 rfl) ?_
        refine lv_imul hx hb dX4_plain_338 ?_
        refine lv_toq (nI (8 * b)) (pk_mul 8 b) ?_
        refine lv_iload_n hx hb dX4_plain_339 rfl (lv_at hl 2 rfl) ?_
        obtain ⟨j, hj, ej⟩ := ix_of (n := 8) (by decide) hok.1 hok.2
        refine lv_toq (nI j) ej ?_
        refine lv_iadd hx hb dX4_plain_340 ?_
        refine lv_toq (nI (8 * b + j)) (nI_add (8 * b) j) ?_
        refine gw_iald hx hb hK hP 10 0 (rDf (by decide)) 0 rfl rfl (8 * b + j) rfl (by omega) (by decide) (v := (σ 10 (8 * b + j))) rfl dX4_plain_341 ?_
        refine lv_goto (tgt := 346) hx hb dX4_plain_342 (by decide) ?_
        have e9 : plW σ 15 b y0 y1 = 0 := by simp [plW, hok]
        rw [show wr sc 2 2 0 = wr sc 2 2 (nI (plW σ 15 b y0 y1)) from by rw [e9]; rfl] at hP
        exact W.iret (v := (σ 10 (8 * b + j))) hx hb hr (fun t ht hW => ⟨⟨((σ 10 (8 * b + j))), (), rfl, (by unfold plV; rw [if_neg (by decide), if_neg (by decide), if_pos rfl, if_pos hok, ej, nI_clamp (show j < 2 ^ 31 by omega)]), by rw [← ht] at hP; exact hP⟩, hS.F ht⟩) hS.2.2 dX4_plain_346
  · refine lv_toq 0 (hw_r_1.trans ((in_i (by decide) (by decide)).trans (if_neg hok))) ?_
    refine lv_if_eq (tgt := 320) hx hb dX4_plain_313 (by decide) (fun c_4 => ?_) (fun c_4 => ?_)
    · have c_4 : 0 = 0 := (nI_eq (a := 0) (b := 0) (by omega) (by omega)).mp c_4
      refine lv_iconst (v := 2) hx hb dX4_plain_320 (by decide) ?_
      refine gw_put (ty := .int) (C := RX4) (T := TX4) (N := 25) hx hb hL4 tyX4 tyX4_ok nmX4 hown hK hP hS 0 0 (rDf (by decide)) rfl rfl 24 (by decide) (hts (.fieldLink RX4 93 "BlockProgramsModel" "wrong" "I") (by decide +kernel)) (fun _ h9 => h9) rfl (by decide +kernel) rfl rfl (Nat.le_of_ble_eq_true rfl) dX4_plain_321 (rEn cI cZ κ σ (wr sc 2 2 2) ad) (rU0s_24 _) (fun t9 i9 z9 h9 => rU0 _ _ t9 i9 h9 z9) (fun H locs hP hS => ?_)
      refine lv_aload_n hx hb dX4_plain_324 rfl (lv_at hl 0 rfl) ?_
      refine gw_get (C := RX4) (T := TX4) (N := 25) hx hb hL4 hown hK hP 0 0 (rDf (by decide)) rfl rfl 24 (by decide) (hts (.fieldLink RX4 93 "BlockProgramsModel" "wrong" "I") (by decide +kernel)) (fun _ h9 => h9) (v := .int 2) (by simp [wr, va_up]) dX4_plain_325 ?_
      refine lv_if_ne (tgt := 345) hx hb dX4_plain_328 (by decide) (fun c_5 => ?_) (fun c_5 => ?_)
      · have c_5 : ¬ (2 = 0) := fun z => c_5 ((nI_eq (a := 2) (b := 0) (by omega) (by omega)).mpr z)
        refine lv_iconst (v := 0) hx hb dX4_plain_345 (by decide) ?_
        have e9 : plW σ 15 b y0 y1 = 2 := by simp [plW, hok]
        rw [show wr sc 2 2 2 = wr sc 2 2 (nI (plW σ 15 b y0 y1)) from by rw [e9]; rfl] at hP
        exact W.iret (v := 0) hx hb hr (fun t ht hW => ⟨⟨0, (), rfl, (by simp [plV, hok]), by rw [← ht] at hP; exact hP⟩, hS.F ht⟩) hS.2.2 dX4_plain_346
      · have c_5 : 2 = 0 := (nI_eq (a := 2) (b := 0) (by omega) (by omega)).mp c_5
        exfalso; omega
    · have c_4 : ¬ (0 = 0) := fun z => c_4 ((nI_eq (a := 0) (b := 0) (by omega) (by omega)).mpr z)
      exfalso; omega

theorem k_X4_plain {l : Launch} {D : va_G} {cI cZ cB cS : ClassId} {A : Nat → Prop} (κ : Nat → Nat) (σ sc : Nat → Nat → Int32) (ad : Nat → Nat → Nat) (b k : Nat) (hb0 : b < κ 0) (hn : κ 0 ≤ 40) (hk : k < 16) (ek : σ 0 b = nI k) (hw0 : sc 2 2 = 0) (y0 y1 y2 : Int32) : Met l yX4_plain wsX4_plain ({ frames := 1, cells := 0, slots := 0, locals := 22 } : Room) (gPc D cI cZ cB cS A rDm (rEn cI cZ κ σ sc ad) ad [.ref (ad 0 0), .int (nI b), .int y0, .int y1, .int y2]) (va_Qi (fun (r : Int32) (_ : Unit) => r = plV σ k b y0 y1 y2) (fun _ t => gw_P D vwCl A rDm (rEn cI cZ κ σ (wr sc 2 2 (nI (plW σ k b y0 y1))) ad) ad t.heap) A) 0 0 A := by
  rcases (show k = 0 ∨ k = 1 ∨ k = 2 ∨ k = 3 ∨ k = 4 ∨ k = 5 ∨ k = 6 ∨ k = 7 ∨ k = 8 ∨ k = 9 ∨ k = 10 ∨ k = 11 ∨ k = 12 ∨ k = 13 ∨ k = 14 ∨ k = 15 by omega) with rfl | rfl | rfl | rfl | rfl | rfl | rfl | rfl | rfl | rfl | rfl | rfl | rfl | rfl | rfl | rfl
  · exact k_X4_plain_0 κ σ sc ad b hb0 hn ek hw0 y0 y1 y2
  · exact k_X4_plain_1 κ σ sc ad b hb0 hn ek hw0 y0 y1 y2
  · exact k_X4_plain_2 κ σ sc ad b hb0 hn ek hw0 y0 y1 y2
  · exact k_X4_plain_3 κ σ sc ad b hb0 hn ek hw0 y0 y1 y2
  · exact k_X4_plain_4 κ σ sc ad b hb0 hn ek hw0 y0 y1 y2
  · exact k_X4_plain_5 κ σ sc ad b hb0 hn ek hw0 y0 y1 y2
  · exact k_X4_plain_6 κ σ sc ad b hb0 hn ek hw0 y0 y1 y2
  · exact k_X4_plain_7 κ σ sc ad b hb0 hn ek hw0 y0 y1 y2
  · exact k_X4_plain_8 κ σ sc ad b hb0 hn ek hw0 y0 y1 y2
  · exact k_X4_plain_9 κ σ sc ad b hb0 hn ek hw0 y0 y1 y2
  · exact k_X4_plain_10 κ σ sc ad b hb0 hn ek hw0 y0 y1 y2
  · exact k_X4_plain_11 κ σ sc ad b hb0 hn ek hw0 y0 y1 y2
  · exact k_X4_plain_12 κ σ sc ad b hb0 hn ek hw0 y0 y1 y2
  · exact k_X4_plain_13 κ σ sc ad b hb0 hn ek hw0 y0 y1 y2
  · exact k_X4_plain_14 κ σ sc ad b hb0 hn ek hw0 y0 y1 y2
  · exact k_X4_plain_15 κ σ sc ad b hb0 hn ek hw0 y0 y1 y2
