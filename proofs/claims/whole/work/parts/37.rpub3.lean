theorem iL_X4_block_X4 : ∀ w ∈ u_ws RX4 TX4 25, w ∈ wsX4_block := by decide +kernel
set_option maxHeartbeats 4000000 in
set_option maxRecDepth 100000 in
theorem k_X4_block {l : Launch} {D : va_G} {cI cZ cB cS : ClassId} {A : Nat → Prop} (κ : Nat → Nat) (σ sc : Nat → Nat → Int32) (ad : Nat → Nat → Nat) (hn : κ 0 ≤ 40) (y0 : Int32) : Met l yX4_block wsX4_block ({ frames := 1, cells := 0, slots := 0, locals := 22 } : Room) (gPc D cI cZ cB cS A rDm (rEn cI cZ κ σ sc ad) ad [.ref (ad 0 0), .int y0]) (va_Qi (fun (r : Int32) (u : Nat → Nat → Int32) => u 2 0 = nI (cBlock κ y0) ∧ (cBlock κ y0 = 0 → r = nI (κ 0))) (fun u t => gw_P D vwCl A rDm (rEn cI cZ ((if cBlock κ y0 = 0 then va_up κ 0 (κ 0 + 1) else κ)) ((if cBlock κ y0 = 0 then sBlock κ σ y0 else σ)) u ad) ad t.heap) A) 0 0 A := by
  refine Met.ofW (cc := cX4_block) (maxL := 3) (ret := (some .int)) (by decide) rfl ?_
  intro p e s m args below meth c s₁ B hml hv
  obtain ⟨rfl, hP, hE, hA⟩ := hv
  have hx := B.exec
  have hb := B.bytes
  have hr := B.returns
  have hts := atoms_spec (ws := wsX4_block) B.pre
  have hown : s.vm.findClass RX4 = some m.cls := findClass_of_methodNamed B.named
  have hlocks := B.notSynchronized
  have hK := hE.1
  have hS : va_S A s.heap s.heap [] := va_S.rf
  have hL4 := fun w (hw : w ∈ u_ws RX4 TX4 25) => hts w (iL_X4_block_X4 w hw)
  have hl := lv_entry ([.ref (ad 0 0), .int y0]) (n := 3) (Nat.le_of_ble_eq_true rfl)
  rw [lg_entry_eq]
  generalize (lg_sl ([.ref (ad 0 0), .int y0]) ++ List.replicate (3 - (lg_sl ([.ref (ad 0 0), .int y0])).length) Slot.unset).toArray = ls at hl ⊢
  have hl : lv_has ls 3 [(0, .ref (ad 0 0)), (1, .int y0)] := hl
  refine lv_aload_n hx hb dX4_block_0 rfl (lv_at hl 0 rfl) ?_
  refine lv_iload_n hx hb dX4_block_1 rfl (lv_at hl 1 rfl) ?_
  refine lv_iconst (v := 0) hx hb dX4_block_2 (by decide) ?_
  refine lv_bipush (v := 25) hx hb dX4_block_3 (by decide) ?_
  refine va_calli (va_runS (As := [.int y0, .int 0, .int 25]) (rest := [.ref (ad 0 0)]) ⟨hx, hb, hml, hown, hts⟩ (k_X4_in (l := l) (D := D) (cI := cI) (cZ := cZ) (cB := cB) (cS := cS) (A := A) rDm (rEn cI cZ κ σ sc ad) ad y0 0 25) (va_cwS 3 hts gX4_block_X4_in rfl rfl rfl (by decide +kernel) ⟨Nat.le_of_ble_eq_true rfl, Nat.le_of_ble_eq_true rfl⟩) (gPreS hE hA hS hP) rfl rfl hl.1 rfl (lv_room (Nat.le_of_ble_eq_true rfl)) dX4_block_5 ⟨Nat.le_of_ble_eq_true rfl, Nat.le_of_ble_eq_true rfl⟩) hS (fun q _ h9 => h9) (fun q h9 => h9) (fun r_1 u9 t9 H locs ht9 hvm9 hw_r_1 hB9 hz9 hk9 hS => ?_)
  have hP : gw_P D vwCl A rDm (rEn cI cZ κ σ sc ad) ad H := by rw [← ht9]; exact hB9
  refine lv_toq (if okI 26 y0 then 1 else 0) (hw_r_1.trans (in_i (by omega) (by decide))) ?_
  refine lv_if_ne (tgt := 15) hx hb dX4_block_8 (by decide) (fun c_2 => ?_) (fun c_2 => ?_)
  · refine lv_aload_n hx hb dX4_block_15 rfl (lv_at hl 0 rfl) ?_
    refine gw_get (C := RX4) (T := TX4) (N := 25) hx hb hL4 hown hK hP 0 0 (rDf (by decide)) rfl rfl 1 (by decide) (hts (.fieldLink RX4 69 "BlockProgramsModel" "blocks" "I") (by decide +kernel)) (fun _ h9 => h9) (v := .int (nI (κ 0))) rfl dX4_block_16 ?_
    refine lv_bipush (v := 40) hx hb dX4_block_19 (by decide) ?_
    refine lv_icmp_ne (tgt := 28) hx hb dX4_block_21 (by decide) (fun c_3 => ?_) (fun c_3 => ?_)
    · have c_3 : ¬ (κ 0 = 40) := fun z => c_3 ((nI_eq (a := κ 0) (b := 40) (by omega) (by omega)).mpr z)
      refine lv_iconst (v := 0) hx hb dX4_block_28 (by decide) ?_
      refine gw_put (ty := .int) (C := RX4) (T := TX4) (N := 25) hx hb hL4 tyX4 tyX4_ok nmX4 hown hK hP hS 0 0 (rDf (by decide)) rfl rfl 0 (by decide) (hts (.fieldLink RX4 65 "BlockProgramsModel" "code" "I") (by decide +kernel)) (fun _ h9 => h9) rfl (by decide +kernel) rfl rfl (Nat.le_of_ble_eq_true rfl) dX4_block_29 (rEn cI cZ κ σ (wr sc 2 0 0) ad) (rU0s_0 _) (fun t9 i9 z9 h9 => rU0 _ _ t9 i9 h9 z9) (fun H locs hP hS => ?_)
      refine lv_aload_n hx hb dX4_block_32 rfl (lv_at hl 0 rfl) ?_
      refine gw_get (C := RX4) (T := TX4) (N := 25) hx hb hL4 hown hK hP 0 0 (rDf (by decide)) rfl rfl 0 (by decide) (hts (.fieldLink RX4 65 "BlockProgramsModel" "code" "I") (by decide +kernel)) (fun _ h9 => h9) (v := .int 0) (by simp [wr, va_up]) dX4_block_33 ?_
      refine lv_if_le (tgt := 41) hx hb dX4_block_36 (by decide) (fun c_4 => ?_) (fun c_4 => ?_)
      · have c_4 : 0 ≤ 0 := (nI_leI (a := 0) (b := 0) (by omega) (by omega)).mp c_4
        refine lv_aload_n hx hb dX4_block_41 rfl (lv_at hl 0 rfl) ?_
        refine gw_get (C := RX4) (T := TX4) (N := 25) hx hb hL4 hown hK hP 0 0 (rDf (by decide)) rfl rfl 2 (by decide) (hts (.fieldLink RX4 7 "BlockProgramsModel" "kinds" "[I") (by decide +kernel)) (fun _ h9 => h9) (v := .ref (ad 2 0)) rfl dX4_block_42 ?_
        refine lv_aload_n hx hb dX4_block_45 rfl (lv_at hl 0 rfl) ?_
        refine gw_get (C := RX4) (T := TX4) (N := 25) hx hb hL4 hown hK hP 0 0 (rDf (by decide)) rfl rfl 1 (by decide) (hts (.fieldLink RX4 69 "BlockProgramsModel" "blocks" "I") (by decide +kernel)) (fun _ h9 => h9) (v := .int (nI (κ 0))) rfl dX4_block_46 ?_
        refine lv_iload_n hx hb dX4_block_49 rfl (lv_at hl 1 rfl) ?_
        refine gw_iast hx hb hK hP hS 2 0 (rDf (by decide)) 0 rfl rfl (κ 0) rfl (by omega) (by decide) dX4_block_50 ((rEn cI cZ κ (wr σ 0 (κ 0) y0) (wr sc 2 0 0) ad)) rUs_2 (fun t9 i9 z9 h9 => rU2 _ t9 i9 h9 z9) (fun H locs hP hS => ?_)
        refine lv_iconst (v := 0) hx hb dX4_block_51 (by decide) ?_
        refine lv_istore_n (lv' := [(2, .int 0), (0, .ref (ad 0 0)), (1, .int y0)]) hx hb dX4_block_52 rfl hl (by decide) rfl (fun ls hl => ?_)
        refine lv_iload_n hx hb dX4_block_53 rfl (lv_at hl 0 rfl) ?_
        refine lv_iconst (v := 3) hx hb dX4_block_54 (by decide) ?_
        refine lv_icmp_ge (tgt := 78) hx hb dX4_block_55 (by decide) (fun c_5 => ?_) (fun c_5 => ?_)
        · have c_5 : 3 ≤ 0 := (nI_leI (a := 3) (b := 0) (by omega) (by omega)).mp c_5
          exfalso; omega
        · have c_5 : ¬ (3 ≤ 0) := fun z => c_5 ((nI_leI (a := 3) (b := 0) (by omega) (by omega)).mpr z)
          refine lv_aload_n hx hb dX4_block_58 rfl (lv_at hl 1 rfl) ?_
          refine gw_get (C := RX4) (T := TX4) (N := 25) hx hb hL4 hown hK hP 0 0 (rDf (by decide)) rfl rfl 6 (by decide) (hts (.fieldLink RX4 22 "BlockProgramsModel" "wires" "[I") (by decide +kernel)) (fun _ h9 => h9) (v := .ref (ad 6 0)) rfl dX4_block_59 ?_
          refine lv_iconst (v := 3) hx hb dX4_block_62 (by decide) ?_
          refine lv_aload_n hx hb dX4_block_63 rfl (lv_at hl 1 rfl) ?_
          refine gw_get (C := RX4) (T := TX4) (N := 25) hx hb hL4 hown hK hP 0 0 (rDf (by decide)) rfl rfl 1 (by decide) (hts (.fieldLink RX4 69 "BlockProgramsModel" "blocks" "I") (by decide +kernel)) (fun _ h9 => h9) (v := .int (nI (κ 0))) rfl dX4_block_64 ?_
          refine lv_imul hx hb dX4_block_67 ?_
          refine lv_toq (nI (3 * (κ 0))) (pk_mul 3 (κ 0)) ?_
          refine lv_iload_n hx hb dX4_block_68 rfl (lv_at hl 0 rfl) ?_
          refine lv_iadd hx hb dX4_block_69 ?_
          refine lv_toq (nI (3 * (κ 0) + 0)) (nI_add (3 * (κ 0)) 0) ?_
          refine lv_iconst (v := -1) hx hb dX4_block_70 (by decide) ?_
          refine gw_iast hx hb hK hP hS 6 0 (rDf (by decide)) 0 rfl rfl (3 * (κ 0) + 0) rfl (by omega) (by decide) dX4_block_71 ((rEn cI cZ κ (wr (wr σ 0 (κ 0) y0) 9 (3 * (κ 0) + 0) ((-1))) (wr sc 2 0 0) ad)) rUs_6 (fun t9 i9 z9 h9 => rU6 _ t9 i9 h9 z9) (fun H locs hP hS => ?_)
          refine lv_iinc (v := nI 1) (lv' := [(2, .int (nI 1)), (0, .ref (ad 0 0)), (1, .int y0)]) hx hb dX4_block_72 hl (k := 0) rfl (nI_add 0 1) (by decide) rfl (fun ls hl => ?_)
          refine lv_goto (tgt := 53) hx hb dX4_block_75 (by decide) ?_
          refine lv_iload_n hx hb dX4_block_53 rfl (lv_at hl 0 rfl) ?_
          refine lv_iconst (v := 3) hx hb dX4_block_54 (by decide) ?_
          refine lv_icmp_ge (tgt := 78) hx hb dX4_block_55 (by decide) (fun c_6 => ?_) (fun c_6 => ?_)
          · have c_6 : 3 ≤ 1 := (nI_leI (a := 3) (b := 1) (by omega) (by omega)).mp c_6
            exfalso; omega
          · have c_6 : ¬ (3 ≤ 1) := fun z => c_6 ((nI_leI (a := 3) (b := 1) (by omega) (by omega)).mpr z)
            refine lv_aload_n hx hb dX4_block_58 rfl (lv_at hl 1 rfl) ?_
            refine gw_get (C := RX4) (T := TX4) (N := 25) hx hb hL4 hown hK hP 0 0 (rDf (by decide)) rfl rfl 6 (by decide) (hts (.fieldLink RX4 22 "BlockProgramsModel" "wires" "[I") (by decide +kernel)) (fun _ h9 => h9) (v := .ref (ad 6 0)) rfl dX4_block_59 ?_
            refine lv_iconst (v := 3) hx hb dX4_block_62 (by decide) ?_
            refine lv_aload_n hx hb dX4_block_63 rfl (lv_at hl 1 rfl) ?_
            refine gw_get (C := RX4) (T := TX4) (N := 25) hx hb hL4 hown hK hP 0 0 (rDf (by decide)) rfl rfl 1 (by decide) (hts (.fieldLink RX4 69 "BlockProgramsModel" "blocks" "I") (by decide +kernel)) (fun _ h9 => h9) (v := .int (nI (κ 0))) rfl dX4_block_64 ?_
            refine lv_imul hx hb dX4_block_67 ?_
            refine lv_toq (nI (3 * (κ 0))) (pk_mul 3 (κ 0)) ?_
            refine lv_iload_n hx hb dX4_block_68 rfl (lv_at hl 0 rfl) ?_
            refine lv_iadd hx hb dX4_block_69 ?_
            refine lv_toq (nI (3 * (κ 0) + 1)) (nI_add (3 * (κ 0)) 1) ?_
            refine lv_iconst (v := -1) hx hb dX4_block_70 (by decide) ?_
            refine gw_iast hx hb hK hP hS 6 0 (rDf (by decide)) 0 rfl rfl (3 * (κ 0) + 1) rfl (by omega) (by decide) dX4_block_71 ((rEn cI cZ κ (wr (wr (wr σ 0 (κ 0) y0) 9 (3 * (κ 0) + 0) ((-1))) 9 (3 * (κ 0) + 1) ((-1))) (wr sc 2 0 0) ad)) rUs_6 (fun t9 i9 z9 h9 => rU6 _ t9 i9 h9 z9) (fun H locs hP hS => ?_)
            refine lv_iinc (v := nI 2) (lv' := [(2, .int (nI 2)), (0, .ref (ad 0 0)), (1, .int y0)]) hx hb dX4_block_72 hl (k := 0) rfl (nI_add 1 1) (by decide) rfl (fun ls hl => ?_)
            refine lv_goto (tgt := 53) hx hb dX4_block_75 (by decide) ?_
            refine lv_iload_n hx hb dX4_block_53 rfl (lv_at hl 0 rfl) ?_
            refine lv_iconst (v := 3) hx hb dX4_block_54 (by decide) ?_
            refine lv_icmp_ge (tgt := 78) hx hb dX4_block_55 (by decide) (fun c_7 => ?_) (fun c_7 => ?_)
            · have c_7 : 3 ≤ 2 := (nI_leI (a := 3) (b := 2) (by omega) (by omega)).mp c_7
              exfalso; omega
            · have c_7 : ¬ (3 ≤ 2) := fun z => c_7 ((nI_leI (a := 3) (b := 2) (by omega) (by omega)).mpr z)
              refine lv_aload_n hx hb dX4_block_58 rfl (lv_at hl 1 rfl) ?_
              refine gw_get (C := RX4) (T := TX4) (N := 25) hx hb hL4 hown hK hP 0 0 (rDf (by decide)) rfl rfl 6 (by decide) (hts (.fieldLink RX4 22 "BlockProgramsModel" "wires" "[I") (by decide +kernel)) (fun _ h9 => h9) (v := .ref (ad 6 0)) rfl dX4_block_59 ?_
              refine lv_iconst (v := 3) hx hb dX4_block_62 (by decide) ?_
              refine lv_aload_n hx hb dX4_block_63 rfl (lv_at hl 1 rfl) ?_
              refine gw_get (C := RX4) (T := TX4) (N := 25) hx hb hL4 hown hK hP 0 0 (rDf (by decide)) rfl rfl 1 (by decide) (hts (.fieldLink RX4 69 "BlockProgramsModel" "blocks" "I") (by decide +kernel)) (fun _ h9 => h9) (v := .int (nI (κ 0))) rfl dX4_block_64 ?_
              refine lv_imul hx hb dX4_block_67 ?_
              refine lv_toq (nI (3 * (κ 0))) (pk_mul 3 (κ 0)) ?_
              refine lv_iload_n hx hb dX4_block_68 rfl (lv_at hl 0 rfl) ?_
              refine lv_iadd hx hb dX4_block_69 ?_
              refine lv_toq (nI (3 * (κ 0) + 2)) (nI_add (3 * (κ 0)) 2) ?_
              refine lv_iconst (v := -1) hx hb dX4_block_70 (by decide) ?_
              refine gw_iast hx hb hK hP hS 6 0 (rDf (by decide)) 0 rfl rfl (3 * (κ 0) + 2) rfl (by omega) (by decide) dX4_block_71 ((rEn cI cZ κ (wr (wr (wr (wr σ 0 (κ 0) y0) 9 (3 * (κ 0) + 0) ((-1))) 9 (3 * (κ 0) + 1) ((-1))) 9 (3 * (κ 0) + 2) ((-1))) (wr sc 2 0 0) ad)) rUs_6 (fun t9 i9 z9 h9 => rU6 _ t9 i9 h9 z9) (fun H locs hP hS => ?_)
              refine lv_iinc (v := nI 3) (lv' := [(2, .int (nI 3)), (0, .ref (ad 0 0)), (1, .int y0)]) hx hb dX4_block_72 hl (k := 0) rfl (nI_add 2 1) (by decide) rfl (fun ls hl => ?_)
              refine lv_goto (tgt := 53) hx hb dX4_block_75 (by decide) ?_
              refine lv_iload_n hx hb dX4_block_53 rfl (lv_at hl 0 rfl) ?_
              refine lv_iconst (v := 3) hx hb dX4_block_54 (by decide) ?_
              refine lv_icmp_ge (tgt := 78) hx hb dX4_block_55 (by decide) (fun c_8 => ?_) (fun c_8 => ?_)
              · have c_8 : 3 ≤ 3 := (nI_leI (a := 3) (b := 3) (by omega) (by omega)).mp c_8
                refine lv_aload_n hx hb dX4_block_78 rfl (lv_at hl 1 rfl) ?_
                refine lv_dup hx hb dX4_block_79 rfl ?_
                refine gw_get (C := RX4) (T := TX4) (N := 25) hx hb hL4 hown hK hP 0 0 (rDf (by decide)) rfl rfl 1 (by decide) (hts (.fieldLink RX4 69 "BlockProgramsModel" "blocks" "I") (by decide +kernel)) (fun _ h9 => h9) (v := .int (nI (κ 0))) rfl dX4_block_80 ?_
                refine lv_iconst (v := 1) hx hb dX4_block_83 (by decide) ?_
                refine lv_iadd hx hb dX4_block_84 ?_
                refine lv_toq (nI (κ 0 + 1)) (nI_add (κ 0) 1) ?_
                refine gw_put (ty := .int) (C := RX4) (T := TX4) (N := 25) hx hb hL4 tyX4 tyX4_ok nmX4 hown hK hP hS 0 0 (rDf (by decide)) rfl rfl 1 (by decide) (hts (.fieldLink RX4 69 "BlockProgramsModel" "blocks" "I") (by decide +kernel)) (fun _ h9 => h9) rfl (by decide +kernel) rfl rfl (Nat.le_of_ble_eq_true rfl) dX4_block_85 (rEn cI cZ (va_up κ 0 (κ 0 + 1)) (wr (wr (wr (wr σ 0 (κ 0) y0) 9 (3 * (κ 0) + 0) ((-1))) 9 (3 * (κ 0) + 1) ((-1))) 9 (3 * (κ 0) + 2) ((-1))) (wr sc 2 0 0) ad) (rU0k_1 _) (fun t9 i9 z9 h9 => rU0k (by decide) _ t9 i9 h9 z9) (fun H locs hP hS => ?_)
                refine lv_aload_n hx hb dX4_block_88 rfl (lv_at hl 1 rfl) ?_
                refine gw_get (C := RX4) (T := TX4) (N := 25) hx hb hL4 hown hK hP 0 0 (rDf (by decide)) rfl rfl 1 (by decide) (hts (.fieldLink RX4 69 "BlockProgramsModel" "blocks" "I") (by decide +kernel)) (fun _ h9 => h9) (v := .int (nI (κ 0 + 1))) (by simp [wr, va_up]) dX4_block_89 ?_
                refine lv_iconst (v := 1) hx hb dX4_block_92 (by decide) ?_
                refine lv_isub hx hb dX4_block_93 ?_
                refine lv_toq (nI (κ 0 + 1 - 1)) (pk_sub (a := κ 0 + 1) (b := 1) (by omega)) ?_
                have hcr : cBlock κ y0 = 0 := by unfold cBlock; rw [if_pos (lp_t c_2), if_neg (by omega)]
                exact W.iret (v := nI (κ 0 + 1 - 1)) hx hb hr (fun t ht hW => ⟨⟨(nI (κ 0 + 1 - 1)), wr sc 2 0 0, rfl, ⟨by rw [hcr]; exact wr_s, fun _ => by rw [Nat.add_sub_cancel]⟩, by rw [if_pos hcr, if_pos hcr]; rw [← ht] at hP; exact hP⟩, hS.F ht⟩) hS.2.2 dX4_block_94
              · have c_8 : ¬ (3 ≤ 3) := fun z => c_8 ((nI_leI (a := 3) (b := 3) (by omega) (by omega)).mpr z)
                exfalso; omega
      · have c_4 : ¬ (0 ≤ 0) := fun z => c_4 ((nI_leI (a := 0) (b := 0) (by omega) (by omega)).mpr z)
        exfalso; omega
    · have c_3 : κ 0 = 40 := (nI_eq (a := κ 0) (b := 40) (by omega) (by omega)).mp c_3
      refine lv_iconst (v := 2) hx hb dX4_block_24 (by decide) ?_
      refine lv_goto (tgt := 29) hx hb dX4_block_25 (by decide) ?_
      refine gw_put (ty := .int) (C := RX4) (T := TX4) (N := 25) hx hb hL4 tyX4 tyX4_ok nmX4 hown hK hP hS 0 0 (rDf (by decide)) rfl rfl 0 (by decide) (hts (.fieldLink RX4 65 "BlockProgramsModel" "code" "I") (by decide +kernel)) (fun _ h9 => h9) rfl (by decide +kernel) rfl rfl (Nat.le_of_ble_eq_true rfl) dX4_block_29 (rEn cI cZ κ σ (wr sc 2 0 2) ad) (rU0s_0 _) (fun t9 i9 z9 h9 => rU0 _ _ t9 i9 h9 z9) (fun H locs hP hS => ?_)
      refine lv_aload_n hx hb dX4_block_32 rfl (lv_at hl 0 rfl) ?_
      refine gw_get (C := RX4) (T := TX4) (N := 25) hx hb hL4 hown hK hP 0 0 (rDf (by decide)) rfl rfl 0 (by decide) (hts (.fieldLink RX4 65 "BlockProgramsModel" "code" "I") (by decide +kernel)) (fun _ h9 => h9) (v := .int 2) (by simp [wr, va_up]) dX4_block_33 ?_
      refine lv_if_le (tgt := 41) hx hb dX4_block_36 (by decide) (fun c_9 => ?_) (fun c_9 => ?_)
      · have c_9 : 2 ≤ 0 := (nI_leI (a := 2) (b := 0) (by omega) (by omega)).mp c_9
        exfalso; omega
      · have c_9 : ¬ (2 ≤ 0) := fun z => c_9 ((nI_leI (a := 2) (b := 0) (by omega) (by omega)).mpr z)
        refine lv_iconst (v := 0) hx hb dX4_block_39 (by decide) ?_
        have hcr : cBlock κ y0 = 2 := by unfold cBlock; rw [if_pos (lp_t c_2)]; exact if_pos (by omega)
        exact W.iret (v := 0) hx hb hr (fun t ht hW => ⟨⟨0, wr sc 2 0 2, rfl, ⟨by rw [hcr]; exact wr_s, fun z => absurd (hcr.symm.trans z) (by decide)⟩, by rw [if_neg (show ¬ cBlock κ y0 = 0 by rw [hcr]; decide), if_neg (show ¬ cBlock κ y0 = 0 by rw [hcr]; decide)]; rw [← ht] at hP; exact hP⟩, hS.F ht⟩) hS.2.2 dX4_block_40
  · refine lv_iconst (v := 1) hx hb dX4_block_11 (by decide) ?_
    refine lv_goto (tgt := 29) hx hb dX4_block_12 (by decide) ?_
    refine gw_put (ty := .int) (C := RX4) (T := TX4) (N := 25) hx hb hL4 tyX4 tyX4_ok nmX4 hown hK hP hS 0 0 (rDf (by decide)) rfl rfl 0 (by decide) (hts (.fieldLink RX4 65 "BlockProgramsModel" "code" "I") (by decide +kernel)) (fun _ h9 => h9) rfl (by decide +kernel) rfl rfl (Nat.le_of_ble_eq_true rfl) dX4_block_29 (rEn cI cZ κ σ (wr sc 2 0 1) ad) (rU0s_0 _) (fun t9 i9 z9 h9 => rU0 _ _ t9 i9 h9 z9) (fun H locs hP hS => ?_)
    refine lv_aload_n hx hb dX4_block_32 rfl (lv_at hl 0 rfl) ?_
    refine gw_get (C := RX4) (T := TX4) (N := 25) hx hb hL4 hown hK hP 0 0 (rDf (by decide)) rfl rfl 0 (by decide) (hts (.fieldLink RX4 65 "BlockProgramsModel" "code" "I") (by decide +kernel)) (fun _ h9 => h9) (v := .int 1) (by simp [wr, va_up]) dX4_block_33 ?_
    refine lv_if_le (tgt := 41) hx hb dX4_block_36 (by decide) (fun c_10 => ?_) (fun c_10 => ?_)
    · have c_10 : 1 ≤ 0 := (nI_leI (a := 1) (b := 0) (by omega) (by omega)).mp c_10
      exfalso; omega
    · have c_10 : ¬ (1 ≤ 0) := fun z => c_10 ((nI_leI (a := 1) (b := 0) (by omega) (by omega)).mpr z)
      refine lv_iconst (v := 0) hx hb dX4_block_39 (by decide) ?_
      have hcr : cBlock κ y0 = 1 := by unfold cBlock; exact if_neg (lp_f c_2)
      exact W.iret (v := 0) hx hb hr (fun t ht hW => ⟨⟨0, wr sc 2 0 1, rfl, ⟨by rw [hcr]; exact wr_s, fun z => absurd (hcr.symm.trans z) (by decide)⟩, by rw [if_neg (show ¬ cBlock κ y0 = 0 by rw [hcr]; decide), if_neg (show ¬ cBlock κ y0 = 0 by rw [hcr]; decide)]; rw [← ht] at hP; exact hP⟩, hS.F ht⟩) hS.2.2 dX4_block_40

theorem iL_X4_order_X4 : ∀ w ∈ u_ws RX4 TX4 25, w ∈ wsX4_order := by decide +kernel
set_option maxHeartbeats 4000000 in
set_option maxRecDepth 100000 in
theorem k_X4_order {l : Launch} {D : va_G} {cI cZ cB cS : ClassId} {A : Nat → Prop} (κ : Nat → Nat) (σ sc : Nat → Nat → Int32) (ad : Nat → Nat → Nat) (hn : κ 0 ≤ 40) (hk : kok (κ 0) σ) (hwv : ∀ b, b < κ 0 → ∀ i, i < 3 → okW κ σ b i) : Met l yX4_order wsX4_order ({ frames := 4, cells := 0, slots := 0, locals := 89 } : Room) (gPc D cI cZ cB cS A rDm (rEn cI cZ κ σ sc ad) ad [.ref (ad 0 0)]) (va_Qi (fun (r : Int32) (u : Nat → Nat → Int32) => u 2 0 = 0 ∧ r = nI (comeF (κ 0) σ)) (fun u t => gw_P D vwCl A rDm (rEn cI cZ κ σ u ad) ad t.heap) A) 0 0 A := by
  refine Met.ofW (cc := cX4_order) (maxL := 1) (ret := (some .int)) (by decide) rfl ?_
  intro p e s m args below meth c s₁ B hml hv
  obtain ⟨rfl, hP, hE, hA⟩ := hv
  have hx := B.exec
  have hb := B.bytes
  have hr := B.returns
  have hts := atoms_spec (ws := wsX4_order) B.pre
  have hown : s.vm.findClass RX4 = some m.cls := findClass_of_methodNamed B.named
  have hlocks := B.notSynchronized
  have hK := hE.1
  have hS : va_S A s.heap s.heap [] := va_S.rf
  have hL4 := fun w (hw : w ∈ u_ws RX4 TX4 25) => hts w (iL_X4_order_X4 w hw)
  have hl := lv_entry ([.ref (ad 0 0)]) (n := 1) (Nat.le_of_ble_eq_true rfl)
  rw [lg_entry_eq]
  generalize (lg_sl ([.ref (ad 0 0)]) ++ List.replicate (1 - (lg_sl ([.ref (ad 0 0)])).length) Slot.unset).toArray = ls at hl ⊢
  have hl : lv_has ls 1 [(0, .ref (ad 0 0))] := hl
  refine lv_aload_n hx hb dX4_order_0 rfl (lv_at hl 0 rfl) ?_
  refine lv_iconst (v := 0) hx hb dX4_order_1 (by decide) ?_
  refine gw_put (ty := .int) (C := RX4) (T := TX4) (N := 25) hx hb hL4 tyX4 tyX4_ok nmX4 hown hK hP hS 0 0 (rDf (by decide)) rfl rfl 0 (by decide) (hts (.fieldLink RX4 65 "BlockProgramsModel" "code" "I") (by decide +kernel)) (fun _ h9 => h9) rfl (by decide +kernel) rfl rfl (Nat.le_of_ble_eq_true rfl) dX4_order_2 (rEn cI cZ κ σ (wr sc 2 0 0) ad) (rU0s_0 _) (fun t9 i9 z9 h9 => rU0 _ _ t9 i9 h9 z9) (fun H locs hP hS => ?_)
  refine lv_aload_n hx hb dX4_order_5 rfl (lv_at hl 0 rfl) ?_
  refine va_callv (va_runV (As := []) (rest := []) ⟨hx, hb, hml, hown, hts⟩ (k_X4_lay (l := l) (D := D) (cI := cI) (cZ := cZ) (cB := cB) (cS := cS) (A := A) κ σ (wr sc 2 0 0) ad hn hk hwv) (cwV 0 hts gX4_order_X4_lay rfl rfl rfl (by decide +kernel) ⟨Nat.le_of_ble_eq_true rfl, Nat.le_of_ble_eq_true rfl⟩) (gPreV hE hA hS hP (gw_recv hK hP 0 0 (rDf (by decide)) rfl rfl)) rfl rfl hl.1 rfl (lv_room (Nat.le_of_ble_eq_true rfl)) dX4_order_6 ⟨Nat.le_of_ble_eq_true rfl, Nat.le_of_ble_eq_true rfl⟩) hS (fun q _ h9 => h9) (fun q h9 => h9) (fun v9 t9 H locs ht9 hvm9 hv9 hB9 hz9 hk9 hS => ?_)
  obtain ⟨h920, h921, hline⟩ := hv9
  have hP : gw_P D vwCl A rDm (rEn cI cZ κ σ v9 ad) ad H := by rw [← ht9]; exact hB9
  have hce := come_le (κ 0) σ
  refine lv_aload_n hx hb dX4_order_9 rfl (lv_at hl 0 rfl) ?_
  refine gw_get (C := RX4) (T := TX4) (N := 25) hx hb hL4 hown hK hP 0 0 (rDf (by decide)) rfl rfl 16 (by decide) (hts (.fieldLink RX4 84 "BlockProgramsModel" "come" "I") (by decide +kernel)) (fun _ h9 => h9) (v := .int (nI (comeF (κ 0) σ))) (congrArg (fun z : Int32 => some (Value.int z)) h921) dX4_order_10 ?_
  exact W.iret (v := nI (comeF (κ 0) σ)) hx hb hr (fun t ht hW => ⟨⟨(nI (comeF (κ 0) σ)), v9, rfl, ⟨h920.trans wr_s, rfl⟩, by rw [← ht] at hP; exact hP⟩, hS.F ht⟩) hS.2.2 dX4_order_13

theorem iL_X4_at_X4 : ∀ w ∈ u_ws RX4 TX4 25, w ∈ wsX4_at := by decide +kernel
set_option maxHeartbeats 4000000 in
set_option maxRecDepth 100000 in
theorem k_X4_at {l : Launch} {D : va_G} {cI cZ cB cS : ClassId} {A : Nat → Prop} (κ : Nat → Nat) (σ sc : Nat → Nat → Int32) (ad : Nat → Nat → Nat) (hn : κ 0 ≤ 40) (hk : kok (κ 0) σ) (hwv : ∀ b, b < κ 0 → ∀ i, i < 3 → okW κ σ b i) (y0 : Int32) : Met l yX4_at wsX4_at ({ frames := 4, cells := 0, slots := 0, locals := 89 } : Room) (gPc D cI cZ cB cS A rDm (rEn cI cZ κ σ sc ad) ad [.ref (ad 0 0), .int y0]) (va_Qi (fun (r : Int32) (u : Nat → Nat → Int32) => u 2 0 = nI (cOne (κ 0) y0) ∧ (cOne (κ 0) y0 = 0 → r = nI (lineF (κ 0) σ y0.toNatClampNeg))) (fun u t => gw_P D vwCl A rDm (rEn cI cZ κ σ u ad) ad t.heap) A) 0 0 A := by
  refine Met.ofW (cc := cX4_at) (maxL := 2) (ret := (some .int)) (by decide) rfl ?_
  intro p e s m args below meth c s₁ B hml hv
  obtain ⟨rfl, hP, hE, hA⟩ := hv
  have hx := B.exec
  have hb := B.bytes
  have hr := B.returns
  have hts := atoms_spec (ws := wsX4_at) B.pre
  have hown : s.vm.findClass RX4 = some m.cls := findClass_of_methodNamed B.named
  have hlocks := B.notSynchronized
  have hK := hE.1
  have hS : va_S A s.heap s.heap [] := va_S.rf
  have hL4 := fun w (hw : w ∈ u_ws RX4 TX4 25) => hts w (iL_X4_at_X4 w hw)
  have hl := lv_entry ([.ref (ad 0 0), .int y0]) (n := 2) (Nat.le_of_ble_eq_true rfl)
  rw [lg_entry_eq]
  generalize (lg_sl ([.ref (ad 0 0), .int y0]) ++ List.replicate (2 - (lg_sl ([.ref (ad 0 0), .int y0])).length) Slot.unset).toArray = ls at hl ⊢
  have hl : lv_has ls 2 [(0, .ref (ad 0 0)), (1, .int y0)] := hl
  refine lv_aload_n hx hb dX4_at_0 rfl (lv_at hl 0 rfl) ?_
  refine lv_aload_n hx hb dX4_at_1 rfl (lv_at hl 0 rfl) ?_
  refine lv_iload_n hx hb dX4_at_2 rfl (lv_at hl 1 rfl) ?_
  refine va_calli (va_runV (As := [.int y0]) (rest := [.ref (ad 0 0)]) ⟨hx, hb, hml, hown, hts⟩ (k_X4_isBlock (l := l) (D := D) (cI := cI) (cZ := cZ) (cB := cB) (cS := cS) (A := A) κ σ sc ad hn y0) (cwV 1 hts gX4_at_X4_isBlock rfl rfl rfl (by decide +kernel) ⟨Nat.le_of_ble_eq_true rfl, Nat.le_of_ble_eq_true rfl⟩) (gPreV hE hA hS hP (gw_recv hK hP 0 0 (rDf (by decide)) rfl rfl)) rfl rfl hl.1 rfl (lv_room (Nat.le_of_ble_eq_true rfl)) dX4_at_3 ⟨Nat.le_of_ble_eq_true rfl, Nat.le_of_ble_eq_true rfl⟩) hS (fun q _ h9 => h9) (fun q h9 => h9) (fun r_1 u9 t9 H locs ht9 hvm9 hw_r_1 hB9 hz9 hk9 hS => ?_)
  have hP : gw_P D vwCl A rDm (rEn cI cZ κ σ sc ad) ad H := by rw [← ht9]; exact hB9
  refine lv_toq ((if okI (κ 0) y0 then 1 else 0)) hw_r_1 ?_
  refine lv_if_eq (tgt := 13) hx hb dX4_at_6 (by decide) (fun c_2 => ?_) (fun c_2 => ?_)
  · refine lv_iconst (v := 1) hx hb dX4_at_13 (by decide) ?_
    refine gw_put (ty := .int) (C := RX4) (T := TX4) (N := 25) hx hb hL4 tyX4 tyX4_ok nmX4 hown hK hP hS 0 0 (rDf (by decide)) rfl rfl 0 (by decide) (hts (.fieldLink RX4 65 "BlockProgramsModel" "code" "I") (by decide +kernel)) (fun _ h9 => h9) rfl (by decide +kernel) rfl rfl (Nat.le_of_ble_eq_true rfl) dX4_at_14 (rEn cI cZ κ σ (wr sc 2 0 1) ad) (rU0s_0 _) (fun t9 i9 z9 h9 => rU0 _ _ t9 i9 h9 z9) (fun H locs hP hS => ?_)
    refine lv_aload_n hx hb dX4_at_17 rfl (lv_at hl 0 rfl) ?_
    refine gw_get (C := RX4) (T := TX4) (N := 25) hx hb hL4 hown hK hP 0 0 (rDf (by decide)) rfl rfl 0 (by decide) (hts (.fieldLink RX4 65 "BlockProgramsModel" "code" "I") (by decide +kernel)) (fun _ h9 => h9) (v := .int 1) (by simp [wr, va_up]) dX4_at_18 ?_
    refine lv_if_le (tgt := 26) hx hb dX4_at_21 (by decide) (fun c_3 => ?_) (fun c_3 => ?_)
    · have c_3 : 1 ≤ 0 := (nI_leI (a := 1) (b := 0) (by omega) (by omega)).mp c_3
      exfalso; omega
    · have c_3 : ¬ (1 ≤ 0) := fun z => c_3 ((nI_leI (a := 1) (b := 0) (by omega) (by omega)).mpr z)
      refine lv_iconst (v := 0) hx hb dX4_at_24 (by decide) ?_
      have hcr : cOne (κ 0) y0 = 1 := if_neg (lp_f c_2)
      exact W.iret (v := 0) hx hb hr (fun t ht hW => ⟨⟨0, wr sc 2 0 1, rfl, ⟨by rw [hcr]; exact wr_s, fun z => absurd (hcr.symm.trans z) (by decide)⟩, by rw [← ht] at hP; exact hP⟩, hS.F ht⟩) hS.2.2 dX4_at_25
  · refine lv_iconst (v := 0) hx hb dX4_at_9 (by decide) ?_
    refine lv_goto (tgt := 14) hx hb dX4_at_10 (by decide) ?_
    refine gw_put (ty := .int) (C := RX4) (T := TX4) (N := 25) hx hb hL4 tyX4 tyX4_ok nmX4 hown hK hP hS 0 0 (rDf (by decide)) rfl rfl 0 (by decide) (hts (.fieldLink RX4 65 "BlockProgramsModel" "code" "I") (by decide +kernel)) (fun _ h9 => h9) rfl (by decide +kernel) rfl rfl (Nat.le_of_ble_eq_true rfl) dX4_at_14 (rEn cI cZ κ σ (wr sc 2 0 0) ad) (rU0s_0 _) (fun t9 i9 z9 h9 => rU0 _ _ t9 i9 h9 z9) (fun H locs hP hS => ?_)
    refine lv_aload_n hx hb dX4_at_17 rfl (lv_at hl 0 rfl) ?_
    refine gw_get (C := RX4) (T := TX4) (N := 25) hx hb hL4 hown hK hP 0 0 (rDf (by decide)) rfl rfl 0 (by decide) (hts (.fieldLink RX4 65 "BlockProgramsModel" "code" "I") (by decide +kernel)) (fun _ h9 => h9) (v := .int 0) (by simp [wr, va_up]) dX4_at_18 ?_
    refine lv_if_le (tgt := 26) hx hb dX4_at_21 (by decide) (fun c_4 => ?_) (fun c_4 => ?_)
    · have c_4 : 0 ≤ 0 := (nI_leI (a := 0) (b := 0) (by omega) (by omega)).mp c_4
      have ok_j := lp_t c_2
      obtain ⟨j, hj, ej⟩ := ix_of (n := κ 0) (by omega) ok_j.1 ok_j.2
      have ecj : y0.toNatClampNeg = j := by rw [ej, nI_clamp (by omega)]
      rw [ej] at hl
      refine lv_aload_n hx hb dX4_at_26 rfl (lv_at hl 0 rfl) ?_
      refine va_callv (va_runV (As := []) (rest := []) ⟨hx, hb, hml, hown, hts⟩ (k_X4_lay (l := l) (D := D) (cI := cI) (cZ := cZ) (cB := cB) (cS := cS) (A := A) κ σ (wr sc 2 0 0) ad hn hk hwv) (cwV 0 hts gX4_at_X4_lay rfl rfl rfl (by decide +kernel) ⟨Nat.le_of_ble_eq_true rfl, Nat.le_of_ble_eq_true rfl⟩) (gPreV hE hA hS hP (gw_recv hK hP 0 0 (rDf (by decide)) rfl rfl)) rfl rfl hl.1 rfl (lv_room (Nat.le_of_ble_eq_true rfl)) dX4_at_27 ⟨Nat.le_of_ble_eq_true rfl, Nat.le_of_ble_eq_true rfl⟩) hS (fun q _ h9 => h9) (fun q h9 => h9) (fun v9 t9 H locs ht9 hvm9 hv9 hB9 hz9 hk9 hS => ?_)
      obtain ⟨h920, h921, hline⟩ := hv9
      have hP : gw_P D vwCl A rDm (rEn cI cZ κ σ v9 ad) ad H := by rw [← ht9]; exact hB9
      have hce := come_le (κ 0) σ
      refine lv_aload_n hx hb dX4_at_30 rfl (lv_at hl 0 rfl) ?_
      refine gw_get (C := RX4) (T := TX4) (N := 25) hx hb hL4 hown hK hP 0 0 (rDf (by decide)) rfl rfl 15 (by decide) (hts (.fieldLink RX4 47 "BlockProgramsModel" "order" "[I") (by decide +kernel)) (fun _ h9 => h9) (v := .ref (ad 15 0)) rfl dX4_at_31 ?_
      refine lv_iload_n hx hb dX4_at_34 rfl (lv_at hl 1 rfl) ?_
      refine gw_iald hx hb hK hP 15 0 (rDf (by decide)) 0 rfl rfl (j) rfl (by omega) (by decide) (v := nI (lineF (κ 0) σ j)) (hline j hj) dX4_at_35 ?_
      have hcr : cOne (κ 0) y0 = 0 := if_pos ok_j
      exact W.iret (v := nI (lineF (κ 0) σ j)) hx hb hr (fun t ht hW => ⟨⟨(nI (lineF (κ 0) σ j)), v9, rfl, ⟨by rw [hcr]; exact h920.trans wr_s, fun _ => by rw [ecj]⟩, by rw [← ht] at hP; exact hP⟩, hS.F ht⟩) hS.2.2 dX4_at_36
    · have c_4 : ¬ (0 ≤ 0) := fun z => c_4 ((nI_leI (a := 0) (b := 0) (by omega) (by omega)).mpr z)
      exfalso; omega

