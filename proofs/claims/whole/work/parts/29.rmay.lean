theorem iL_X4_mayCome_X4 : ∀ w ∈ u_ws RX4 TX4 25, w ∈ wsX4_mayCome := by decide +kernel
set_option maxHeartbeats 4000000 in
set_option maxRecDepth 100000 in
theorem k_X4_mayCome {l : Launch} {D : va_G} {cI cZ cB cS : ClassId} {A : Nat → Prop} (κ : Nat → Nat) (σ sc : Nat → Nat → Int32) (ad : Nat → Nat → Nat) (b k : Nat) (hb0 : b < κ 0) (hn : κ 0 ≤ 40) (hk0 : k < 26) (ek : σ 0 b = nI k) (hw : ∀ i, i < 3 → okW κ σ b i) (pl : Nat → Bool) (hpl : ∀ j, j < κ 0 → sc 1 j = bI (pl j)) : Met l yX4_mayCome wsX4_mayCome ({ frames := 2, cells := 0, slots := 0, locals := 42 } : Room) (gPc D cI cZ cB cS A rDm (rEn cI cZ κ σ sc ad) ad [.ref (ad 0 0), .int (nI b)]) (va_Qi (fun (r : Int32) (_ : Unit) => r = bI (cand (κ 0) σ pl b)) (fun _ t => gw_P D vwCl A rDm (rEn cI cZ κ σ sc ad) ad t.heap) A) 0 0 A := by
  refine Met.ofW (cc := cX4_mayCome) (maxL := 5) (ret := (some .boolean)) (by decide) rfl ?_
  intro p e s m args below meth c s₁ B hml hv
  obtain ⟨rfl, hP, hE, hA⟩ := hv
  have hx := B.exec
  have hb := B.bytes
  have hr := B.returns
  have hts := atoms_spec (ws := wsX4_mayCome) B.pre
  have hown : s.vm.findClass RX4 = some m.cls := findClass_of_methodNamed B.named
  have hlocks := B.notSynchronized
  have hK := hE.1
  have hS : va_S A s.heap s.heap [] := va_S.rf
  have hL4 := fun w (hw : w ∈ u_ws RX4 TX4 25) => hts w (iL_X4_mayCome_X4 w hw)
  have hl := lv_entry ([.ref (ad 0 0), .int (nI b)]) (n := 5) (Nat.le_of_ble_eq_true rfl)
  rw [lg_entry_eq]
  generalize (lg_sl ([.ref (ad 0 0), .int (nI b)]) ++ List.replicate (5 - (lg_sl ([.ref (ad 0 0), .int (nI b)])).length) Slot.unset).toArray = ls at hl ⊢
  have hl : lv_has ls 5 [(0, .ref (ad 0 0)), (1, .int (nI b))] := hl
  have hn3 := nmd_le k
  refine lv_aload_n hx hb dX4_mayCome_0 rfl (lv_at hl 0 rfl) ?_
  refine gw_get (C := RX4) (T := TX4) (N := 25) hx hb hL4 hown hK hP 0 0 (rDf (by decide)) rfl rfl 17 (by decide) (hts (.fieldLink RX4 50 "BlockProgramsModel" "isIn" "[Z") (by decide +kernel)) (fun _ h9 => h9) (v := .ref (ad 17 0)) rfl dX4_mayCome_1 ?_
  refine lv_iload_n hx hb dX4_mayCome_4 rfl (lv_at hl 1 rfl) ?_
  refine gw_zald hx hb hK hP 17 0 (rDf (by decide)) 1 rfl rfl (b) rfl (by omega) (by decide) (v := (bI (pl b))) (hpl b hb0) dX4_mayCome_5 ?_
  refine lv_if_eq (tgt := 11) hx hb dX4_mayCome_6 (by decide) (fun c_1 => ?_) (fun c_1 => ?_)
  · refine lv_iconst (v := 1) hx hb dX4_mayCome_11 (by decide) ?_
    refine lv_istore_n (lv' := [(2, .int 1), (0, .ref (ad 0 0)), (1, .int (nI b))]) hx hb dX4_mayCome_12 rfl hl (by decide) rfl (fun ls hl => ?_)
    refine lv_iconst (v := 0) hx hb dX4_mayCome_13 (by decide) ?_
    refine lv_istore_n (lv' := [(3, .int 0), (2, .int 1), (0, .ref (ad 0 0)), (1, .int (nI b))]) hx hb dX4_mayCome_14 rfl hl (by decide) rfl (fun ls hl => ?_)
    refine lv_loop (fun kk H locs ls => ∃ i : Nat, ∃ x9 : Int32, kk = (nmd k) - i ∧ i ≤ nmd k ∧ (mqS (κ 0) σ pl b i x9) ∧ (k = 16 → i = 0) ∧ gw_P D vwCl A rDm (rEn cI cZ κ σ sc ad) ad H ∧ va_S A s.heap H locs ∧ lv_has ls 5 [(0, .ref (ad 0 0)), (1, .int (nI b)), (2, .int x9), (3, .int (nI i))]) (fun kk H locs ls hI ih => ?_) ((nmd k) - 0) ⟨0, 1, rfl, by omega, mq_0, fun _ => rfl, hP, hS, lv_sub hl [2, 3, 1, 0] rfl⟩
    obtain ⟨i, x9, hk_15, hi_15, hx9, hk16, hP, hS, hl⟩ := hI
    refine lv_iload_n hx hb dX4_mayCome_15 rfl (lv_at hl 3 rfl) ?_
    refine lv_aload_n hx hb dX4_mayCome_16 rfl (lv_at hl 0 rfl) ?_
    refine gw_get (C := RX4) (T := TX4) (N := 25) hx hb hL4 hown hK hP 0 0 (rDf (by decide)) rfl rfl 2 (by decide) (hts (.fieldLink RX4 7 "BlockProgramsModel" "kinds" "[I") (by decide +kernel)) (fun _ h9 => h9) (v := .ref (ad 2 0)) rfl dX4_mayCome_17 ?_
    refine lv_iload_n hx hb dX4_mayCome_20 rfl (lv_at hl 1 rfl) ?_
    refine gw_iald hx hb hK hP 2 0 (rDf (by decide)) 0 rfl rfl (b) rfl (by omega) (by decide) (v := nI k) ek dX4_mayCome_21 ?_
    refine va_calli (va_runS (As := [.int (nI k)]) (rest := [.int (nI i)]) ⟨hx, hb, hml, hown, hts⟩ (k_X4_inputsOf (l := l) (D := D) (cI := cI) (cZ := cZ) (cB := cB) (cS := cS) (A := A) rDm (rEn cI cZ κ σ sc ad) ad k hk0) (va_cwS 1 hts gX4_mayCome_X4_inputsOf rfl rfl rfl (by decide +kernel) ⟨Nat.le_of_ble_eq_true rfl, Nat.le_of_ble_eq_true rfl⟩) (gPreS hE hA hS hP) rfl rfl hl.1 rfl (lv_room (Nat.le_of_ble_eq_true rfl)) dX4_mayCome_22 ⟨Nat.le_of_ble_eq_true rfl, Nat.le_of_ble_eq_true rfl⟩) hS (fun q _ h9 => h9) (fun q h9 => h9) (fun r_2 u9 t9 H locs ht9 hvm9 hw_r_2 hB9 hz9 hk9 hS => ?_)
    have hP : gw_P D vwCl A rDm (rEn cI cZ κ σ sc ad) ad H := by rw [← ht9]; exact hB9
    refine lv_toq (nI (nmd k)) hw_r_2 ?_
    refine lv_icmp_ge (tgt := 83) hx hb dX4_mayCome_25 (by decide) (fun c_3 => ?_) (fun c_3 => ?_)
    · have c_3 : nmd k ≤ i := (nI_leI (a := nmd k) (b := i) (by omega) (by omega)).mp c_3
      refine lv_iload_n hx hb dX4_mayCome_83 rfl (lv_at hl 2 rfl) ?_
      have e9 : cand (κ 0) σ pl b = mayC (κ 0) σ pl b := cand_m (bI_0 c_1)
      have e8 : x9 = bI (mayC (κ 0) σ pl b) := by
        by_cases h16 : k = 16
        · have ei := hk16 h16
          subst ei
          exact mq_16 ((kd_of ek hk0).trans h16) hx9
        · exact mq_end (kd_of ek hk0) h16 hx9 (by omega)
      exact W.zret (v := x9) (ty := .boolean) hx hb hr (by rw [e8]; exact zb_if) (fun t ht hW => ⟨⟨x9, (), rfl, (by rw [e9]; exact e8), by rw [← ht] at hP; exact hP⟩, hS.F ht⟩) hS.2.2 dX4_mayCome_84
    · have c_3 : ¬ (nmd k ≤ i) := fun z => c_3 ((nI_leI (a := nmd k) (b := i) (by omega) (by omega)).mpr z)
      refine lv_aload_n hx hb dX4_mayCome_28 rfl (lv_at hl 0 rfl) ?_
      refine gw_get (C := RX4) (T := TX4) (N := 25) hx hb hL4 hown hK hP 0 0 (rDf (by decide)) rfl rfl 2 (by decide) (hts (.fieldLink RX4 7 "BlockProgramsModel" "kinds" "[I") (by decide +kernel)) (fun _ h9 => h9) (v := .ref (ad 2 0)) rfl dX4_mayCome_29 ?_
      refine lv_iload_n hx hb dX4_mayCome_32 rfl (lv_at hl 1 rfl) ?_
      refine gw_iald hx hb hK hP 2 0 (rDf (by decide)) 0 rfl rfl (b) rfl (by omega) (by decide) (v := nI k) ek dX4_mayCome_33 ?_
      refine lv_bipush (v := 16) hx hb dX4_mayCome_34 (by decide) ?_
      refine lv_icmp_eq (tgt := 83) hx hb dX4_mayCome_36 (by decide) (fun c_4 => ?_) (fun c_4 => ?_)
      · have c_4 : k = 16 := (nI_eq (a := k) (b := 16) (by omega) (by omega)).mp c_4
        refine lv_iload_n hx hb dX4_mayCome_83 rfl (lv_at hl 2 rfl) ?_
        have e9 : cand (κ 0) σ pl b = mayC (κ 0) σ pl b := cand_m (bI_0 c_1)
        have e8 : x9 = bI (mayC (κ 0) σ pl b) := by
          have ei := hk16 c_4
          subst ei
          exact mq_16 ((kd_of ek hk0).trans c_4) hx9
        exact W.zret (v := x9) (ty := .boolean) hx hb hr (by rw [e8]; exact zb_if) (fun t ht hW => ⟨⟨x9, (), rfl, (by rw [e9]; exact e8), by rw [← ht] at hP; exact hP⟩, hS.F ht⟩) hS.2.2 dX4_mayCome_84
      · have c_4 : ¬ (k = 16) := fun z => c_4 ((nI_eq (a := k) (b := 16) (by omega) (by omega)).mpr z)
        refine lv_aload_n hx hb dX4_mayCome_39 rfl (lv_at hl 0 rfl) ?_
        refine gw_get (C := RX4) (T := TX4) (N := 25) hx hb hL4 hown hK hP 0 0 (rDf (by decide)) rfl rfl 6 (by decide) (hts (.fieldLink RX4 22 "BlockProgramsModel" "wires" "[I") (by decide +kernel)) (fun _ h9 => h9) (v := .ref (ad 6 0)) rfl dX4_mayCome_40 ?_
        refine lv_iconst (v := 3) hx hb dX4_mayCome_43 (by decide) ?_
        refine lv_iload_n hx hb dX4_mayCome_44 rfl (lv_at hl 1 rfl) ?_
        refine lv_imul hx hb dX4_mayCome_45 ?_
        refine lv_toq (nI (3 * b)) (pk_mul 3 b) ?_
        refine lv_iload_n hx hb dX4_mayCome_46 rfl (lv_at hl 3 rfl) ?_
        refine lv_iadd hx hb dX4_mayCome_47 ?_
        refine lv_toq (nI (3 * b + i)) (nI_add (3 * b) i) ?_
        refine gw_iald hx hb hK hP 6 0 (rDf (by decide)) 0 rfl rfl (3 * b + i) rfl (by omega) (by decide) (v := (σ 9 (3 * b + i))) rfl dX4_mayCome_48 ?_
        refine lv_istore (lv' := [(4, .int ((σ 9 (3 * b + i)))), (0, .ref (ad 0 0)), (1, .int (nI b)), (2, .int x9), (3, .int (nI i))]) hx hb dX4_mayCome_49 hl (by decide) rfl (fun ls hl => ?_)
        refine lv_iload_n hx hb dX4_mayCome_51 rfl (lv_at hl 3 rfl) ?_
        refine lv_if_eq (tgt := 75) hx hb dX4_mayCome_52 (by decide) (fun c_5 => ?_) (fun c_5 => ?_)
        · refine lv_iconst (v := 0) hx hb dX4_mayCome_75 (by decide) ?_
          refine lv_istore_n (lv' := [(2, .int 0), (4, .int ((σ 9 (3 * b + i)))), (0, .ref (ad 0 0)), (1, .int (nI b)), (3, .int (nI i))]) hx hb dX4_mayCome_76 rfl hl (by decide) rfl (fun ls hl => ?_)
          refine lv_iinc (v := nI (i + 1)) (lv' := [(3, .int (nI (i + 1))), (2, .int 0), (4, .int ((σ 9 (3 * b + i)))), (0, .ref (ad 0 0)), (1, .int (nI b))]) hx hb dX4_mayCome_77 hl (k := 4) rfl (nI_add i 1) (by decide) rfl (fun ls hl => ?_)
          refine lv_goto (tgt := 15) hx hb dX4_mayCome_80 (by decide) ?_
          exact ih _ _ _ _ (by omega) ⟨i + 1, 0, rfl, by omega, (mq_z hx9 c_5), (fun z => absurd z c_4), hP, hS, lv_sub hl [3, 4, 1, 0] rfl⟩
        · refine lv_iload hx hb dX4_mayCome_55 (lv_at hl 0 rfl) ?_
          refine lv_iconst (v := -1) hx hb dX4_mayCome_57 (by decide) ?_
          refine lv_icmp_eq (tgt := 71) hx hb dX4_mayCome_58 (by decide) (fun c_6 => ?_) (fun c_6 => ?_)
          · refine lv_iconst (v := 1) hx hb dX4_mayCome_71 (by decide) ?_
            refine lv_goto (tgt := 76) hx hb dX4_mayCome_72 (by decide) ?_
            refine lv_istore_n (lv' := [(2, .int 1), (4, .int ((σ 9 (3 * b + i)))), (0, .ref (ad 0 0)), (1, .int (nI b)), (3, .int (nI i))]) hx hb dX4_mayCome_76 rfl hl (by decide) rfl (fun ls hl => ?_)
            refine lv_iinc (v := nI (i + 1)) (lv' := [(3, .int (nI (i + 1))), (2, .int 1), (4, .int ((σ 9 (3 * b + i)))), (0, .ref (ad 0 0)), (1, .int (nI b))]) hx hb dX4_mayCome_77 hl (k := 4) rfl (nI_add i 1) (by decide) rfl (fun ls hl => ?_)
            refine lv_goto (tgt := 15) hx hb dX4_mayCome_80 (by decide) ?_
            exact ih _ _ _ _ (by omega) ⟨i + 1, 1, rfl, by omega, (mq_y hx9 c_5 (okJ_none c_6)), (fun z => absurd z c_4), hP, hS, lv_sub hl [3, 4, 1, 0] rfl⟩
          · refine lv_aload_n hx hb dX4_mayCome_61 rfl (lv_at hl 1 rfl) ?_
            refine gw_get (C := RX4) (T := TX4) (N := 25) hx hb hL4 hown hK hP 0 0 (rDf (by decide)) rfl rfl 17 (by decide) (hts (.fieldLink RX4 50 "BlockProgramsModel" "isIn" "[Z") (by decide +kernel)) (fun _ h9 => h9) (v := .ref (ad 17 0)) rfl dX4_mayCome_62 ?_
            refine lv_iload hx hb dX4_mayCome_65 (lv_at hl 0 rfl) ?_
            obtain ⟨j, hj, ej⟩ := ix_of (n := κ 0) (by omega) ((hw i (by omega)).resolve_left c_6).1 ((hw i (by omega)).resolve_left c_6).2
            refine lv_toq (nI j) ej ?_
            refine gw_zald hx hb hK hP 17 0 (rDf (by decide)) 1 rfl rfl (j) rfl (by omega) (by decide) (v := (bI (pl j))) (hpl j hj) dX4_mayCome_67 ?_
            refine lv_if_eq (tgt := 75) hx hb dX4_mayCome_68 (by decide) (fun c_7 => ?_) (fun c_7 => ?_)
            · refine lv_iconst (v := 0) hx hb dX4_mayCome_75 (by decide) ?_
              refine lv_istore_n (lv' := [(2, .int 0), (4, .int ((σ 9 (3 * b + i)))), (0, .ref (ad 0 0)), (1, .int (nI b)), (3, .int (nI i))]) hx hb dX4_mayCome_76 rfl hl (by decide) rfl (fun ls hl => ?_)
              refine lv_iinc (v := nI (i + 1)) (lv' := [(3, .int (nI (i + 1))), (2, .int 0), (4, .int ((σ 9 (3 * b + i)))), (0, .ref (ad 0 0)), (1, .int (nI b))]) hx hb dX4_mayCome_77 hl (k := 4) rfl (nI_add i 1) (by decide) rfl (fun ls hl => ?_)
              refine lv_goto (tgt := 15) hx hb dX4_mayCome_80 (by decide) ?_
              exact ih _ _ _ _ (by omega) ⟨i + 1, 0, rfl, by omega, (mq_n (fun z => absurd (z ⟨(hw i (by omega)).resolve_left c_6 |>.1, ((hw i (by omega)).resolve_left c_6).2⟩) (by rw [ej, nI_clamp (by omega), bI_0 c_7]; decide))), (fun z => absurd z c_4), hP, hS, lv_sub hl [3, 4, 1, 0] rfl⟩
            · refine lv_iconst (v := 1) hx hb dX4_mayCome_71 (by decide) ?_
              refine lv_goto (tgt := 76) hx hb dX4_mayCome_72 (by decide) ?_
              refine lv_istore_n (lv' := [(2, .int 1), (4, .int ((σ 9 (3 * b + i)))), (0, .ref (ad 0 0)), (1, .int (nI b)), (3, .int (nI i))]) hx hb dX4_mayCome_76 rfl hl (by decide) rfl (fun ls hl => ?_)
              refine lv_iinc (v := nI (i + 1)) (lv' := [(3, .int (nI (i + 1))), (2, .int 1), (4, .int ((σ 9 (3 * b + i)))), (0, .ref (ad 0 0)), (1, .int (nI b))]) hx hb dX4_mayCome_77 hl (k := 4) rfl (nI_add i 1) (by decide) rfl (fun ls hl => ?_)
              refine lv_goto (tgt := 15) hx hb dX4_mayCome_80 (by decide) ?_
              exact ih _ _ _ _ (by omega) ⟨i + 1, 1, rfl, by omega, (mq_y hx9 c_5 (fun _ => by rw [ej, nI_clamp (by omega)]; exact bI_1 c_7)), (fun z => absurd z c_4), hP, hS, lv_sub hl [3, 4, 1, 0] rfl⟩
  · refine lv_iconst (v := 0) hx hb dX4_mayCome_9 (by decide) ?_
    exact W.zret (v := 0) (ty := .boolean) hx hb hr rfl (fun t ht hW => ⟨⟨0, (), rfl, (by rw [cand_p (bI_1 c_1)]; rfl), by rw [← ht] at hP; exact hP⟩, hS.F ht⟩) hS.2.2 dX4_mayCome_10

