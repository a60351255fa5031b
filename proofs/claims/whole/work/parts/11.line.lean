theorem iL_X3_mayCome_X0 : ∀ w ∈ u_ws RX0 TX0 11, w ∈ wsX3_mayCome := by decide +kernel
theorem iL_X3_mayCome_X3 : ∀ w ∈ u_ws RX3 TX3 9, w ∈ wsX3_mayCome := by decide +kernel
set_option maxHeartbeats 4000000 in
set_option maxRecDepth 100000 in
theorem k_X3_mayCome {l : Launch} {D : va_G} {cI cZ cB cS : ClassId} {A : Nat → Prop} (κ : Nat → Nat) (σ sc : Nat → Nat → Int32) (ad : Nat → Nat → Nat) (b k : Nat) (hb0 : b < κ 0) (hn : κ 0 ≤ 40) (hk0 : k < 26) (ek : σ 0 b = nI k) (pl : Nat → Bool) (hpl : ∀ j, j < κ 0 → sc 1 j = bI (pl j)) : Met l yX3_mayCome wsX3_mayCome ({ frames := 1, cells := 0, slots := 0, locals := 20 } : Room) (gPc D cI cZ cB cS A (cDm κ) (cEn cI cZ cB cS κ σ sc ad) ad [.ref (ad 0 0), .ref (ad 11 b)]) (va_Qi (fun (r : Int32) (_ : Unit) => r = bI (mayC (κ 0) σ pl b)) (fun _ t => gw_P D vwCl A (cDm κ) (cEn cI cZ cB cS κ σ sc ad) ad t.heap) A) 0 0 A := by
  refine Met.ofW (cc := cX3_mayCome) (maxL := 4) (ret := (some .boolean)) (by decide) rfl ?_
  intro p e s m args below meth c s₁ B hml hv
  obtain ⟨rfl, hP, hE, hA⟩ := hv
  have hx := B.exec
  have hb := B.bytes
  have hr := B.returns
  have hts := atoms_spec (ws := wsX3_mayCome) B.pre
  have hown : s.vm.findClass RX3 = some m.cls := findClass_of_methodNamed B.named
  have hlocks := B.notSynchronized
  have hK := hE.1
  have hS : va_S A s.heap s.heap [] := va_S.rf
  have hL0 := fun w (hw : w ∈ u_ws RX0 TX0 11) => hts w (iL_X3_mayCome_X0 w hw)
  have hL3 := fun w (hw : w ∈ u_ws RX3 TX3 9) => hts w (iL_X3_mayCome_X3 w hw)
  have hl := lv_entry ([.ref (ad 0 0), .ref (ad 11 b)]) (n := 4) (Nat.le_of_ble_eq_true rfl)
  rw [lg_entry_eq]
  generalize (lg_sl ([.ref (ad 0 0), .ref (ad 11 b)]) ++ List.replicate (4 - (lg_sl ([.ref (ad 0 0), .ref (ad 11 b)])).length) Slot.unset).toArray = ls at hl ⊢
  have hl : lv_has ls 4 [(0, .ref (ad 0 0)), (1, .ref (ad 11 b))] := hl
  have hn3 := nmd_le k
  refine lv_aload_n hx hb dX3_mayCome_0 rfl (lv_at hl 1 rfl) ?_
  refine gw_get (C := RX0) (T := TX0) (N := 11) hx hb hL0 hown hK hP 11 b (cDb (by omega) (by decide) (by decide)) rfl rfl 0 (by decide) (hts (.fieldLink RX3 86 "BlockPrograms$Block" "kind" "I") (by decide +kernel)) (fun _ h9 => h9) (v := .int (nI k)) (congrArg (fun z : Int32 => some (Value.int z)) ek) dX3_mayCome_1 ?_
  refine lv_bipush (v := 16) hx hb dX3_mayCome_4 (by decide) ?_
  refine lv_icmp_ne (tgt := 11) hx hb dX3_mayCome_6 (by decide) (fun c_1 => ?_) (fun c_1 => ?_)
  · have c_1 : ¬ (k = 16) := fun z => c_1 ((nI_eq (a := k) (b := 16) (by omega) (by omega)).mpr z)
    refine lv_iconst (v := 0) hx hb dX3_mayCome_11 (by decide) ?_
    refine lv_istore_n (lv' := [(2, .int 0), (0, .ref (ad 0 0)), (1, .ref (ad 11 b))]) hx hb dX3_mayCome_12 rfl hl (by decide) rfl (fun ls hl => ?_)
    refine lv_loop (fun kk H locs ls => ∃ i : Nat, kk = (nmd k) - i ∧ i ≤ nmd k ∧ (∀ j : Nat, j < i → okI (κ 0) (σ 9 (3 * b + j)) → pl (σ 9 (3 * b + j)).toNatClampNeg = true) ∧ gw_P D vwCl A (cDm κ) (cEn cI cZ cB cS κ σ sc ad) ad H ∧ va_S A s.heap H locs ∧ lv_has ls 4 [(0, .ref (ad 0 0)), (1, .ref (ad 11 b)), (2, .int (nI i))]) (fun kk H locs ls hI ih => ?_) ((nmd k) - 0) ⟨0, rfl, by omega, fun j hj => absurd hj (Nat.not_lt_zero j), hP, hS, lv_sub hl [1, 2, 0] rfl⟩
    obtain ⟨i, hk_13, hi_13, hq, hP, hS, hl⟩ := hI
    refine lv_iload_n hx hb dX3_mayCome_13 rfl (lv_at hl 2 rfl) ?_
    refine lv_aload_n hx hb dX3_mayCome_14 rfl (lv_at hl 1 rfl) ?_
    refine va_calli (va_runV (As := []) (rest := [.int (nI i)]) ⟨hx, hb, hml, hown, hts⟩ (k_X0_namedInputs (l := l) (D := D) (cI := cI) (cZ := cZ) (cB := cB) (cS := cS) (A := A) κ σ sc ad b k hb0 hk0 ek) (cwV 0 hts gX3_mayCome_X0_namedInputs rfl rfl rfl (by decide +kernel) ⟨Nat.le_of_ble_eq_true rfl, Nat.le_of_ble_eq_true rfl⟩) (gPreV hE hA hS hP (gw_recv hK hP 11 b (cDb (by omega) (by decide) (by decide)) rfl rfl)) rfl rfl hl.1 rfl (lv_room (Nat.le_of_ble_eq_true rfl)) dX3_mayCome_15 ⟨Nat.le_of_ble_eq_true rfl, Nat.le_of_ble_eq_true rfl⟩) hS (fun q _ h9 => h9) (fun q h9 => h9) (fun r_2 u9 t9 H locs ht9 hvm9 hw_r_2 hB9 hz9 hk9 hS => ?_)
    have hP : gw_P D vwCl A (cDm κ) (cEn cI cZ cB cS κ σ sc ad) ad H := by rw [← ht9]; exact hB9
    refine lv_toq (nI (nmd k)) hw_r_2 ?_
    refine lv_icmp_ge (tgt := 57) hx hb dX3_mayCome_18 (by decide) (fun c_3 => ?_) (fun c_3 => ?_)
    · have c_3 : nmd k ≤ i := (nI_leI (a := nmd k) (b := i) (by omega) (by omega)).mp c_3
      refine lv_iconst (v := 1) hx hb dX3_mayCome_57 (by decide) ?_
      exact W.zret (v := 1) (ty := .boolean) hx hb hr rfl (fun t ht hW => ⟨⟨1, (), rfl, (by rw [mayC_t (kd_of ek hk0) (fun j hj ho => hq j (by omega) ho)]; rfl), by rw [← ht] at hP; exact hP⟩, hS.F ht⟩) hS.2.2 dX3_mayCome_58
    · have c_3 : ¬ (nmd k ≤ i) := fun z => c_3 ((nI_leI (a := nmd k) (b := i) (by omega) (by omega)).mpr z)
      refine lv_aload_n hx hb dX3_mayCome_21 rfl (lv_at hl 1 rfl) ?_
      refine gw_get (C := RX0) (T := TX0) (N := 11) hx hb hL0 hown hK hP 11 b (cDb (by omega) (by decide) (by decide)) rfl rfl 9 (by decide) (hts (.fieldLink RX3 71 "BlockPrograms$Block" "wires" "[I") (by decide +kernel)) (fun _ h9 => h9) (v := .ref (ad 12 b)) rfl dX3_mayCome_22 ?_
      refine lv_iload_n hx hb dX3_mayCome_25 rfl (lv_at hl 2 rfl) ?_
      refine gw_iald hx hb hK hP 12 b (cDb (by omega) (by decide) (by decide)) 0 rfl rfl (i) rfl (by omega) (by decide) (v := (σ 9 (3 * b + i))) (if_pos (by omega)) dX3_mayCome_26 ?_
      refine lv_istore_n (lv' := [(3, .int ((σ 9 (3 * b + i)))), (0, .ref (ad 0 0)), (1, .ref (ad 11 b)), (2, .int (nI i))]) hx hb dX3_mayCome_27 rfl hl (by decide) rfl (fun ls hl => ?_)
      refine lv_iload_n hx hb dX3_mayCome_28 rfl (lv_at hl 0 rfl) ?_
      refine lv_if_lt (tgt := 51) hx hb dX3_mayCome_29 (by decide) (fun c_4 => ?_) (fun c_4 => ?_)
      · refine lv_iinc (v := nI (i + 1)) (lv' := [(2, .int (nI (i + 1))), (3, .int ((σ 9 (3 * b + i)))), (0, .ref (ad 0 0)), (1, .ref (ad 11 b))]) hx hb dX3_mayCome_51 hl (k := 3) rfl (nI_add i 1) (by decide) rfl (fun ls hl => ?_)
        refine lv_goto (tgt := 13) hx hb dX3_mayCome_54 (by decide) ?_
        exact ih _ _ _ _ (by omega) ⟨i + 1, rfl, by omega, (lt_s hq (fun ho => absurd c_4 ho.1)), hP, hS, lv_sub hl [2, 3, 0] rfl⟩
      · refine lv_iload_n hx hb dX3_mayCome_32 rfl (lv_at hl 0 rfl) ?_
        refine lv_aload_n hx hb dX3_mayCome_33 rfl (lv_at hl 1 rfl) ?_
        refine gw_get (C := RX3) (T := TX3) (N := 9) hx hb hL3 hown hK hP 0 0 (cDf (by decide)) rfl rfl 1 (by decide) (hts (.fieldLink RX3 15 "BlockPrograms" "count" "I") (by decide +kernel)) (fun _ h9 => h9) (v := .int (nI (κ 0))) rfl dX3_mayCome_34 ?_
        refine lv_icmp_ge (tgt := 51) hx hb dX3_mayCome_37 (by decide) (fun c_5 => ?_) (fun c_5 => ?_)
        · refine lv_iinc (v := nI (i + 1)) (lv' := [(2, .int (nI (i + 1))), (3, .int ((σ 9 (3 * b + i)))), (0, .ref (ad 0 0)), (1, .ref (ad 11 b))]) hx hb dX3_mayCome_51 hl (k := 3) rfl (nI_add i 1) (by decide) rfl (fun ls hl => ?_)
          refine lv_goto (tgt := 13) hx hb dX3_mayCome_54 (by decide) ?_
          exact ih _ _ _ _ (by omega) ⟨i + 1, rfl, by omega, (lt_s hq (fun ho => absurd c_5 ho.2)), hP, hS, lv_sub hl [2, 3, 0] rfl⟩
        · refine lv_aload_n hx hb dX3_mayCome_40 rfl (lv_at hl 1 rfl) ?_
          refine gw_get (C := RX3) (T := TX3) (N := 9) hx hb hL3 hown hK hP 0 0 (cDf (by decide)) rfl rfl 5 (by decide) (hts (.fieldLink RX3 29 "BlockPrograms" "placed" "[Z") (by decide +kernel)) (fun _ h9 => h9) (v := .ref (ad 4 0)) rfl dX3_mayCome_41 ?_
          refine lv_iload_n hx hb dX3_mayCome_44 rfl (lv_at hl 0 rfl) ?_
          obtain ⟨j, hj, ej⟩ := ix_of (n := κ 0) (by omega) c_4 c_5
          refine lv_toq (nI j) ej ?_
          refine gw_zald hx hb hK hP 4 0 (cDf (by decide)) 1 rfl rfl (j) rfl (by omega) (by decide) (v := (bI (pl j))) (hpl j hj) dX3_mayCome_45 ?_
          refine lv_if_ne (tgt := 51) hx hb dX3_mayCome_46 (by decide) (fun c_6 => ?_) (fun c_6 => ?_)
          · refine lv_iinc (v := nI (i + 1)) (lv' := [(2, .int (nI (i + 1))), (3, .int ((σ 9 (3 * b + i)))), (0, .ref (ad 0 0)), (1, .ref (ad 11 b))]) hx hb dX3_mayCome_51 hl (k := 3) rfl (nI_add i 1) (by decide) rfl (fun ls hl => ?_)
            refine lv_goto (tgt := 13) hx hb dX3_mayCome_54 (by decide) ?_
            exact ih _ _ _ _ (by omega) ⟨i + 1, rfl, by omega, (lt_s hq (fun _ => by rw [ej, nI_clamp (by omega)]; exact bI_1 c_6)), hP, hS, lv_sub hl [2, 3, 0] rfl⟩
          · refine lv_iconst (v := 0) hx hb dX3_mayCome_49 (by decide) ?_
            exact W.zret (v := 0) (ty := .boolean) hx hb hr rfl (fun t ht hW => ⟨⟨0, (), rfl, (by rw [mayC_f (kd_of ek hk0) (by omega) (i := i) (by omega) ⟨c_4, c_5⟩ (by rw [ej, nI_clamp (by omega)]; exact bI_0 c_6)]; rfl), by rw [← ht] at hP; exact hP⟩, hS.F ht⟩) hS.2.2 dX3_mayCome_50
  · have c_1 : k = 16 := (nI_eq (a := k) (b := 16) (by omega) (by omega)).mp c_1
    refine lv_iconst (v := 1) hx hb dX3_mayCome_9 (by decide) ?_
    exact W.zret (v := 1) (ty := .boolean) hx hb hr rfl (fun t ht hW => ⟨⟨1, (), rfl, (by rw [mayC_d ((kd_of ek hk0).trans (by omega))]; rfl), by rw [← ht] at hP; exact hP⟩, hS.F ht⟩) hS.2.2 dX3_mayCome_10

theorem iL_X3_leastThatMayCome_X0 : ∀ w ∈ u_ws RX0 TX0 11, w ∈ wsX3_leastThatMayCome := by decide +kernel
theorem iL_X3_leastThatMayCome_X3 : ∀ w ∈ u_ws RX3 TX3 9, w ∈ wsX3_leastThatMayCome := by decide +kernel
set_option maxHeartbeats 4000000 in
set_option maxRecDepth 100000 in
theorem k_X3_leastThatMayCome {l : Launch} {D : va_G} {cI cZ cB cS : ClassId} {A : Nat → Prop} (κ : Nat → Nat) (σ sc : Nat → Nat → Int32) (ad : Nat → Nat → Nat) (hn : κ 0 ≤ 40) (hk : kok (κ 0) σ) (pl : Nat → Bool) (hpl : ∀ j, j < κ 0 → sc 1 j = bI (pl j)) : Met l yX3_leastThatMayCome wsX3_leastThatMayCome ({ frames := 2, cells := 0, slots := 0, locals := 43 } : Room) (gPc D cI cZ cB cS A (cDm κ) (cEn cI cZ cB cS κ σ sc ad) ad [.ref (ad 0 0)]) (va_Qi (fun (r : Int32) (_ : Unit) => r = if lst (cand (κ 0) σ pl) (κ 0) < κ 0 then nI (lst (cand (κ 0) σ pl) (κ 0)) else -1) (fun _ t => gw_P D vwCl A (cDm κ) (cEn cI cZ cB cS κ σ sc ad) ad t.heap) A) 0 0 A := by
  refine Met.ofW (cc := cX3_leastThatMayCome) (maxL := 2) (ret := (some .int)) (by decide) rfl ?_
  intro p e s m args below meth c s₁ B hml hv
  obtain ⟨rfl, hP, hE, hA⟩ := hv
  have hx := B.exec
  have hb := B.bytes
  have hr := B.returns
  have hts := atoms_spec (ws := wsX3_leastThatMayCome) B.pre
  have hown : s.vm.findClass RX3 = some m.cls := findClass_of_methodNamed B.named
  have hlocks := B.notSynchronized
  have hK := hE.1
  have hS : va_S A s.heap s.heap [] := va_S.rf
  have hL0 := fun w (hw : w ∈ u_ws RX0 TX0 11) => hts w (iL_X3_leastThatMayCome_X0 w hw)
  have hL3 := fun w (hw : w ∈ u_ws RX3 TX3 9) => hts w (iL_X3_leastThatMayCome_X3 w hw)
  have hl := lv_entry ([.ref (ad 0 0)]) (n := 2) (Nat.le_of_ble_eq_true rfl)
  rw [lg_entry_eq]
  generalize (lg_sl ([.ref (ad 0 0)]) ++ List.replicate (2 - (lg_sl ([.ref (ad 0 0)])).length) Slot.unset).toArray = ls at hl ⊢
  have hl : lv_has ls 2 [(0, .ref (ad 0 0))] := hl
  refine lv_iconst (v := 0) hx hb dX3_leastThatMayCome_0 (by decide) ?_
  refine lv_istore_n (lv' := [(1, .int 0), (0, .ref (ad 0 0))]) hx hb dX3_leastThatMayCome_1 rfl hl (by decide) rfl (fun ls hl => ?_)
  refine lv_loop (fun kk H locs ls => ∃ i : Nat, kk = (κ 0) - i ∧ i ≤ κ 0 ∧ (∀ j : Nat, j < i → cand (κ 0) σ pl j = false) ∧ gw_P D vwCl A (cDm κ) (cEn cI cZ cB cS κ σ sc ad) ad H ∧ va_S A s.heap H locs ∧ lv_has ls 2 [(0, .ref (ad 0 0)), (1, .int (nI i))]) (fun kk H locs ls hI ih => ?_) ((κ 0) - 0) ⟨0, rfl, by omega, fun j hj => absurd hj (Nat.not_lt_zero j), hP, hS, lv_sub hl [1, 0] rfl⟩
  obtain ⟨i, hk_2, hi_2, hq, hP, hS, hl⟩ := hI
  refine lv_iload_n hx hb dX3_leastThatMayCome_2 rfl (lv_at hl 1 rfl) ?_
  refine lv_aload_n hx hb dX3_leastThatMayCome_3 rfl (lv_at hl 0 rfl) ?_
  refine gw_get (C := RX3) (T := TX3) (N := 9) hx hb hL3 hown hK hP 0 0 (cDf (by decide)) rfl rfl 1 (by decide) (hts (.fieldLink RX3 15 "BlockPrograms" "count" "I") (by decide +kernel)) (fun _ h9 => h9) (v := .int (nI (κ 0))) rfl dX3_leastThatMayCome_4 ?_
  refine lv_icmp_ge (tgt := 40) hx hb dX3_leastThatMayCome_7 (by decide) (fun c_1 => ?_) (fun c_1 => ?_)
  · have c_1 : κ 0 ≤ i := (nI_leI (a := κ 0) (b := i) (by omega) (by omega)).mp c_1
    refine lv_iconst (v := -1) hx hb dX3_leastThatMayCome_40 (by decide) ?_
    have e1 : lst (cand (κ 0) σ pl) (κ 0) = κ 0 := lst_all (fun j hj => hq j (by omega))
    exact W.iret (v := (-1)) hx hb hr (fun t ht hW => ⟨⟨((-1)), (), rfl, (by rw [e1, if_neg (Nat.lt_irrefl _)]), by rw [← ht] at hP; exact hP⟩, hS.F ht⟩) hS.2.2 dX3_leastThatMayCome_41
  · have c_1 : ¬ (κ 0 ≤ i) := fun z => c_1 ((nI_leI (a := κ 0) (b := i) (by omega) (by omega)).mpr z)
    refine lv_aload_n hx hb dX3_leastThatMayCome_10 rfl (lv_at hl 0 rfl) ?_
    refine gw_get (C := RX3) (T := TX3) (N := 9) hx hb hL3 hown hK hP 0 0 (cDf (by decide)) rfl rfl 5 (by decide) (hts (.fieldLink RX3 29 "BlockPrograms" "placed" "[Z") (by decide +kernel)) (fun _ h9 => h9) (v := .ref (ad 4 0)) rfl dX3_leastThatMayCome_11 ?_
    refine lv_iload_n hx hb dX3_leastThatMayCome_14 rfl (lv_at hl 1 rfl) ?_
    refine gw_zald hx hb hK hP 4 0 (cDf (by decide)) 1 rfl rfl (i) rfl (by omega) (by decide) (v := (bI (pl i))) (hpl i (by omega)) dX3_leastThatMayCome_15 ?_
    refine lv_if_ne (tgt := 34) hx hb dX3_leastThatMayCome_16 (by decide) (fun c_2 => ?_) (fun c_2 => ?_)
    · refine lv_iinc (v := nI (i + 1)) (lv' := [(1, .int (nI (i + 1))), (0, .ref (ad 0 0))]) hx hb dX3_leastThatMayCome_34 hl (k := 1) rfl (nI_add i 1) (by decide) rfl (fun ls hl => ?_)
      refine lv_goto (tgt := 2) hx hb dX3_leastThatMayCome_37 (by decide) ?_
      exact ih _ _ _ _ (by omega) ⟨i + 1, rfl, by omega, (lt_s hq (cand_p (bI_1 c_2))), hP, hS, lv_sub hl [1, 0] rfl⟩
    · refine lv_aload_n hx hb dX3_leastThatMayCome_19 rfl (lv_at hl 0 rfl) ?_
      refine lv_aload_n hx hb dX3_leastThatMayCome_20 rfl (lv_at hl 0 rfl) ?_
      refine gw_get (C := RX3) (T := TX3) (N := 9) hx hb hL3 hown hK hP 0 0 (cDf (by decide)) rfl rfl 0 (by decide) (hts (.fieldLink RX3 11 "BlockPrograms" "blocks" "[LBlockPrograms$Block;") (by decide +kernel)) (fun _ h9 => h9) (v := .ref (ad 1 0)) rfl dX3_leastThatMayCome_21 ?_
      refine lv_iload_n hx hb dX3_leastThatMayCome_24 rfl (lv_at hl 1 rfl) ?_
      refine gw_aald hx hb hK hP 1 0 (cDf (by decide)) 2 rfl rfl (i) rfl (by omega) (by decide) (a := ad 11 i) (if_pos (by omega)) dX3_leastThatMayCome_25 ?_
      obtain ⟨k, hk26, ek⟩ := hk i (by omega)
      refine va_calli (va_runV (As := [.ref (ad 11 i)]) (rest := []) ⟨hx, hb, hml, hown, hts⟩ (k_X3_mayCome (l := l) (D := D) (cI := cI) (cZ := cZ) (cB := cB) (cS := cS) (A := A) κ σ sc ad i k (by omega) hn hk26 ek pl hpl) (cwV 1 hts gX3_leastThatMayCome_X3_mayCome rfl rfl rfl (by decide +kernel) ⟨Nat.le_of_ble_eq_true rfl, Nat.le_of_ble_eq_true rfl⟩) (gPreV hE hA hS hP (gw_recv hK hP 0 0 (cDf (by decide)) rfl rfl)) rfl rfl hl.1 rfl (lv_room (Nat.le_of_ble_eq_true rfl)) dX3_leastThatMayCome_26 ⟨Nat.le_of_ble_eq_true rfl, Nat.le_of_ble_eq_true rfl⟩) hS (fun q _ h9 => h9) (fun q h9 => h9) (fun r_3 u9 t9 H locs ht9 hvm9 hw_r_3 hB9 hz9 hk9 hS => ?_)
      have hP : gw_P D vwCl A (cDm κ) (cEn cI cZ cB cS κ σ sc ad) ad H := by rw [← ht9]; exact hB9
      refine lv_toq ((bI (mayC (κ 0) σ pl i))) hw_r_3 ?_
      refine lv_if_eq (tgt := 34) hx hb dX3_leastThatMayCome_29 (by decide) (fun c_4 => ?_) (fun c_4 => ?_)
      · refine lv_iinc (v := nI (i + 1)) (lv' := [(1, .int (nI (i + 1))), (0, .ref (ad 0 0))]) hx hb dX3_leastThatMayCome_34 hl (k := 1) rfl (nI_add i 1) (by decide) rfl (fun ls hl => ?_)
        refine lv_goto (tgt := 2) hx hb dX3_leastThatMayCome_37 (by decide) ?_
        exact ih _ _ _ _ (by omega) ⟨i + 1, rfl, by omega, (lt_s hq (by rw [cand_m (bI_0 c_2)]; exact bI_0 c_4)), hP, hS, lv_sub hl [1, 0] rfl⟩
      · refine lv_iload_n hx hb dX3_leastThatMayCome_32 rfl (lv_at hl 1 rfl) ?_
        have e1 : lst (cand (κ 0) σ pl) (κ 0) = i := lst_eq (by omega) (by rw [cand_m (bI_0 c_2)]; exact bI_1 c_4) hq
        exact W.iret (v := nI i) hx hb hr (fun t ht hW => ⟨⟨(nI i), (), rfl, (by rw [e1, if_pos (by omega)]), by rw [← ht] at hP; exact hP⟩, hS.F ht⟩) hS.2.2 dX3_leastThatMayCome_33

theorem iL_X3_lineUp_X3 : ∀ w ∈ u_ws RX3 TX3 9, w ∈ wsX3_lineUp := by decide +kernel
set_option maxHeartbeats 4000000 in
set_option maxRecDepth 100000 in
theorem k_X3_lineUp {l : Launch} {D : va_G} {cI cZ cB cS : ClassId} {A : Nat → Prop} (κ : Nat → Nat) (σ sc : Nat → Nat → Int32) (ad : Nat → Nat → Nat) (hn : κ 0 ≤ 40) (hk : kok (κ 0) σ) : Met l yX3_lineUp wsX3_lineUp ({ frames := 3, cells := 0, slots := 0, locals := 64 } : Room) (gPc D cI cZ cB cS A (cDm κ) (cEn cI cZ cB cS κ σ sc ad) ad [.ref (ad 0 0)]) (va_Qi (fun (r : Int32) (u : Nat → Nat → Int32) => r = nI (comeF (κ 0) σ) ∧ ∀ j, j < κ 0 → u 0 j = nI (lineF (κ 0) σ j)) (fun u t => gw_P D vwCl A (cDm κ) (cEn cI cZ cB cS κ σ u ad) ad t.heap) A) 0 0 A := by
  refine Met.ofW (cc := cX3_lineUp) (maxL := 4) (ret := (some .int)) (by decide) rfl ?_
  intro p e s m args below meth c s₁ B hml hv
  obtain ⟨rfl, hP, hE, hA⟩ := hv
  have hx := B.exec
  have hb := B.bytes
  have hr := B.returns
  have hts := atoms_spec (ws := wsX3_lineUp) B.pre
  have hown : s.vm.findClass RX3 = some m.cls := findClass_of_methodNamed B.named
  have hlocks := B.notSynchronized
  have hK := hE.1
  have hS : va_S A s.heap s.heap [] := va_S.rf
  have hL3 := fun w (hw : w ∈ u_ws RX3 TX3 9) => hts w (iL_X3_lineUp_X3 w hw)
  have hl := lv_entry ([.ref (ad 0 0)]) (n := 4) (Nat.le_of_ble_eq_true rfl)
  rw [lg_entry_eq]
  generalize (lg_sl ([.ref (ad 0 0)]) ++ List.replicate (4 - (lg_sl ([.ref (ad 0 0)])).length) Slot.unset).toArray = ls at hl ⊢
  have hl : lv_has ls 4 [(0, .ref (ad 0 0))] := hl
  refine lv_iconst (v := 0) hx hb dX3_lineUp_0 (by decide) ?_
  refine lv_istore_n (lv' := [(1, .int 0), (0, .ref (ad 0 0))]) hx hb dX3_lineUp_1 rfl hl (by decide) rfl (fun ls hl => ?_)
  refine lv_loop (fun kk H locs ls => ∃ i : Nat, ∃ sc1 : Nat → Nat → Int32, kk = (κ 0) - i ∧ i ≤ κ 0 ∧ (∀ j : Nat, j < i → sc1 1 j = 0) ∧ gw_P D vwCl A (cDm κ) (cEn cI cZ cB cS κ σ sc1 ad) ad H ∧ va_S A s.heap H locs ∧ lv_has ls 4 [(0, .ref (ad 0 0)), (1, .int (nI i))]) (fun kk H locs ls hI ih => ?_) ((κ 0) - 0) ⟨0, sc, rfl, by omega, fun j hj => absurd hj (Nat.not_lt_zero j), hP, hS, lv_sub hl [1, 0] rfl⟩
  obtain ⟨i, sc1, hk_2, hi_2, h0, hP, hS, hl⟩ := hI
  refine lv_iload_n hx hb dX3_lineUp_2 rfl (lv_at hl 1 rfl) ?_
  refine lv_aload_n hx hb dX3_lineUp_3 rfl (lv_at hl 0 rfl) ?_
  refine gw_get (C := RX3) (T := TX3) (N := 9) hx hb hL3 hown hK hP 0 0 (cDf (by decide)) rfl rfl 1 (by decide) (hts (.fieldLink RX3 15 "BlockPrograms" "count" "I") (by decide +kernel)) (fun _ h9 => h9) (v := .int (nI (κ 0))) rfl dX3_lineUp_4 ?_
  refine lv_icmp_ge (tgt := 23) hx hb dX3_lineUp_7 (by decide) (fun c_1 => ?_) (fun c_1 => ?_)
  · have c_1 : κ 0 ≤ i := (nI_leI (a := κ 0) (b := i) (by omega) (by omega)).mp c_1
    refine lv_iconst (v := 0) hx hb dX3_lineUp_23 (by decide) ?_
    refine lv_istore_n (lv' := [(1, .int 0), (0, .ref (ad 0 0))]) hx hb dX3_lineUp_24 rfl hl (by decide) rfl (fun ls hl => ?_)
    refine lv_loop (fun kk H locs ls => ∃ c : Nat, ∃ sc2 : Nat → Nat → Int32, kk = (κ 0) - c ∧ c ≤ κ 0 ∧ ((layS (κ 0) σ c).2.2 = c) ∧ (∀ j : Nat, j < κ 0 → sc2 1 j = bI ((layS (κ 0) σ c).1 j)) ∧ (∀ j : Nat, j < c → sc2 0 j = nI ((layS (κ 0) σ c).2.1 j)) ∧ gw_P D vwCl A (cDm κ) (cEn cI cZ cB cS κ σ sc2 ad) ad H ∧ va_S A s.heap H locs ∧ lv_has ls 4 [(0, .ref (ad 0 0)), (1, .int (nI c))]) (fun kk H locs ls hI ih => ?_) ((κ 0) - 0) ⟨0, sc1, rfl, by omega, rfl, fun j hj => h0 j (by omega), fun j hj => absurd hj (Nat.not_lt_zero j), hP, hS, lv_sub hl [1, 0] rfl⟩
    obtain ⟨c, sc2, hk_25, hi_25, hc, hpl2, hln2, hP, hS, hl⟩ := hI
    refine lv_iload_n hx hb dX3_lineUp_25 rfl (lv_at hl 1 rfl) ?_
    refine lv_aload_n hx hb dX3_lineUp_26 rfl (lv_at hl 0 rfl) ?_
    refine gw_get (C := RX3) (T := TX3) (N := 9) hx hb hL3 hown hK hP 0 0 (cDf (by decide)) rfl rfl 1 (by decide) (hts (.fieldLink RX3 15 "BlockPrograms" "count" "I") (by decide +kernel)) (fun _ h9 => h9) (v := .int (nI (κ 0))) rfl dX3_lineUp_27 ?_
    refine lv_icmp_ge (tgt := 66) hx hb dX3_lineUp_30 (by decide) (fun c_2 => ?_) (fun c_2 => ?_)
    · have c_2 : κ 0 ≤ c := (nI_leI (a := κ 0) (b := c) (by omega) (by omega)).mp c_2
      refine lv_iload_n hx hb dX3_lineUp_66 rfl (lv_at hl 1 rfl) ?_
      refine lv_istore_n (lv' := [(2, .int (nI c)), (0, .ref (ad 0 0)), (1, .int (nI c))]) hx hb dX3_lineUp_67 rfl hl (by decide) rfl (fun ls hl => ?_)
      refine lv_iconst (v := 0) hx hb dX3_lineUp_68 (by decide) ?_
      refine lv_istore_n (lv' := [(3, .int 0), (2, .int (nI c)), (0, .ref (ad 0 0)), (1, .int (nI c))]) hx hb dX3_lineUp_69 rfl hl (by decide) rfl (fun ls hl => ?_)
      have ec0 : c = κ 0 := by omega
      have eL : (layS (κ 0) σ (κ 0)) = (layS (κ 0) σ c) := by rw [ec0]
      have ec : (restS (κ 0) σ 0).2 = c := by show (layS (κ 0) σ (κ 0)).2.2 = c; rw [eL]; exact hc
      have hplc : ∀ j : Nat, j < κ 0 → sc2 1 j = bI (plF (κ 0) σ j) := by unfold plF; rw [eL]; exact hpl2
      have hlnc : ∀ j : Nat, j < (restS (κ 0) σ 0).2 → sc2 0 j = nI ((restS (κ 0) σ 0).1 j) := by rw [ec]; show ∀ j : Nat, j < c → sc2 0 j = nI ((layS (κ 0) σ (κ 0)).2.1 j); rw [eL]; exact hln2
      rw [← ec] at hl
      refine lv_loop (fun kk H locs ls => ∃ i : Nat, ∃ sc3 : Nat → Nat → Int32, kk = (κ 0) - i ∧ i ≤ κ 0 ∧ (∀ j : Nat, j < κ 0 → sc3 1 j = bI (plF (κ 0) σ j)) ∧ (∀ j : Nat, j < (restS (κ 0) σ i).2 → sc3 0 j = nI ((restS (κ 0) σ i).1 j)) ∧ gw_P D vwCl A (cDm κ) (cEn cI cZ cB cS κ σ sc3 ad) ad H ∧ va_S A s.heap H locs ∧ lv_has ls 4 [(0, .ref (ad 0 0)), (1, .int (nI ((restS (κ 0) σ 0).2))), (2, .int (nI ((restS (κ 0) σ i).2))), (3, .int (nI i))]) (fun kk H locs ls hI ih => ?_) ((κ 0) - 0) ⟨0, sc2, rfl, by omega, hplc, hlnc, hP, hS, lv_sub hl [2, 3, 1, 0] rfl⟩
      obtain ⟨i, sc3, hk_70, hi_70, hplC, hlnC, hP, hS, hl⟩ := hI
      have hR2 : (restS (κ 0) σ i).2 ≤ κ 0 := rest_le hi_70
      refine lv_iload_n hx hb dX3_lineUp_70 rfl (lv_at hl 3 rfl) ?_
      refine lv_aload_n hx hb dX3_lineUp_71 rfl (lv_at hl 0 rfl) ?_
      refine gw_get (C := RX3) (T := TX3) (N := 9) hx hb hL3 hown hK hP 0 0 (cDf (by decide)) rfl rfl 1 (by decide) (hts (.fieldLink RX3 15 "BlockPrograms" "count" "I") (by decide +kernel)) (fun _ h9 => h9) (v := .int (nI (κ 0))) rfl dX3_lineUp_72 ?_
      refine lv_icmp_ge (tgt := 111) hx hb dX3_lineUp_75 (by decide) (fun c_3 => ?_) (fun c_3 => ?_)
      · have c_3 : κ 0 ≤ i := (nI_leI (a := κ 0) (b := i) (by omega) (by omega)).mp c_3
        refine lv_iload_n hx hb dX3_lineUp_111 rfl (lv_at hl 1 rfl) ?_
        have ei : i = κ 0 := by omega
        have eR : (restS (κ 0) σ (κ 0)) = (restS (κ 0) σ i) := by rw [ei]
        exact W.iret (v := nI ((restS (κ 0) σ 0).2)) hx hb hr (fun t ht hW => ⟨⟨(nI ((restS (κ 0) σ 0).2)), sc3, rfl, ⟨rfl, fun j hj => by show _ = nI ((restS (κ 0) σ (κ 0)).1 j); rw [eR]; exact hlnC j (by rw [← eR, rest_end]; exact hj)⟩, by rw [← ht] at hP; exact hP⟩, hS.F ht⟩) hS.2.2 dX3_lineUp_112
      · have c_3 : ¬ (κ 0 ≤ i) := fun z => c_3 ((nI_leI (a := κ 0) (b := i) (by omega) (by omega)).mpr z)
        refine lv_iload_n hx hb dX3_lineUp_78 rfl (lv_at hl 2 rfl) ?_
        refine lv_aload_n hx hb dX3_lineUp_79 rfl (lv_at hl 0 rfl) ?_
        refine gw_get (C := RX3) (T := TX3) (N := 9) hx hb hL3 hown hK hP 0 0 (cDf (by decide)) rfl rfl 1 (by decide) (hts (.fieldLink RX3 15 "BlockPrograms" "count" "I") (by decide +kernel)) (fun _ h9 => h9) (v := .int (nI (κ 0))) rfl dX3_lineUp_80 ?_
        refine lv_icmp_ge (tgt := 111) hx hb dX3_lineUp_83 (by decide) (fun c_4 => ?_) (fun c_4 => ?_)
        · have c_4 : κ 0 ≤ (restS (κ 0) σ i).2 := (nI_leI (a := κ 0) (b := (restS (κ 0) σ i).2) (by omega) (by omega)).mp c_4
          refine lv_iload_n hx hb dX3_lineUp_111 rfl (lv_at hl 1 rfl) ?_
          have eR : (restS (κ 0) σ (κ 0)) = (restS (κ 0) σ i) := by
            have z := rest_stop (n := κ 0) (σ := σ) (i := i) (by omega) (κ 0 - i) (by omega)
            rwa [show i + (κ 0 - i) = κ 0 by omega] at z
          exact W.iret (v := nI ((restS (κ 0) σ 0).2)) hx hb hr (fun t ht hW => ⟨⟨(nI ((restS (κ 0) σ 0).2)), sc3, rfl, ⟨rfl, fun j hj => by show _ = nI ((restS (κ 0) σ (κ 0)).1 j); rw [eR]; exact hlnC j (by rw [← eR, rest_end]; exact hj)⟩, by rw [← ht] at hP; exact hP⟩, hS.F ht⟩) hS.2.2 dX3_lineUp_112
        · have c_4 : ¬ (κ 0 ≤ (restS (κ 0) σ i).2) := fun z => c_4 ((nI_leI (a := κ 0) (b := (restS (κ 0) σ i).2) (by omega) (by omega)).mpr z)
          refine lv_aload_n hx hb dX3_lineUp_86 rfl (lv_at hl 0 rfl) ?_
          refine gw_get (C := RX3) (T := TX3) (N := 9) hx hb hL3 hown hK hP 0 0 (cDf (by decide)) rfl rfl 5 (by decide) (hts (.fieldLink RX3 29 "BlockPrograms" "placed" "[Z") (by decide +kernel)) (fun _ h9 => h9) (v := .ref (ad 4 0)) rfl dX3_lineUp_87 ?_
          refine lv_iload_n hx hb dX3_lineUp_90 rfl (lv_at hl 3 rfl) ?_
          refine gw_zald hx hb hK hP 4 0 (cDf (by decide)) 1 rfl rfl (i) rfl (by omega) (by decide) (v := (bI (plF (κ 0) σ i))) (hplC i (by omega)) dX3_lineUp_91 ?_
          refine lv_if_ne (tgt := 105) hx hb dX3_lineUp_92 (by decide) (fun c_5 => ?_) (fun c_5 => ?_)
          · refine lv_iinc (v := nI (i + 1)) (lv' := [(3, .int (nI (i + 1))), (0, .ref (ad 0 0)), (1, .int (nI ((restS (κ 0) σ 0).2))), (2, .int (nI ((restS (κ 0) σ i).2)))]) hx hb dX3_lineUp_105 hl (k := 3) rfl (nI_add i 1) (by decide) rfl (fun ls hl => ?_)
            refine lv_goto (tgt := 70) hx hb dX3_lineUp_108 (by decide) ?_
            have eR := rest_y (bI_1 c_5)
            have hlnN : ∀ j : Nat, j < (restS (κ 0) σ (i + 1)).2 → sc3 0 j = nI ((restS (κ 0) σ (i + 1)).1 j) := by rw [eR]; exact hlnC
            rw [← eR] at hl
            exact ih _ _ _ _ (by omega) ⟨i + 1, sc3, rfl, by omega, hplC, hlnN, hP, hS, lv_sub hl [1, 2, 3, 0] rfl⟩
          · refine lv_aload_n hx hb dX3_lineUp_95 rfl (lv_at hl 0 rfl) ?_
            refine gw_get (C := RX3) (T := TX3) (N := 9) hx hb hL3 hown hK hP 0 0 (cDf (by decide)) rfl rfl 4 (by decide) (hts (.fieldLink RX3 26 "BlockPrograms" "line" "[I") (by decide +kernel)) (fun _ h9 => h9) (v := .ref (ad 3 0)) rfl dX3_lineUp_96 ?_
            refine lv_iload_n hx hb dX3_lineUp_99 rfl (lv_at hl 2 rfl) ?_
            refine lv_iload_n hx hb dX3_lineUp_100 rfl (lv_at hl 3 rfl) ?_
            refine gw_iast hx hb hK hP hS 3 0 (cDf (by decide)) 0 rfl rfl ((restS (κ 0) σ i).2) rfl (by omega) (by decide) dX3_lineUp_101 ((cEn cI cZ cB cS κ σ (wr sc3 0 ((restS (κ 0) σ i).2) (nI i)) ad)) cUs_3 (fun t9 i9 z9 h9 => cU3 _ t9 i9 h9 (by first | exact z9 | simpa [cDm_up] using z9)) (fun H locs hP hS => ?_)
            refine lv_iinc (v := nI ((restS (κ 0) σ i).2 + 1)) (lv' := [(2, .int (nI ((restS (κ 0) σ i).2 + 1))), (0, .ref (ad 0 0)), (1, .int (nI ((restS (κ 0) σ 0).2))), (3, .int (nI i))]) hx hb dX3_lineUp_102 hl (k := 2) rfl (nI_add ((restS (κ 0) σ i).2) 1) (by decide) rfl (fun ls hl => ?_)
            refine lv_iinc (v := nI (i + 1)) (lv' := [(3, .int (nI (i + 1))), (2, .int (nI ((restS (κ 0) σ i).2 + 1))), (0, .ref (ad 0 0)), (1, .int (nI ((restS (κ 0) σ 0).2)))]) hx hb dX3_lineUp_105 hl (k := 3) rfl (nI_add i 1) (by decide) rfl (fun ls hl => ?_)
            refine lv_goto (tgt := 70) hx hb dX3_lineUp_108 (by decide) ?_
            have eR := rest_n (bI_0 c_5)
            have eR2 : (restS (κ 0) σ (i + 1)).2 = (restS (κ 0) σ i).2 + 1 := by rw [eR]
            have hlnN : ∀ j : Nat, j < (restS (κ 0) σ (i + 1)).2 → (wr sc3 0 ((restS (κ 0) σ i).2) (nI i)) 0 j = nI ((restS (κ 0) σ (i + 1)).1 j) := by
              intro j hj
              rw [eR2] at hj
              rw [eR]
              show _ = nI (if j = (restS (κ 0) σ i).2 then i else _)
              by_cases e : j = (restS (κ 0) σ i).2
              · rw [if_pos e, e, wr_s]
              · rw [if_neg e, wr_i e]; exact hlnC j (by omega)
            rw [← eR2] at hl
            exact ih _ _ _ _ (by omega) ⟨i + 1, (wr sc3 0 ((restS (κ 0) σ i).2) (nI i)), rfl, by omega, (fun j hj => (wr_f (by decide)).trans (hplC j hj)), hlnN, hP, hS, lv_sub hl [2, 3, 1, 0] rfl⟩
    · have c_2 : ¬ (κ 0 ≤ c) := fun z => c_2 ((nI_leI (a := κ 0) (b := c) (by omega) (by omega)).mpr z)
      refine lv_aload_n hx hb dX3_lineUp_33 rfl (lv_at hl 0 rfl) ?_
      refine va_calli (va_runV (As := []) (rest := []) ⟨hx, hb, hml, hown, hts⟩ (k_X3_leastThatMayCome (l := l) (D := D) (cI := cI) (cZ := cZ) (cB := cB) (cS := cS) (A := A) κ σ sc2 ad hn hk (layS (κ 0) σ c).1 hpl2) (cwV 0 hts gX3_lineUp_X3_leastThatMayCome rfl rfl rfl (by decide +kernel) ⟨Nat.le_of_ble_eq_true rfl, Nat.le_of_ble_eq_true rfl⟩) (gPreV hE hA hS hP (gw_recv hK hP 0 0 (cDf (by decide)) rfl rfl)) rfl rfl hl.1 rfl (lv_room (Nat.le_of_ble_eq_true rfl)) dX3_lineUp_34 ⟨Nat.le_of_ble_eq_true rfl, Nat.le_of_ble_eq_true rfl⟩) hS (fun q _ h9 => h9) (fun q h9 => h9) (fun r_6 u9 t9 H locs ht9 hvm9 hw_r_6 hB9 hz9 hk9 hS => ?_)
      have hP : gw_P D vwCl A (cDm κ) (cEn cI cZ cB cS κ σ sc2 ad) ad H := by rw [← ht9]; exact hB9
      obtain ⟨q, eq⟩ : ∃ z, z = lst (cand (κ 0) σ (layS (κ 0) σ c).1) (κ 0) := ⟨_, rfl⟩
      rw [← eq] at hw_r_6
      by_cases hlt : q < κ 0
      · refine lv_toq (nI q) (hw_r_6.trans (if_pos hlt)) ?_
        refine lv_istore_n (lv' := [(2, .int (nI q)), (0, .ref (ad 0 0)), (1, .int (nI c))]) hx hb dX3_lineUp_37 rfl hl (by decide) rfl (fun ls hl => ?_)
        refine lv_iload_n hx hb dX3_lineUp_38 rfl (lv_at hl 0 rfl) ?_
        refine lv_iconst (v := -1) hx hb dX3_lineUp_39 (by decide) ?_
        refine lv_icmp_ne (tgt := 46) hx hb dX3_lineUp_40 (by decide) (fun c_7 => ?_) (fun c_7 => ?_)
        · refine lv_aload_n hx hb dX3_lineUp_46 rfl (lv_at hl 1 rfl) ?_
          refine gw_get (C := RX3) (T := TX3) (N := 9) hx hb hL3 hown hK hP 0 0 (cDf (by decide)) rfl rfl 5 (by decide) (hts (.fieldLink RX3 29 "BlockPrograms" "placed" "[Z") (by decide +kernel)) (fun _ h9 => h9) (v := .ref (ad 4 0)) rfl dX3_lineUp_47 ?_
          refine lv_iload_n hx hb dX3_lineUp_50 rfl (lv_at hl 0 rfl) ?_
          refine lv_iconst (v := 1) hx hb dX3_lineUp_51 (by decide) ?_
          refine gw_zast hx hb hK hP hS 4 0 (cDf (by decide)) 1 rfl rfl (q) rfl (by omega) (by decide) rfl dX3_lineUp_52 ((cEn cI cZ cB cS κ σ (wr sc2 1 q 1) ad)) cUs_4 (fun t9 i9 z9 h9 => cU4 _ t9 i9 h9 (by first | exact z9 | simpa [cDm_up] using z9)) (fun H locs hP hS => ?_)
          refine lv_aload_n hx hb dX3_lineUp_53 rfl (lv_at hl 1 rfl) ?_
          refine gw_get (C := RX3) (T := TX3) (N := 9) hx hb hL3 hown hK hP 0 0 (cDf (by decide)) rfl rfl 4 (by decide) (hts (.fieldLink RX3 26 "BlockPrograms" "line" "[I") (by decide +kernel)) (fun _ h9 => h9) (v := .ref (ad 3 0)) rfl dX3_lineUp_54 ?_
          refine lv_iload_n hx hb dX3_lineUp_57 rfl (lv_at hl 2 rfl) ?_
          refine lv_iload_n hx hb dX3_lineUp_58 rfl (lv_at hl 0 rfl) ?_
          refine gw_iast hx hb hK hP hS 3 0 (cDf (by decide)) 0 rfl rfl (c) rfl (by omega) (by decide) dX3_lineUp_59 ((cEn cI cZ cB cS κ σ (wr (wr sc2 1 q 1) 0 c (nI q)) ad)) cUs_3 (fun t9 i9 z9 h9 => cU3 _ t9 i9 h9 (by first | exact z9 | simpa [cDm_up] using z9)) (fun H locs hP hS => ?_)
          refine lv_iinc (v := nI (c + 1)) (lv' := [(1, .int (nI (c + 1))), (2, .int (nI q)), (0, .ref (ad 0 0))]) hx hb dX3_lineUp_60 hl (k := 2) rfl (nI_add c 1) (by decide) rfl (fun ls hl => ?_)
          refine lv_goto (tgt := 25) hx hb dX3_lineUp_63 (by decide) ?_
          have hgo := lay_go hc (by rw [← eq]; exact hlt)
          rw [← eq] at hgo
          have hc3 : (layS (κ 0) σ (c + 1)).2.2 = c + 1 := by rw [hgo]
          have hpl3 : ∀ j : Nat, j < κ 0 → (wr (wr sc2 1 q 1) 0 c (nI q)) 1 j = bI ((layS (κ 0) σ (c + 1)).1 j) := by
            intro j hj
            rw [hgo, wr_f (by decide)]
            show wr sc2 1 q 1 1 j = bI (if j = q then true else _)
            by_cases e : j = q
            · rw [if_pos e, e, wr_s]; rfl
            · rw [if_neg e, wr_i e]; exact hpl2 j hj
          have hln3 : ∀ j : Nat, j < c + 1 → (wr (wr sc2 1 q 1) 0 c (nI q)) 0 j = nI ((layS (κ 0) σ (c + 1)).2.1 j) := by
            intro j hj
            rw [hgo]
            show _ = nI (if j = c then q else _)
            by_cases e : j = c
            · rw [if_pos e, e, wr_s]
            · rw [if_neg e, wr_i e, wr_f (by decide)]; exact hln2 j (by omega)
          exact ih _ _ _ _ (by omega) ⟨c + 1, (wr (wr sc2 1 q 1) 0 c (nI q)), rfl, by omega, hc3, hpl3, hln3, hP, hS, lv_sub hl [2, 0] rfl⟩
        · exact absurd c_7 (nI_nm1 (by omega))
      · refine lv_toq (-1) (hw_r_6.trans (if_neg hlt)) ?_
        refine lv_istore_n (lv' := [(2, .int ((-1))), (0, .ref (ad 0 0)), (1, .int (nI c))]) hx hb dX3_lineUp_37 rfl hl (by decide) rfl (fun ls hl => ?_)
        refine lv_iload_n hx hb dX3_lineUp_38 rfl (lv_at hl 0 rfl) ?_
        refine lv_iconst (v := -1) hx hb dX3_lineUp_39 (by decide) ?_
        refine lv_icmp_ne (tgt := 46) hx hb dX3_lineUp_40 (by decide) (fun c_8 => ?_) (fun c_8 => ?_)
        · exact absurd rfl c_8
        · refine lv_goto (tgt := 66) hx hb dX3_lineUp_43 (by decide) ?_
          refine lv_iload_n hx hb dX3_lineUp_66 rfl (lv_at hl 2 rfl) ?_
          refine lv_istore_n (lv' := [(2, .int (nI c)), (0, .ref (ad 0 0)), (1, .int (nI c))]) hx hb dX3_lineUp_67 rfl hl (by decide) rfl (fun ls hl => ?_)
          refine lv_iconst (v := 0) hx hb dX3_lineUp_68 (by decide) ?_
          refine lv_istore_n (lv' := [(3, .int 0), (2, .int (nI c)), (0, .ref (ad 0 0)), (1, .int (nI c))]) hx hb dX3_lineUp_69 rfl hl (by decide) rfl (fun ls hl => ?_)
          have eL : (layS (κ 0) σ (κ 0)) = (layS (κ 0) σ c) := by
            have z := lay_stuck (n := κ 0) (σ := σ) (c := c) (by rw [← eq]; exact hlt) (κ 0 - c)
            rwa [show c + (κ 0 - c) = κ 0 by omega] at z
          have ec : (restS (κ 0) σ 0).2 = c := by show (layS (κ 0) σ (κ 0)).2.2 = c; rw [eL]; exact hc
          have hplc : ∀ j : Nat, j < κ 0 → sc2 1 j = bI (plF (κ 0) σ j) := by unfold plF; rw [eL]; exact hpl2
          have hlnc : ∀ j : Nat, j < (restS (κ 0) σ 0).2 → sc2 0 j = nI ((restS (κ 0) σ 0).1 j) := by rw [ec]; show ∀ j : Nat, j < c → sc2 0 j = nI ((layS (κ 0) σ (κ 0)).2.1 j); rw [eL]; exact hln2
          rw [← ec] at hl
          refine lv_loop (fun kk H locs ls => ∃ i : Nat, ∃ sc3 : Nat → Nat → Int32, kk = (κ 0) - i ∧ i ≤ κ 0 ∧ (∀ j : Nat, j < κ 0 → sc3 1 j = bI (plF (κ 0) σ j)) ∧ (∀ j : Nat, j < (restS (κ 0) σ i).2 → sc3 0 j = nI ((restS (κ 0) σ i).1 j)) ∧ gw_P D vwCl A (cDm κ) (cEn cI cZ cB cS κ σ sc3 ad) ad H ∧ va_S A s.heap H locs ∧ lv_has ls 4 [(0, .ref (ad 0 0)), (1, .int (nI ((restS (κ 0) σ 0).2))), (2, .int (nI ((restS (κ 0) σ i).2))), (3, .int (nI i))]) (fun kk H locs ls hI ih => ?_) ((κ 0) - 0) ⟨0, sc2, rfl, by omega, hplc, hlnc, hP, hS, lv_sub hl [2, 3, 1, 0] rfl⟩
          obtain ⟨i, sc3, hk_70, hi_70, hplC, hlnC, hP, hS, hl⟩ := hI
          have hR2 : (restS (κ 0) σ i).2 ≤ κ 0 := rest_le hi_70
          refine lv_iload_n hx hb dX3_lineUp_70 rfl (lv_at hl 3 rfl) ?_
          refine lv_aload_n hx hb dX3_lineUp_71 rfl (lv_at hl 0 rfl) ?_
          refine gw_get (C := RX3) (T := TX3) (N := 9) hx hb hL3 hown hK hP 0 0 (cDf (by decide)) rfl rfl 1 (by decide) (hts (.fieldLink RX3 15 "BlockPrograms" "count" "I") (by decide +kernel)) (fun _ h9 => h9) (v := .int (nI (κ 0))) rfl dX3_lineUp_72 ?_
          refine lv_icmp_ge (tgt := 111) hx hb dX3_lineUp_75 (by decide) (fun c_9 => ?_) (fun c_9 => ?_)
          · have c_9 : κ 0 ≤ i := (nI_leI (a := κ 0) (b := i) (by omega) (by omega)).mp c_9
            refine lv_iload_n hx hb dX3_lineUp_111 rfl (lv_at hl 1 rfl) ?_
            have ei : i = κ 0 := by omega
            have eR : (restS (κ 0) σ (κ 0)) = (restS (κ 0) σ i) := by rw [ei]
            exact W.iret (v := nI ((restS (κ 0) σ 0).2)) hx hb hr (fun t ht hW => ⟨⟨(nI ((restS (κ 0) σ 0).2)), sc3, rfl, ⟨rfl, fun j hj => by show _ = nI ((restS (κ 0) σ (κ 0)).1 j); rw [eR]; exact hlnC j (by rw [← eR, rest_end]; exact hj)⟩, by rw [← ht] at hP; exact hP⟩, hS.F ht⟩) hS.2.2 dX3_lineUp_112
          · have c_9 : ¬ (κ 0 ≤ i) := fun z => c_9 ((nI_leI (a := κ 0) (b := i) (by omega) (by omega)).mpr z)
            refine lv_iload_n hx hb dX3_lineUp_78 rfl (lv_at hl 2 rfl) ?_
            refine lv_aload_n hx hb dX3_lineUp_79 rfl (lv_at hl 0 rfl) ?_
            refine gw_get (C := RX3) (T := TX3) (N := 9) hx hb hL3 hown hK hP 0 0 (cDf (by decide)) rfl rfl 1 (by decide) (hts (.fieldLink RX3 15 "BlockPrograms" "count" "I") (by decide +kernel)) (fun _ h9 => h9) (v := .int (nI (κ 0))) rfl dX3_lineUp_80 ?_
            refine lv_icmp_ge (tgt := 111) hx hb dX3_lineUp_83 (by decide) (fun c_10 => ?_) (fun c_10 => ?_)
            · have c_10 : κ 0 ≤ (restS (κ 0) σ i).2 := (nI_leI (a := κ 0) (b := (restS (κ 0) σ i).2) (by omega) (by omega)).mp c_10
              refine lv_iload_n hx hb dX3_lineUp_111 rfl (lv_at hl 1 rfl) ?_
              have eR : (restS (κ 0) σ (κ 0)) = (restS (κ 0) σ i) := by
                have z := rest_stop (n := κ 0) (σ := σ) (i := i) (by omega) (κ 0 - i) (by omega)
                rwa [show i + (κ 0 - i) = κ 0 by omega] at z
              exact W.iret (v := nI ((restS (κ 0) σ 0).2)) hx hb hr (fun t ht hW => ⟨⟨(nI ((restS (κ 0) σ 0).2)), sc3, rfl, ⟨rfl, fun j hj => by show _ = nI ((restS (κ 0) σ (κ 0)).1 j); rw [eR]; exact hlnC j (by rw [← eR, rest_end]; exact hj)⟩, by rw [← ht] at hP; exact hP⟩, hS.F ht⟩) hS.2.2 dX3_lineUp_112
            · have c_10 : ¬ (κ 0 ≤ (restS (κ 0) σ i).2) := fun z => c_10 ((nI_leI (a := κ 0) (b := (restS (κ 0) σ i).2) (by omega) (by omega)).mpr z)
              refine lv_aload_n hx hb dX3_lineUp_86 rfl (lv_at hl 0 rfl) ?_
              refine gw_get (C := RX3) (T := TX3) (N := 9) hx hb hL3 hown hK hP 0 0 (cDf (by decide)) rfl rfl 5 (by decide) (hts (.fieldLink RX3 29 "BlockPrograms" "placed" "[Z") (by decide +kernel)) (fun _ h9 => h9) (v := .ref (ad 4 0)) rfl dX3_lineUp_87 ?_
              refine lv_iload_n hx hb dX3_lineUp_90 rfl (lv_at hl 3 rfl) ?_
              refine gw_zald hx hb hK hP 4 0 (cDf (by decide)) 1 rfl rfl (i) rfl (by omega) (by decide) (v := (bI (plF (κ 0) σ i))) (hplC i (by omega)) dX3_lineUp_91 ?_
              refine lv_if_ne (tgt := 105) hx hb dX3_lineUp_92 (by decide) (fun c_11 => ?_) (fun c_11 => ?_)
              · refine lv_iinc (v := nI (i + 1)) (lv' := [(3, .int (nI (i + 1))), (0, .ref (ad 0 0)), (1, .int (nI ((restS (κ 0) σ 0).2))), (2, .int (nI ((restS (κ 0) σ i).2)))]) hx hb dX3_lineUp_105 hl (k := 3) rfl (nI_add i 1) (by decide) rfl (fun ls hl => ?_)
                refine lv_goto (tgt := 70) hx hb dX3_lineUp_108 (by decide) ?_
                have eR := rest_y (bI_1 c_11)
                have hlnN : ∀ j : Nat, j < (restS (κ 0) σ (i + 1)).2 → sc3 0 j = nI ((restS (κ 0) σ (i + 1)).1 j) := by rw [eR]; exact hlnC
                rw [← eR] at hl
                exact ih _ _ _ _ (by omega) ⟨i + 1, sc3, rfl, by omega, hplC, hlnN, hP, hS, lv_sub hl [1, 2, 3, 0] rfl⟩
              · refine lv_aload_n hx hb dX3_lineUp_95 rfl (lv_at hl 0 rfl) ?_
                refine gw_get (C := RX3) (T := TX3) (N := 9) hx hb hL3 hown hK hP 0 0 (cDf (by decide)) rfl rfl 4 (by decide) (hts (.fieldLink RX3 26 "BlockPrograms" "line" "[I") (by decide +kernel)) (fun _ h9 => h9) (v := .ref (ad 3 0)) rfl dX3_lineUp_96 ?_
                refine lv_iload_n hx hb dX3_lineUp_99 rfl (lv_at hl 2 rfl) ?_
                refine lv_iload_n hx hb dX3_lineUp_100 rfl (lv_at hl 3 rfl) ?_
                refine gw_iast hx hb hK hP hS 3 0 (cDf (by decide)) 0 rfl rfl ((restS (κ 0) σ i).2) rfl (by omega) (by decide) dX3_lineUp_101 ((cEn cI cZ cB cS κ σ (wr sc3 0 ((restS (κ 0) σ i).2) (nI i)) ad)) cUs_3 (fun t9 i9 z9 h9 => cU3 _ t9 i9 h9 (by first | exact z9 | simpa [cDm_up] using z9)) (fun H locs hP hS => ?_)
                refine lv_iinc (v := nI ((restS (κ 0) σ i).2 + 1)) (lv' := [(2, .int (nI ((restS (κ 0) σ i).2 + 1))), (0, .ref (ad 0 0)), (1, .int (nI ((restS (κ 0) σ 0).2))), (3, .int (nI i))]) hx hb dX3_lineUp_102 hl (k := 2) rfl (nI_add ((restS (κ 0) σ i).2) 1) (by decide) rfl (fun ls hl => ?_)
                refine lv_iinc (v := nI (i + 1)) (lv' := [(3, .int (nI (i + 1))), (2, .int (nI ((restS (κ 0) σ i).2 + 1))), (0, .ref (ad 0 0)), (1, .int (nI ((restS (κ 0) σ 0).2)))]) hx hb dX3_lineUp_105 hl (k := 3) rfl (nI_add i 1) (by decide) rfl (fun ls hl => ?_)
                refine lv_goto (tgt := 70) hx hb dX3_lineUp_108 (by decide) ?_
                have eR := rest_n (bI_0 c_11)
                have eR2 : (restS (κ 0) σ (i + 1)).2 = (restS (κ 0) σ i).2 + 1 := by rw [eR]
                have hlnN : ∀ j : Nat, j < (restS (κ 0) σ (i + 1)).2 → (wr sc3 0 ((restS (κ 0) σ i).2) (nI i)) 0 j = nI ((restS (κ 0) σ (i + 1)).1 j) := by
                  intro j hj
                  rw [eR2] at hj
                  rw [eR]
                  show _ = nI (if j = (restS (κ 0) σ i).2 then i else _)
                  by_cases e : j = (restS (κ 0) σ i).2
                  · rw [if_pos e, e, wr_s]
                  · rw [if_neg e, wr_i e]; exact hlnC j (by omega)
                rw [← eR2] at hl
                exact ih _ _ _ _ (by omega) ⟨i + 1, (wr sc3 0 ((restS (κ 0) σ i).2) (nI i)), rfl, by omega, (fun j hj => (wr_f (by decide)).trans (hplC j hj)), hlnN, hP, hS, lv_sub hl [2, 3, 1, 0] rfl⟩
  · have c_1 : ¬ (κ 0 ≤ i) := fun z => c_1 ((nI_leI (a := κ 0) (b := i) (by omega) (by omega)).mpr z)
    refine lv_aload_n hx hb dX3_lineUp_10 rfl (lv_at hl 0 rfl) ?_
    refine gw_get (C := RX3) (T := TX3) (N := 9) hx hb hL3 hown hK hP 0 0 (cDf (by decide)) rfl rfl 5 (by decide) (hts (.fieldLink RX3 29 "BlockPrograms" "placed" "[Z") (by decide +kernel)) (fun _ h9 => h9) (v := .ref (ad 4 0)) rfl dX3_lineUp_11 ?_
    refine lv_iload_n hx hb dX3_lineUp_14 rfl (lv_at hl 1 rfl) ?_
    refine lv_iconst (v := 0) hx hb dX3_lineUp_15 (by decide) ?_
    refine gw_zast hx hb hK hP hS 4 0 (cDf (by decide)) 1 rfl rfl (i) rfl (by omega) (by decide) rfl dX3_lineUp_16 ((cEn cI cZ cB cS κ σ (wr sc1 1 i 0) ad)) cUs_4 (fun t9 i9 z9 h9 => cU4 _ t9 i9 h9 (by first | exact z9 | simpa [cDm_up] using z9)) (fun H locs hP hS => ?_)
    refine lv_iinc (v := nI (i + 1)) (lv' := [(1, .int (nI (i + 1))), (0, .ref (ad 0 0))]) hx hb dX3_lineUp_17 hl (k := 1) rfl (nI_add i 1) (by decide) rfl (fun ls hl => ?_)
    refine lv_goto (tgt := 2) hx hb dX3_lineUp_20 (by decide) ?_
    exact ih _ _ _ _ (by omega) ⟨i + 1, (wr sc1 1 i 0), rfl, by omega, (lt_s (fun j hj => (wr_i (by omega)).trans (h0 j hj)) wr_s), hP, hS, lv_sub hl [1, 0] rfl⟩

