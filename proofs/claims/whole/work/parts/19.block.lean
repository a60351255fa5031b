theorem iWIS_X3_block : ∀ w ∈ g_wIS, w ∈ wsX3_block := by decide +kernel
theorem iL_X3_block_X3 : ∀ w ∈ u_ws RX3 TX3 9, w ∈ wsX3_block := by decide +kernel
set_option maxHeartbeats 4000000 in
set_option maxRecDepth 100000 in
theorem k_X3_block {l : Launch} {D : va_G} {cI cZ cB cS : ClassId} {A : Nat → Prop} (κ : Nat → Nat) (σ sc : Nat → Nat → Int32) (ad : Nat → Nat → Nat) (hst : l.stackTraces = false) (hn : κ 0 ≤ 40) (hz8 : ∀ f, 1 ≤ f → f ≤ 8 → σ f (κ 0) = 0) (hz10 : ∀ k, k < 8 → σ 10 (8 * κ 0 + k) = 0) (y0 : Int32) : vx_Met l yX3_block wsX3_block ({ frames := 7, cells := 4, slots := 28, locals := 110 } : Room) (gPc D cI cZ cB cS A (cDm κ) (cEn cI cZ cB cS κ σ sc ad) ad [.ref (ad 0 0), .int y0]) (va_Qi (fun (r : Int32) (u : Nat → Nat → Nat) => cBlock κ y0 = 0 ∧ r = nI (κ 0) ∧ u 0 0 = ad 0 0) (fun u t => gw_P D vwCl A (cDm (va_up κ 0 (κ 0 + 1))) (cEn cI cZ cB cS (va_up κ 0 (κ 0 + 1)) (sBlock κ σ y0) sc u) u t.heap) A) (vx_X (fun _ : Unit => True) (fun E _ t => gw_P D vwCl A (cDm κ) (cEn cI cZ cB cS κ σ sc ad) ad t.heap ∧ ((E = g_IA ∧ cBlock κ y0 = 1) ∨ (E = g_IS ∧ cBlock κ y0 = 2))) A) 4 28 A := by
  refine vx_ofW (cc := cX3_block) (maxL := 2) (ret := (some .int)) (by decide) rfl ?_
  intro p e s m args below meth c s₁ B hml htab hv
  obtain ⟨rfl, hP, hE, hA⟩ := hv
  have hx := B.exec
  have hb := B.bytes
  have hr := B.returns
  have hts := atoms_spec (ws := wsX3_block) B.pre
  have hown : s.vm.findClass RX3 = some m.cls := findClass_of_methodNamed B.named
  have hlocks := B.notSynchronized
  have hK := hE.1
  have hS : va_S A s.heap s.heap [] := va_S.rf
  have hL3 := fun w (hw : w ∈ u_ws RX3 TX3 9) => hts w (iL_X3_block_X3 w hw)
  have hl := lv_entry ([.ref (ad 0 0), .int y0]) (n := 2) (Nat.le_of_ble_eq_true rfl)
  rw [lg_entry_eq]
  generalize (lg_sl ([.ref (ad 0 0), .int y0]) ++ List.replicate (2 - (lg_sl ([.ref (ad 0 0), .int y0])).length) Slot.unset).toArray = ls at hl ⊢
  have hl : lv_has ls 2 [(0, .ref (ad 0 0)), (1, .int y0)] := hl
  refine lv_iload_n hx hb dX3_block_0 rfl (lv_at hl 1 rfl) ?_
  refine vx_callv (vx_runS (As := [.int y0]) (rest := []) ⟨hx, hb, hml, hown, hts⟩ (k_X3_requireKind (l := l) (D := D) (cI := cI) (cZ := cZ) (cB := cB) (cS := cS) (A := A) κ σ sc ad hst y0) (va_cwS 1 hts gX3_block_X3_requireKind rfl rfl rfl (by decide +kernel) ⟨Nat.le_of_ble_eq_true rfl, Nat.le_of_ble_eq_true rfl⟩) (gPreS hE hA hS hP) rfl rfl hl.1 rfl (lv_room (Nat.le_of_ble_eq_true rfl)) dX3_block_1 ⟨Nat.le_of_ble_eq_true rfl, Nat.le_of_ble_eq_true rfl⟩) hS (fun q _ h9 => h9) (fun q h9 => h9) (fun q _ h9 => h9) (fun E9 ce9 q9 u9 t9 H9 locs9 ht9 hv9 hp9 hB9 hz9 hk9 hS9 hce9 hcv9 hcl9 => vx_out (fun x h9 => (htab x h9).elim) hlocks hce9 hcv9 hcl9 (fun t8 ht8 hv8 => ⟨(), trivial, ⟨by rw [ht8, ← ht9]; exact hB9.1, Or.inl ⟨hB9.2.1, by unfold cBlock; exact if_neg hB9.2.2⟩⟩, hS9.F ht8⟩) hS9.2.2 (Nat.le_of_ble_eq_true rfl) (Nat.le_of_ble_eq_true rfl)) (fun u9 t9 H locs ht9 hvm9 hok9 hB9 hz9 hk9 hS => ?_)
  have hP : gw_P D vwCl A (cDm κ) (cEn cI cZ cB cS κ σ sc ad) ad H := by rw [← ht9]; exact hB9
  refine lv_aload_n hx hb dX3_block_4 rfl (lv_at hl 0 rfl) ?_
  refine gw_get (C := RX3) (T := TX3) (N := 9) hx hb hL3 hown hK hP 0 0 (cDf (by decide)) rfl rfl 1 (by decide) (hts (.fieldLink RX3 15 "BlockPrograms" "count" "I") (by decide +kernel)) (fun _ h9 => h9) (v := .int (nI (κ 0))) rfl dX3_block_5 ?_
  refine lv_bipush (v := 40) hx hb dX3_block_8 (by decide) ?_
  refine lv_icmp_lt (tgt := 23) hx hb dX3_block_10 (by decide) (fun c_1 => ?_) (fun c_1 => ?_)
  · have c_1 : κ 0 < 40 := (nI_ltI (a := κ 0) (b := 40) (by omega) (by omega)).mp c_1
    refine lv_aload_n hx hb dX3_block_23 rfl (lv_at hl 0 rfl) ?_
    refine gw_get (C := RX3) (T := TX3) (N := 9) hx hb hL3 hown hK hP 0 0 (cDf (by decide)) rfl rfl 0 (by decide) (hts (.fieldLink RX3 11 "BlockPrograms" "blocks" "[LBlockPrograms$Block;") (by decide +kernel)) (fun _ h9 => h9) (v := .ref (ad 1 0)) rfl dX3_block_24 ?_
    refine lv_aload_n hx hb dX3_block_27 rfl (lv_at hl 0 rfl) ?_
    refine gw_get (C := RX3) (T := TX3) (N := 9) hx hb hL3 hown hK hP 0 0 (cDf (by decide)) rfl rfl 1 (by decide) (hts (.fieldLink RX3 15 "BlockPrograms" "count" "I") (by decide +kernel)) (fun _ h9 => h9) (v := .int (nI (κ 0))) rfl dX3_block_28 ?_
    have hbA : ∀ q : Nat, H.size ≤ q → A q := fun q hq => hA q (Nat.le_trans hS.1 hq)
    refine gl_new (ci := 0) (fs := [.int 0, .int 0, .int 0, .int 0, .int 0, .int 0, .int 0, .int 0, .int 0, .null, .null]) (C := RX0) (T := TX0) (N := 11) hx hb hts (by decide +kernel) tyX0 tyX0_ok hown (hts (.classLink RX3 9 RX0) (by decide +kernel)) (hts (.instantiable RX0 11) (by decide +kernel)) (hts (.initialized RX0) (by decide +kernel)) hK hS rfl (fun j hj => by rcases (show j = 0 ∨ j = 1 ∨ j = 2 ∨ j = 3 ∨ j = 4 ∨ j = 5 ∨ j = 6 ∨ j = 7 ∨ j = 8 ∨ j = 9 ∨ j = 10 by omega) with rfl | rfl | rfl | rfl | rfl | rfl | rfl | rfl | rfl | rfl | rfl <;> rfl) (Nat.le_of_ble_eq_true rfl) (Nat.le_of_ble_eq_true rfl) dX3_block_31 (fun H1 hN1 hk1 hz1 hS => ?_)
    have hlt : ∀ t i : Nat, i < cDm κ t → ad t i < H.size := fun t i h => hP.lt h
    have hP : gw_P D vwCl A (cDm κ) (cEn cI cZ cB cS κ σ sc ad) ad H1 := hP.kept (fun t i h => hk1 _ (hlt t i h))
    obtain ⟨b, eqb⟩ : ∃ z, z = H.size := ⟨_, rfl⟩
    rw [← eqb] at hN1 hk1 hz1 hlt hbA ⊢
    refine lv_dup hx hb dX3_block_34 rfl ?_
    refine lv_iload_n hx hb dX3_block_35 rfl (lv_at hl 1 rfl) ?_
    refine va_callv (va_runI (As := [.int y0]) (rest := [.ref b, .int (nI (κ 0)), .ref (ad 1 0)]) ⟨hx, hb, hml, hown, hts⟩ (k_X0_init (l := l) (D := D) (cI := cI) (cZ := cZ) (cB := cB) (cS := cS) b y0) (cwI 1 hts gX3_block_X0_init rfl rfl rfl (hts (.initialized RX0) (by decide +kernel)) (hts (.methodLink RX3 60 yX0_init) (by decide +kernel)) (hts (.instanceMethod yX0_init) (by decide +kernel)) rfl (by decide +kernel) ⟨Nat.le_of_ble_eq_true rfl, Nat.le_of_ble_eq_true rfl⟩) (gPreI hE hS hN1 hbA) rfl rfl hl.1 rfl (lv_room (Nat.le_of_ble_eq_true rfl)) dX3_block_36 ⟨Nat.le_of_ble_eq_true rfl, Nat.le_of_ble_eq_true rfl⟩) hS (fun q _ h9 => hbA q h9) (fun q h9 => hbA q h9) (fun u t H2 locs ht hvm hw hB9 hz2 hk2 hS => ?_)
    obtain ⟨hPn, hDn⟩ := hB9
    rw [ht] at hPn
    have hP : gw_P D vwCl A (cDm κ) (cEn cI cZ cB cS κ σ sc ad) ad H2 := hP.kept (fun t i h => hk2 _ (by rw [hz1]; exact Nat.lt_succ_of_lt (hlt t i h)) (Nat.not_le.mpr (hlt t i h)))
    refine gw_aast hx hb hK hP hS 1 rfl 2 rfl rfl (hPn 0 _ rfl) rfl (κ 0) rfl (by omega) (by decide) dX3_block_39 (fun H locs hP hq3 hS => ?_)
    have hPn : va_P D vwCl (blk0 b (u 1) (u 2) cI y0) H := va_P.keep hPn (fun k x hk => hq3 _ (Nat.ne_of_gt (Nat.lt_of_lt_of_le (hlt 1 0 (cDf (by decide))) (hDn.2 k x hk))))
    have hP := cGrowB hz8 hz10 hP hPn hDn hlt hbA
    refine lv_aload_n hx hb dX3_block_40 rfl (lv_at hl 0 rfl) ?_
    refine lv_dup hx hb dX3_block_41 rfl ?_
    refine gw_get (C := RX3) (T := TX3) (N := 9) hx hb hL3 hown hK hP 0 0 (cDf (by decide)) rfl rfl 1 (by decide) (hts (.fieldLink RX3 15 "BlockPrograms" "count" "I") (by decide +kernel)) (fun _ h9 => h9) (v := .int (nI (κ 0))) rfl dX3_block_42 ?_
    refine lv_iconst (v := 1) hx hb dX3_block_45 (by decide) ?_
    refine lv_iadd hx hb dX3_block_46 ?_
    refine lv_toq (nI (κ 0 + 1)) (nI_add (κ 0) 1) ?_
    refine gw_put (ty := .int) (C := RX3) (T := TX3) (N := 9) hx hb hL3 tyX3 tyX3_ok nmX3 hown hK hP hS 0 0 (cDf (by decide)) rfl rfl 1 (by decide) (hts (.fieldLink RX3 15 "BlockPrograms" "count" "I") (by decide +kernel)) (fun _ h9 => h9) rfl (by decide +kernel) rfl rfl (Nat.le_of_ble_eq_true rfl) dX3_block_47 (cEn cI cZ cB cS ((va_up κ 0 (κ 0 + 1))) ((sBlock κ σ y0)) sc (adB ad (κ 0) b (u 1) (u 2))) rfl (fun t9 i9 z9 h9 => (ovr_n (fun q => h9 ⟨q, by subst q; exact Nat.lt_one_iff.mp z9⟩)).symm) (fun H locs hP hS => ?_)
    refine lv_aload_n hx hb dX3_block_50 rfl (lv_at hl 0 rfl) ?_
    refine gw_get (C := RX3) (T := TX3) (N := 9) hx hb hL3 hown hK hP 0 0 (cDf (by decide)) rfl rfl 1 (by decide) (hts (.fieldLink RX3 15 "BlockPrograms" "count" "I") (by decide +kernel)) (fun _ h9 => h9) (v := .int (nI (κ 0 + 1))) (congrArg (fun z : Nat => some (Value.int (nI z))) (va_up_self _ _ _)) dX3_block_51 ?_
    refine lv_iconst (v := 1) hx hb dX3_block_54 (by decide) ?_
    refine lv_isub hx hb dX3_block_55 ?_
    refine lv_toq (nI (κ 0 + 1 - 1)) (pk_sub (a := κ 0 + 1) (b := 1) (by omega)) ?_
    refine vx_ret ?_
    refine W.widen (k := 4) (n := 28) (Nat.le_of_ble_eq_true rfl) (Nat.le_of_ble_eq_true rfl) ?_
    exact W.iret (v := nI (κ 0 + 1 - 1)) hx hb hr (fun t ht hW => ⟨⟨_, (adB ad (κ 0) b (u 1) (u 2)), rfl, ⟨by unfold cBlock; rw [if_pos hok9, if_neg (by omega)], by rw [Nat.add_sub_cancel], rfl⟩, by rw [← ht] at hP; exact hP⟩, hS.F ht⟩) hS.2.2 dX3_block_56
  · have c_1 : ¬ (κ 0 < 40) := fun z => c_1 ((nI_ltI (a := κ 0) (b := 40) (by omega) (by omega)).mpr z)
    exact gx_IS hx hb hst 55 "there are 40 blocks" (by decide) hown (fun w h => hts w (iWIS_X3_block w h)) hE hS (hl.1.trans hml.symm) dX3_block_13 dX3_block_16 dX3_block_17 dX3_block_19 dX3_block_22 htab (Nat.le_of_ble_eq_true rfl) (Nat.le_of_ble_eq_true rfl) (Nat.le_of_ble_eq_true rfl) (Nat.le_of_ble_eq_true rfl) hlocks (fun t8 hv8 hz8 hk8 => ⟨(), trivial, ⟨hP.kept (fun t9 i9 h9 => hk8 _ (hP.lt h9)), Or.inr ⟨rfl, by unfold cBlock; rw [if_pos hok9]; exact if_pos (by omega)⟩⟩, ⟨Nat.le_trans hS.1 hz8, fun q h1 h2 => (hk8 q (Nat.lt_of_lt_of_le h1 hS.1)).trans (hS.2.1 q h1 h2)⟩⟩) hS.2.2 (Nat.le_of_ble_eq_true rfl) (Nat.le_of_ble_eq_true rfl)

