def hitR (κ : Nat → Nat) (σ : Nat → Nat → Int32) (sv i : Nat) : Bool := decide (i < κ (10 + sv) ∧ σ 30 (40 * sv + i) = σ 0 i)
theorem hit_f {κ : Nat → Nat} {σ : Nat → Nat → Int32} {sv i : Nat} (h : ¬ (i < κ (10 + sv) ∧ σ 30 (40 * sv + i) = σ 0 i)) : hitR κ σ sv i = false := decide_eq_false h
theorem hit_t {κ : Nat → Nat} {σ : Nat → Nat → Int32} {sv i : Nat} (h : i < κ (10 + sv) ∧ σ 30 (40 * sv + i) = σ 0 i) : hitR κ σ sv i = true := decide_eq_true h
def hitS (σ : Nat → Nat → Int32) (sv i : Nat) : Nat → Nat → Int32 := wr (wr (wr σ 4 i (σ 31 (40 * sv + i))) 5 i (σ 32 (40 * sv + i))) 6 i (σ 33 (40 * sv + i))
def backS (κ : Nat → Nat) (σ : Nat → Nat → Int32) (sv i : Nat) : Nat → Nat → Int32 := if hitR κ σ sv i = true then hitS σ sv i else σ
def backI (κ : Nat → Nat) (σ : Nat → Nat → Int32) (sv : Nat) : Nat → (Nat → Nat → Int32) × Nat
  | 0 => (σ, 0)
  | i + 1 => if hitR κ (backI κ σ sv i).1 sv i = true then (hitS (backI κ σ sv i).1 sv i, (backI κ σ sv i).2 + 1) else backI κ σ sv i
theorem back_y {κ : Nat → Nat} {σ : Nat → Nat → Int32} {sv i : Nat} (h : hitR κ (backI κ σ sv i).1 sv i = true) : backI κ σ sv (i + 1) = (hitS (backI κ σ sv i).1 sv i, (backI κ σ sv i).2 + 1) := if_pos h
theorem back_n {κ : Nat → Nat} {σ : Nat → Nat → Int32} {sv i : Nat} (h : hitR κ (backI κ σ sv i).1 sv i = false) : backI κ σ sv (i + 1) = backI κ σ sv i := if_neg (by rw [h]; decide)
theorem back_le (κ : Nat → Nat) (σ : Nat → Nat → Int32) (sv : Nat) : ∀ i, (backI κ σ sv i).2 ≤ i
  | 0 => Nat.le_refl 0
  | i + 1 => by
    have h := back_le κ σ sv i
    unfold backI
    split
    · exact Nat.succ_le_succ h
    · omega
theorem iL_X2_restore_X0 : ∀ w ∈ u_ws RX0 TX0 11, w ∈ wsX2_restore := by decide +kernel
theorem iL_X2_restore_X2 : ∀ w ∈ u_ws RX2 TX2 5, w ∈ wsX2_restore := by decide +kernel
set_option maxHeartbeats 4000000 in
set_option maxRecDepth 100000 in
theorem k_X2_restore {l : Launch} {D : va_G} {cI cZ cB cS : ClassId} {A : Nat → Prop} (κ : Nat → Nat) (σ sc : Nat → Nat → Int32) (ad : Nat → Nat → Nat) (sv i : Nat) (hsv : sv < κ 1) (hi : i < κ 0) (hn : κ 0 ≤ 40) (hq : κ (10 + sv) ≤ 40) : Met l yX2_restore wsX2_restore ({ frames := 0, cells := 0, slots := 0, locals := 0 } : Room) (gPc D cI cZ cB cS A (cDm κ) (cEn cI cZ cB cS κ σ sc ad) ad [.ref (ad 14 sv), .int (nI i), .ref (ad 11 i)]) (va_Qi (fun (r : Int32) (_ : Unit) => r = if hitR κ σ sv i = true then 1 else 0) (fun _ t => gw_P D vwCl A (cDm κ) (cEn cI cZ cB cS κ (backS κ σ sv i) sc ad) ad t.heap) A) 0 0 A := by
  refine Met.ofW (cc := cX2_restore) (maxL := 3) (ret := (some .boolean)) (by decide) rfl ?_
  intro p e s m args below meth c s₁ B hml hv
  obtain ⟨rfl, hP, hE, hA⟩ := hv
  have hx := B.exec
  have hb := B.bytes
  have hr := B.returns
  have hts := atoms_spec (ws := wsX2_restore) B.pre
  have hown : s.vm.findClass RX2 = some m.cls := findClass_of_methodNamed B.named
  have hlocks := B.notSynchronized
  have hK := hE.1
  have hS : va_S A s.heap s.heap [] := va_S.rf
  have hL0 := fun w (hw : w ∈ u_ws RX0 TX0 11) => hts w (iL_X2_restore_X0 w hw)
  have hL2 := fun w (hw : w ∈ u_ws RX2 TX2 5) => hts w (iL_X2_restore_X2 w hw)
  have hl := lv_entry ([.ref (ad 14 sv), .int (nI i), .ref (ad 11 i)]) (n := 3) (Nat.le_of_ble_eq_true rfl)
  rw [lg_entry_eq]
  generalize (lg_sl ([.ref (ad 14 sv), .int (nI i), .ref (ad 11 i)]) ++ List.replicate (3 - (lg_sl ([.ref (ad 14 sv), .int (nI i), .ref (ad 11 i)])).length) Slot.unset).toArray = ls at hl ⊢
  have hl : lv_has ls 3 [(0, .ref (ad 14 sv)), (1, .int (nI i)), (2, .ref (ad 11 i))] := hl
  refine lv_iload_n hx hb dX2_restore_0 rfl (lv_at hl 1 rfl) ?_
  refine lv_if_lt (tgt := 25) hx hb dX2_restore_1 (by decide) (fun c_1 => ?_) (fun c_1 => ?_)
  · have c_1 : i < 0 := (nI_ltI (a := i) (b := 0) (by omega) (by omega)).mp c_1
    exfalso; omega
  · have c_1 : ¬ (i < 0) := fun z => c_1 ((nI_ltI (a := i) (b := 0) (by omega) (by omega)).mpr z)
    refine lv_iload_n hx hb dX2_restore_4 rfl (lv_at hl 1 rfl) ?_
    refine lv_aload_n hx hb dX2_restore_5 rfl (lv_at hl 0 rfl) ?_
    refine gw_get (C := RX2) (T := TX2) (N := 5) hx hb hL2 hown hK hP 14 sv (cDs (by omega) (by decide) (by decide)) rfl rfl 0 (by decide) (hts (.fieldLink RX2 9 "BlockPrograms$Saving" "count" "I") (by decide +kernel)) (fun _ h9 => h9) (v := .int (nI (κ (10 + sv)))) rfl dX2_restore_6 ?_
    refine lv_icmp_ge (tgt := 25) hx hb dX2_restore_9 (by decide) (fun c_2 => ?_) (fun c_2 => ?_)
    · have c_2 : κ (10 + sv) ≤ i := (nI_leI (a := κ (10 + sv)) (b := i) (by omega) (by omega)).mp c_2
      refine lv_iconst (v := 0) hx hb dX2_restore_25 (by decide) ?_
      have hh : hitR κ σ sv i = false := hit_f (fun z => absurd z.1 (by omega))
      have eS : backS κ σ sv i = σ := if_neg (by rw [hh]; decide)
      exact W.zret (v := 0) (ty := .boolean) hx hb hr rfl (fun t ht hW => ⟨⟨0, (), rfl, (by rw [hh]; rfl), by rw [eS]; rw [← ht] at hP; exact hP⟩, hS.F ht⟩) hS.2.2 dX2_restore_26
    · have c_2 : ¬ (κ (10 + sv) ≤ i) := fun z => c_2 ((nI_leI (a := κ (10 + sv)) (b := i) (by omega) (by omega)).mpr z)
      refine lv_aload_n hx hb dX2_restore_12 rfl (lv_at hl 0 rfl) ?_
      refine gw_get (C := RX2) (T := TX2) (N := 5) hx hb hL2 hown hK hP 14 sv (cDs (by omega) (by decide) (by decide)) rfl rfl 1 (by decide) (hts (.fieldLink RX2 15 "BlockPrograms$Saving" "kinds" "[I") (by decide +kernel)) (fun _ h9 => h9) (v := .ref (ad 15 sv)) rfl dX2_restore_13 ?_
      refine lv_iload_n hx hb dX2_restore_16 rfl (lv_at hl 1 rfl) ?_
      refine gw_iald hx hb hK hP 15 sv (cDs (by omega) (by decide) (by decide)) 0 rfl rfl (i) rfl (by omega) (by decide) (v := (σ 30 (40 * sv + i))) (if_pos (by omega)) dX2_restore_17 ?_
      refine lv_aload_n hx hb dX2_restore_18 rfl (lv_at hl 2 rfl) ?_
      refine gw_get (C := RX0) (T := TX0) (N := 11) hx hb hL0 hown hK hP 11 i (cDb (by omega) (by decide) (by decide)) rfl rfl 0 (by decide) (hts (.fieldLink RX2 28 "BlockPrograms$Block" "kind" "I") (by decide +kernel)) (fun _ h9 => h9) (v := .int ((σ 0 i))) rfl dX2_restore_19 ?_
      refine lv_icmp_eq (tgt := 27) hx hb dX2_restore_22 (by decide) (fun c_3 => ?_) (fun c_3 => ?_)
      · refine lv_aload_n hx hb dX2_restore_27 rfl (lv_at hl 2 rfl) ?_
        refine lv_aload_n hx hb dX2_restore_28 rfl (lv_at hl 0 rfl) ?_
        refine gw_get (C := RX2) (T := TX2) (N := 5) hx hb hL2 hown hK hP 14 sv (cDs (by omega) (by decide) (by decide)) rfl rfl 2 (by decide) (hts (.fieldLink RX2 19 "BlockPrograms$Saving" "outputs" "[I") (by decide +kernel)) (fun _ h9 => h9) (v := .ref (ad 16 sv)) rfl dX2_restore_29 ?_
        refine lv_iload_n hx hb dX2_restore_32 rfl (lv_at hl 1 rfl) ?_
        refine gw_iald hx hb hK hP 16 sv (cDs (by omega) (by decide) (by decide)) 0 rfl rfl (i) rfl (by omega) (by decide) (v := (σ 31 (40 * sv + i))) (if_pos (by omega)) dX2_restore_33 ?_
        refine gw_put (ty := .int) (C := RX0) (T := TX0) (N := 11) hx hb hL0 tyX0 tyX0_ok nmX0 hown hK hP hS 11 i (cDb (by omega) (by decide) (by decide)) rfl rfl 4 (by decide) (hts (.fieldLink RX2 33 "BlockPrograms$Block" "output" "I") (by decide +kernel)) (fun _ h9 => h9) rfl (by decide +kernel) rfl rfl (Nat.le_of_ble_eq_true rfl) dX2_restore_34 (cEn cI cZ cB cS κ (wr σ 4 i ((σ 31 (40 * sv + i)))) sc ad) (cU11s_4 _) (fun t9 i9 _ h9 => cU11 (by decide) _ t9 i9 h9) (fun H locs hP hS => ?_)
        refine lv_aload_n hx hb dX2_restore_37 rfl (lv_at hl 2 rfl) ?_
        refine lv_aload_n hx hb dX2_restore_38 rfl (lv_at hl 0 rfl) ?_
        refine gw_get (C := RX2) (T := TX2) (N := 5) hx hb hL2 hown hK hP 14 sv (cDs (by omega) (by decide) (by decide)) rfl rfl 3 (by decide) (hts (.fieldLink RX2 22 "BlockPrograms$Saving" "firsts" "[I") (by decide +kernel)) (fun _ h9 => h9) (v := .ref (ad 17 sv)) rfl dX2_restore_39 ?_
        refine lv_iload_n hx hb dX2_restore_42 rfl (lv_at hl 1 rfl) ?_
        refine gw_iald hx hb hK hP 17 sv (cDs (by omega) (by decide) (by decide)) 0 rfl rfl (i) rfl (by omega) (by decide) (v := (σ 32 (40 * sv + i))) (by rw [if_pos (by omega)]; simp [wr]) dX2_restore_43 ?_
        refine gw_put (ty := .int) (C := RX0) (T := TX0) (N := 11) hx hb hL0 tyX0 tyX0_ok nmX0 hown hK hP hS 11 i (cDb (by omega) (by decide) (by decide)) rfl rfl 5 (by decide) (hts (.fieldLink RX2 36 "BlockPrograms$Block" "first" "I") (by decide +kernel)) (fun _ h9 => h9) rfl (by decide +kernel) rfl rfl (Nat.le_of_ble_eq_true rfl) dX2_restore_44 (cEn cI cZ cB cS κ (wr (wr σ 4 i ((σ 31 (40 * sv + i)))) 5 i ((σ 32 (40 * sv + i)))) sc ad) (cU11s_5 _) (fun t9 i9 _ h9 => cU11 (by decide) _ t9 i9 h9) (fun H locs hP hS => ?_)
        refine lv_aload_n hx hb dX2_restore_47 rfl (lv_at hl 2 rfl) ?_
        refine lv_aload_n hx hb dX2_restore_48 rfl (lv_at hl 0 rfl) ?_
        refine gw_get (C := RX2) (T := TX2) (N := 5) hx hb hL2 hown hK hP 14 sv (cDs (by omega) (by decide) (by decide)) rfl rfl 4 (by decide) (hts (.fieldLink RX2 25 "BlockPrograms$Saving" "seconds" "[I") (by decide +kernel)) (fun _ h9 => h9) (v := .ref (ad 18 sv)) rfl dX2_restore_49 ?_
        refine lv_iload_n hx hb dX2_restore_52 rfl (lv_at hl 1 rfl) ?_
        refine gw_iald hx hb hK hP 18 sv (cDs (by omega) (by decide) (by decide)) 0 rfl rfl (i) rfl (by omega) (by decide) (v := (σ 33 (40 * sv + i))) (by rw [if_pos (by omega)]; simp [wr]) dX2_restore_53 ?_
        refine gw_put (ty := .int) (C := RX0) (T := TX0) (N := 11) hx hb hL0 tyX0 tyX0_ok nmX0 hown hK hP hS 11 i (cDb (by omega) (by decide) (by decide)) rfl rfl 6 (by decide) (hts (.fieldLink RX2 39 "BlockPrograms$Block" "second" "I") (by decide +kernel)) (fun _ h9 => h9) rfl (by decide +kernel) rfl rfl (Nat.le_of_ble_eq_true rfl) dX2_restore_54 (cEn cI cZ cB cS κ (wr (wr (wr σ 4 i ((σ 31 (40 * sv + i)))) 5 i ((σ 32 (40 * sv + i)))) 6 i ((σ 33 (40 * sv + i)))) sc ad) (cU11s_6 _) (fun t9 i9 _ h9 => cU11 (by decide) _ t9 i9 h9) (fun H locs hP hS => ?_)
        refine lv_iconst (v := 1) hx hb dX2_restore_57 (by decide) ?_
        have hh : hitR κ σ sv i = true := hit_t ⟨by omega, c_3⟩
        have eS : backS κ σ sv i = hitS σ sv i := if_pos hh
        have eσ : wr (wr (wr σ 4 i ((σ 31 (40 * sv + i)))) 5 i ((σ 32 (40 * sv + i)))) 6 i ((σ 33 (40 * sv + i))) = hitS σ sv i := by unfold hitS; simp [wr]
        rw [eσ] at hP
        exact W.zret (v := 1) (ty := .boolean) hx hb hr rfl (fun t ht hW => ⟨⟨1, (), rfl, (by rw [hh]; rfl), by rw [eS]; rw [← ht] at hP; exact hP⟩, hS.F ht⟩) hS.2.2 dX2_restore_58
      · refine lv_iconst (v := 0) hx hb dX2_restore_25 (by decide) ?_
        have hh : hitR κ σ sv i = false := hit_f (fun z => c_3 z.2)
        have eS : backS κ σ sv i = σ := if_neg (by rw [hh]; decide)
        exact W.zret (v := 0) (ty := .boolean) hx hb hr rfl (fun t ht hW => ⟨⟨0, (), rfl, (by rw [hh]; rfl), by rw [eS]; rw [← ht] at hP; exact hP⟩, hS.F ht⟩) hS.2.2 dX2_restore_26

theorem iWIA_X3_back : ∀ w ∈ g_wIA, w ∈ wsX3_back := by decide +kernel
theorem iL_X3_back_X3 : ∀ w ∈ u_ws RX3 TX3 9, w ∈ wsX3_back := by decide +kernel
set_option maxHeartbeats 4000000 in
set_option maxRecDepth 100000 in
theorem k_X3_back {l : Launch} {D : va_G} {cI cZ cB cS : ClassId} {A : Nat → Prop} (κ : Nat → Nat) (σ sc : Nat → Nat → Int32) (ad : Nat → Nat → Nat) (hst : l.stackTraces = false) (hn : κ 0 ≤ 40) (h1 : κ 1 ≤ 5) (hs : ∀ j, j < κ 1 → κ (10 + j) ≤ 40) (y0 : Int32) : vx_Met l yX3_back wsX3_back ({ frames := 6, cells := 1, slots := 6, locals := 90 } : Room) (gPc D cI cZ cB cS A (cDm κ) (cEn cI cZ cB cS κ σ sc ad) ad [.ref (ad 0 0), .int y0]) (va_Qi (fun (r : Int32) (_ : Unit) => cOne (κ 1) y0 = 0 ∧ r = nI (backI κ σ y0.toNatClampNeg (κ 0)).2) (fun _ t => gw_P D vwCl A (cDm κ) (cEn cI cZ cB cS κ ((backI κ σ y0.toNatClampNeg (κ 0)).1) sc ad) ad t.heap) A) (vx_X (fun _ : Unit => True) (fun E _ t => gw_P D vwCl A (cDm κ) (cEn cI cZ cB cS κ σ sc ad) ad t.heap ∧ (E = g_IA ∧ cOne (κ 1) y0 = 1)) A) 1 6 A := by
  refine vx_ofW (cc := cX3_back) (maxL := 5) (ret := (some .int)) (by decide) rfl ?_
  intro p e s m args below meth c s₁ B hml htab hv
  obtain ⟨rfl, hP, hE, hA⟩ := hv
  have hx := B.exec
  have hb := B.bytes
  have hr := B.returns
  have hts := atoms_spec (ws := wsX3_back) B.pre
  have hown : s.vm.findClass RX3 = some m.cls := findClass_of_methodNamed B.named
  have hlocks := B.notSynchronized
  have hK := hE.1
  have hS : va_S A s.heap s.heap [] := va_S.rf
  have hL3 := fun w (hw : w ∈ u_ws RX3 TX3 9) => hts w (iL_X3_back_X3 w hw)
  have hl := lv_entry ([.ref (ad 0 0), .int y0]) (n := 5) (Nat.le_of_ble_eq_true rfl)
  rw [lg_entry_eq]
  generalize (lg_sl ([.ref (ad 0 0), .int y0]) ++ List.replicate (5 - (lg_sl ([.ref (ad 0 0), .int y0])).length) Slot.unset).toArray = ls at hl ⊢
  have hl : lv_has ls 5 [(0, .ref (ad 0 0)), (1, .int y0)] := hl
  refine lv_iload_n hx hb dX3_back_0 rfl (lv_at hl 1 rfl) ?_
  refine lv_if_lt (tgt := 12) hx hb dX3_back_1 (by decide) (fun c_1 => ?_) (fun c_1 => ?_)
  · exact gx_IA hx hb hst 158 "no such saving" (by decide) hown (fun w h => hts w (iWIA_X3_back w h)) hE hS (hl.1.trans hml.symm) dX3_back_12 dX3_back_15 dX3_back_16 dX3_back_18 dX3_back_21 htab (Nat.le_of_ble_eq_true rfl) (Nat.le_of_ble_eq_true rfl) (Nat.le_of_ble_eq_true rfl) (Nat.le_of_ble_eq_true rfl) hlocks (fun t8 hv8 hz8 hk8 => ⟨(), trivial, ⟨hP.kept (fun t9 i9 h9 => hk8 _ (hP.lt h9)), ⟨rfl, by unfold cOne; exact if_neg (fun z => z.1 c_1)⟩⟩, ⟨Nat.le_trans hS.1 hz8, fun q h1 h2 => (hk8 q (Nat.lt_of_lt_of_le h1 hS.1)).trans (hS.2.1 q h1 h2)⟩⟩) hS.2.2 (Nat.le_of_ble_eq_true rfl) (Nat.le_of_ble_eq_true rfl)
  · refine lv_iload_n hx hb dX3_back_4 rfl (lv_at hl 1 rfl) ?_
    refine lv_aload_n hx hb dX3_back_5 rfl (lv_at hl 0 rfl) ?_
    refine gw_get (C := RX3) (T := TX3) (N := 9) hx hb hL3 hown hK hP 0 0 (cDf (by decide)) rfl rfl 8 (by decide) (hts (.fieldLink RX3 46 "BlockPrograms" "savingCount" "I") (by decide +kernel)) (fun _ h9 => h9) (v := .int (nI (κ 1))) rfl dX3_back_6 ?_
    refine lv_icmp_lt (tgt := 22) hx hb dX3_back_9 (by decide) (fun c_2 => ?_) (fun c_2 => ?_)
    · obtain ⟨sv, hsv, rfl⟩ := ix_of (n := κ 1) (by omega) c_1 (Int32.not_le.mpr c_2)
      have hq := hs sv hsv
      refine lv_aload_n hx hb dX3_back_22 rfl (lv_at hl 0 rfl) ?_
      refine gw_get (C := RX3) (T := TX3) (N := 9) hx hb hL3 hown hK hP 0 0 (cDf (by decide)) rfl rfl 7 (by decide) (hts (.fieldLink RX3 42 "BlockPrograms" "savings" "[LBlockPrograms$Saving;") (by decide +kernel)) (fun _ h9 => h9) (v := .ref (ad 10 0)) rfl dX3_back_23 ?_
      refine lv_iload_n hx hb dX3_back_26 rfl (lv_at hl 1 rfl) ?_
      refine gw_aald hx hb hK hP 10 0 (cDf (by decide)) 3 rfl rfl (sv) rfl (by omega) (by decide) (a := ad 14 sv) (if_pos (by omega)) dX3_back_27 ?_
      refine lv_astore_n (lv' := [(2, .ref (ad 14 sv)), (0, .ref (ad 0 0)), (1, .int (nI sv))]) hx hb dX3_back_28 rfl hl (by decide) rfl (fun ls hl => ?_)
      refine lv_iconst (v := 0) hx hb dX3_back_29 (by decide) ?_
      refine lv_istore_n (lv' := [(3, .int 0), (2, .ref (ad 14 sv)), (0, .ref (ad 0 0)), (1, .int (nI sv))]) hx hb dX3_back_30 rfl hl (by decide) rfl (fun ls hl => ?_)
      refine lv_iconst (v := 0) hx hb dX3_back_31 (by decide) ?_
      refine lv_istore (lv' := [(4, .int 0), (3, .int 0), (2, .ref (ad 14 sv)), (0, .ref (ad 0 0)), (1, .int (nI sv))]) hx hb dX3_back_32 hl (by decide) rfl (fun ls hl => ?_)
      have hP : gw_P D vwCl A (cDm κ) (cEn cI cZ cB cS κ ((backI κ σ sv 0).1) sc ad) ad _ := hP
      have hl : lv_has ls 5 [(4, .int 0), (3, .int (nI ((backI κ σ sv 0).2))), (2, .ref (ad 14 sv)), (0, .ref (ad 0 0)), (1, .int (nI sv))] := hl
      refine lv_loop (fun kk H locs ls => ∃ i : Nat, kk = (κ 0) - i ∧ i ≤ κ 0 ∧ gw_P D vwCl A (cDm κ) (cEn cI cZ cB cS κ ((backI κ σ sv i).1) sc ad) ad H ∧ va_S A s.heap H locs ∧ lv_has ls 5 [(0, .ref (ad 0 0)), (1, .int (nI sv)), (2, .ref (ad 14 sv)), (3, .int (nI ((backI κ σ sv i).2))), (4, .int (nI i))]) (fun kk H locs ls hI ih => ?_) ((κ 0) - 0) ⟨0, rfl, by omega, hP, hS, lv_sub hl [3, 4, 2, 1, 0] rfl⟩
      obtain ⟨i, hk_34, hi_34, hP, hS, hl⟩ := hI
      refine lv_iload hx hb dX3_back_34 (lv_at hl 4 rfl) ?_
      refine lv_aload_n hx hb dX3_back_36 rfl (lv_at hl 0 rfl) ?_
      refine gw_get (C := RX3) (T := TX3) (N := 9) hx hb hL3 hown hK hP 0 0 (cDf (by decide)) rfl rfl 1 (by decide) (hts (.fieldLink RX3 15 "BlockPrograms" "count" "I") (by decide +kernel)) (fun _ h9 => h9) (v := .int (nI (κ 0))) rfl dX3_back_37 ?_
      refine lv_icmp_ge (tgt := 68) hx hb dX3_back_40 (by decide) (fun c_3 => ?_) (fun c_3 => ?_)
      · have c_3 : κ 0 ≤ i := (nI_leI (a := κ 0) (b := i) (by omega) (by omega)).mp c_3
        refine lv_iload_n hx hb dX3_back_68 rfl (lv_at hl 3 rfl) ?_
        have ei : i = κ 0 := by omega
        rw [ei] at hP
        refine vx_ret ?_
        refine W.widen (k := 1) (n := 6) (Nat.le_of_ble_eq_true rfl) (Nat.le_of_ble_eq_true rfl) ?_
        exact W.iret (v := nI ((backI κ σ sv i).2)) hx hb hr (fun t ht hW => ⟨⟨_, (), rfl, (by rw [nI_clamp (show sv < 2 ^ 31 by omega)]; rw [ei]; exact ⟨if_pos (okI_at hsv (by omega)), rfl⟩), by rw [nI_clamp (show sv < 2 ^ 31 by omega)]; rw [← ht] at hP; exact hP⟩, hS.F ht⟩) hS.2.2 dX3_back_69
      · have c_3 : ¬ (κ 0 ≤ i) := fun z => c_3 ((nI_leI (a := κ 0) (b := i) (by omega) (by omega)).mpr z)
        refine lv_aload_n hx hb dX3_back_43 rfl (lv_at hl 2 rfl) ?_
        refine lv_iload hx hb dX3_back_44 (lv_at hl 4 rfl) ?_
        refine lv_aload_n hx hb dX3_back_46 rfl (lv_at hl 0 rfl) ?_
        refine gw_get (C := RX3) (T := TX3) (N := 9) hx hb hL3 hown hK hP 0 0 (cDf (by decide)) rfl rfl 0 (by decide) (hts (.fieldLink RX3 11 "BlockPrograms" "blocks" "[LBlockPrograms$Block;") (by decide +kernel)) (fun _ h9 => h9) (v := .ref (ad 1 0)) rfl dX3_back_47 ?_
        refine lv_iload hx hb dX3_back_50 (lv_at hl 4 rfl) ?_
        refine gw_aald hx hb hK hP 1 0 (cDf (by decide)) 2 rfl rfl (i) rfl (by omega) (by decide) (a := ad 11 i) (if_pos (by omega)) dX3_back_52 ?_
        refine va_calli (va_runV (As := [.int (nI i), .ref (ad 11 i)]) (rest := []) ⟨hx, hb, hml, hown, hts⟩ (k_X2_restore (l := l) (D := D) (cI := cI) (cZ := cZ) (cB := cB) (cS := cS) (A := A) κ (backI κ σ sv i).1 sc ad sv i hsv (by omega) hn hq) (cwV 2 hts gX3_back_X2_restore rfl rfl rfl (by decide +kernel) ⟨Nat.le_of_ble_eq_true rfl, Nat.le_of_ble_eq_true rfl⟩) (gPreV hE hA hS hP (gw_recv hK hP 14 sv (cDs (by omega) (by decide) (by decide)) rfl rfl)) rfl rfl hl.1 rfl (lv_room (Nat.le_of_ble_eq_true rfl)) dX3_back_53 ⟨Nat.le_of_ble_eq_true rfl, Nat.le_of_ble_eq_true rfl⟩) hS (fun q _ h9 => h9) (fun q h9 => h9) (fun r_4 u9 t9 H locs ht9 hvm9 hw_r_4 hB9 hz9 hk9 hS => ?_)
        have hP : gw_P D vwCl A (cDm κ) (cEn cI cZ cB cS κ (backS κ (backI κ σ sv i).1 sv i) sc ad) ad H := by rw [← ht9]; exact hB9
        refine lv_toq ((if hitR κ (backI κ σ sv i).1 sv i = true then 1 else 0)) hw_r_4 ?_
        refine lv_if_eq (tgt := 62) hx hb dX3_back_56 (by decide) (fun c_5 => ?_) (fun c_5 => ?_)
        · refine lv_iinc (v := nI (i + 1)) (lv' := [(4, .int (nI (i + 1))), (0, .ref (ad 0 0)), (1, .int (nI sv)), (2, .ref (ad 14 sv)), (3, .int (nI ((backI κ σ sv i).2)))]) hx hb dX3_back_62 hl (k := 4) rfl (nI_add i 1) (by decide) rfl (fun ls hl => ?_)
          refine lv_goto (tgt := 34) hx hb dX3_back_65 (by decide) ?_
          have e1 : (backI κ σ sv (i + 1)) = (backI κ σ sv i) := back_n (lk_f c_5)
          have e2 : backS κ (backI κ σ sv i).1 sv i = (backI κ σ sv (i + 1)).1 := by rw [e1]; exact if_neg (by rw [lk_f c_5]; decide)
          have e3 : (backI κ σ sv i).2 = (backI κ σ sv (i + 1)).2 := by rw [e1]
          rw [e2] at hP
          rw [e3] at hl
          exact ih _ _ _ _ (by omega) ⟨i + 1, rfl, by omega, hP, hS, lv_sub hl [1, 2, 3, 4, 0] rfl⟩
        · refine lv_iinc (v := nI ((backI κ σ sv i).2 + 1)) (lv' := [(3, .int (nI ((backI κ σ sv i).2 + 1))), (0, .ref (ad 0 0)), (1, .int (nI sv)), (2, .ref (ad 14 sv)), (4, .int (nI i))]) hx hb dX3_back_59 hl (k := 3) rfl (nI_add ((backI κ σ sv i).2) 1) (by decide) rfl (fun ls hl => ?_)
          refine lv_iinc (v := nI (i + 1)) (lv' := [(4, .int (nI (i + 1))), (3, .int (nI ((backI κ σ sv i).2 + 1))), (0, .ref (ad 0 0)), (1, .int (nI sv)), (2, .ref (ad 14 sv))]) hx hb dX3_back_62 hl (k := 4) rfl (nI_add i 1) (by decide) rfl (fun ls hl => ?_)
          refine lv_goto (tgt := 34) hx hb dX3_back_65 (by decide) ?_
          have e1 : (backI κ σ sv (i + 1)) = (hitS (backI κ σ sv i).1 sv i, (backI κ σ sv i).2 + 1) := back_y (lk_t c_5)
          have e2 : backS κ (backI κ σ sv i).1 sv i = (backI κ σ sv (i + 1)).1 := by rw [e1]; exact if_pos (lk_t c_5)
          have e3 : (backI κ σ sv i).2 + 1 = (backI κ σ sv (i + 1)).2 := by rw [e1]
          rw [e2] at hP
          rw [e3] at hl
          exact ih _ _ _ _ (by omega) ⟨i + 1, rfl, by omega, hP, hS, lv_sub hl [2, 3, 4, 1, 0] rfl⟩
    · exact gx_IA hx hb hst 158 "no such saving" (by decide) hown (fun w h => hts w (iWIA_X3_back w h)) hE hS (hl.1.trans hml.symm) dX3_back_12 dX3_back_15 dX3_back_16 dX3_back_18 dX3_back_21 htab (Nat.le_of_ble_eq_true rfl) (Nat.le_of_ble_eq_true rfl) (Nat.le_of_ble_eq_true rfl) (Nat.le_of_ble_eq_true rfl) hlocks (fun t8 hv8 hz8 hk8 => ⟨(), trivial, ⟨hP.kept (fun t9 i9 h9 => hk8 _ (hP.lt h9)), ⟨rfl, by unfold cOne; exact if_neg (fun z => z.2 (Int32.not_lt.mp c_2))⟩⟩, ⟨Nat.le_trans hS.1 hz8, fun q h1 h2 => (hk8 q (Nat.lt_of_lt_of_le h1 hS.1)).trans (hS.2.1 q h1 h2)⟩⟩) hS.2.2 (Nat.le_of_ble_eq_true rfl) (Nat.le_of_ble_eq_true rfl)

