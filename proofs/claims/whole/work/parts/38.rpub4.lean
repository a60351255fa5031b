theorem kept_no {κ : Nat → Nat} {y : Int32} (h2 : κ 2 < 2 ^ 31) (h : okI (keptN κ) y) : ¬ nI (κ 2) ≤ y ∧ ¬ nI 32 ≤ y := by
  have hk : keptN κ ≤ κ 2 ∧ keptN κ ≤ 32 := by unfold keptN; split <;> omega
  obtain ⟨j, hj, rfl⟩ := ix_of (n := keptN κ) (by omega) h.1 h.2
  exact ⟨nI_ge (by omega) h2, nI_ge (by omega) (by decide)⟩
theorem slot_eq {κ : Nat → Nat} {j : Nat} (h : j < κ 2) (h2 : j < 32) : slotF κ j = (κ 2 - 1 - j) % 32 := by
  unfold slotF
  omega
theorem svK_r {κ : Nat → Nat} {i : Nat} : va_up (va_up κ (10 + κ 1) i) 1 (κ 1 + 1) = svK κ i := by
  funext k
  unfold svK
  by_cases h1 : k = 1
  · subst h1
    rw [va_up_self, va_up_ne _ _ (by omega), va_up_self]
  · rw [va_up_ne _ _ h1]
    by_cases h2 : k = 10 + κ 1
    · subst h2
      rw [va_up_self, va_up_self]
    · rw [va_up_ne _ _ h2, va_up_ne _ _ h2, va_up_ne _ _ h1]
theorem back_stop {κ : Nat → Nat} {σ : Nat → Nat → Int32} {sv : Nat} : ∀ d, backI κ σ sv (κ (10 + sv) + d) = backI κ σ sv (κ (10 + sv))
  | 0 => rfl
  | d + 1 => (back_n (hit_f (fun z => absurd z.1 (Nat.not_lt.mpr (Nat.le_add_right _ _))))).trans (back_stop d)
theorem back_end {κ : Nat → Nat} {σ : Nat → Nat → Int32} {sv n : Nat} (h : κ (10 + sv) ≤ n) : backI κ σ sv n = backI κ σ sv (κ (10 + sv)) := by
  have z := back_stop (κ := κ) (σ := σ) (sv := sv) (n - κ (10 + sv))
  rwa [show κ (10 + sv) + (n - κ (10 + sv)) = n by omega] at z
theorem iL_X4_failure_X4 : ∀ w ∈ u_ws RX4 TX4 25, w ∈ wsX4_failure := by decide +kernel
set_option maxHeartbeats 4000000 in
set_option maxRecDepth 100000 in
theorem k_X4_failure {l : Launch} {D : va_G} {cI cZ cB cS : ClassId} {A : Nat → Prop} (κ : Nat → Nat) (σ sc : Nat → Nat → Int32) (ad : Nat → Nat → Nat) (h2 : κ 2 < 2 ^ 31) (y0 y1 : Int32) : Met l yX4_failure wsX4_failure ({ frames := 1, cells := 0, slots := 0, locals := 22 } : Room) (gPc D cI cZ cB cS A rDm (rEn cI cZ κ σ sc ad) ad [.ref (ad 0 0), .int y0, .int y1]) (va_Qi (fun (r : Int32) (u : Nat → Nat → Int32) => u 2 0 = nI (cFact κ y0 y1) ∧ (cFact κ y0 y1 = 0 → r = σ (23 + y1.toNatClampNeg) (slotF κ y0.toNatClampNeg))) (fun u t => gw_P D vwCl A rDm (rEn cI cZ κ σ u ad) ad t.heap) A) 0 0 A := by
  refine Met.ofW (cc := cX4_failure) (maxL := 3) (ret := (some .int)) (by decide) rfl ?_
  intro p e s m args below meth c s₁ B hml hv
  obtain ⟨rfl, hP, hE, hA⟩ := hv
  have hx := B.exec
  have hb := B.bytes
  have hr := B.returns
  have hts := atoms_spec (ws := wsX4_failure) B.pre
  have hown : s.vm.findClass RX4 = some m.cls := findClass_of_methodNamed B.named
  have hlocks := B.notSynchronized
  have hK := hE.1
  have hS : va_S A s.heap s.heap [] := va_S.rf
  have hL4 := fun w (hw : w ∈ u_ws RX4 TX4 25) => hts w (iL_X4_failure_X4 w hw)
  have hl := lv_entry ([.ref (ad 0 0), .int y0, .int y1]) (n := 3) (Nat.le_of_ble_eq_true rfl)
  rw [lg_entry_eq]
  generalize (lg_sl ([.ref (ad 0 0), .int y0, .int y1]) ++ List.replicate (3 - (lg_sl ([.ref (ad 0 0), .int y0, .int y1])).length) Slot.unset).toArray = ls at hl ⊢
  have hl : lv_has ls 3 [(0, .ref (ad 0 0)), (1, .int y0), (2, .int y1)] := hl
  refine lv_aload_n hx hb dX4_failure_0 rfl (lv_at hl 0 rfl) ?_
  refine lv_iload_n hx hb dX4_failure_1 rfl (lv_at hl 1 rfl) ?_
  refine lv_if_lt (tgt := 32) hx hb dX4_failure_2 (by decide) (fun c_1 => ?_) (fun c_1 => ?_)
  · refine lv_iconst (v := 1) hx hb dX4_failure_32 (by decide) ?_
    refine gw_put (ty := .int) (C := RX4) (T := TX4) (N := 25) hx hb hL4 tyX4 tyX4_ok nmX4 hown hK hP hS 0 0 (rDf (by decide)) rfl rfl 0 (by decide) (hts (.fieldLink RX4 65 "BlockProgramsModel" "code" "I") (by decide +kernel)) (fun _ h9 => h9) rfl (by decide +kernel) rfl rfl (Nat.le_of_ble_eq_true rfl) dX4_failure_33 (rEn cI cZ κ σ (wr sc 2 0 1) ad) (rU0s_0 _) (fun t9 i9 z9 h9 => rU0 _ _ t9 i9 h9 z9) (fun H locs hP hS => ?_)
    refine lv_aload_n hx hb dX4_failure_36 rfl (lv_at hl 0 rfl) ?_
    refine gw_get (C := RX4) (T := TX4) (N := 25) hx hb hL4 hown hK hP 0 0 (rDf (by decide)) rfl rfl 0 (by decide) (hts (.fieldLink RX4 65 "BlockProgramsModel" "code" "I") (by decide +kernel)) (fun _ h9 => h9) (v := .int 1) (by simp [wr, va_up]) dX4_failure_37 ?_
    refine lv_if_le (tgt := 47) hx hb dX4_failure_40 (by decide) (fun c_2 => ?_) (fun c_2 => ?_)
    · have c_2 : 1 ≤ 0 := (nI_leI (a := 1) (b := 0) (by omega) (by omega)).mp c_2
      exfalso; omega
    · have c_2 : ¬ (1 ≤ 0) := fun z => c_2 ((nI_leI (a := 1) (b := 0) (by omega) (by omega)).mpr z)
      refine lv_iconst (v := 0) hx hb dX4_failure_43 (by decide) ?_
      refine lv_goto (tgt := 67) hx hb dX4_failure_44 (by decide) ?_
      have hcr : cFact κ y0 y1 = 1 := if_neg (fun z => z.1.1 c_1)
      exact W.iret (v := 0) hx hb hr (fun t ht hW => ⟨⟨0, wr sc 2 0 1, rfl, ⟨by rw [hcr]; exact wr_s, fun z => absurd (hcr.symm.trans z) (by decide)⟩, by rw [← ht] at hP; exact hP⟩, hS.F ht⟩) hS.2.2 dX4_failure_67
  · refine lv_iload_n hx hb dX4_failure_5 rfl (lv_at hl 1 rfl) ?_
    refine lv_aload_n hx hb dX4_failure_6 rfl (lv_at hl 0 rfl) ?_
    refine gw_get (C := RX4) (T := TX4) (N := 25) hx hb hL4 hown hK hP 0 0 (rDf (by decide)) rfl rfl 19 (by decide) (hts (.fieldLink RX4 116 "BlockProgramsModel" "last" "I") (by decide +kernel)) (fun _ h9 => h9) (v := .int (nI (κ 2))) rfl dX4_failure_7 ?_
    refine lv_icmp_ge (tgt := 32) hx hb dX4_failure_10 (by decide) (fun c_3 => ?_) (fun c_3 => ?_)
    · refine lv_iconst (v := 1) hx hb dX4_failure_32 (by decide) ?_
      refine gw_put (ty := .int) (C := RX4) (T := TX4) (N := 25) hx hb hL4 tyX4 tyX4_ok nmX4 hown hK hP hS 0 0 (rDf (by decide)) rfl rfl 0 (by decide) (hts (.fieldLink RX4 65 "BlockProgramsModel" "code" "I") (by decide +kernel)) (fun _ h9 => h9) rfl (by decide +kernel) rfl rfl (Nat.le_of_ble_eq_true rfl) dX4_failure_33 (rEn cI cZ κ σ (wr sc 2 0 1) ad) (rU0s_0 _) (fun t9 i9 z9 h9 => rU0 _ _ t9 i9 h9 z9) (fun H locs hP hS => ?_)
      refine lv_aload_n hx hb dX4_failure_36 rfl (lv_at hl 0 rfl) ?_
      refine gw_get (C := RX4) (T := TX4) (N := 25) hx hb hL4 hown hK hP 0 0 (rDf (by decide)) rfl rfl 0 (by decide) (hts (.fieldLink RX4 65 "BlockProgramsModel" "code" "I") (by decide +kernel)) (fun _ h9 => h9) (v := .int 1) (by simp [wr, va_up]) dX4_failure_37 ?_
      refine lv_if_le (tgt := 47) hx hb dX4_failure_40 (by decide) (fun c_4 => ?_) (fun c_4 => ?_)
      · have c_4 : 1 ≤ 0 := (nI_leI (a := 1) (b := 0) (by omega) (by omega)).mp c_4
        exfalso; omega
      · have c_4 : ¬ (1 ≤ 0) := fun z => c_4 ((nI_leI (a := 1) (b := 0) (by omega) (by omega)).mpr z)
        refine lv_iconst (v := 0) hx hb dX4_failure_43 (by decide) ?_
        refine lv_goto (tgt := 67) hx hb dX4_failure_44 (by decide) ?_
        have hcr : cFact κ y0 y1 = 1 := if_neg (fun z => (kept_no h2 z.1).1 c_3)
        exact W.iret (v := 0) hx hb hr (fun t ht hW => ⟨⟨0, wr sc 2 0 1, rfl, ⟨by rw [hcr]; exact wr_s, fun z => absurd (hcr.symm.trans z) (by decide)⟩, by rw [← ht] at hP; exact hP⟩, hS.F ht⟩) hS.2.2 dX4_failure_67
    · refine lv_iload_n hx hb dX4_failure_13 rfl (lv_at hl 1 rfl) ?_
      refine lv_bipush (v := 32) hx hb dX4_failure_14 (by decide) ?_
      refine lv_icmp_ge (tgt := 32) hx hb dX4_failure_16 (by decide) (fun c_5 => ?_) (fun c_5 => ?_)
      · refine lv_iconst (v := 1) hx hb dX4_failure_32 (by decide) ?_
        refine gw_put (ty := .int) (C := RX4) (T := TX4) (N := 25) hx hb hL4 tyX4 tyX4_ok nmX4 hown hK hP hS 0 0 (rDf (by decide)) rfl rfl 0 (by decide) (hts (.fieldLink RX4 65 "BlockProgramsModel" "code" "I") (by decide +kernel)) (fun _ h9 => h9) rfl (by decide +kernel) rfl rfl (Nat.le_of_ble_eq_true rfl) dX4_failure_33 (rEn cI cZ κ σ (wr sc 2 0 1) ad) (rU0s_0 _) (fun t9 i9 z9 h9 => rU0 _ _ t9 i9 h9 z9) (fun H locs hP hS => ?_)
        refine lv_aload_n hx hb dX4_failure_36 rfl (lv_at hl 0 rfl) ?_
        refine gw_get (C := RX4) (T := TX4) (N := 25) hx hb hL4 hown hK hP 0 0 (rDf (by decide)) rfl rfl 0 (by decide) (hts (.fieldLink RX4 65 "BlockProgramsModel" "code" "I") (by decide +kernel)) (fun _ h9 => h9) (v := .int 1) (by simp [wr, va_up]) dX4_failure_37 ?_
        refine lv_if_le (tgt := 47) hx hb dX4_failure_40 (by decide) (fun c_6 => ?_) (fun c_6 => ?_)
        · have c_6 : 1 ≤ 0 := (nI_leI (a := 1) (b := 0) (by omega) (by omega)).mp c_6
          exfalso; omega
        · have c_6 : ¬ (1 ≤ 0) := fun z => c_6 ((nI_leI (a := 1) (b := 0) (by omega) (by omega)).mpr z)
          refine lv_iconst (v := 0) hx hb dX4_failure_43 (by decide) ?_
          refine lv_goto (tgt := 67) hx hb dX4_failure_44 (by decide) ?_
          have hcr : cFact κ y0 y1 = 1 := if_neg (fun z => (kept_no h2 z.1).2 c_5)
          exact W.iret (v := 0) hx hb hr (fun t ht hW => ⟨⟨0, wr sc 2 0 1, rfl, ⟨by rw [hcr]; exact wr_s, fun z => absurd (hcr.symm.trans z) (by decide)⟩, by rw [← ht] at hP; exact hP⟩, hS.F ht⟩) hS.2.2 dX4_failure_67
      · refine lv_iload_n hx hb dX4_failure_19 rfl (lv_at hl 2 rfl) ?_
        refine lv_iconst (v := 0) hx hb dX4_failure_20 (by decide) ?_
        refine lv_iconst (v := 2) hx hb dX4_failure_21 (by decide) ?_
        refine va_calli (va_runS (As := [.int y1, .int 0, .int 2]) (rest := [.ref (ad 0 0)]) ⟨hx, hb, hml, hown, hts⟩ (k_X4_in (l := l) (D := D) (cI := cI) (cZ := cZ) (cB := cB) (cS := cS) (A := A) rDm (rEn cI cZ κ σ sc ad) ad y1 0 2) (va_cwS 3 hts gX4_failure_X4_in rfl rfl rfl (by decide +kernel) ⟨Nat.le_of_ble_eq_true rfl, Nat.le_of_ble_eq_true rfl⟩) (gPreS hE hA hS hP) rfl rfl hl.1 rfl (lv_room (Nat.le_of_ble_eq_true rfl)) dX4_failure_22 ⟨Nat.le_of_ble_eq_true rfl, Nat.le_of_ble_eq_true rfl⟩) hS (fun q _ h9 => h9) (fun q h9 => h9) (fun r_7 u9 t9 H locs ht9 hvm9 hw_r_7 hB9 hz9 hk9 hS => ?_)
        have hP : gw_P D vwCl A rDm (rEn cI cZ κ σ sc ad) ad H := by rw [← ht9]; exact hB9
        refine lv_toq (if okI 3 y1 then 1 else 0) (hw_r_7.trans (in_i (by omega) (by decide))) ?_
        refine lv_if_eq (tgt := 32) hx hb dX4_failure_25 (by decide) (fun c_8 => ?_) (fun c_8 => ?_)
        · refine lv_iconst (v := 1) hx hb dX4_failure_32 (by decide) ?_
          refine gw_put (ty := .int) (C := RX4) (T := TX4) (N := 25) hx hb hL4 tyX4 tyX4_ok nmX4 hown hK hP hS 0 0 (rDf (by decide)) rfl rfl 0 (by decide) (hts (.fieldLink RX4 65 "BlockProgramsModel" "code" "I") (by decide +kernel)) (fun _ h9 => h9) rfl (by decide +kernel) rfl rfl (Nat.le_of_ble_eq_true rfl) dX4_failure_33 (rEn cI cZ κ σ (wr sc 2 0 1) ad) (rU0s_0 _) (fun t9 i9 z9 h9 => rU0 _ _ t9 i9 h9 z9) (fun H locs hP hS => ?_)
          refine lv_aload_n hx hb dX4_failure_36 rfl (lv_at hl 0 rfl) ?_
          refine gw_get (C := RX4) (T := TX4) (N := 25) hx hb hL4 hown hK hP 0 0 (rDf (by decide)) rfl rfl 0 (by decide) (hts (.fieldLink RX4 65 "BlockProgramsModel" "code" "I") (by decide +kernel)) (fun _ h9 => h9) (v := .int 1) (by simp [wr, va_up]) dX4_failure_37 ?_
          refine lv_if_le (tgt := 47) hx hb dX4_failure_40 (by decide) (fun c_9 => ?_) (fun c_9 => ?_)
          · have c_9 : 1 ≤ 0 := (nI_leI (a := 1) (b := 0) (by omega) (by omega)).mp c_9
            exfalso; omega
          · have c_9 : ¬ (1 ≤ 0) := fun z => c_9 ((nI_leI (a := 1) (b := 0) (by omega) (by omega)).mpr z)
            refine lv_iconst (v := 0) hx hb dX4_failure_43 (by decide) ?_
            refine lv_goto (tgt := 67) hx hb dX4_failure_44 (by decide) ?_
            have hcr : cFact κ y0 y1 = 1 := if_neg (fun z => lp_f c_8 z.2)
            exact W.iret (v := 0) hx hb hr (fun t ht hW => ⟨⟨0, wr sc 2 0 1, rfl, ⟨by rw [hcr]; exact wr_s, fun z => absurd (hcr.symm.trans z) (by decide)⟩, by rw [← ht] at hP; exact hP⟩, hS.F ht⟩) hS.2.2 dX4_failure_67
        · refine lv_iconst (v := 0) hx hb dX4_failure_28 (by decide) ?_
          refine lv_goto (tgt := 33) hx hb dX4_failure_29 (by decide) ?_
          refine gw_put (ty := .int) (C := RX4) (T := TX4) (N := 25) hx hb hL4 tyX4 tyX4_ok nmX4 hown hK hP hS 0 0 (rDf (by decide)) rfl rfl 0 (by decide) (hts (.fieldLink RX4 65 "BlockProgramsModel" "code" "I") (by decide +kernel)) (fun _ h9 => h9) rfl (by decide +kernel) rfl rfl (Nat.le_of_ble_eq_true rfl) dX4_failure_33 (rEn cI cZ κ σ (wr sc 2 0 0) ad) (rU0s_0 _) (fun t9 i9 z9 h9 => rU0 _ _ t9 i9 h9 z9) (fun H locs hP hS => ?_)
          refine lv_aload_n hx hb dX4_failure_36 rfl (lv_at hl 0 rfl) ?_
          refine gw_get (C := RX4) (T := TX4) (N := 25) hx hb hL4 hown hK hP 0 0 (rDf (by decide)) rfl rfl 0 (by decide) (hts (.fieldLink RX4 65 "BlockProgramsModel" "code" "I") (by decide +kernel)) (fun _ h9 => h9) (v := .int 0) (by simp [wr, va_up]) dX4_failure_37 ?_
          refine lv_if_le (tgt := 47) hx hb dX4_failure_40 (by decide) (fun c_10 => ?_) (fun c_10 => ?_)
          · have c_10 : 0 ≤ 0 := (nI_leI (a := 0) (b := 0) (by omega) (by omega)).mp c_10
            obtain ⟨j, hj, ej⟩ := ix_of (n := κ 2) h2 c_1 c_3
            have hj2 : j < 32 := Nat.lt_of_not_le (fun z => absurd (by rw [ej]; exact nI_le z (by omega)) c_5)
            have ok_j : okI (keptN κ) y0 := by rw [ej]; exact okI_at (by unfold keptN; split <;> omega) (by unfold keptN; split <;> omega)
            have ecj : y0.toNatClampNeg = j := by rw [ej, nI_clamp (by omega)]
            rw [ej] at hl
            have ok_i := lp_t c_8
            obtain ⟨i, hi, ei⟩ := ix_of (n := 3) (by decide) ok_i.1 ok_i.2
            have eci : y1.toNatClampNeg = i := by rw [ei, nI_clamp (by omega)]
            rw [ei] at hl
            refine lv_aload_n hx hb dX4_failure_47 rfl (lv_at hl 0 rfl) ?_
            refine gw_get (C := RX4) (T := TX4) (N := 25) hx hb hL4 hown hK hP 0 0 (rDf (by decide)) rfl rfl 20 (by decide) (hts (.fieldLink RX4 56 "BlockProgramsModel" "kept" "[I") (by decide +kernel)) (fun _ h9 => h9) (v := .ref (ad 20 0)) rfl dX4_failure_48 ?_
            refine lv_iconst (v := 3) hx hb dX4_failure_51 (by decide) ?_
            refine lv_aload_n hx hb dX4_failure_52 rfl (lv_at hl 0 rfl) ?_
            refine gw_get (C := RX4) (T := TX4) (N := 25) hx hb hL4 hown hK hP 0 0 (rDf (by decide)) rfl rfl 19 (by decide) (hts (.fieldLink RX4 116 "BlockProgramsModel" "last" "I") (by decide +kernel)) (fun _ h9 => h9) (v := .int (nI (κ 2))) rfl dX4_failure_53 ?_
            refine lv_iconst (v := 1) hx hb dX4_failure_56 (by decide) ?_
            refine lv_isub hx hb dX4_failure_57 ?_
            refine lv_toq (nI (κ 2 - 1)) (pk_sub (a := κ 2) (b := 1) (by omega)) ?_
            refine lv_iload_n hx hb dX4_failure_58 rfl (lv_at hl 1 rfl) ?_
            refine lv_isub hx hb dX4_failure_59 ?_
            refine lv_toq (nI (κ 2 - 1 - j)) (pk_sub (a := κ 2 - 1) (b := j) (by omega)) ?_
            refine lv_bipush (v := 32) hx hb dX4_failure_60 (by decide) ?_
            refine lv_irem hx hb dX4_failure_62 (by decide) ?_
            refine lv_toq (nI ((κ 2 - 1 - j) % 32)) (pk_rem (a := κ 2 - 1 - j) (d := 32) (by omega) (by decide) (by decide)) ?_
            refine lv_imul hx hb dX4_failure_63 ?_
            refine lv_toq (nI (3 * ((κ 2 - 1 - j) % 32))) (pk_mul 3 ((κ 2 - 1 - j) % 32)) ?_
            refine lv_iload_n hx hb dX4_failure_64 rfl (lv_at hl 2 rfl) ?_
            refine lv_iadd hx hb dX4_failure_65 ?_
            refine lv_toq (nI (3 * ((κ 2 - 1 - j) % 32) + i)) (nI_add (3 * ((κ 2 - 1 - j) % 32)) i) ?_
            refine gw_iald hx hb hK hP 20 0 (rDf (by decide)) 0 rfl rfl (3 * ((κ 2 - 1 - j) % 32) + i) rfl (by omega) (by decide) (v := (σ ((23 + i)) (((κ 2 - 1 - j) % 32)))) (congr (congrArg σ (show 23 + (3 * ((κ 2 - 1 - j) % 32) + i) % 3 = (23 + i) by omega)) (show (3 * ((κ 2 - 1 - j) % 32) + i) / 3 = ((κ 2 - 1 - j) % 32) by omega)) dX4_failure_66 ?_
            have ecf := slot_eq (κ := κ) hj hj2
            have hcr : cFact κ y0 y1 = 0 := if_pos ⟨ok_j, ok_i⟩
            exact W.iret (v := (σ ((23 + i)) (((κ 2 - 1 - j) % 32)))) hx hb hr (fun t ht hW => ⟨⟨((σ ((23 + i)) (((κ 2 - 1 - j) % 32)))), wr sc 2 0 0, rfl, ⟨by rw [hcr]; exact wr_s, fun _ => by rw [ecj, eci, ecf]⟩, by rw [← ht] at hP; exact hP⟩, hS.F ht⟩) hS.2.2 dX4_failure_67
          · have c_10 : ¬ (0 ≤ 0) := fun z => c_10 ((nI_leI (a := 0) (b := 0) (by omega) (by omega)).mpr z)
            exfalso; omega

theorem iL_X4_save_X4 : ∀ w ∈ u_ws RX4 TX4 25, w ∈ wsX4_save := by decide +kernel
set_option maxHeartbeats 4000000 in
set_option maxRecDepth 100000 in
theorem k_X4_save {l : Launch} {D : va_G} {cI cZ cB cS : ClassId} {A : Nat → Prop} (κ : Nat → Nat) (σ sc : Nat → Nat → Int32) (ad : Nat → Nat → Nat) (hn : κ 0 ≤ 40) (h1 : κ 1 ≤ 5) : Met l yX4_save wsX4_save ({ frames := 0, cells := 0, slots := 0, locals := 0 } : Room) (gPc D cI cZ cB cS A rDm (rEn cI cZ κ σ sc ad) ad [.ref (ad 0 0)]) (va_Qi (fun (r : Int32) (u : Nat → Nat → Int32) => u 2 0 = nI (cSave κ) ∧ (cSave κ = 0 → r = nI (κ 1))) (fun u t => gw_P D vwCl A rDm (rEn cI cZ ((if cSave κ = 0 then svK κ (κ 0) else κ)) ((if cSave κ = 0 then svS σ (κ 1) (κ 0) else σ)) u ad) ad t.heap) A) 0 0 A := by
  refine Met.ofW (cc := cX4_save) (maxL := 3) (ret := (some .int)) (by decide) rfl ?_
  intro p e s m args below meth c s₁ B hml hv
  obtain ⟨rfl, hP, hE, hA⟩ := hv
  have hx := B.exec
  have hb := B.bytes
  have hr := B.returns
  have hts := atoms_spec (ws := wsX4_save) B.pre
  have hown : s.vm.findClass RX4 = some m.cls := findClass_of_methodNamed B.named
  have hlocks := B.notSynchronized
  have hK := hE.1
  have hS : va_S A s.heap s.heap [] := va_S.rf
  have hL4 := fun w (hw : w ∈ u_ws RX4 TX4 25) => hts w (iL_X4_save_X4 w hw)
  have hl := lv_entry ([.ref (ad 0 0)]) (n := 3) (Nat.le_of_ble_eq_true rfl)
  rw [lg_entry_eq]
  generalize (lg_sl ([.ref (ad 0 0)]) ++ List.replicate (3 - (lg_sl ([.ref (ad 0 0)])).length) Slot.unset).toArray = ls at hl ⊢
  have hl : lv_has ls 3 [(0, .ref (ad 0 0))] := hl
  refine lv_aload_n hx hb dX4_save_0 rfl (lv_at hl 0 rfl) ?_
  refine lv_aload_n hx hb dX4_save_1 rfl (lv_at hl 0 rfl) ?_
  refine gw_get (C := RX4) (T := TX4) (N := 25) hx hb hL4 hown hK hP 0 0 (rDf (by decide)) rfl rfl 21 (by decide) (hts (.fieldLink RX4 141 "BlockProgramsModel" "saves" "I") (by decide +kernel)) (fun _ h9 => h9) (v := .int (nI (κ 1))) rfl dX4_save_2 ?_
  refine lv_iconst (v := 5) hx hb dX4_save_5 (by decide) ?_
  refine lv_icmp_ne (tgt := 13) hx hb dX4_save_6 (by decide) (fun c_1 => ?_) (fun c_1 => ?_)
  · have c_1 : ¬ (κ 1 = 5) := fun z => c_1 ((nI_eq (a := κ 1) (b := 5) (by omega) (by omega)).mpr z)
    refine lv_iconst (v := 0) hx hb dX4_save_13 (by decide) ?_
    refine gw_put (ty := .int) (C := RX4) (T := TX4) (N := 25) hx hb hL4 tyX4 tyX4_ok nmX4 hown hK hP hS 0 0 (rDf (by decide)) rfl rfl 0 (by decide) (hts (.fieldLink RX4 65 "BlockProgramsModel" "code" "I") (by decide +kernel)) (fun _ h9 => h9) rfl (by decide +kernel) rfl rfl (Nat.le_of_ble_eq_true rfl) dX4_save_14 (rEn cI cZ κ σ (wr sc 2 0 0) ad) (rU0s_0 _) (fun t9 i9 z9 h9 => rU0 _ _ t9 i9 h9 z9) (fun H locs hP hS => ?_)
    refine lv_aload_n hx hb dX4_save_17 rfl (lv_at hl 0 rfl) ?_
    refine gw_get (C := RX4) (T := TX4) (N := 25) hx hb hL4 hown hK hP 0 0 (rDf (by decide)) rfl rfl 0 (by decide) (hts (.fieldLink RX4 65 "BlockProgramsModel" "code" "I") (by decide +kernel)) (fun _ h9 => h9) (v := .int 0) (by simp [wr, va_up]) dX4_save_18 ?_
    refine lv_if_le (tgt := 26) hx hb dX4_save_21 (by decide) (fun c_2 => ?_) (fun c_2 => ?_)
    · have c_2 : 0 ≤ 0 := (nI_leI (a := 0) (b := 0) (by omega) (by omega)).mp c_2
      refine lv_aload_n hx hb dX4_save_26 rfl (lv_at hl 0 rfl) ?_
      refine gw_get (C := RX4) (T := TX4) (N := 25) hx hb hL4 hown hK hP 0 0 (rDf (by decide)) rfl rfl 22 (by decide) (hts (.fieldLink RX4 59 "BlockProgramsModel" "savedBlocks" "[I") (by decide +kernel)) (fun _ h9 => h9) (v := .ref (ad 22 0)) rfl dX4_save_27 ?_
      refine lv_aload_n hx hb dX4_save_30 rfl (lv_at hl 0 rfl) ?_
      refine gw_get (C := RX4) (T := TX4) (N := 25) hx hb hL4 hown hK hP 0 0 (rDf (by decide)) rfl rfl 21 (by decide) (hts (.fieldLink RX4 141 "BlockProgramsModel" "saves" "I") (by decide +kernel)) (fun _ h9 => h9) (v := .int (nI (κ 1))) rfl dX4_save_31 ?_
      refine lv_aload_n hx hb dX4_save_34 rfl (lv_at hl 0 rfl) ?_
      refine gw_get (C := RX4) (T := TX4) (N := 25) hx hb hL4 hown hK hP 0 0 (rDf (by decide)) rfl rfl 1 (by decide) (hts (.fieldLink RX4 69 "BlockProgramsModel" "blocks" "I") (by decide +kernel)) (fun _ h9 => h9) (v := .int (nI (κ 0))) rfl dX4_save_35 ?_
      refine gw_iast hx hb hK hP hS 22 0 (rDf (by decide)) 0 rfl rfl (κ 1) rfl (by omega) (by decide) dX4_save_38 ((rEn cI cZ (va_up κ (10 + (κ 1)) ((κ 0))) σ (wr sc 2 0 0) ad)) rUs_22 (fun t9 i9 z9 h9 => rU22 _ t9 i9 h9 z9) (fun H locs hP hS => ?_)
      refine lv_iconst (v := 0) hx hb dX4_save_39 (by decide) ?_
      refine lv_istore_n (lv' := [(1, .int 0), (0, .ref (ad 0 0))]) hx hb dX4_save_40 rfl hl (by decide) rfl (fun ls hl => ?_)
      have k0 : (va_up κ (10 + κ 1) (κ 0)) 0 = κ 0 := va_up_ne _ _ (by omega)
      have k1 : (va_up κ (10 + κ 1) (κ 0)) 1 = κ 1 := va_up_ne _ _ (by omega)
      refine lv_loop (fun kk H locs ls => ∃ i : Nat, kk = (κ 0) - i ∧ i ≤ κ 0 ∧ gw_P D vwCl A rDm (rEn cI cZ ((va_up κ (10 + κ 1) (κ 0))) ((svS σ (κ 1) i)) (wr sc 2 0 0) ad) ad H ∧ va_S A s.heap H locs ∧ lv_has ls 3 [(0, .ref (ad 0 0)), (1, .int (nI i))]) (fun kk H locs ls hI ih => ?_) ((κ 0) - 0) ⟨0, rfl, by omega, hP, hS, lv_sub hl [1, 0] rfl⟩
      obtain ⟨i, hk_41, hi_41, hP, hS, hl⟩ := hI
      refine lv_iload_n hx hb dX4_save_41 rfl (lv_at hl 1 rfl) ?_
      refine lv_aload_n hx hb dX4_save_42 rfl (lv_at hl 0 rfl) ?_
      refine gw_get (C := RX4) (T := TX4) (N := 25) hx hb hL4 hown hK hP 0 0 (rDf (by decide)) rfl rfl 1 (by decide) (hts (.fieldLink RX4 69 "BlockProgramsModel" "blocks" "I") (by decide +kernel)) (fun _ h9 => h9) (v := .int (nI (κ 0))) (congrArg (fun z : Nat => some (Value.int (nI z))) k0) dX4_save_43 ?_
      refine lv_icmp_ge (tgt := 121) hx hb dX4_save_46 (by decide) (fun c_3 => ?_) (fun c_3 => ?_)
      · have c_3 : κ 0 ≤ i := (nI_leI (a := κ 0) (b := i) (by omega) (by omega)).mp c_3
        refine lv_aload_n hx hb dX4_save_121 rfl (lv_at hl 0 rfl) ?_
        refine lv_dup hx hb dX4_save_122 rfl ?_
        refine gw_get (C := RX4) (T := TX4) (N := 25) hx hb hL4 hown hK hP 0 0 (rDf (by decide)) rfl rfl 21 (by decide) (hts (.fieldLink RX4 141 "BlockProgramsModel" "saves" "I") (by decide +kernel)) (fun _ h9 => h9) (v := .int (nI (κ 1))) (congrArg (fun z : Nat => some (Value.int (nI z))) k1) dX4_save_123 ?_
        refine lv_iconst (v := 1) hx hb dX4_save_126 (by decide) ?_
        refine lv_iadd hx hb dX4_save_127 ?_
        refine lv_toq (nI (κ 1 + 1)) (nI_add (κ 1) 1) ?_
        refine gw_put (ty := .int) (C := RX4) (T := TX4) (N := 25) hx hb hL4 tyX4 tyX4_ok nmX4 hown hK hP hS 0 0 (rDf (by decide)) rfl rfl 21 (by decide) (hts (.fieldLink RX4 141 "BlockProgramsModel" "saves" "I") (by decide +kernel)) (fun _ h9 => h9) rfl (by decide +kernel) rfl rfl (Nat.le_of_ble_eq_true rfl) dX4_save_128 (rEn cI cZ (va_up ((va_up κ (10 + κ 1) (κ 0))) 1 (κ 1 + 1)) ((svS σ (κ 1) i)) (wr sc 2 0 0) ad) (rU0k_21 _) (fun t9 i9 z9 h9 => rU0k (by decide) _ t9 i9 h9 z9) (fun H locs hP hS => ?_)
        refine lv_aload_n hx hb dX4_save_131 rfl (lv_at hl 0 rfl) ?_
        refine gw_get (C := RX4) (T := TX4) (N := 25) hx hb hL4 hown hK hP 0 0 (rDf (by decide)) rfl rfl 21 (by decide) (hts (.fieldLink RX4 141 "BlockProgramsModel" "saves" "I") (by decide +kernel)) (fun _ h9 => h9) (v := .int (nI (κ 1 + 1))) (by simp [wr, va_up]) dX4_save_132 ?_
        refine lv_iconst (v := 1) hx hb dX4_save_135 (by decide) ?_
        refine lv_isub hx hb dX4_save_136 ?_
        refine lv_toq (nI (κ 1 + 1 - 1)) (pk_sub (a := κ 1 + 1) (b := 1) (by omega)) ?_
        have hcr : cSave κ = 0 := if_neg c_1
        have ei : i = κ 0 := by omega
        rw [svK_r, ei] at hP
        exact W.iret (v := nI (κ 1 + 1 - 1)) hx hb hr (fun t ht hW => ⟨⟨(nI (κ 1 + 1 - 1)), wr sc 2 0 0, rfl, ⟨by rw [hcr]; exact wr_s, fun _ => by rw [Nat.add_sub_cancel]⟩, by rw [if_pos hcr, if_pos hcr]; rw [← ht] at hP; exact hP⟩, hS.F ht⟩) hS.2.2 dX4_save_137
      · have c_3 : ¬ (κ 0 ≤ i) := fun z => c_3 ((nI_leI (a := κ 0) (b := i) (by omega) (by omega)).mpr z)
        refine lv_iconst (v := 4) hx hb dX4_save_49 (by decide) ?_
        refine lv_bipush (v := 40) hx hb dX4_save_50 (by decide) ?_
        refine lv_aload_n hx hb dX4_save_52 rfl (lv_at hl 0 rfl) ?_
        refine gw_get (C := RX4) (T := TX4) (N := 25) hx hb hL4 hown hK hP 0 0 (rDf (by decide)) rfl rfl 21 (by decide) (hts (.fieldLink RX4 141 "BlockProgramsModel" "saves" "I") (by decide +kernel)) (fun _ h9 => h9) (v := .int (nI (κ 1))) (congrArg (fun z : Nat => some (Value.int (nI z))) k1) dX4_save_53 ?_
        refine lv_imul hx hb dX4_save_56 ?_
        refine lv_toq (nI (40 * (κ 1))) (pk_mul 40 (κ 1)) ?_
        refine lv_iload_n hx hb dX4_save_57 rfl (lv_at hl 1 rfl) ?_
        refine lv_iadd hx hb dX4_save_58 ?_
        refine lv_toq (nI (40 * (κ 1) + i)) (nI_add (40 * (κ 1)) i) ?_
        refine lv_imul hx hb dX4_save_59 ?_
        refine lv_toq (nI (4 * (40 * (κ 1) + i))) (pk_mul 4 (40 * (κ 1) + i)) ?_
        refine lv_istore_n (lv' := [(2, .int (nI (4 * (40 * (κ 1) + i)))), (0, .ref (ad 0 0)), (1, .int (nI i))]) hx hb dX4_save_60 rfl hl (by decide) rfl (fun ls hl => ?_)
        refine lv_aload_n hx hb dX4_save_61 rfl (lv_at hl 1 rfl) ?_
        refine gw_get (C := RX4) (T := TX4) (N := 25) hx hb hL4 hown hK hP 0 0 (rDf (by decide)) rfl rfl 23 (by decide) (hts (.fieldLink RX4 62 "BlockProgramsModel" "saved" "[I") (by decide +kernel)) (fun _ h9 => h9) (v := .ref (ad 23 0)) rfl dX4_save_62 ?_
        refine lv_iload_n hx hb dX4_save_65 rfl (lv_at hl 0 rfl) ?_
        refine lv_aload_n hx hb dX4_save_66 rfl (lv_at hl 1 rfl) ?_
        refine gw_get (C := RX4) (T := TX4) (N := 25) hx hb hL4 hown hK hP 0 0 (rDf (by decide)) rfl rfl 2 (by decide) (hts (.fieldLink RX4 7 "BlockProgramsModel" "kinds" "[I") (by decide +kernel)) (fun _ h9 => h9) (v := .ref (ad 2 0)) rfl dX4_save_67 ?_
        refine lv_iload_n hx hb dX4_save_70 rfl (lv_at hl 2 rfl) ?_
        refine gw_iald hx hb hK hP 2 0 (rDf (by decide)) 0 rfl rfl (i) rfl (by omega) (by decide) (v := (((svS σ (κ 1) i)) 0 i)) rfl dX4_save_71 ?_
        refine gw_iast hx hb hK hP hS 23 0 (rDf (by decide)) 0 rfl rfl (4 * (40 * (κ 1) + i)) rfl (by omega) (by decide) dX4_save_72 ((rEn cI cZ ((va_up κ (10 + κ 1) (κ 0))) (wr ((svS σ (κ 1) i)) 30 ((40 * (κ 1) + i)) ((((svS σ (κ 1) i)) 0 i))) (wr sc 2 0 0) ad)) ((rUs_23 (w := 0) (by decide)).trans rfl) (fun t9 i9 z9 h9 => rU23 (w := 0) (by decide) _ t9 i9 h9 z9) (fun H locs hP hS => ?_)
        refine lv_aload_n hx hb dX4_save_73 rfl (lv_at hl 1 rfl) ?_
        refine gw_get (C := RX4) (T := TX4) (N := 25) hx hb hL4 hown hK hP 0 0 (rDf (by decide)) rfl rfl 23 (by decide) (hts (.fieldLink RX4 62 "BlockProgramsModel" "saved" "[I") (by decide +kernel)) (fun _ h9 => h9) (v := .ref (ad 23 0)) rfl dX4_save_74 ?_
        refine lv_iload_n hx hb dX4_save_77 rfl (lv_at hl 0 rfl) ?_
        refine lv_iconst (v := 1) hx hb dX4_save_78 (by decide) ?_
        refine lv_iadd hx hb dX4_save_79 ?_
        refine lv_toq (nI (4 * (40 * (κ 1) + i) + 1)) (nI_add (4 * (40 * (κ 1) + i)) 1) ?_
        refine lv_aload_n hx hb dX4_save_80 rfl (lv_at hl 1 rfl) ?_
        refine gw_get (C := RX4) (T := TX4) (N := 25) hx hb hL4 hown hK hP 0 0 (rDf (by decide)) rfl rfl 7 (by decide) (hts (.fieldLink RX4 25 "BlockProgramsModel" "outs" "[I") (by decide +kernel)) (fun _ h9 => h9) (v := .ref (ad 7 0)) rfl dX4_save_81 ?_
        refine lv_iload_n hx hb dX4_save_84 rfl (lv_at hl 2 rfl) ?_
        refine gw_iald hx hb hK hP 7 0 (rDf (by decide)) 0 rfl rfl (i) rfl (by omega) (by decide) (v := (((svS σ (κ 1) i)) 4 i)) (by simp [wr]) dX4_save_85 ?_
        refine gw_iast hx hb hK hP hS 23 0 (rDf (by decide)) 0 rfl rfl (4 * (40 * (κ 1) + i) + 1) rfl (by omega) (by decide) dX4_save_86 ((rEn cI cZ ((va_up κ (10 + κ 1) (κ 0))) (wr (wr ((svS σ (κ 1) i)) 30 ((40 * (κ 1) + i)) ((((svS σ (κ 1) i)) 0 i))) 31 ((40 * (κ 1) + i)) ((((svS σ (κ 1) i)) 4 i))) (wr sc 2 0 0) ad)) ((rUs_23 (w := 1) (by decide)).trans rfl) (fun t9 i9 z9 h9 => rU23 (w := 1) (by decide) _ t9 i9 h9 z9) (fun H locs hP hS => ?_)
        refine lv_aload_n hx hb dX4_save_87 rfl (lv_at hl 1 rfl) ?_
        refine gw_get (C := RX4) (T := TX4) (N := 25) hx hb hL4 hown hK hP 0 0 (rDf (by decide)) rfl rfl 23 (by decide) (hts (.fieldLink RX4 62 "BlockProgramsModel" "saved" "[I") (by decide +kernel)) (fun _ h9 => h9) (v := .ref (ad 23 0)) rfl dX4_save_88 ?_
        refine lv_iload_n hx hb dX4_save_91 rfl (lv_at hl 0 rfl) ?_
        refine lv_iconst (v := 2) hx hb dX4_save_92 (by decide) ?_
        refine lv_iadd hx hb dX4_save_93 ?_
        refine lv_toq (nI (4 * (40 * (κ 1) + i) + 2)) (nI_add (4 * (40 * (κ 1) + i)) 2) ?_
        refine lv_aload_n hx hb dX4_save_94 rfl (lv_at hl 1 rfl) ?_
        refine gw_get (C := RX4) (T := TX4) (N := 25) hx hb hL4 hown hK hP 0 0 (rDf (by decide)) rfl rfl 8 (by decide) (hts (.fieldLink RX4 28 "BlockProgramsModel" "firsts" "[I") (by decide +kernel)) (fun _ h9 => h9) (v := .ref (ad 8 0)) rfl dX4_save_95 ?_
        refine lv_iload_n hx hb dX4_save_98 rfl (lv_at hl 2 rfl) ?_
        refine gw_iald hx hb hK hP 8 0 (rDf (by decide)) 0 rfl rfl (i) rfl (by omega) (by decide) (v := (((svS σ (κ 1) i)) 5 i)) (by simp [wr]) dX4_save_99 ?_
        refine gw_iast hx hb hK hP hS 23 0 (rDf (by decide)) 0 rfl rfl (4 * (40 * (κ 1) + i) + 2) rfl (by omega) (by decide) dX4_save_100 ((rEn cI cZ ((va_up κ (10 + κ 1) (κ 0))) (wr (wr (wr ((svS σ (κ 1) i)) 30 ((40 * (κ 1) + i)) ((((svS σ (κ 1) i)) 0 i))) 31 ((40 * (κ 1) + i)) ((((svS σ (κ 1) i)) 4 i))) 32 ((40 * (κ 1) + i)) ((((svS σ (κ 1) i)) 5 i))) (wr sc 2 0 0) ad)) ((rUs_23 (w := 2) (by decide)).trans rfl) (fun t9 i9 z9 h9 => rU23 (w := 2) (by decide) _ t9 i9 h9 z9) (fun H locs hP hS => ?_)
        refine lv_aload_n hx hb dX4_save_101 rfl (lv_at hl 1 rfl) ?_
        refine gw_get (C := RX4) (T := TX4) (N := 25) hx hb hL4 hown hK hP 0 0 (rDf (by decide)) rfl rfl 23 (by decide) (hts (.fieldLink RX4 62 "BlockProgramsModel" "saved" "[I") (by decide +kernel)) (fun _ h9 => h9) (v := .ref (ad 23 0)) rfl dX4_save_102 ?_
        refine lv_iload_n hx hb dX4_save_105 rfl (lv_at hl 0 rfl) ?_
        refine lv_iconst (v := 3) hx hb dX4_save_106 (by decide) ?_
        refine lv_iadd hx hb dX4_save_107 ?_
        refine lv_toq (nI (4 * (40 * (κ 1) + i) + 3)) (nI_add (4 * (40 * (κ 1) + i)) 3) ?_
        refine lv_aload_n hx hb dX4_save_108 rfl (lv_at hl 1 rfl) ?_
        refine gw_get (C := RX4) (T := TX4) (N := 25) hx hb hL4 hown hK hP 0 0 (rDf (by decide)) rfl rfl 9 (by decide) (hts (.fieldLink RX4 31 "BlockProgramsModel" "seconds" "[I") (by decide +kernel)) (fun _ h9 => h9) (v := .ref (ad 9 0)) rfl dX4_save_109 ?_
        refine lv_iload_n hx hb dX4_save_112 rfl (lv_at hl 2 rfl) ?_
        refine gw_iald hx hb hK hP 9 0 (rDf (by decide)) 0 rfl rfl (i) rfl (by omega) (by decide) (v := (((svS σ (κ 1) i)) 6 i)) (by simp [wr]) dX4_save_113 ?_
        refine gw_iast hx hb hK hP hS 23 0 (rDf (by decide)) 0 rfl rfl (4 * (40 * (κ 1) + i) + 3) rfl (by omega) (by decide) dX4_save_114 ((rEn cI cZ ((va_up κ (10 + κ 1) (κ 0))) (wr (wr (wr (wr ((svS σ (κ 1) i)) 30 ((40 * (κ 1) + i)) ((((svS σ (κ 1) i)) 0 i))) 31 ((40 * (κ 1) + i)) ((((svS σ (κ 1) i)) 4 i))) 32 ((40 * (κ 1) + i)) ((((svS σ (κ 1) i)) 5 i))) 33 ((40 * (κ 1) + i)) ((((svS σ (κ 1) i)) 6 i))) (wr sc 2 0 0) ad)) ((rUs_23 (w := 3) (by decide)).trans rfl) (fun t9 i9 z9 h9 => rU23 (w := 3) (by decide) _ t9 i9 h9 z9) (fun H locs hP hS => ?_)
        refine lv_iinc (v := nI (i + 1)) (lv' := [(1, .int (nI (i + 1))), (2, .int (nI (4 * (40 * (κ 1) + i)))), (0, .ref (ad 0 0))]) hx hb dX4_save_115 hl (k := 2) rfl (nI_add i 1) (by decide) rfl (fun ls hl => ?_)
        refine lv_goto (tgt := 41) hx hb dX4_save_118 (by decide) ?_
        have hP : gw_P D vwCl A rDm (rEn cI cZ ((va_up κ (10 + κ 1) (κ 0))) ((svS σ (κ 1) (i + 1))) (wr sc 2 0 0) ad) ad _ := hP
        exact ih _ _ _ _ (by omega) ⟨i + 1, rfl, by omega, hP, hS, lv_sub hl [2, 0] rfl⟩
    · have c_2 : ¬ (0 ≤ 0) := fun z => c_2 ((nI_leI (a := 0) (b := 0) (by omega) (by omega)).mpr z)
      exfalso; omega
  · have c_1 : κ 1 = 5 := (nI_eq (a := κ 1) (b := 5) (by omega) (by omega)).mp c_1
    refine lv_iconst (v := 1) hx hb dX4_save_9 (by decide) ?_
    refine lv_goto (tgt := 14) hx hb dX4_save_10 (by decide) ?_
    refine gw_put (ty := .int) (C := RX4) (T := TX4) (N := 25) hx hb hL4 tyX4 tyX4_ok nmX4 hown hK hP hS 0 0 (rDf (by decide)) rfl rfl 0 (by decide) (hts (.fieldLink RX4 65 "BlockProgramsModel" "code" "I") (by decide +kernel)) (fun _ h9 => h9) rfl (by decide +kernel) rfl rfl (Nat.le_of_ble_eq_true rfl) dX4_save_14 (rEn cI cZ κ σ (wr sc 2 0 1) ad) (rU0s_0 _) (fun t9 i9 z9 h9 => rU0 _ _ t9 i9 h9 z9) (fun H locs hP hS => ?_)
    refine lv_aload_n hx hb dX4_save_17 rfl (lv_at hl 0 rfl) ?_
    refine gw_get (C := RX4) (T := TX4) (N := 25) hx hb hL4 hown hK hP 0 0 (rDf (by decide)) rfl rfl 0 (by decide) (hts (.fieldLink RX4 65 "BlockProgramsModel" "code" "I") (by decide +kernel)) (fun _ h9 => h9) (v := .int 1) (by simp [wr, va_up]) dX4_save_18 ?_
    refine lv_if_le (tgt := 26) hx hb dX4_save_21 (by decide) (fun c_4 => ?_) (fun c_4 => ?_)
    · have c_4 : 1 ≤ 0 := (nI_leI (a := 1) (b := 0) (by omega) (by omega)).mp c_4
      exfalso; omega
    · have c_4 : ¬ (1 ≤ 0) := fun z => c_4 ((nI_leI (a := 1) (b := 0) (by omega) (by omega)).mpr z)
      refine lv_iconst (v := 0) hx hb dX4_save_24 (by decide) ?_
      have hcr : cSave κ = 1 := if_pos c_1
      exact W.iret (v := 0) hx hb hr (fun t ht hW => ⟨⟨0, wr sc 2 0 1, rfl, ⟨by rw [hcr]; exact wr_s, fun z => absurd (hcr.symm.trans z) (by decide)⟩, by rw [if_neg (show ¬ cSave κ = 0 by rw [hcr]; decide), if_neg (show ¬ cSave κ = 0 by rw [hcr]; decide)]; rw [← ht] at hP; exact hP⟩, hS.F ht⟩) hS.2.2 dX4_save_25

theorem iL_X4_back_X4 : ∀ w ∈ u_ws RX4 TX4 25, w ∈ wsX4_back := by decide +kernel
set_option maxHeartbeats 4000000 in
set_option maxRecDepth 100000 in
theorem k_X4_back {l : Launch} {D : va_G} {cI cZ cB cS : ClassId} {A : Nat → Prop} (κ : Nat → Nat) (σ sc : Nat → Nat → Int32) (ad : Nat → Nat → Nat) (hn : κ 0 ≤ 40) (h1 : κ 1 ≤ 5) (hs : ∀ j, j < κ 1 → κ (10 + j) ≤ κ 0) (y0 : Int32) : Met l yX4_back wsX4_back ({ frames := 1, cells := 0, slots := 0, locals := 22 } : Room) (gPc D cI cZ cB cS A rDm (rEn cI cZ κ σ sc ad) ad [.ref (ad 0 0), .int y0]) (va_Qi (fun (r : Int32) (u : Nat → Nat → Int32) => u 2 0 = nI (cOne (κ 1) y0) ∧ (cOne (κ 1) y0 = 0 → r = nI (backI κ σ y0.toNatClampNeg (κ 0)).2)) (fun u t => gw_P D vwCl A rDm (rEn cI cZ κ ((if cOne (κ 1) y0 = 0 then (backI κ σ y0.toNatClampNeg (κ 0)).1 else σ)) u ad) ad t.heap) A) 0 0 A := by
  refine Met.ofW (cc := cX4_back) (maxL := 5) (ret := (some .int)) (by decide) rfl ?_
  intro p e s m args below meth c s₁ B hml hv
  obtain ⟨rfl, hP, hE, hA⟩ := hv
  have hx := B.exec
  have hb := B.bytes
  have hr := B.returns
  have hts := atoms_spec (ws := wsX4_back) B.pre
  have hown : s.vm.findClass RX4 = some m.cls := findClass_of_methodNamed B.named
  have hlocks := B.notSynchronized
  have hK := hE.1
  have hS : va_S A s.heap s.heap [] := va_S.rf
  have hL4 := fun w (hw : w ∈ u_ws RX4 TX4 25) => hts w (iL_X4_back_X4 w hw)
  have hl := lv_entry ([.ref (ad 0 0), .int y0]) (n := 5) (Nat.le_of_ble_eq_true rfl)
  rw [lg_entry_eq]
  generalize (lg_sl ([.ref (ad 0 0), .int y0]) ++ List.replicate (5 - (lg_sl ([.ref (ad 0 0), .int y0])).length) Slot.unset).toArray = ls at hl ⊢
  have hl : lv_has ls 5 [(0, .ref (ad 0 0)), (1, .int y0)] := hl
  refine lv_aload_n hx hb dX4_back_0 rfl (lv_at hl 0 rfl) ?_
  refine lv_iload_n hx hb dX4_back_1 rfl (lv_at hl 1 rfl) ?_
  refine lv_iconst (v := 0) hx hb dX4_back_2 (by decide) ?_
  refine lv_aload_n hx hb dX4_back_3 rfl (lv_at hl 0 rfl) ?_
  refine gw_get (C := RX4) (T := TX4) (N := 25) hx hb hL4 hown hK hP 0 0 (rDf (by decide)) rfl rfl 21 (by decide) (hts (.fieldLink RX4 141 "BlockProgramsModel" "saves" "I") (by decide +kernel)) (fun _ h9 => h9) (v := .int (nI (κ 1))) rfl dX4_back_4 ?_
  refine lv_iconst (v := 1) hx hb dX4_back_7 (by decide) ?_
  refine lv_isub hx hb dX4_back_8 ?_
  refine va_calli (va_runS (As := [.int y0, .int 0, .int ((nI (κ 1) - 1))]) (rest := [.ref (ad 0 0)]) ⟨hx, hb, hml, hown, hts⟩ (k_X4_in (l := l) (D := D) (cI := cI) (cZ := cZ) (cB := cB) (cS := cS) (A := A) rDm (rEn cI cZ κ σ sc ad) ad y0 0 ((nI (κ 1) - 1))) (va_cwS 3 hts gX4_back_X4_in rfl rfl rfl (by decide +kernel) ⟨Nat.le_of_ble_eq_true rfl, Nat.le_of_ble_eq_true rfl⟩) (gPreS hE hA hS hP) rfl rfl hl.1 rfl (lv_room (Nat.le_of_ble_eq_true rfl)) dX4_back_9 ⟨Nat.le_of_ble_eq_true rfl, Nat.le_of_ble_eq_true rfl⟩) hS (fun q _ h9 => h9) (fun q h9 => h9) (fun r_1 u9 t9 H locs ht9 hvm9 hw_r_1 hB9 hz9 hk9 hS => ?_)
  have hP : gw_P D vwCl A rDm (rEn cI cZ κ σ sc ad) ad H := by rw [← ht9]; exact hB9
  refine lv_toq (if okI (κ 1) y0 then 1 else 0) (hw_r_1.trans (in_i (by omega) rfl)) ?_
  refine lv_if_eq (tgt := 19) hx hb dX4_back_12 (by decide) (fun c_2 => ?_) (fun c_2 => ?_)
  · refine lv_iconst (v := 1) hx hb dX4_back_19 (by decide) ?_
    refine gw_put (ty := .int) (C := RX4) (T := TX4) (N := 25) hx hb hL4 tyX4 tyX4_ok nmX4 hown hK hP hS 0 0 (rDf (by decide)) rfl rfl 0 (by decide) (hts (.fieldLink RX4 65 "BlockProgramsModel" "code" "I") (by decide +kernel)) (fun _ h9 => h9) rfl (by decide +kernel) rfl rfl (Nat.le_of_ble_eq_true rfl) dX4_back_20 (rEn cI cZ κ σ (wr sc 2 0 1) ad) (rU0s_0 _) (fun t9 i9 z9 h9 => rU0 _ _ t9 i9 h9 z9) (fun H locs hP hS => ?_)
    refine lv_iconst (v := 0) hx hb dX4_back_23 (by decide) ?_
    refine lv_istore_n (lv' := [(2, .int 0), (0, .ref (ad 0 0)), (1, .int y0)]) hx hb dX4_back_24 rfl hl (by decide) rfl (fun ls hl => ?_)
    refine lv_iconst (v := 0) hx hb dX4_back_25 (by decide) ?_
    refine lv_istore_n (lv' := [(3, .int 0), (2, .int 0), (0, .ref (ad 0 0)), (1, .int y0)]) hx hb dX4_back_26 rfl hl (by decide) rfl (fun ls hl => ?_)
    refine lv_aload_n hx hb dX4_back_27 rfl (lv_at hl 2 rfl) ?_
    refine gw_get (C := RX4) (T := TX4) (N := 25) hx hb hL4 hown hK hP 0 0 (rDf (by decide)) rfl rfl 0 (by decide) (hts (.fieldLink RX4 65 "BlockProgramsModel" "code" "I") (by decide +kernel)) (fun _ h9 => h9) (v := .int 1) (by simp [wr, va_up]) dX4_back_28 ?_
    refine lv_if_ne (tgt := 124) hx hb dX4_back_31 (by decide) (fun c_3 => ?_) (fun c_3 => ?_)
    · have c_3 : ¬ (1 = 0) := fun z => c_3 ((nI_eq (a := 1) (b := 0) (by omega) (by omega)).mpr z)
      refine lv_iload_n hx hb dX4_back_124 rfl (lv_at hl 1 rfl) ?_
      have hcr : cOne (κ 1) y0 = 1 := if_neg (lp_f c_2)
      exact W.iret (v := 0) hx hb hr (fun t ht hW => ⟨⟨0, wr sc 2 0 1, rfl, ⟨by rw [hcr]; exact wr_s, fun z => absurd (hcr.symm.trans z) (by decide)⟩, by rw [if_neg (show ¬ cOne (κ 1) y0 = 0 by rw [hcr]; decide)]; rw [← ht] at hP; exact hP⟩, hS.F ht⟩) hS.2.2 dX4_back_125
    · have c_3 : 1 = 0 := (nI_eq (a := 1) (b := 0) (by omega) (by omega)).mp c_3
      exfalso; omega
  · refine lv_iconst (v := 0) hx hb dX4_back_15 (by decide) ?_
    refine lv_goto (tgt := 20) hx hb dX4_back_16 (by decide) ?_
    refine gw_put (ty := .int) (C := RX4) (T := TX4) (N := 25) hx hb hL4 tyX4 tyX4_ok nmX4 hown hK hP hS 0 0 (rDf (by decide)) rfl rfl 0 (by decide) (hts (.fieldLink RX4 65 "BlockProgramsModel" "code" "I") (by decide +kernel)) (fun _ h9 => h9) rfl (by decide +kernel) rfl rfl (Nat.le_of_ble_eq_true rfl) dX4_back_20 (rEn cI cZ κ σ (wr sc 2 0 0) ad) (rU0s_0 _) (fun t9 i9 z9 h9 => rU0 _ _ t9 i9 h9 z9) (fun H locs hP hS => ?_)
    have ok_sv := lp_t c_2
    obtain ⟨sv, hsv, esv⟩ := ix_of (n := κ 1) (by omega) ok_sv.1 ok_sv.2
    have ecsv : y0.toNatClampNeg = sv := by rw [esv, nI_clamp (by omega)]
    rw [esv] at hl
    have hq := hs sv hsv
    refine lv_iconst (v := 0) hx hb dX4_back_23 (by decide) ?_
    refine lv_istore_n (lv' := [(2, .int 0), (0, .ref (ad 0 0)), (1, .int (nI sv))]) hx hb dX4_back_24 rfl hl (by decide) rfl (fun ls hl => ?_)
    refine lv_iconst (v := 0) hx hb dX4_back_25 (by decide) ?_
    refine lv_istore_n (lv' := [(3, .int 0), (2, .int 0), (0, .ref (ad 0 0)), (1, .int (nI sv))]) hx hb dX4_back_26 rfl hl (by decide) rfl (fun ls hl => ?_)
    have hl : lv_has ls 5 [(3, .int 0), (2, .int (nI ((backI κ σ sv 0).2))), (0, .ref (ad 0 0)), (1, .int (nI sv))] := hl
    refine lv_loop (fun kk H locs ls => ∃ i : Nat, kk = (κ (10 + sv)) - i ∧ i ≤ κ (10 + sv) ∧ gw_P D vwCl A rDm (rEn cI cZ κ ((backI κ σ sv i).1) (wr sc 2 0 0) ad) ad H ∧ va_S A s.heap H locs ∧ lv_has ls 5 [(0, .ref (ad 0 0)), (1, .int (nI sv)), (2, .int (nI ((backI κ σ sv i).2))), (3, .int (nI i))]) (fun kk H locs ls hI ih => ?_) ((κ (10 + sv)) - 0) ⟨0, rfl, by omega, hP, hS, lv_sub hl [2, 3, 1, 0] rfl⟩
    obtain ⟨i, hk_27, hi_27, hP, hS, hl⟩ := hI
    refine lv_aload_n hx hb dX4_back_27 rfl (lv_at hl 0 rfl) ?_
    refine gw_get (C := RX4) (T := TX4) (N := 25) hx hb hL4 hown hK hP 0 0 (rDf (by decide)) rfl rfl 0 (by decide) (hts (.fieldLink RX4 65 "BlockProgramsModel" "code" "I") (by decide +kernel)) (fun _ h9 => h9) (v := .int 0) (by simp [wr, va_up]) dX4_back_28 ?_
    refine lv_if_ne (tgt := 124) hx hb dX4_back_31 (by decide) (fun c_4 => ?_) (fun c_4 => ?_)
    · have c_4 : ¬ (0 = 0) := fun z => c_4 ((nI_eq (a := 0) (b := 0) (by omega) (by omega)).mpr z)
      exfalso; omega
    · have c_4 : 0 = 0 := (nI_eq (a := 0) (b := 0) (by omega) (by omega)).mp c_4
      refine lv_iload_n hx hb dX4_back_34 rfl (lv_at hl 3 rfl) ?_
      refine lv_aload_n hx hb dX4_back_35 rfl (lv_at hl 0 rfl) ?_
      refine gw_get (C := RX4) (T := TX4) (N := 25) hx hb hL4 hown hK hP 0 0 (rDf (by decide)) rfl rfl 22 (by decide) (hts (.fieldLink RX4 59 "BlockProgramsModel" "savedBlocks" "[I") (by decide +kernel)) (fun _ h9 => h9) (v := .ref (ad 22 0)) rfl dX4_back_36 ?_
      refine lv_iload_n hx hb dX4_back_39 rfl (lv_at hl 1 rfl) ?_
      refine gw_iald hx hb hK hP 22 0 (rDf (by decide)) 0 rfl rfl (sv) rfl (by omega) (by decide) (v := nI (κ (10 + sv))) rfl dX4_back_40 ?_
      refine lv_icmp_ge (tgt := 124) hx hb dX4_back_41 (by decide) (fun c_5 => ?_) (fun c_5 => ?_)
      · have c_5 : κ (10 + sv) ≤ i := (nI_leI (a := κ (10 + sv)) (b := i) (by omega) (by omega)).mp c_5
        refine lv_iload_n hx hb dX4_back_124 rfl (lv_at hl 2 rfl) ?_
        have hcr : cOne (κ 1) y0 = 0 := if_pos ok_sv
        have ei : i = κ (10 + sv) := by omega
        have eB : backI κ σ sv (κ 0) = backI κ σ sv i := by rw [ei]; exact back_end hq
        exact W.iret (v := nI ((backI κ σ sv i).2)) hx hb hr (fun t ht hW => ⟨⟨(nI ((backI κ σ sv i).2)), wr sc 2 0 0, rfl, ⟨by rw [hcr]; exact wr_s, fun _ => by rw [ecsv, eB]⟩, by rw [if_pos hcr, ecsv, eB]; rw [← ht] at hP; exact hP⟩, hS.F ht⟩) hS.2.2 dX4_back_125
      · have c_5 : ¬ (κ (10 + sv) ≤ i) := fun z => c_5 ((nI_leI (a := κ (10 + sv)) (b := i) (by omega) (by omega)).mpr z)
        refine lv_iconst (v := 4) hx hb dX4_back_44 (by decide) ?_
        refine lv_bipush (v := 40) hx hb dX4_back_45 (by decide) ?_
        refine lv_iload_n hx hb dX4_back_47 rfl (lv_at hl 1 rfl) ?_
        refine lv_imul hx hb dX4_back_48 ?_
        refine lv_toq (nI (40 * sv)) (pk_mul 40 sv) ?_
        refine lv_iload_n hx hb dX4_back_49 rfl (lv_at hl 3 rfl) ?_
        refine lv_iadd hx hb dX4_back_50 ?_
        refine lv_toq (nI (40 * sv + i)) (nI_add (40 * sv) i) ?_
        refine lv_imul hx hb dX4_back_51 ?_
        refine lv_toq (nI (4 * (40 * sv + i))) (pk_mul 4 (40 * sv + i)) ?_
        refine lv_istore (lv' := [(4, .int (nI (4 * (40 * sv + i)))), (0, .ref (ad 0 0)), (1, .int (nI sv)), (2, .int (nI ((backI κ σ sv i).2))), (3, .int (nI i))]) hx hb dX4_back_52 hl (by decide) rfl (fun ls hl => ?_)
        refine lv_aload_n hx hb dX4_back_54 rfl (lv_at hl 1 rfl) ?_
        refine gw_get (C := RX4) (T := TX4) (N := 25) hx hb hL4 hown hK hP 0 0 (rDf (by decide)) rfl rfl 23 (by decide) (hts (.fieldLink RX4 62 "BlockProgramsModel" "saved" "[I") (by decide +kernel)) (fun _ h9 => h9) (v := .ref (ad 23 0)) rfl dX4_back_55 ?_
        refine lv_iload hx hb dX4_back_58 (lv_at hl 0 rfl) ?_
        refine gw_iald hx hb hK hP 23 0 (rDf (by decide)) 0 rfl rfl (4 * (40 * sv + i)) rfl (by omega) (by decide) (v := (((backI κ σ sv i).1) 30 ((40 * sv + i)))) (congr (congrArg ((backI κ σ sv i).1) (show 30 + (4 * (40 * sv + i)) % 4 = 30 by omega)) (show (4 * (40 * sv + i)) / 4 = (40 * sv + i) by omega)) dX4_back_60 ?_
        refine lv_aload_n hx hb dX4_back_61 rfl (lv_at hl 1 rfl) ?_
        refine gw_get (C := RX4) (T := TX4) (N := 25) hx hb hL4 hown hK hP 0 0 (rDf (by decide)) rfl rfl 2 (by decide) (hts (.fieldLink RX4 7 "BlockProgramsModel" "kinds" "[I") (by decide +kernel)) (fun _ h9 => h9) (v := .ref (ad 2 0)) rfl dX4_back_62 ?_
        refine lv_iload_n hx hb dX4_back_65 rfl (lv_at hl 4 rfl) ?_
        refine gw_iald hx hb hK hP 2 0 (rDf (by decide)) 0 rfl rfl (i) rfl (by omega) (by decide) (v := (((backI κ σ sv i).1) 0 i)) rfl dX4_back_66 ?_
        refine lv_icmp_ne (tgt := 118) hx hb dX4_back_67 (by decide) (fun c_6 => ?_) (fun c_6 => ?_)
        · refine lv_iinc (v := nI (i + 1)) (lv' := [(3, .int (nI (i + 1))), (4, .int (nI (4 * (40 * sv + i)))), (0, .ref (ad 0 0)), (1, .int (nI sv)), (2, .int (nI ((backI κ σ sv i).2)))]) hx hb dX4_back_118 hl (k := 4) rfl (nI_add i 1) (by decide) rfl (fun ls hl => ?_)
          refine lv_goto (tgt := 27) hx hb dX4_back_121 (by decide) ?_
          have e1 : (backI κ σ sv (i + 1)) = (backI κ σ sv i) := back_n (hit_f (fun z => c_6 z.2))
          rw [← e1] at hP hl
          exact ih _ _ _ _ (by omega) ⟨i + 1, rfl, by omega, hP, hS, lv_sub hl [2, 3, 4, 0] rfl⟩
        · refine lv_aload_n hx hb dX4_back_70 rfl (lv_at hl 1 rfl) ?_
          refine gw_get (C := RX4) (T := TX4) (N := 25) hx hb hL4 hown hK hP 0 0 (rDf (by decide)) rfl rfl 7 (by decide) (hts (.fieldLink RX4 25 "BlockProgramsModel" "outs" "[I") (by decide +kernel)) (fun _ h9 => h9) (v := .ref (ad 7 0)) rfl dX4_back_71 ?_
          refine lv_iload_n hx hb dX4_back_74 rfl (lv_at hl 4 rfl) ?_
          refine lv_aload_n hx hb dX4_back_75 rfl (lv_at hl 1 rfl) ?_
          refine gw_get (C := RX4) (T := TX4) (N := 25) hx hb hL4 hown hK hP 0 0 (rDf (by decide)) rfl rfl 23 (by decide) (hts (.fieldLink RX4 62 "BlockProgramsModel" "saved" "[I") (by decide +kernel)) (fun _ h9 => h9) (v := .ref (ad 23 0)) rfl dX4_back_76 ?_
          refine lv_iload hx hb dX4_back_79 (lv_at hl 0 rfl) ?_
          refine lv_iconst (v := 1) hx hb dX4_back_81 (by decide) ?_
          refine lv_iadd hx hb dX4_back_82 ?_
          refine lv_toq (nI (4 * (40 * sv + i) + 1)) (nI_add (4 * (40 * sv + i)) 1) ?_
          refine gw_iald hx hb hK hP 23 0 (rDf (by decide)) 0 rfl rfl (4 * (40 * sv + i) + 1) rfl (by omega) (by decide) (v := (((backI κ σ sv i).1) 31 ((40 * sv + i)))) (congr (congrArg ((backI κ σ sv i).1) (show 30 + (4 * (40 * sv + i) + 1) % 4 = 31 by omega)) (show (4 * (40 * sv + i) + 1) / 4 = (40 * sv + i) by omega)) dX4_back_83 ?_
          refine gw_iast hx hb hK hP hS 7 0 (rDf (by decide)) 0 rfl rfl (i) rfl (by omega) (by decide) dX4_back_84 ((rEn cI cZ κ (wr ((backI κ σ sv i).1) 4 i ((((backI κ σ sv i).1) 31 ((40 * sv + i))))) (wr sc 2 0 0) ad)) rUs_7 (fun t9 i9 z9 h9 => rU7 _ t9 i9 h9 z9) (fun H locs hP hS => ?_)
          refine lv_aload_n hx hb dX4_back_85 rfl (lv_at hl 1 rfl) ?_
          refine gw_get (C := RX4) (T := TX4) (N := 25) hx hb hL4 hown hK hP 0 0 (rDf (by decide)) rfl rfl 8 (by decide) (hts (.fieldLink RX4 28 "BlockProgramsModel" "firsts" "[I") (by decide +kernel)) (fun _ h9 => h9) (v := .ref (ad 8 0)) rfl dX4_back_86 ?_
          refine lv_iload_n hx hb dX4_back_89 rfl (lv_at hl 4 rfl) ?_
          refine lv_aload_n hx hb dX4_back_90 rfl (lv_at hl 1 rfl) ?_
          refine gw_get (C := RX4) (T := TX4) (N := 25) hx hb hL4 hown hK hP 0 0 (rDf (by decide)) rfl rfl 23 (by decide) (hts (.fieldLink RX4 62 "BlockProgramsModel" "saved" "[I") (by decide +kernel)) (fun _ h9 => h9) (v := .ref (ad 23 0)) rfl dX4_back_91 ?_
          refine lv_iload hx hb dX4_back_94 (lv_at hl 0 rfl) ?_
          refine lv_iconst (v := 2) hx hb dX4_back_96 (by decide) ?_
          refine lv_iadd hx hb dX4_back_97 ?_
          refine lv_toq (nI (4 * (40 * sv + i) + 2)) (nI_add (4 * (40 * sv + i)) 2) ?_
          refine gw_iald hx hb hK hP 23 0 (rDf (by decide)) 0 rfl rfl (4 * (40 * sv + i) + 2) rfl (by omega) (by decide) (v := (((backI κ σ sv i).1) 32 ((40 * sv + i)))) ((congr (congrArg (wr ((backI κ σ sv i).1) 4 i ((((backI κ σ sv i).1) 31 ((40 * sv + i))))) (show 30 + (4 * (40 * sv + i) + 2) % 4 = 32 by omega)) (show (4 * (40 * sv + i) + 2) / 4 = (40 * sv + i) by omega)).trans (by simp [wr])) dX4_back_98 ?_
          refine gw_iast hx hb hK hP hS 8 0 (rDf (by decide)) 0 rfl rfl (i) rfl (by omega) (by decide) dX4_back_99 ((rEn cI cZ κ (wr (wr ((backI κ σ sv i).1) 4 i ((((backI κ σ sv i).1) 31 ((40 * sv + i))))) 5 i ((((backI κ σ sv i).1) 32 ((40 * sv + i))))) (wr sc 2 0 0) ad)) rUs_8 (fun t9 i9 z9 h9 => rU8 _ t9 i9 h9 z9) (fun H locs hP hS => ?_)
          refine lv_aload_n hx hb dX4_back_100 rfl (lv_at hl 1 rfl) ?_
          refine gw_get (C := RX4) (T := TX4) (N := 25) hx hb hL4 hown hK hP 0 0 (rDf (by decide)) rfl rfl 9 (by decide) (hts (.fieldLink RX4 31 "BlockProgramsModel" "seconds" "[I") (by decide +kernel)) (fun _ h9 => h9) (v := .ref (ad 9 0)) rfl dX4_back_101 ?_
          refine lv_iload_n hx hb dX4_back_104 rfl (lv_at hl 4 rfl) ?_
          refine lv_aload_n hx hb dX4_back_105 rfl (lv_at hl 1 rfl) ?_
          refine gw_get (C := RX4) (T := TX4) (N := 25) hx hb hL4 hown hK hP 0 0 (rDf (by decide)) rfl rfl 23 (by decide) (hts (.fieldLink RX4 62 "BlockProgramsModel" "saved" "[I") (by decide +kernel)) (fun _ h9 => h9) (v := .ref (ad 23 0)) rfl dX4_back_106 ?_
          refine lv_iload hx hb dX4_back_109 (lv_at hl 0 rfl) ?_
          refine lv_iconst (v := 3) hx hb dX4_back_111 (by decide) ?_
          refine lv_iadd hx hb dX4_back_112 ?_
          refine lv_toq (nI (4 * (40 * sv + i) + 3)) (nI_add (4 * (40 * sv + i)) 3) ?_
          refine gw_iald hx hb hK hP 23 0 (rDf (by decide)) 0 rfl rfl (4 * (40 * sv + i) + 3) rfl (by omega) (by decide) (v := (((backI κ σ sv i).1) 33 ((40 * sv + i)))) ((congr (congrArg (wr (wr ((backI κ σ sv i).1) 4 i ((((backI κ σ sv i).1) 31 ((40 * sv + i))))) 5 i ((((backI κ σ sv i).1) 32 ((40 * sv + i))))) (show 30 + (4 * (40 * sv + i) + 3) % 4 = 33 by omega)) (show (4 * (40 * sv + i) + 3) / 4 = (40 * sv + i) by omega)).trans (by simp [wr])) dX4_back_113 ?_
          refine gw_iast hx hb hK hP hS 9 0 (rDf (by decide)) 0 rfl rfl (i) rfl (by omega) (by decide) dX4_back_114 ((rEn cI cZ κ (wr (wr (wr ((backI κ σ sv i).1) 4 i ((((backI κ σ sv i).1) 31 ((40 * sv + i))))) 5 i ((((backI κ σ sv i).1) 32 ((40 * sv + i))))) 6 i ((((backI κ σ sv i).1) 33 ((40 * sv + i))))) (wr sc 2 0 0) ad)) rUs_9 (fun t9 i9 z9 h9 => rU9 _ t9 i9 h9 z9) (fun H locs hP hS => ?_)
          refine lv_iinc (v := nI ((backI κ σ sv i).2 + 1)) (lv' := [(2, .int (nI ((backI κ σ sv i).2 + 1))), (4, .int (nI (4 * (40 * sv + i)))), (0, .ref (ad 0 0)), (1, .int (nI sv)), (3, .int (nI i))]) hx hb dX4_back_115 hl (k := 3) rfl (nI_add ((backI κ σ sv i).2) 1) (by decide) rfl (fun ls hl => ?_)
          refine lv_iinc (v := nI (i + 1)) (lv' := [(3, .int (nI (i + 1))), (2, .int (nI ((backI κ σ sv i).2 + 1))), (4, .int (nI (4 * (40 * sv + i)))), (0, .ref (ad 0 0)), (1, .int (nI sv))]) hx hb dX4_back_118 hl (k := 4) rfl (nI_add i 1) (by decide) rfl (fun ls hl => ?_)
          refine lv_goto (tgt := 27) hx hb dX4_back_121 (by decide) ?_
          have e1 : (backI κ σ sv (i + 1)) = (hitS (backI κ σ sv i).1 sv i, (backI κ σ sv i).2 + 1) := back_y (hit_t ⟨by omega, c_6⟩)
          have e2 : wr (wr (wr ((backI κ σ sv i).1) 4 i ((((backI κ σ sv i).1) 31 ((40 * sv + i))))) 5 i ((((backI κ σ sv i).1) 32 ((40 * sv + i))))) 6 i ((((backI κ σ sv i).1) 33 ((40 * sv + i)))) = (backI κ σ sv (i + 1)).1 := by rw [e1]; rfl
          have e3 : (backI κ σ sv i).2 + 1 = (backI κ σ sv (i + 1)).2 := by rw [e1]
          rw [e2] at hP
          rw [e3] at hl
          exact ih _ _ _ _ (by omega) ⟨i + 1, rfl, by omega, hP, hS, lv_sub hl [3, 4, 1, 0] rfl⟩

