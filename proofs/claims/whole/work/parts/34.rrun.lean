theorem iL_X4_run_X4 : ∀ w ∈ u_ws RX4 TX4 25, w ∈ wsX4_run := by decide +kernel
set_option maxHeartbeats 4000000 in
set_option maxRecDepth 100000 in
theorem k_X4_run {l : Launch} {D : va_G} {cI cZ cB cS : ClassId} {A : Nat → Prop} (κ : Nat → Nat) (σ sc : Nat → Nat → Int32) (ad : Nat → Nat → Nat) (hn : κ 0 ≤ 40) (h3 : κ 3 ≤ 3000) (h2 : κ 2 ≤ 80 * κ 3) (hk : kok (κ 0) σ) (hwv : ∀ b, b < κ 0 → ∀ i, i < 3 → okW κ σ b i) (y0 : Int32) : Met l yX4_run wsX4_run ({ frames := 4, cells := 0, slots := 0, locals := 89 } : Room) (gPc D cI cZ cB cS A rDm (rEn cI cZ κ σ sc ad) ad [.ref (ad 0 0), .int y0]) (va_Qi (fun (r : Int32) (u : Nat → Nat → Int32) => u 2 0 = nI (cRun κ σ y0) ∧ (cRun κ σ y0 = 0 → r = nI (κ 3 + y0.toNatClampNeg))) (fun u t => gw_P D vwCl A rDm (rEn cI cZ ((runR κ σ y0).1) ((runR κ σ y0).2) u ad) ad t.heap) A) 0 0 A := by
  refine Met.ofW (cc := cX4_run) (maxL := 4) (ret := (some .int)) (by decide) rfl ?_
  intro p e s m args below meth c s₁ B hml hv
  obtain ⟨rfl, hP, hE, hA⟩ := hv
  have hx := B.exec
  have hb := B.bytes
  have hr := B.returns
  have hts := atoms_spec (ws := wsX4_run) B.pre
  have hown : s.vm.findClass RX4 = some m.cls := findClass_of_methodNamed B.named
  have hlocks := B.notSynchronized
  have hK := hE.1
  have hS : va_S A s.heap s.heap [] := va_S.rf
  have hL4 := fun w (hw : w ∈ u_ws RX4 TX4 25) => hts w (iL_X4_run_X4 w hw)
  have hl := lv_entry ([.ref (ad 0 0), .int y0]) (n := 4) (Nat.le_of_ble_eq_true rfl)
  rw [lg_entry_eq]
  generalize (lg_sl ([.ref (ad 0 0), .int y0]) ++ List.replicate (4 - (lg_sl ([.ref (ad 0 0), .int y0])).length) Slot.unset).toArray = ls at hl ⊢
  have hl : lv_has ls 4 [(0, .ref (ad 0 0)), (1, .int y0)] := hl
  refine lv_aload_n hx hb dX4_run_0 rfl (lv_at hl 0 rfl) ?_
  refine lv_iload_n hx hb dX4_run_1 rfl (lv_at hl 1 rfl) ?_
  refine lv_iconst (v := 1) hx hb dX4_run_2 (by decide) ?_
  refine lv_sipush (v := 500) hx hb dX4_run_3 (by decide) ?_
  refine va_calli (va_runS (As := [.int y0, .int 1, .int 500]) (rest := [.ref (ad 0 0)]) ⟨hx, hb, hml, hown, hts⟩ (k_X4_in (l := l) (D := D) (cI := cI) (cZ := cZ) (cB := cB) (cS := cS) (A := A) rDm (rEn cI cZ κ σ sc ad) ad y0 1 500) (va_cwS 3 hts gX4_run_X4_in rfl rfl rfl (by decide +kernel) ⟨Nat.le_of_ble_eq_true rfl, Nat.le_of_ble_eq_true rfl⟩) (gPreS hE hA hS hP) rfl rfl hl.1 rfl (lv_room (Nat.le_of_ble_eq_true rfl)) dX4_run_6 ⟨Nat.le_of_ble_eq_true rfl, Nat.le_of_ble_eq_true rfl⟩) hS (fun q _ h9 => h9) (fun q h9 => h9) (fun r_1 u9 t9 H locs ht9 hvm9 hw_r_1 hB9 hz9 hk9 hS => ?_)
  have hP : gw_P D vwCl A rDm (rEn cI cZ κ σ sc ad) ad H := by rw [← ht9]; exact hB9
  by_cases hok : 1 ≤ y0 ∧ y0 ≤ 500
  · refine lv_toq 1 (hw_r_1.trans (if_pos hok)) ?_
    obtain ⟨n, hn0, hn5, ey⟩ := run_ix (Int32.not_lt.mpr hok.1) hok.2
    rw [ey] at hl
    refine lv_if_eq (tgt := 16) hx hb dX4_run_9 (by decide) (fun c_2 => ?_) (fun c_2 => ?_)
    · have c_2 : 1 = 0 := (nI_eq (a := 1) (b := 0) (by omega) (by omega)).mp c_2
      exfalso; omega
    · have c_2 : ¬ (1 = 0) := fun z => c_2 ((nI_eq (a := 1) (b := 0) (by omega) (by omega)).mpr z)
      refine lv_iconst (v := 0) hx hb dX4_run_12 (by decide) ?_
      refine lv_goto (tgt := 17) hx hb dX4_run_13 (by decide) ?_
      refine gw_put (ty := .int) (C := RX4) (T := TX4) (N := 25) hx hb hL4 tyX4 tyX4_ok nmX4 hown hK hP hS 0 0 (rDf (by decide)) rfl rfl 0 (by decide) (hts (.fieldLink RX4 65 "BlockProgramsModel" "code" "I") (by decide +kernel)) (fun _ h9 => h9) rfl (by decide +kernel) rfl rfl (Nat.le_of_ble_eq_true rfl) dX4_run_17 (rEn cI cZ κ σ (wr sc 2 0 0) ad) (rU0s_0 _) (fun t9 i9 z9 h9 => rU0 _ _ t9 i9 h9 z9) (fun H locs hP hS => ?_)
      refine lv_aload_n hx hb dX4_run_20 rfl (lv_at hl 0 rfl) ?_
      refine gw_get (C := RX4) (T := TX4) (N := 25) hx hb hL4 hown hK hP 0 0 (rDf (by decide)) rfl rfl 0 (by decide) (hts (.fieldLink RX4 65 "BlockProgramsModel" "code" "I") (by decide +kernel)) (fun _ h9 => h9) (v := .int 0) (by simp [wr, va_up]) dX4_run_21 ?_
      refine lv_if_le (tgt := 29) hx hb dX4_run_24 (by decide) (fun c_3 => ?_) (fun c_3 => ?_)
      · have c_3 : 0 ≤ 0 := (nI_leI (a := 0) (b := 0) (by omega) (by omega)).mp c_3
        refine lv_aload_n hx hb dX4_run_29 rfl (lv_at hl 0 rfl) ?_
        refine va_callv (va_runV (As := []) (rest := []) ⟨hx, hb, hml, hown, hts⟩ (k_X4_lay (l := l) (D := D) (cI := cI) (cZ := cZ) (cB := cB) (cS := cS) (A := A) κ σ (wr sc 2 0 0) ad hn hk hwv) (cwV 0 hts gX4_run_X4_lay rfl rfl rfl (by decide +kernel) ⟨Nat.le_of_ble_eq_true rfl, Nat.le_of_ble_eq_true rfl⟩) (gPreV hE hA hS hP (gw_recv hK hP 0 0 (rDf (by decide)) rfl rfl)) rfl rfl hl.1 rfl (lv_room (Nat.le_of_ble_eq_true rfl)) dX4_run_30 ⟨Nat.le_of_ble_eq_true rfl, Nat.le_of_ble_eq_true rfl⟩) hS (fun q _ h9 => h9) (fun q h9 => h9) (fun v9 t9 H locs ht9 hvm9 hv9 hB9 hz9 hk9 hS => ?_)
        obtain ⟨h920, h921, hline⟩ := hv9
        have hP : gw_P D vwCl A rDm (rEn cI cZ κ σ v9 ad) ad H := by rw [← ht9]; exact hB9
        have hce := come_le (κ 0) σ
        refine lv_aload_n hx hb dX4_run_33 rfl (lv_at hl 0 rfl) ?_
        refine lv_aload_n hx hb dX4_run_34 rfl (lv_at hl 0 rfl) ?_
        refine gw_get (C := RX4) (T := TX4) (N := 25) hx hb hL4 hown hK hP 0 0 (rDf (by decide)) rfl rfl 16 (by decide) (hts (.fieldLink RX4 84 "BlockProgramsModel" "come" "I") (by decide +kernel)) (fun _ h9 => h9) (v := .int (nI (comeF (κ 0) σ))) (congrArg (fun z : Int32 => some (Value.int z)) h921) dX4_run_35 ?_
        refine lv_aload_n hx hb dX4_run_38 rfl (lv_at hl 0 rfl) ?_
        refine gw_get (C := RX4) (T := TX4) (N := 25) hx hb hL4 hown hK hP 0 0 (rDf (by decide)) rfl rfl 1 (by decide) (hts (.fieldLink RX4 69 "BlockProgramsModel" "blocks" "I") (by decide +kernel)) (fun _ h9 => h9) (v := .int (nI (κ 0))) rfl dX4_run_39 ?_
        refine lv_icmp_lt (tgt := 57) hx hb dX4_run_42 (by decide) (fun c_4 => ?_) (fun c_4 => ?_)
        · have c_4 : comeF (κ 0) σ < κ 0 := (nI_ltI (a := comeF (κ 0) σ) (b := κ 0) (by omega) (by omega)).mp c_4
          refine lv_iconst (v := 2) hx hb dX4_run_57 (by decide) ?_
          refine lv_goto (tgt := 62) hx hb dX4_run_58 (by decide) ?_
          refine gw_put (ty := .int) (C := RX4) (T := TX4) (N := 25) hx hb hL4 tyX4 tyX4_ok nmX4 hown hK hP hS 0 0 (rDf (by decide)) rfl rfl 0 (by decide) (hts (.fieldLink RX4 65 "BlockProgramsModel" "code" "I") (by decide +kernel)) (fun _ h9 => h9) rfl (by decide +kernel) rfl rfl (Nat.le_of_ble_eq_true rfl) dX4_run_62 (rEn cI cZ κ σ (wr v9 2 0 2) ad) (rU0s_0 _) (fun t9 i9 z9 h9 => rU0 _ _ t9 i9 h9 z9) (fun H locs hP hS => ?_)
          have hcr : cRun κ σ y0 = 2 := by unfold cRun; rw [if_pos hok, ey, nI_clamp (show n < 2 ^ 31 by omega)]; exact if_pos (by omega)
          refine lv_iconst (v := 0) hx hb dX4_run_65 (by decide) ?_
          refine lv_istore_n (lv' := [(2, .int 0), (0, .ref (ad 0 0)), (1, .int (nI n))]) hx hb dX4_run_66 rfl hl (by decide) rfl (fun ls hl => ?_)
          refine lv_iload_n hx hb dX4_run_67 rfl (lv_at hl 0 rfl) ?_
          refine lv_iload_n hx hb dX4_run_68 rfl (lv_at hl 2 rfl) ?_
          refine lv_icmp_ge (tgt := 153) hx hb dX4_run_69 (by decide) (fun c_5 => ?_) (fun c_5 => ?_)
          · have c_5 : n ≤ 0 := (nI_leI (a := n) (b := 0) (by omega) (by omega)).mp c_5
            exfalso; omega
          · have c_5 : ¬ (n ≤ 0) := fun z => c_5 ((nI_leI (a := n) (b := 0) (by omega) (by omega)).mpr z)
            refine lv_aload_n hx hb dX4_run_72 rfl (lv_at hl 1 rfl) ?_
            refine gw_get (C := RX4) (T := TX4) (N := 25) hx hb hL4 hown hK hP 0 0 (rDf (by decide)) rfl rfl 0 (by decide) (hts (.fieldLink RX4 65 "BlockProgramsModel" "code" "I") (by decide +kernel)) (fun _ h9 => h9) (v := .int 2) (by simp [wr, va_up]) dX4_run_73 ?_
            refine lv_if_ne (tgt := 153) hx hb dX4_run_76 (by decide) (fun c_6 => ?_) (fun c_6 => ?_)
            · have c_6 : ¬ (2 = 0) := fun z => c_6 ((nI_eq (a := 2) (b := 0) (by omega) (by omega)).mpr z)
              refine lv_aload_n hx hb dX4_run_153 rfl (lv_at hl 1 rfl) ?_
              refine gw_get (C := RX4) (T := TX4) (N := 25) hx hb hL4 hown hK hP 0 0 (rDf (by decide)) rfl rfl 0 (by decide) (hts (.fieldLink RX4 65 "BlockProgramsModel" "code" "I") (by decide +kernel)) (fun _ h9 => h9) (v := .int 2) (by simp [wr, va_up]) dX4_run_154 ?_
              refine lv_if_le (tgt := 164) hx hb dX4_run_157 (by decide) (fun c_7 => ?_) (fun c_7 => ?_)
              · have c_7 : 2 ≤ 0 := (nI_leI (a := 2) (b := 0) (by omega) (by omega)).mp c_7
                exfalso; omega
              · have c_7 : ¬ (2 ≤ 0) := fun z => c_7 ((nI_leI (a := 2) (b := 0) (by omega) (by omega)).mpr z)
                refine lv_iconst (v := 0) hx hb dX4_run_160 (by decide) ?_
                refine lv_goto (tgt := 168) hx hb dX4_run_161 (by decide) ?_
                have eR : runR κ σ y0 = (κ, σ) := if_neg (by rw [hcr]; decide)
                exact W.iret (v := 0) hx hb hr (fun t ht hW => ⟨⟨0, wr v9 2 0 2, rfl, ⟨by rw [hcr]; exact wr_s, fun z => absurd (hcr.symm.trans z) (by decide)⟩, by rw [eR]; rw [← ht] at hP; exact hP⟩, hS.F ht⟩) hS.2.2 dX4_run_168
            · have c_6 : 2 = 0 := (nI_eq (a := 2) (b := 0) (by omega) (by omega)).mp c_6
              exfalso; omega
        · have c_4 : ¬ (comeF (κ 0) σ < κ 0) := fun z => c_4 ((nI_ltI (a := comeF (κ 0) σ) (b := κ 0) (by omega) (by omega)).mpr z)
          refine lv_aload_n hx hb dX4_run_45 rfl (lv_at hl 0 rfl) ?_
          refine gw_get (C := RX4) (T := TX4) (N := 25) hx hb hL4 hown hK hP 0 0 (rDf (by decide)) rfl rfl 14 (by decide) (hts (.fieldLink RX4 100 "BlockProgramsModel" "time" "I") (by decide +kernel)) (fun _ h9 => h9) (v := .int (nI (κ 3))) rfl dX4_run_46 ?_
          refine lv_iload_n hx hb dX4_run_49 rfl (lv_at hl 1 rfl) ?_
          refine lv_iadd hx hb dX4_run_50 ?_
          refine lv_toq (nI (κ 3 + n)) (nI_add (κ 3) n) ?_
          refine lv_sipush (v := 3000) hx hb dX4_run_51 (by decide) ?_
          refine lv_icmp_le (tgt := 61) hx hb dX4_run_54 (by decide) (fun c_8 => ?_) (fun c_8 => ?_)
          · have c_8 : κ 3 + n ≤ 3000 := (nI_leI (a := κ 3 + n) (b := 3000) (by omega) (by omega)).mp c_8
            refine lv_iconst (v := 0) hx hb dX4_run_61 (by decide) ?_
            refine gw_put (ty := .int) (C := RX4) (T := TX4) (N := 25) hx hb hL4 tyX4 tyX4_ok nmX4 hown hK hP hS 0 0 (rDf (by decide)) rfl rfl 0 (by decide) (hts (.fieldLink RX4 65 "BlockProgramsModel" "code" "I") (by decide +kernel)) (fun _ h9 => h9) rfl (by decide +kernel) rfl rfl (Nat.le_of_ble_eq_true rfl) dX4_run_62 (rEn cI cZ κ σ (wr v9 2 0 0) ad) (rU0s_0 _) (fun t9 i9 z9 h9 => rU0 _ _ t9 i9 h9 z9) (fun H locs hP hS => ?_)
            have hcr : cRun κ σ y0 = 0 := by unfold cRun; rw [if_pos hok, ey, nI_clamp (show n < 2 ^ 31 by omega)]; exact if_neg (by omega)
            refine lv_iconst (v := 0) hx hb dX4_run_65 (by decide) ?_
            refine lv_istore_n (lv' := [(2, .int 0), (0, .ref (ad 0 0)), (1, .int (nI n))]) hx hb dX4_run_66 rfl hl (by decide) rfl (fun ls hl => ?_)
            have hP : gw_P D vwCl A rDm (rEn cI cZ ((runM (κ 0) (lineF (κ 0) σ) 0 (κ, σ)).1) ((runM (κ 0) (lineF (κ 0) σ) 0 (κ, σ)).2) (wr v9 2 0 0) ad) ad _ := hP
            have lat : ∀ i : Nat, later (κ, σ) (runM (κ 0) (lineF (κ 0) σ) i (κ, σ)) := fun i => later.run _ _ _ _
            refine lv_loop (fun kk H locs ls => ∃ tk : Nat, ∃ sc2 : Nat → Nat → Int32, kk = n - tk ∧ tk ≤ n ∧ (∀ j : Nat, j < κ 0 → sc2 0 j = nI (lineF (κ 0) σ j)) ∧ (sc2 2 0 = 0) ∧ gw_P D vwCl A rDm (rEn cI cZ ((runM (κ 0) (lineF (κ 0) σ) tk (κ, σ)).1) ((runM (κ 0) (lineF (κ 0) σ) tk (κ, σ)).2) sc2 ad) ad H ∧ va_S A s.heap H locs ∧ lv_has ls 4 [(0, .ref (ad 0 0)), (1, .int (nI n)), (2, .int (nI tk))]) (fun kk H locs ls hI ih => ?_) (n - 0) ⟨0, (wr v9 2 0 0), rfl, by omega, (fun j hj => (wr_f (by decide)).trans (hline j hj)), wr_s, hP, hS, lv_sub hl [1, 2, 0] rfl⟩
            obtain ⟨tk, sc2, hk_67, hi_67, hln2, hcd, hP, hS, hl⟩ := hI
            have ihO := ih
            have k3t : (runM (κ 0) (lineF (κ 0) σ) tk (κ, σ)).1 3 = κ 3 + tk := time_run _ _ _ _
            have k2t := run_280 hn (lineF (κ 0) σ) (κ, σ) tk
            have k0t : (runM (κ 0) (lineF (κ 0) σ) tk (κ, σ)).1 0 = κ 0 := (lat tk).1 0 (by decide) (by decide)
            refine lv_iload_n hx hb dX4_run_67 rfl (lv_at hl 2 rfl) ?_
            refine lv_iload_n hx hb dX4_run_68 rfl (lv_at hl 1 rfl) ?_
            refine lv_icmp_ge (tgt := 153) hx hb dX4_run_69 (by decide) (fun c_9 => ?_) (fun c_9 => ?_)
            · have c_9 : n ≤ tk := (nI_leI (a := n) (b := tk) (by omega) (by omega)).mp c_9
              refine lv_aload_n hx hb dX4_run_153 rfl (lv_at hl 0 rfl) ?_
              refine gw_get (C := RX4) (T := TX4) (N := 25) hx hb hL4 hown hK hP 0 0 (rDf (by decide)) rfl rfl 0 (by decide) (hts (.fieldLink RX4 65 "BlockProgramsModel" "code" "I") (by decide +kernel)) (fun _ h9 => h9) (v := .int 0) (congrArg (fun z : Int32 => some (Value.int z)) hcd) dX4_run_154 ?_
              refine lv_if_le (tgt := 164) hx hb dX4_run_157 (by decide) (fun c_10 => ?_) (fun c_10 => ?_)
              · have c_10 : 0 ≤ 0 := (nI_leI (a := 0) (b := 0) (by omega) (by omega)).mp c_10
                refine lv_aload_n hx hb dX4_run_164 rfl (lv_at hl 0 rfl) ?_
                refine gw_get (C := RX4) (T := TX4) (N := 25) hx hb hL4 hown hK hP 0 0 (rDf (by decide)) rfl rfl 14 (by decide) (hts (.fieldLink RX4 100 "BlockProgramsModel" "time" "I") (by decide +kernel)) (fun _ h9 => h9) (v := .int (nI (((runM (κ 0) (lineF (κ 0) σ) tk (κ, σ)).1) 3))) rfl dX4_run_165 ?_
                have ei : tk = n := by omega
                have eR : runR κ σ y0 = (runM (κ 0) (lineF (κ 0) σ) tk (κ, σ)) := by unfold runR; rw [if_pos hcr, ey, nI_clamp (show n < 2 ^ 31 by omega), ei]
                have e7 : nI ((runM (κ 0) (lineF (κ 0) σ) tk (κ, σ)).1 3) = nI (κ 3 + y0.toNatClampNeg) := by rw [k3t, ey, nI_clamp (show n < 2 ^ 31 by omega), ei]
                exact W.iret (v := nI (((runM (κ 0) (lineF (κ 0) σ) tk (κ, σ)).1) 3)) hx hb hr (fun t ht hW => ⟨⟨(nI (((runM (κ 0) (lineF (κ 0) σ) tk (κ, σ)).1) 3)), sc2, rfl, ⟨by rw [hcr]; exact hcd, fun _ => e7⟩, by rw [eR]; rw [← ht] at hP; exact hP⟩, hS.F ht⟩) hS.2.2 dX4_run_168
              · have c_10 : ¬ (0 ≤ 0) := fun z => c_10 ((nI_leI (a := 0) (b := 0) (by omega) (by omega)).mpr z)
                exfalso; omega
            · have c_9 : ¬ (n ≤ tk) := fun z => c_9 ((nI_leI (a := n) (b := tk) (by omega) (by omega)).mpr z)
              refine lv_aload_n hx hb dX4_run_72 rfl (lv_at hl 0 rfl) ?_
              refine gw_get (C := RX4) (T := TX4) (N := 25) hx hb hL4 hown hK hP 0 0 (rDf (by decide)) rfl rfl 0 (by decide) (hts (.fieldLink RX4 65 "BlockProgramsModel" "code" "I") (by decide +kernel)) (fun _ h9 => h9) (v := .int 0) (congrArg (fun z : Int32 => some (Value.int z)) hcd) dX4_run_73 ?_
              refine lv_if_ne (tgt := 153) hx hb dX4_run_76 (by decide) (fun c_11 => ?_) (fun c_11 => ?_)
              · have c_11 : ¬ (0 = 0) := fun z => c_11 ((nI_eq (a := 0) (b := 0) (by omega) (by omega)).mpr z)
                exfalso; omega
              · have c_11 : 0 = 0 := (nI_eq (a := 0) (b := 0) (by omega) (by omega)).mp c_11
                refine lv_aload_n hx hb dX4_run_79 rfl (lv_at hl 0 rfl) ?_
                refine lv_dup hx hb dX4_run_80 rfl ?_
                refine gw_get (C := RX4) (T := TX4) (N := 25) hx hb hL4 hown hK hP 0 0 (rDf (by decide)) rfl rfl 14 (by decide) (hts (.fieldLink RX4 100 "BlockProgramsModel" "time" "I") (by decide +kernel)) (fun _ h9 => h9) (v := .int (nI (((runM (κ 0) (lineF (κ 0) σ) tk (κ, σ)).1) 3))) rfl dX4_run_81 ?_
                refine lv_iconst (v := 1) hx hb dX4_run_84 (by decide) ?_
                refine lv_iadd hx hb dX4_run_85 ?_
                refine lv_toq (nI (((runM (κ 0) (lineF (κ 0) σ) tk (κ, σ)).1) 3 + 1)) (nI_add (((runM (κ 0) (lineF (κ 0) σ) tk (κ, σ)).1) 3) 1) ?_
                refine gw_put (ty := .int) (C := RX4) (T := TX4) (N := 25) hx hb hL4 tyX4 tyX4_ok nmX4 hown hK hP hS 0 0 (rDf (by decide)) rfl rfl 14 (by decide) (hts (.fieldLink RX4 100 "BlockProgramsModel" "time" "I") (by decide +kernel)) (fun _ h9 => h9) rfl (by decide +kernel) rfl rfl (Nat.le_of_ble_eq_true rfl) dX4_run_86 (rEn cI cZ (va_up ((runM (κ 0) (lineF (κ 0) σ) tk (κ, σ)).1) 3 (((runM (κ 0) (lineF (κ 0) σ) tk (κ, σ)).1) 3 + 1)) ((runM (κ 0) (lineF (κ 0) σ) tk (κ, σ)).2) sc2 ad) (rU0k_14 _) (fun t9 i9 z9 h9 => rU0k (by decide) _ t9 i9 h9 z9) (fun H locs hP hS => ?_)
                refine lv_iconst (v := 0) hx hb dX4_run_89 (by decide) ?_
                refine lv_istore_n (lv' := [(3, .int 0), (0, .ref (ad 0 0)), (1, .int (nI n)), (2, .int (nI tk))]) hx hb dX4_run_90 rfl hl (by decide) rfl (fun ls hl => ?_)
                obtain ⟨M0, eM0⟩ : ∃ z : MM, z = timeM (runM (κ 0) (lineF (κ 0) σ) tk (κ, σ)) := ⟨_, rfl⟩
                obtain ⟨F, eF⟩ : ∃ F : Nat → MM → MM, F = (fun i => reckonM (lineF (κ 0) σ i)) := ⟨_, rfl⟩
                have lat1 : ∀ i : Nat, later (κ, σ) (itM F i M0) := fun i => by rw [eM0, eF]; exact ((lat tk).tr (later.time _)).tr (later.it (fun i M => later.reckon M (lineF (κ 0) σ i)) i _)
                have lat2 : ∀ i : Nat, later (κ, σ) (itM takeM i (itM F (κ 0) M0)) := fun i => (lat1 (κ 0)).tr (later.it (fun i M => later.take M i) i _)
                have b1 : ∀ i : Nat, (itM F i M0).1 2 ≤ κ 2 + 80 * tk + i := fun i => by rw [eF]; have z := it_2 (f := (fun i => reckonM (lineF (κ 0) σ i))) (fun i M => reckon_2 M (lineF (κ 0) σ i)) i M0; rw [eM0, time_2] at z; rw [eM0]; have : (κ, σ).1 2 = κ 2 := rfl; omega
                have b2 : ∀ i : Nat, (itM takeM i (itM F (κ 0) M0)).1 2 ≤ κ 2 + 80 * tk + κ 0 + i := fun i => by have z := it_2 (f := takeM) (fun i M => take_2 M i) i (itM F (κ 0) M0); have := b1 (κ 0); omega
                have z9 : (timeM (runM (κ 0) (lineF (κ 0) σ) tk (κ, σ))).1 3 = (runM (κ 0) (lineF (κ 0) σ) tk (κ, σ)).1 3 + 1 := va_up_self (runM (κ 0) (lineF (κ 0) σ) tk (κ, σ)).1 3 ((runM (κ 0) (lineF (κ 0) σ) tk (κ, σ)).1 3 + 1)
                have tm1 : ∀ i : Nat, (itM F i M0).1 3 = κ 3 + tk + 1 := fun i => by
                  rw [eF, time_it (fun i M => time_reckon M (lineF (κ 0) σ i)), eM0, z9, k3t]
                have hP : gw_P D vwCl A rDm (rEn cI cZ ((itM F 0 M0).1) ((itM F 0 M0).2) sc2 ad) ad H := by rw [eM0]; exact hP
                refine lv_loop (fun kk H locs ls => ∃ i : Nat, ∃ sc3 : Nat → Nat → Int32, kk = (κ 0) - i ∧ i ≤ κ 0 ∧ (∀ j : Nat, j < κ 0 → sc3 0 j = nI (lineF (κ 0) σ j)) ∧ (sc3 2 0 = 0) ∧ gw_P D vwCl A rDm (rEn cI cZ ((itM F i M0).1) ((itM F i M0).2) sc3 ad) ad H ∧ va_S A s.heap H locs ∧ lv_has ls 4 [(0, .ref (ad 0 0)), (1, .int (nI n)), (2, .int (nI tk)), (3, .int (nI i))]) (fun kk H locs ls hI ih => ?_) ((κ 0) - 0) ⟨0, sc2, rfl, by omega, hln2, hcd, hP, hS, lv_sub hl [1, 2, 3, 0] rfl⟩
                obtain ⟨i, sc3, hk_91, hi_91, hln3, hcd3, hP, hS, hl⟩ := hI
                have k0 : (itM F i M0).1 0 = κ 0 := (lat1 i).1 0 (by decide) (by decide)
                refine lv_iload_n hx hb dX4_run_91 rfl (lv_at hl 3 rfl) ?_
                refine lv_aload_n hx hb dX4_run_92 rfl (lv_at hl 0 rfl) ?_
                refine gw_get (C := RX4) (T := TX4) (N := 25) hx hb hL4 hown hK hP 0 0 (rDf (by decide)) rfl rfl 1 (by decide) (hts (.fieldLink RX4 69 "BlockProgramsModel" "blocks" "I") (by decide +kernel)) (fun _ h9 => h9) (v := .int (nI (κ 0))) (congrArg (fun z : Nat => some (Value.int (nI z))) k0) dX4_run_93 ?_
                refine lv_icmp_ge (tgt := 115) hx hb dX4_run_96 (by decide) (fun c_12 => ?_) (fun c_12 => ?_)
                · have c_12 : κ 0 ≤ i := (nI_leI (a := κ 0) (b := i) (by omega) (by omega)).mp c_12
                  refine lv_iconst (v := 0) hx hb dX4_run_115 (by decide) ?_
                  refine lv_istore_n (lv' := [(3, .int 0), (0, .ref (ad 0 0)), (1, .int (nI n)), (2, .int (nI tk))]) hx hb dX4_run_116 rfl hl (by decide) rfl (fun ls hl => ?_)
                  have ei : i = κ 0 := by omega
                  rw [ei] at hP
                  refine lv_loop (fun kk H locs ls => ∃ i : Nat, ∃ sc3 : Nat → Nat → Int32, kk = (κ 0) - i ∧ i ≤ κ 0 ∧ (∀ j : Nat, j < κ 0 → sc3 0 j = nI (lineF (κ 0) σ j)) ∧ (sc3 2 0 = 0) ∧ gw_P D vwCl A rDm (rEn cI cZ ((itM takeM i (itM F (κ 0) M0)).1) ((itM takeM i (itM F (κ 0) M0)).2) sc3 ad) ad H ∧ va_S A s.heap H locs ∧ lv_has ls 4 [(0, .ref (ad 0 0)), (1, .int (nI n)), (2, .int (nI tk)), (3, .int (nI i))]) (fun kk H locs ls hI ih => ?_) ((κ 0) - 0) ⟨0, sc3, rfl, by omega, hln3, hcd3, hP, hS, lv_sub hl [1, 2, 3, 0] rfl⟩
                  obtain ⟨i, sc3, hk_117, hi_117, hln3, hcd3, hP, hS, hl⟩ := hI
                  have k0 : (itM takeM i (itM F (κ 0) M0)).1 0 = κ 0 := (lat2 i).1 0 (by decide) (by decide)
                  refine lv_iload_n hx hb dX4_run_117 rfl (lv_at hl 3 rfl) ?_
                  refine lv_aload_n hx hb dX4_run_118 rfl (lv_at hl 0 rfl) ?_
                  refine gw_get (C := RX4) (T := TX4) (N := 25) hx hb hL4 hown hK hP 0 0 (rDf (by decide)) rfl rfl 1 (by decide) (hts (.fieldLink RX4 69 "BlockProgramsModel" "blocks" "I") (by decide +kernel)) (fun _ h9 => h9) (v := .int (nI (κ 0))) (congrArg (fun z : Nat => some (Value.int (nI z))) k0) dX4_run_119 ?_
                  refine lv_icmp_ge (tgt := 147) hx hb dX4_run_122 (by decide) (fun c_13 => ?_) (fun c_13 => ?_)
                  · have c_13 : κ 0 ≤ i := (nI_leI (a := κ 0) (b := i) (by omega) (by omega)).mp c_13
                    refine lv_iinc (v := nI (tk + 1)) (lv' := [(2, .int (nI (tk + 1))), (0, .ref (ad 0 0)), (1, .int (nI n)), (3, .int (nI i))]) hx hb dX4_run_147 hl (k := 2) rfl (nI_add tk 1) (by decide) rfl (fun ls hl => ?_)
                    refine lv_goto (tgt := 67) hx hb dX4_run_150 (by decide) ?_
                    have ei2 : i = κ 0 := by omega
                    rw [ei2] at hP
                    rw [eF, eM0] at hP
                    have hP : gw_P D vwCl A rDm (rEn cI cZ ((runM (κ 0) (lineF (κ 0) σ) (tk + 1) (κ, σ)).1) ((runM (κ 0) (lineF (κ 0) σ) (tk + 1) (κ, σ)).2) sc3 ad) ad _ := hP
                    exact ihO _ _ _ _ (by omega) ⟨tk + 1, sc3, rfl, by omega, hln3, hcd3, hP, hS, lv_sub hl [1, 2, 0] rfl⟩
                  · have c_13 : ¬ (κ 0 ≤ i) := fun z => c_13 ((nI_leI (a := κ 0) (b := i) (by omega) (by omega)).mpr z)
                    obtain ⟨k, hk26, ek⟩ := (lat2 i).kok hk i (by omega)
                    refine lv_aload_n hx hb dX4_run_125 rfl (lv_at hl 0 rfl) ?_
                    refine gw_get (C := RX4) (T := TX4) (N := 25) hx hb hL4 hown hK hP 0 0 (rDf (by decide)) rfl rfl 2 (by decide) (hts (.fieldLink RX4 7 "BlockProgramsModel" "kinds" "[I") (by decide +kernel)) (fun _ h9 => h9) (v := .ref (ad 2 0)) rfl dX4_run_126 ?_
                    refine lv_iload_n hx hb dX4_run_129 rfl (lv_at hl 3 rfl) ?_
                    refine gw_iald hx hb hK hP 2 0 (rDf (by decide)) 0 rfl rfl (i) rfl (by omega) (by decide) (v := nI k) ek dX4_run_130 ?_
                    refine lv_bipush (v := 16) hx hb dX4_run_131 (by decide) ?_
                    refine lv_icmp_ne (tgt := 141) hx hb dX4_run_133 (by decide) (fun c_14 => ?_) (fun c_14 => ?_)
                    · have c_14 : ¬ (k = 16) := fun z => c_14 ((nI_eq (a := k) (b := 16) (by omega) (by omega)).mpr z)
                      refine lv_iinc (v := nI (i + 1)) (lv' := [(3, .int (nI (i + 1))), (0, .ref (ad 0 0)), (1, .int (nI n)), (2, .int (nI tk))]) hx hb dX4_run_141 hl (k := 3) rfl (nI_add i 1) (by decide) rfl (fun ls hl => ?_)
                      refine lv_goto (tgt := 117) hx hb dX4_run_144 (by decide) ?_
                      have e1 : (itM takeM (i + 1) (itM F (κ 0) M0)) = (itM takeM i (itM F (κ 0) M0)) := takeM_n (by rw [kd_of ek hk26]; omega)
                      have hP : gw_P D vwCl A rDm (rEn cI cZ ((itM takeM (i + 1) (itM F (κ 0) M0)).1) ((itM takeM (i + 1) (itM F (κ 0) M0)).2) sc3 ad) ad H := by rw [e1]; exact hP
                      exact ih _ _ _ _ (by omega) ⟨i + 1, sc3, rfl, by omega, hln3, hcd3, hP, hS, lv_sub hl [1, 2, 3, 0] rfl⟩
                    · have c_14 : k = 16 := (nI_eq (a := k) (b := 16) (by omega) (by omega)).mp c_14
                      refine lv_aload_n hx hb dX4_run_136 rfl (lv_at hl 0 rfl) ?_
                      refine lv_iload_n hx hb dX4_run_137 rfl (lv_at hl 3 rfl) ?_
                      have b2i := b2 i
                      refine va_callv (va_runV (As := [.int (nI i)]) (rest := []) ⟨hx, hb, hml, hown, hts⟩ (k_X4_takeDelay (l := l) (D := D) (cI := cI) (cZ := cZ) (cB := cB) (cS := cS) (A := A) (itM takeM i (itM F (κ 0) M0)).1 (itM takeM i (itM F (κ 0) M0)).2 sc3 ad i (by omega) (by omega) (by omega) (okW_later (lat2 i) (hwv i (by omega) 0 (by decide)))) (cwV 1 hts gX4_run_X4_takeDelay rfl rfl rfl (by decide +kernel) ⟨Nat.le_of_ble_eq_true rfl, Nat.le_of_ble_eq_true rfl⟩) (gPreV hE hA hS hP (gw_recv hK hP 0 0 (rDf (by decide)) rfl rfl)) rfl rfl hl.1 rfl (lv_room (Nat.le_of_ble_eq_true rfl)) dX4_run_138 ⟨Nat.le_of_ble_eq_true rfl, Nat.le_of_ble_eq_true rfl⟩) hS (fun q _ h9 => h9) (fun q h9 => h9) (fun u9 t9 H locs ht9 hvm9 hw_15 hB9 hz9 hk9 hS => ?_)
                      have hP : gw_P D vwCl A rDm (rEn cI cZ ((takeK (itM takeM i (itM F (κ 0) M0)).1 (itM takeM i (itM F (κ 0) M0)).2 i)) ((takeS (itM takeM i (itM F (κ 0) M0)).1 (itM takeM i (itM F (κ 0) M0)).2 i)) sc3 ad) ad H := by rw [← ht9]; exact hB9
                      refine lv_iinc (v := nI (i + 1)) (lv' := [(3, .int (nI (i + 1))), (0, .ref (ad 0 0)), (1, .int (nI n)), (2, .int (nI tk))]) hx hb dX4_run_141 hl (k := 3) rfl (nI_add i 1) (by decide) rfl (fun ls hl => ?_)
                      refine lv_goto (tgt := 117) hx hb dX4_run_144 (by decide) ?_
                      have e1 : (itM takeM (i + 1) (itM F (κ 0) M0)) = (takeK (itM takeM i (itM F (κ 0) M0)).1 (itM takeM i (itM F (κ 0) M0)).2 i, takeS (itM takeM i (itM F (κ 0) M0)).1 (itM takeM i (itM F (κ 0) M0)).2 i) := takeM_y (by rw [kd_of ek hk26]; omega)
                      have hP : gw_P D vwCl A rDm (rEn cI cZ ((itM takeM (i + 1) (itM F (κ 0) M0)).1) ((itM takeM (i + 1) (itM F (κ 0) M0)).2) sc3 ad) ad H := by rw [e1]; exact hP
                      exact ih _ _ _ _ (by omega) ⟨i + 1, sc3, rfl, by omega, hln3, hcd3, hP, hS, lv_sub hl [1, 2, 3, 0] rfl⟩
                · have c_12 : ¬ (κ 0 ≤ i) := fun z => c_12 ((nI_leI (a := κ 0) (b := i) (by omega) (by omega)).mpr z)
                  refine lv_aload_n hx hb dX4_run_99 rfl (lv_at hl 0 rfl) ?_
                  refine lv_aload_n hx hb dX4_run_100 rfl (lv_at hl 0 rfl) ?_
                  refine gw_get (C := RX4) (T := TX4) (N := 25) hx hb hL4 hown hK hP 0 0 (rDf (by decide)) rfl rfl 15 (by decide) (hts (.fieldLink RX4 47 "BlockProgramsModel" "order" "[I") (by decide +kernel)) (fun _ h9 => h9) (v := .ref (ad 15 0)) rfl dX4_run_101 ?_
                  refine lv_iload_n hx hb dX4_run_104 rfl (lv_at hl 3 rfl) ?_
                  refine gw_iald hx hb hK hP 15 0 (rDf (by decide)) 0 rfl rfl (i) rfl (by omega) (by decide) (v := nI (lineF (κ 0) σ i)) (hln3 i (by omega)) dX4_run_105 ?_
                  have lni : lineF (κ 0) σ i < κ 0 := line_lt (by omega)
                  obtain ⟨k, hk26, ek⟩ := (lat1 i).kok hk (lineF (κ 0) σ i) lni
                  have tmi := tm1 i
                  have b1i := b1 i
                  refine va_callv (va_runV (As := [.int (nI (lineF (κ 0) σ i))]) (rest := []) ⟨hx, hb, hml, hown, hts⟩ (k_X4_reckon (l := l) (D := D) (cI := cI) (cZ := cZ) (cB := cB) (cS := cS) (A := A) (itM F i M0).1 (itM F i M0).2 sc3 ad (lineF (κ 0) σ i) k (by omega) (by omega) hk26 ek (by omega) (by omega) (fun q hq => okW_later (lat1 i) (hwv _ lni q hq))) (cwV 1 hts gX4_run_X4_reckon rfl rfl rfl (by decide +kernel) ⟨Nat.le_of_ble_eq_true rfl, Nat.le_of_ble_eq_true rfl⟩) (gPreV hE hA hS hP (gw_recv hK hP 0 0 (rDf (by decide)) rfl rfl)) rfl rfl hl.1 rfl (lv_room (Nat.le_of_ble_eq_true rfl)) dX4_run_106 ⟨Nat.le_of_ble_eq_true rfl, Nat.le_of_ble_eq_true rfl⟩) hS (fun q _ h9 => h9) (fun q h9 => h9) (fun u9 t9 H locs ht9 hvm9 hu9 hB9 hz9 hk9 hS => ?_)
                  have e1 : itM F (i + 1) M0 = (reckonK (itM F i M0).1 (itM F i M0).2 (lineF (κ 0) σ i) k, reckonS (itM F i M0).1 (itM F i M0).2 (lineF (κ 0) σ i) k) := by
                    have z : itM F (i + 1) M0 = reckonM (lineF (κ 0) σ i) (itM F i M0) := by rw [eF]; rfl
                    exact z.trans (reckonM_k (kd_of ek hk26))
                  have hP : gw_P D vwCl A rDm (rEn cI cZ ((itM F (i + 1) M0).1) ((itM F (i + 1) M0).2) u9 ad) ad H := by rw [e1, ← ht9]; exact hB9
                  refine lv_iinc (v := nI (i + 1)) (lv' := [(3, .int (nI (i + 1))), (0, .ref (ad 0 0)), (1, .int (nI n)), (2, .int (nI tk))]) hx hb dX4_run_109 hl (k := 3) rfl (nI_add i 1) (by decide) rfl (fun ls hl => ?_)
                  refine lv_goto (tgt := 91) hx hb dX4_run_112 (by decide) ?_
                  exact ih _ _ _ _ (by omega) ⟨i + 1, u9, rfl, by omega, (fun j hj => (hu9 0 j (by omega)).trans (hln3 j hj)), ((hu9 2 0 (by omega)).trans hcd3), hP, hS, lv_sub hl [1, 2, 3, 0] rfl⟩
          · have c_8 : ¬ (κ 3 + n ≤ 3000) := fun z => c_8 ((nI_leI (a := κ 3 + n) (b := 3000) (by omega) (by omega)).mpr z)
            refine lv_iconst (v := 2) hx hb dX4_run_57 (by decide) ?_
            refine lv_goto (tgt := 62) hx hb dX4_run_58 (by decide) ?_
            refine gw_put (ty := .int) (C := RX4) (T := TX4) (N := 25) hx hb hL4 tyX4 tyX4_ok nmX4 hown hK hP hS 0 0 (rDf (by decide)) rfl rfl 0 (by decide) (hts (.fieldLink RX4 65 "BlockProgramsModel" "code" "I") (by decide +kernel)) (fun _ h9 => h9) rfl (by decide +kernel) rfl rfl (Nat.le_of_ble_eq_true rfl) dX4_run_62 (rEn cI cZ κ σ (wr v9 2 0 2) ad) (rU0s_0 _) (fun t9 i9 z9 h9 => rU0 _ _ t9 i9 h9 z9) (fun H locs hP hS => ?_)
            have hcr : cRun κ σ y0 = 2 := by unfold cRun; rw [if_pos hok, ey, nI_clamp (show n < 2 ^ 31 by omega)]; exact if_pos (by omega)
            refine lv_iconst (v := 0) hx hb dX4_run_65 (by decide) ?_
            refine lv_istore_n (lv' := [(2, .int 0), (0, .ref (ad 0 0)), (1, .int (nI n))]) hx hb dX4_run_66 rfl hl (by decide) rfl (fun ls hl => ?_)
            refine lv_iload_n hx hb dX4_run_67 rfl (lv_at hl 0 rfl) ?_
            refine lv_iload_n hx hb dX4_run_68 rfl (lv_at hl 2 rfl) ?_
            refine lv_icmp_ge (tgt := 153) hx hb dX4_run_69 (by decide) (fun c_16 => ?_) (fun c_16 => ?_)
            · have c_16 : n ≤ 0 := (nI_leI (a := n) (b := 0) (by omega) (by omega)).mp c_16
              exfalso; omega
            · have c_16 : ¬ (n ≤ 0) := fun z => c_16 ((nI_leI (a := n) (b := 0) (by omega) (by omega)).mpr z)
              refine lv_aload_n hx hb dX4_run_72 rfl (lv_at hl 1 rfl) ?_
              refine gw_get (C := RX4) (T := TX4) (N := 25) hx hb hL4 hown hK hP 0 0 (rDf (by decide)) rfl rfl 0 (by decide) (hts (.fieldLink RX4 65 "BlockProgramsModel" "code" "I") (by decide +kernel)) (fun _ h9 => h9) (v := .int 2) (by simp [wr, va_up]) dX4_run_73 ?_
              refine lv_if_ne (tgt := 153) hx hb dX4_run_76 (by decide) (fun c_17 => ?_) (fun c_17 => ?_)
              · have c_17 : ¬ (2 = 0) := fun z => c_17 ((nI_eq (a := 2) (b := 0) (by omega) (by omega)).mpr z)
                refine lv_aload_n hx hb dX4_run_153 rfl (lv_at hl 1 rfl) ?_
                refine gw_get (C := RX4) (T := TX4) (N := 25) hx hb hL4 hown hK hP 0 0 (rDf (by decide)) rfl rfl 0 (by decide) (hts (.fieldLink RX4 65 "BlockProgramsModel" "code" "I") (by decide +kernel)) (fun _ h9 => h9) (v := .int 2) (by simp [wr, va_up]) dX4_run_154 ?_
                refine lv_if_le (tgt := 164) hx hb dX4_run_157 (by decide) (fun c_18 => ?_) (fun c_18 => ?_)
                · have c_18 : 2 ≤ 0 := (nI_leI (a := 2) (b := 0) (by omega) (by omega)).mp c_18
                  exfalso; omega
                · have c_18 : ¬ (2 ≤ 0) := fun z => c_18 ((nI_leI (a := 2) (b := 0) (by omega) (by omega)).mpr z)
                  refine lv_iconst (v := 0) hx hb dX4_run_160 (by decide) ?_
                  refine lv_goto (tgt := 168) hx hb dX4_run_161 (by decide) ?_
                  have eR : runR κ σ y0 = (κ, σ) := if_neg (by rw [hcr]; decide)
                  exact W.iret (v := 0) hx hb hr (fun t ht hW => ⟨⟨0, wr v9 2 0 2, rfl, ⟨by rw [hcr]; exact wr_s, fun z => absurd (hcr.symm.trans z) (by decide)⟩, by rw [eR]; rw [← ht] at hP; exact hP⟩, hS.F ht⟩) hS.2.2 dX4_run_168
              · have c_17 : 2 = 0 := (nI_eq (a := 2) (b := 0) (by omega) (by omega)).mp c_17
                exfalso; omega
      · have c_3 : ¬ (0 ≤ 0) := fun z => c_3 ((nI_leI (a := 0) (b := 0) (by omega) (by omega)).mpr z)
        exfalso; omega
  · refine lv_toq 0 (hw_r_1.trans (if_neg hok)) ?_
    have hcr : cRun κ σ y0 = 1 := by unfold cRun; exact if_neg hok
    refine lv_if_eq (tgt := 16) hx hb dX4_run_9 (by decide) (fun c_19 => ?_) (fun c_19 => ?_)
    · have c_19 : 0 = 0 := (nI_eq (a := 0) (b := 0) (by omega) (by omega)).mp c_19
      refine lv_iconst (v := 1) hx hb dX4_run_16 (by decide) ?_
      refine gw_put (ty := .int) (C := RX4) (T := TX4) (N := 25) hx hb hL4 tyX4 tyX4_ok nmX4 hown hK hP hS 0 0 (rDf (by decide)) rfl rfl 0 (by decide) (hts (.fieldLink RX4 65 "BlockProgramsModel" "code" "I") (by decide +kernel)) (fun _ h9 => h9) rfl (by decide +kernel) rfl rfl (Nat.le_of_ble_eq_true rfl) dX4_run_17 (rEn cI cZ κ σ (wr sc 2 0 1) ad) (rU0s_0 _) (fun t9 i9 z9 h9 => rU0 _ _ t9 i9 h9 z9) (fun H locs hP hS => ?_)
      refine lv_aload_n hx hb dX4_run_20 rfl (lv_at hl 0 rfl) ?_
      refine gw_get (C := RX4) (T := TX4) (N := 25) hx hb hL4 hown hK hP 0 0 (rDf (by decide)) rfl rfl 0 (by decide) (hts (.fieldLink RX4 65 "BlockProgramsModel" "code" "I") (by decide +kernel)) (fun _ h9 => h9) (v := .int 1) (by simp [wr, va_up]) dX4_run_21 ?_
      refine lv_if_le (tgt := 29) hx hb dX4_run_24 (by decide) (fun c_20 => ?_) (fun c_20 => ?_)
      · have c_20 : 1 ≤ 0 := (nI_leI (a := 1) (b := 0) (by omega) (by omega)).mp c_20
        exfalso; omega
      · have c_20 : ¬ (1 ≤ 0) := fun z => c_20 ((nI_leI (a := 1) (b := 0) (by omega) (by omega)).mpr z)
        refine lv_iconst (v := 0) hx hb dX4_run_27 (by decide) ?_
        have eR : runR κ σ y0 = (κ, σ) := if_neg (by rw [hcr]; decide)
        exact W.iret (v := 0) hx hb hr (fun t ht hW => ⟨⟨0, wr sc 2 0 1, rfl, ⟨by rw [hcr]; exact wr_s, fun z => absurd (hcr.symm.trans z) (by decide)⟩, by rw [eR]; rw [← ht] at hP; exact hP⟩, hS.F ht⟩) hS.2.2 dX4_run_28
    · have c_19 : ¬ (0 = 0) := fun z => c_19 ((nI_eq (a := 0) (b := 0) (by omega) (by omega)).mpr z)
      exfalso; omega

