theorem k_X4_fail {l : Launch} {D : va_G} {cI cZ cB cS : ClassId} {A : Nat → Prop} (κ : Nat → Nat) (σ sc : Nat → Nat → Int32) (ad : Nat → Nat → Nat) (b k : Nat) (hb0 : b < κ 0) (hn : κ 0 ≤ 40) (h2 : κ 2 < 2 ^ 31) (hk1 : 1 ≤ k) (hk : k ≤ 3) : Met l yX4_fail wsX4_fail ({ frames := 0, cells := 0, slots := 0, locals := 0 } : Room) (gPc D cI cZ cB cS A rDm (rEn cI cZ κ σ sc ad) ad [.ref (ad 0 0), .int (nI b), .int (nI k)]) (va_Qv (fun _ : Unit => True) (fun _ t => gw_P D vwCl A rDm (rEn cI cZ (noteK κ) (noteS κ σ (nI (κ 3)) (nI b) k) sc ad) ad t.heap) A) 0 0 A := by
  rcases (show k = 1 ∨ k = 2 ∨ k = 3 by omega) with rfl | rfl | rfl
  · exact k_X4_fail_1 κ σ sc ad b hb0 hn h2
  · exact k_X4_fail_2 κ σ sc ad b hb0 hn h2
  · exact k_X4_fail_3 κ σ sc ad b hb0 hn h2
theorem iL_X4_reckon_X4 : ∀ w ∈ u_ws RX4 TX4 25, w ∈ wsX4_reckon := by decide +kernel
set_option maxHeartbeats 4000000 in
set_option maxRecDepth 100000 in
theorem k_X4_reckon {l : Launch} {D : va_G} {cI cZ cB cS : ClassId} {A : Nat → Prop} (κ : Nat → Nat) (σ sc : Nat → Nat → Int32) (ad : Nat → Nat → Nat) (b k : Nat) (hb0 : b < κ 0) (hn : κ 0 ≤ 40) (hk0 : k < 26) (ek : σ 0 b = nI k) (h3 : κ 3 ≤ 3000) (h2 : κ 2 < 2 ^ 31) (hw : ∀ i, i < 3 → okW κ σ b i) : Met l yX4_reckon wsX4_reckon ({ frames := 3, cells := 0, slots := 0, locals := 65 } : Room) (gPc D cI cZ cB cS A rDm (rEn cI cZ κ σ sc ad) ad [.ref (ad 0 0), .int (nI b)]) (va_Qv (fun u : Nat → Nat → Int32 => ∀ f j : Nat, f ≠ 2 ∨ j ≠ 2 → u f j = sc f j) (fun u t => gw_P D vwCl A rDm (rEn cI cZ ((reckonK κ σ b k)) ((reckonS κ σ b k)) u ad) ad t.heap) A) 0 0 A := by
  refine Met.ofW (cc := cX4_reckon) (maxL := 3) (ret := none) (by decide) rfl ?_
  intro p e s m args below meth c s₁ B hml hv
  obtain ⟨rfl, hP, hE, hA⟩ := hv
  have hx := B.exec
  have hb := B.bytes
  have hr := B.returns
  have hts := atoms_spec (ws := wsX4_reckon) B.pre
  have hown : s.vm.findClass RX4 = some m.cls := findClass_of_methodNamed B.named
  have hlocks := B.notSynchronized
  have hK := hE.1
  have hS : va_S A s.heap s.heap [] := va_S.rf
  have hL4 := fun w (hw : w ∈ u_ws RX4 TX4 25) => hts w (iL_X4_reckon_X4 w hw)
  have hl := lv_entry ([.ref (ad 0 0), .int (nI b)]) (n := 3) (Nat.le_of_ble_eq_true rfl)
  rw [lg_entry_eq]
  generalize (lg_sl ([.ref (ad 0 0), .int (nI b)]) ++ List.replicate (3 - (lg_sl ([.ref (ad 0 0), .int (nI b)])).length) Slot.unset).toArray = ls at hl ⊢
  have hl : lv_has ls 3 [(0, .ref (ad 0 0)), (1, .int (nI b))] := hl
  have hn3 := nmd_le k
  refine lv_aload_n hx hb dX4_reckon_0 rfl (lv_at hl 0 rfl) ?_
  refine lv_iconst (v := 0) hx hb dX4_reckon_1 (by decide) ?_
  refine gw_put (ty := .int) (C := RX4) (T := TX4) (N := 25) hx hb hL4 tyX4 tyX4_ok nmX4 hown hK hP hS 0 0 (rDf (by decide)) rfl rfl 24 (by decide) (hts (.fieldLink RX4 93 "BlockProgramsModel" "wrong" "I") (by decide +kernel)) (fun _ h9 => h9) rfl (by decide +kernel) rfl rfl (Nat.le_of_ble_eq_true rfl) dX4_reckon_2 (rEn cI cZ κ σ (wr sc 2 2 0) ad) (rU0s_24 _) (fun t9 i9 z9 h9 => rU0 _ _ t9 i9 h9 z9) (fun H locs hP hS => ?_)
  refine lv_iconst (v := 0) hx hb dX4_reckon_5 (by decide) ?_
  refine lv_istore_n (lv' := [(2, .int 0), (0, .ref (ad 0 0)), (1, .int (nI b))]) hx hb dX4_reckon_6 rfl hl (by decide) rfl (fun ls hl => ?_)
  rw [show wr sc 2 2 0 = wr sc 2 2 (nI (lkN σ b 0)) from rfl] at hP
  refine lv_loop (fun kk H locs ls => ∃ i : Nat, kk = (nmd k) - i ∧ i ≤ nmd k ∧ (k = 16 → i = 0) ∧ gw_P D vwCl A rDm (rEn cI cZ κ σ (wr sc 2 2 (nI (lkN σ b i))) ad) ad H ∧ va_S A s.heap H locs ∧ lv_has ls 3 [(0, .ref (ad 0 0)), (1, .int (nI b)), (2, .int (nI i))]) (fun kk H locs ls hI ih => ?_) ((nmd k) - 0) ⟨0, rfl, by omega, fun _ => rfl, hP, hS, lv_sub hl [1, 2, 0] rfl⟩
  obtain ⟨i, hk_7, hi_7, hk16, hP, hS, hl⟩ := hI
  have hlk := lkN_le (σ := σ) (b := b) i
  refine lv_iload_n hx hb dX4_reckon_7 rfl (lv_at hl 2 rfl) ?_
  refine lv_aload_n hx hb dX4_reckon_8 rfl (lv_at hl 0 rfl) ?_
  refine gw_get (C := RX4) (T := TX4) (N := 25) hx hb hL4 hown hK hP 0 0 (rDf (by decide)) rfl rfl 2 (by decide) (hts (.fieldLink RX4 7 "BlockProgramsModel" "kinds" "[I") (by decide +kernel)) (fun _ h9 => h9) (v := .ref (ad 2 0)) rfl dX4_reckon_9 ?_
  refine lv_iload_n hx hb dX4_reckon_12 rfl (lv_at hl 1 rfl) ?_
  refine gw_iald hx hb hK hP 2 0 (rDf (by decide)) 0 rfl rfl (b) rfl (by omega) (by decide) (v := nI k) ek dX4_reckon_13 ?_
  refine va_calli (va_runS (As := [.int (nI k)]) (rest := [.int (nI i)]) ⟨hx, hb, hml, hown, hts⟩ (k_X4_inputsOf (l := l) (D := D) (cI := cI) (cZ := cZ) (cB := cB) (cS := cS) (A := A) rDm (rEn cI cZ κ σ (wr sc 2 2 (nI (lkN σ b i))) ad) ad k hk0) (va_cwS 1 hts gX4_reckon_X4_inputsOf rfl rfl rfl (by decide +kernel) ⟨Nat.le_of_ble_eq_true rfl, Nat.le_of_ble_eq_true rfl⟩) (gPreS hE hA hS hP) rfl rfl hl.1 rfl (lv_room (Nat.le_of_ble_eq_true rfl)) dX4_reckon_14 ⟨Nat.le_of_ble_eq_true rfl, Nat.le_of_ble_eq_true rfl⟩) hS (fun q _ h9 => h9) (fun q h9 => h9) (fun r_1 u9 t9 H locs ht9 hvm9 hw_r_1 hB9 hz9 hk9 hS => ?_)
  have hP : gw_P D vwCl A rDm (rEn cI cZ κ σ (wr sc 2 2 (nI (lkN σ b i))) ad) ad H := by rw [← ht9]; exact hB9
  refine lv_toq (nI (nmd k)) hw_r_1 ?_
  refine lv_icmp_ge (tgt := 63) hx hb dX4_reckon_17 (by decide) (fun c_2 => ?_) (fun c_2 => ?_)
  · have c_2 : nmd k ≤ i := (nI_leI (a := nmd k) (b := i) (by omega) (by omega)).mp c_2
    have e9 : lkN σ b i = lkF σ k b := by
      by_cases h16 : k = 16
      · have ei := hk16 h16
        rw [ei, h16]; exact lkF_16
      · exact lkF_e h16 (by omega)
    rw [e9] at hP
    by_cases hlk9 : k ≠ 16 ∧ lack σ k b = true
    · rw [show lkF σ k b = 3 from if_pos hlk9] at hP
      refine lv_iconst (v := 0) hx hb dX4_reckon_63 (by decide) ?_
      refine lv_istore_n (lv' := [(2, .int 0), (0, .ref (ad 0 0)), (1, .int (nI b))]) hx hb dX4_reckon_64 rfl hl (by decide) rfl (fun ls hl => ?_)
      refine lv_aload_n hx hb dX4_reckon_65 rfl (lv_at hl 1 rfl) ?_
      refine gw_get (C := RX4) (T := TX4) (N := 25) hx hb hL4 hown hK hP 0 0 (rDf (by decide)) rfl rfl 24 (by decide) (hts (.fieldLink RX4 93 "BlockProgramsModel" "wrong" "I") (by decide +kernel)) (fun _ h9 => h9) (v := .int (nI 3)) (by simp [wr, va_up]) dX4_reckon_66 ?_
      refine lv_if_ne (tgt := 127) hx hb dX4_reckon_69 (by decide) (fun c_3 => ?_) (fun c_3 => ?_)
      · have c_3 : ¬ (3 = 0) := fun z => c_3 ((nI_eq (a := 3) (b := 0) (by omega) (by omega)).mpr z)
        refine lv_aload_n hx hb dX4_reckon_127 rfl (lv_at hl 1 rfl) ?_
        refine gw_get (C := RX4) (T := TX4) (N := 25) hx hb hL4 hown hK hP 0 0 (rDf (by decide)) rfl rfl 24 (by decide) (hts (.fieldLink RX4 93 "BlockProgramsModel" "wrong" "I") (by decide +kernel)) (fun _ h9 => h9) (v := .int (nI 3)) (by simp [wr, va_up]) dX4_reckon_128 ?_
        refine lv_if_le (tgt := 150) hx hb dX4_reckon_131 (by decide) (fun c_4 => ?_) (fun c_4 => ?_)
        · have c_4 : 3 ≤ 0 := (nI_leI (a := 3) (b := 0) (by omega) (by omega)).mp c_4
          exfalso; omega
        · have c_4 : ¬ (3 ≤ 0) := fun z => c_4 ((nI_leI (a := 3) (b := 0) (by omega) (by omega)).mpr z)
          refine lv_aload_n hx hb dX4_reckon_134 rfl (lv_at hl 1 rfl) ?_
          refine lv_iload_n hx hb dX4_reckon_135 rfl (lv_at hl 2 rfl) ?_
          refine lv_aload_n hx hb dX4_reckon_136 rfl (lv_at hl 1 rfl) ?_
          refine gw_get (C := RX4) (T := TX4) (N := 25) hx hb hL4 hown hK hP 0 0 (rDf (by decide)) rfl rfl 24 (by decide) (hts (.fieldLink RX4 93 "BlockProgramsModel" "wrong" "I") (by decide +kernel)) (fun _ h9 => h9) (v := .int (nI 3)) (by simp [wr, va_up]) dX4_reckon_137 ?_
          refine va_callv (va_runV (As := [.int (nI b), .int (nI 3)]) (rest := []) ⟨hx, hb, hml, hown, hts⟩ (k_X4_fail (l := l) (D := D) (cI := cI) (cZ := cZ) (cB := cB) (cS := cS) (A := A) κ σ (wr sc 2 2 (nI 3)) ad b 3 hb0 hn h2 (by omega) (by omega)) (cwV 2 hts gX4_reckon_X4_fail rfl rfl rfl (by decide +kernel) ⟨Nat.le_of_ble_eq_true rfl, Nat.le_of_ble_eq_true rfl⟩) (gPreV hE hA hS hP (gw_recv hK hP 0 0 (rDf (by decide)) rfl rfl)) rfl rfl hl.1 rfl (lv_room (Nat.le_of_ble_eq_true rfl)) dX4_reckon_140 ⟨Nat.le_of_ble_eq_true rfl, Nat.le_of_ble_eq_true rfl⟩) hS (fun q _ h9 => h9) (fun q h9 => h9) (fun u9 t9 H locs ht9 hvm9 hw_5 hB9 hz9 hk9 hS => ?_)
          have hP : gw_P D vwCl A rDm (rEn cI cZ ((noteK κ)) ((noteS κ σ (nI (κ 3)) (nI b) 3)) (wr sc 2 2 (nI 3)) ad) ad H := by rw [← ht9]; exact hB9
          have n0 : noteK κ 0 = κ 0 := noteK_k (by decide)
          refine lv_aload_n hx hb dX4_reckon_143 rfl (lv_at hl 1 rfl) ?_
          refine gw_get (C := RX4) (T := TX4) (N := 25) hx hb hL4 hown hK hP 0 0 (rDf (by decide)) rfl rfl 5 (by decide) (hts (.fieldLink RX4 19 "BlockProgramsModel" "safes" "[I") (by decide +kernel)) (fun _ h9 => h9) (v := .ref (ad 5 0)) rfl dX4_reckon_144 ?_
          refine lv_iload_n hx hb dX4_reckon_147 rfl (lv_at hl 2 rfl) ?_
          refine gw_iald hx hb hK hP 5 0 (rDf (by decide)) 0 rfl rfl (b) rfl (by omega) (by decide) (v := (((noteS κ σ (nI (κ 3)) (nI b) 3)) 3 b)) rfl dX4_reckon_148 ?_
          refine lv_istore_n (lv' := [(2, .int ((((noteS κ σ (nI (κ 3)) (nI b) 3)) 3 b))), (0, .ref (ad 0 0)), (1, .int (nI b))]) hx hb dX4_reckon_149 rfl hl (by decide) rfl (fun ls hl => ?_)
          refine lv_aload_n hx hb dX4_reckon_150 rfl (lv_at hl 1 rfl) ?_
          refine gw_get (C := RX4) (T := TX4) (N := 25) hx hb hL4 hown hK hP 0 0 (rDf (by decide)) rfl rfl 7 (by decide) (hts (.fieldLink RX4 25 "BlockProgramsModel" "outs" "[I") (by decide +kernel)) (fun _ h9 => h9) (v := .ref (ad 7 0)) rfl dX4_reckon_151 ?_
          refine lv_iload_n hx hb dX4_reckon_154 rfl (lv_at hl 2 rfl) ?_
          refine lv_aload_n hx hb dX4_reckon_155 rfl (lv_at hl 1 rfl) ?_
          refine gw_get (C := RX4) (T := TX4) (N := 25) hx hb hL4 hown hK hP 0 0 (rDf (by decide)) rfl rfl 11 (by decide) (hts (.fieldLink RX4 37 "BlockProgramsModel" "inHand" "[Z") (by decide +kernel)) (fun _ h9 => h9) (v := .ref (ad 11 0)) rfl dX4_reckon_156 ?_
          refine lv_iload_n hx hb dX4_reckon_159 rfl (lv_at hl 2 rfl) ?_
          refine gw_zald hx hb hK hP 11 0 (rDf (by decide)) 1 rfl rfl (b) rfl (by omega) (by decide) (v := (((noteS κ σ (nI (κ 3)) (nI b) 3)) 7 b)) rfl dX4_reckon_160 ?_
          refine lv_if_eq (tgt := 173) hx hb dX4_reckon_161 (by decide) (fun c_6 => ?_) (fun c_6 => ?_)
          · refine lv_iload_n hx hb dX4_reckon_173 rfl (lv_at hl 0 rfl) ?_
            refine gw_iast hx hb hK hP hS 7 0 (rDf (by decide)) 0 rfl rfl (b) rfl (by omega) (by decide) dX4_reckon_174 ((rEn cI cZ ((noteK κ)) (wr ((noteS κ σ (nI (κ 3)) (nI b) 3)) 4 b ((((noteS κ σ (nI (κ 3)) (nI b) 3)) 3 b))) (wr sc 2 2 (nI 3)) ad)) rUs_7 (fun t9 i9 z9 h9 => rU7 _ t9 i9 h9 z9) (fun H locs hP hS => ?_)
            have e8 : wr ((noteS κ σ (nI (κ 3)) (nI b) 3)) 4 b ((((noteS κ σ (nI (κ 3)) (nI b) 3)) 3 b)) = say ((noteS κ σ (nI (κ 3)) (nI b) 3)) b ((((noteS κ σ (nI (κ 3)) (nI b) 3)) 3 b)) := say_y c_6
            rw [e8] at hP
            have er := reck_f (κ := κ) (σ := σ) (k := k) (b := b) (rkF_3 hlk9) (by omega)
            rw [show noteS κ σ (nI (κ 3)) (nI b) 3 3 b = σ 3 b from noteS_q (by decide)] at hP
            rw [← er.1, ← er.2] at hP
            exact W.vret hx hb hr (fun t ht hW => ⟨⟨wr sc 2 2 (nI 3), rfl, (fun f9 j9 h9 => by simp only [wr22 h9]), by rw [← ht] at hP; exact hP⟩, hS.F ht⟩) hS.2.2 dX4_reckon_175
          · refine lv_aload_n hx hb dX4_reckon_164 rfl (lv_at hl 1 rfl) ?_
            refine gw_get (C := RX4) (T := TX4) (N := 25) hx hb hL4 hown hK hP 0 0 (rDf (by decide)) rfl rfl 12 (by decide) (hts (.fieldLink RX4 41 "BlockProgramsModel" "hands" "[I") (by decide +kernel)) (fun _ h9 => h9) (v := .ref (ad 12 0)) rfl dX4_reckon_165 ?_
            refine lv_iload_n hx hb dX4_reckon_168 rfl (lv_at hl 2 rfl) ?_
            refine gw_iald hx hb hK hP 12 0 (rDf (by decide)) 0 rfl rfl (b) rfl (by omega) (by decide) (v := (((noteS κ σ (nI (κ 3)) (nI b) 3)) 8 b)) rfl dX4_reckon_169 ?_
            refine lv_goto (tgt := 174) hx hb dX4_reckon_170 (by decide) ?_
            refine gw_iast hx hb hK hP hS 7 0 (rDf (by decide)) 0 rfl rfl (b) rfl (by omega) (by decide) dX4_reckon_174 ((rEn cI cZ ((noteK κ)) (wr ((noteS κ σ (nI (κ 3)) (nI b) 3)) 4 b ((((noteS κ σ (nI (κ 3)) (nI b) 3)) 8 b))) (wr sc 2 2 (nI 3)) ad)) rUs_7 (fun t9 i9 z9 h9 => rU7 _ t9 i9 h9 z9) (fun H locs hP hS => ?_)
            have e8 : wr ((noteS κ σ (nI (κ 3)) (nI b) 3)) 4 b ((((noteS κ σ (nI (κ 3)) (nI b) 3)) 8 b)) = say ((noteS κ σ (nI (κ 3)) (nI b) 3)) b ((((noteS κ σ (nI (κ 3)) (nI b) 3)) 3 b)) := say_n c_6
            rw [e8] at hP
            have er := reck_f (κ := κ) (σ := σ) (k := k) (b := b) (rkF_3 hlk9) (by omega)
            rw [show noteS κ σ (nI (κ 3)) (nI b) 3 3 b = σ 3 b from noteS_q (by decide)] at hP
            rw [← er.1, ← er.2] at hP
            exact W.vret hx hb hr (fun t ht hW => ⟨⟨wr sc 2 2 (nI 3), rfl, (fun f9 j9 h9 => by simp only [wr22 h9]), by rw [← ht] at hP; exact hP⟩, hS.F ht⟩) hS.2.2 dX4_reckon_175
      · have c_3 : 3 = 0 := (nI_eq (a := 3) (b := 0) (by omega) (by omega)).mp c_3
        exfalso; omega
    · rw [show lkF σ k b = 0 from if_neg hlk9] at hP
      refine lv_iconst (v := 0) hx hb dX4_reckon_63 (by decide) ?_
      refine lv_istore_n (lv' := [(2, .int 0), (0, .ref (ad 0 0)), (1, .int (nI b))]) hx hb dX4_reckon_64 rfl hl (by decide) rfl (fun ls hl => ?_)
      refine lv_aload_n hx hb dX4_reckon_65 rfl (lv_at hl 1 rfl) ?_
      refine gw_get (C := RX4) (T := TX4) (N := 25) hx hb hL4 hown hK hP 0 0 (rDf (by decide)) rfl rfl 24 (by decide) (hts (.fieldLink RX4 93 "BlockProgramsModel" "wrong" "I") (by decide +kernel)) (fun _ h9 => h9) (v := .int (nI 0)) (by simp [wr, va_up]) dX4_reckon_66 ?_
      refine lv_if_ne (tgt := 127) hx hb dX4_reckon_69 (by decide) (fun c_7 => ?_) (fun c_7 => ?_)
      · have c_7 : ¬ (0 = 0) := fun z => c_7 ((nI_eq (a := 0) (b := 0) (by omega) (by omega)).mpr z)
        exfalso; omega
      · have c_7 : 0 = 0 := (nI_eq (a := 0) (b := 0) (by omega) (by omega)).mp c_7
        refine lv_aload_n hx hb dX4_reckon_72 rfl (lv_at hl 1 rfl) ?_
        refine gw_get (C := RX4) (T := TX4) (N := 25) hx hb hL4 hown hK hP 0 0 (rDf (by decide)) rfl rfl 2 (by decide) (hts (.fieldLink RX4 7 "BlockProgramsModel" "kinds" "[I") (by decide +kernel)) (fun _ h9 => h9) (v := .ref (ad 2 0)) rfl dX4_reckon_73 ?_
        refine lv_iload_n hx hb dX4_reckon_76 rfl (lv_at hl 2 rfl) ?_
        refine gw_iald hx hb hK hP 2 0 (rDf (by decide)) 0 rfl rfl (b) rfl (by omega) (by decide) (v := nI k) ek dX4_reckon_77 ?_
        refine lv_bipush (v := 15) hx hb dX4_reckon_78 (by decide) ?_
        refine lv_icmp_gt (tgt := 109) hx hb dX4_reckon_80 (by decide) (fun c_8 => ?_) (fun c_8 => ?_)
        · have c_8 : 15 < k := (nI_ltI (a := 15) (b := k) (by omega) (by omega)).mp c_8
          refine lv_aload_n hx hb dX4_reckon_109 rfl (lv_at hl 1 rfl) ?_
          refine lv_iload_n hx hb dX4_reckon_110 rfl (lv_at hl 2 rfl) ?_
          refine lv_aload_n hx hb dX4_reckon_111 rfl (lv_at hl 1 rfl) ?_
          refine lv_iload_n hx hb dX4_reckon_112 rfl (lv_at hl 2 rfl) ?_
          refine lv_iconst (v := 0) hx hb dX4_reckon_113 (by decide) ?_
          refine va_calli (va_runV (As := [.int (nI b), .int 0]) (rest := [.int (nI b), .ref (ad 0 0)]) ⟨hx, hb, hml, hown, hts⟩ (k_X4_input (l := l) (D := D) (cI := cI) (cZ := cZ) (cB := cB) (cS := cS) (A := A) κ σ (wr sc 2 2 (nI 0)) ad b k hb0 hn hk0 ek 0 (by decide) (hw 0 (by decide))) (cwV 2 hts gX4_reckon_X4_input rfl rfl rfl (by decide +kernel) ⟨Nat.le_of_ble_eq_true rfl, Nat.le_of_ble_eq_true rfl⟩) (gPreV hE hA hS hP (gw_recv hK hP 0 0 (rDf (by decide)) rfl rfl)) rfl rfl hl.1 rfl (lv_room (Nat.le_of_ble_eq_true rfl)) dX4_reckon_114 ⟨Nat.le_of_ble_eq_true rfl, Nat.le_of_ble_eq_true rfl⟩) hS (fun q _ h9 => h9) (fun q h9 => h9) (fun r_9 u9 t9 H locs ht9 hvm9 hw_r_9 hB9 hz9 hk9 hS => ?_)
          have hP : gw_P D vwCl A rDm (rEn cI cZ κ σ (wr sc 2 2 (nI 0)) ad) ad H := by rw [← ht9]; exact hB9
          refine lv_toq ((rIn κ σ b k 0)) hw_r_9 ?_
          refine lv_aload_n hx hb dX4_reckon_117 rfl (lv_at hl 1 rfl) ?_
          refine lv_iload_n hx hb dX4_reckon_118 rfl (lv_at hl 2 rfl) ?_
          refine lv_iconst (v := 1) hx hb dX4_reckon_119 (by decide) ?_
          refine va_calli (va_runV (As := [.int (nI b), .int 1]) (rest := [.int ((rIn κ σ b k 0)), .int (nI b), .ref (ad 0 0)]) ⟨hx, hb, hml, hown, hts⟩ (k_X4_input (l := l) (D := D) (cI := cI) (cZ := cZ) (cB := cB) (cS := cS) (A := A) κ σ (wr sc 2 2 (nI 0)) ad b k hb0 hn hk0 ek 1 (by decide) (hw 1 (by decide))) (cwV 2 hts gX4_reckon_X4_input rfl rfl rfl (by decide +kernel) ⟨Nat.le_of_ble_eq_true rfl, Nat.le_of_ble_eq_true rfl⟩) (gPreV hE hA hS hP (gw_recv hK hP 0 0 (rDf (by decide)) rfl rfl)) rfl rfl hl.1 rfl (lv_room (Nat.le_of_ble_eq_true rfl)) dX4_reckon_120 ⟨Nat.le_of_ble_eq_true rfl, Nat.le_of_ble_eq_true rfl⟩) hS (fun q _ h9 => h9) (fun q h9 => h9) (fun r_10 u9 t9 H locs ht9 hvm9 hw_r_10 hB9 hz9 hk9 hS => ?_)
          have hP : gw_P D vwCl A rDm (rEn cI cZ κ σ (wr sc 2 2 (nI 0)) ad) ad H := by rw [← ht9]; exact hB9
          refine lv_toq ((rIn κ σ b k 1)) hw_r_10 ?_
          refine va_calli (va_runV (As := [.int (nI b), .int ((rIn κ σ b k 0)), .int ((rIn κ σ b k 1))]) (rest := []) ⟨hx, hb, hml, hown, hts⟩ (k_X4_withState (l := l) (D := D) (cI := cI) (cZ := cZ) (cB := cB) (cS := cS) (A := A) κ σ (wr sc 2 2 (nI 0)) ad b k hb0 hn (by omega) hk0 ek h3 (rIn κ σ b k 0) (rIn κ σ b k 1)) (cwV 3 hts gX4_reckon_X4_withState rfl rfl rfl (by decide +kernel) ⟨Nat.le_of_ble_eq_true rfl, Nat.le_of_ble_eq_true rfl⟩) (gPreV hE hA hS hP (gw_recv hK hP 0 0 (rDf (by decide)) rfl rfl)) rfl rfl hl.1 rfl (lv_room (Nat.le_of_ble_eq_true rfl)) dX4_reckon_123 ⟨Nat.le_of_ble_eq_true rfl, Nat.le_of_ble_eq_true rfl⟩) hS (fun q _ h9 => h9) (fun q h9 => h9) (fun r_11 u9 t9 H locs ht9 hvm9 hw_r_11 hB9 hz9 hk9 hS => ?_)
          have hP : gw_P D vwCl A rDm (rEn cI cZ κ ((ownS σ k b (rIn κ σ b k 0) (rIn κ σ b k 1))) (wr sc 2 2 (nI 0)) ad) ad H := by rw [← ht9]; exact hB9
          refine lv_toq ((f_own σ k b (rIn κ σ b k 0) (rIn κ σ b k 1) (nI (κ 3 % 1440)))) hw_r_11 ?_
          refine lv_istore_n (lv' := [(2, .int ((f_own σ k b (rIn κ σ b k 0) (rIn κ σ b k 1) (nI (κ 3 % 1440))))), (0, .ref (ad 0 0)), (1, .int (nI b))]) hx hb dX4_reckon_126 rfl hl (by decide) rfl (fun ls hl => ?_)
          refine lv_aload_n hx hb dX4_reckon_127 rfl (lv_at hl 1 rfl) ?_
          refine gw_get (C := RX4) (T := TX4) (N := 25) hx hb hL4 hown hK hP 0 0 (rDf (by decide)) rfl rfl 24 (by decide) (hts (.fieldLink RX4 93 "BlockProgramsModel" "wrong" "I") (by decide +kernel)) (fun _ h9 => h9) (v := .int (nI 0)) (by simp [wr, va_up]) dX4_reckon_128 ?_
          refine lv_if_le (tgt := 150) hx hb dX4_reckon_131 (by decide) (fun c_12 => ?_) (fun c_12 => ?_)
          · have c_12 : 0 ≤ 0 := (nI_leI (a := 0) (b := 0) (by omega) (by omega)).mp c_12
            refine lv_aload_n hx hb dX4_reckon_150 rfl (lv_at hl 1 rfl) ?_
            refine gw_get (C := RX4) (T := TX4) (N := 25) hx hb hL4 hown hK hP 0 0 (rDf (by decide)) rfl rfl 7 (by decide) (hts (.fieldLink RX4 25 "BlockProgramsModel" "outs" "[I") (by decide +kernel)) (fun _ h9 => h9) (v := .ref (ad 7 0)) rfl dX4_reckon_151 ?_
            refine lv_iload_n hx hb dX4_reckon_154 rfl (lv_at hl 2 rfl) ?_
            refine lv_aload_n hx hb dX4_reckon_155 rfl (lv_at hl 1 rfl) ?_
            refine gw_get (C := RX4) (T := TX4) (N := 25) hx hb hL4 hown hK hP 0 0 (rDf (by decide)) rfl rfl 11 (by decide) (hts (.fieldLink RX4 37 "BlockProgramsModel" "inHand" "[Z") (by decide +kernel)) (fun _ h9 => h9) (v := .ref (ad 11 0)) rfl dX4_reckon_156 ?_
            refine lv_iload_n hx hb dX4_reckon_159 rfl (lv_at hl 2 rfl) ?_
            refine gw_zald hx hb hK hP 11 0 (rDf (by decide)) 1 rfl rfl (b) rfl (by omega) (by decide) (v := (((ownS σ k b (rIn κ σ b k 0) (rIn κ σ b k 1))) 7 b)) rfl dX4_reckon_160 ?_
            refine lv_if_eq (tgt := 173) hx hb dX4_reckon_161 (by decide) (fun c_13 => ?_) (fun c_13 => ?_)
            · refine lv_iload_n hx hb dX4_reckon_173 rfl (lv_at hl 0 rfl) ?_
              refine gw_iast hx hb hK hP hS 7 0 (rDf (by decide)) 0 rfl rfl (b) rfl (by omega) (by decide) dX4_reckon_174 ((rEn cI cZ κ (wr ((ownS σ k b (rIn κ σ b k 0) (rIn κ σ b k 1))) 4 b ((f_own σ k b (rIn κ σ b k 0) (rIn κ σ b k 1) (nI (κ 3 % 1440))))) (wr sc 2 2 (nI 0)) ad)) rUs_7 (fun t9 i9 z9 h9 => rU7 _ t9 i9 h9 z9) (fun H locs hP hS => ?_)
              have e8 : wr ((ownS σ k b (rIn κ σ b k 0) (rIn κ σ b k 1))) 4 b ((f_own σ k b (rIn κ σ b k 0) (rIn κ σ b k 1) (nI (κ 3 % 1440)))) = say ((ownS σ k b (rIn κ σ b k 0) (rIn κ σ b k 1))) b ((f_own σ k b (rIn κ σ b k 0) (rIn κ σ b k 1) (nI (κ 3 % 1440)))) := say_y c_13
              rw [e8] at hP
              have er := reck_s (κ := κ) (σ := σ) (k := k) (b := b) (by omega) hk0 hlk9
              rw [← er.2] at hP
              exact W.vret hx hb hr (fun t ht hW => ⟨⟨wr sc 2 2 (nI 0), rfl, (fun f9 j9 h9 => by simp only [wr22 h9]), by rw [er.1]; rw [← ht] at hP; exact hP⟩, hS.F ht⟩) hS.2.2 dX4_reckon_175
            · refine lv_aload_n hx hb dX4_reckon_164 rfl (lv_at hl 1 rfl) ?_
              refine gw_get (C := RX4) (T := TX4) (N := 25) hx hb hL4 hown hK hP 0 0 (rDf (by decide)) rfl rfl 12 (by decide) (hts (.fieldLink RX4 41 "BlockProgramsModel" "hands" "[I") (by decide +kernel)) (fun _ h9 => h9) (v := .ref (ad 12 0)) rfl dX4_reckon_165 ?_
              refine lv_iload_n hx hb dX4_reckon_168 rfl (lv_at hl 2 rfl) ?_
              refine gw_iald hx hb hK hP 12 0 (rDf (by decide)) 0 rfl rfl (b) rfl (by omega) (by decide) (v := (((ownS σ k b (rIn κ σ b k 0) (rIn κ σ b k 1))) 8 b)) rfl dX4_reckon_169 ?_
              refine lv_goto (tgt := 174) hx hb dX4_reckon_170 (by decide) ?_
              refine gw_iast hx hb hK hP hS 7 0 (rDf (by decide)) 0 rfl rfl (b) rfl (by omega) (by decide) dX4_reckon_174 ((rEn cI cZ κ (wr ((ownS σ k b (rIn κ σ b k 0) (rIn κ σ b k 1))) 4 b ((((ownS σ k b (rIn κ σ b k 0) (rIn κ σ b k 1))) 8 b))) (wr sc 2 2 (nI 0)) ad)) rUs_7 (fun t9 i9 z9 h9 => rU7 _ t9 i9 h9 z9) (fun H locs hP hS => ?_)
              have e8 : wr ((ownS σ k b (rIn κ σ b k 0) (rIn κ σ b k 1))) 4 b ((((ownS σ k b (rIn κ σ b k 0) (rIn κ σ b k 1))) 8 b)) = say ((ownS σ k b (rIn κ σ b k 0) (rIn κ σ b k 1))) b ((f_own σ k b (rIn κ σ b k 0) (rIn κ σ b k 1) (nI (κ 3 % 1440)))) := say_n c_13
              rw [e8] at hP
              have er := reck_s (κ := κ) (σ := σ) (k := k) (b := b) (by omega) hk0 hlk9
              rw [← er.2] at hP
              exact W.vret hx hb hr (fun t ht hW => ⟨⟨wr sc 2 2 (nI 0), rfl, (fun f9 j9 h9 => by simp only [wr22 h9]), by rw [er.1]; rw [← ht] at hP; exact hP⟩, hS.F ht⟩) hS.2.2 dX4_reckon_175
          · have c_12 : ¬ (0 ≤ 0) := fun z => c_12 ((nI_leI (a := 0) (b := 0) (by omega) (by omega)).mpr z)
            exfalso; omega
        · have c_8 : ¬ (15 < k) := fun z => c_8 ((nI_ltI (a := 15) (b := k) (by omega) (by omega)).mpr z)
          refine lv_aload_n hx hb dX4_reckon_83 rfl (lv_at hl 1 rfl) ?_
          refine lv_iload_n hx hb dX4_reckon_84 rfl (lv_at hl 2 rfl) ?_
          refine lv_aload_n hx hb dX4_reckon_85 rfl (lv_at hl 1 rfl) ?_
          refine lv_iload_n hx hb dX4_reckon_86 rfl (lv_at hl 2 rfl) ?_
          refine lv_iconst (v := 0) hx hb dX4_reckon_87 (by decide) ?_
          refine va_calli (va_runV (As := [.int (nI b), .int 0]) (rest := [.int (nI b), .ref (ad 0 0)]) ⟨hx, hb, hml, hown, hts⟩ (k_X4_input (l := l) (D := D) (cI := cI) (cZ := cZ) (cB := cB) (cS := cS) (A := A) κ σ (wr sc 2 2 (nI 0)) ad b k hb0 hn hk0 ek 0 (by decide) (hw 0 (by decide))) (cwV 2 hts gX4_reckon_X4_input rfl rfl rfl (by decide +kernel) ⟨Nat.le_of_ble_eq_true rfl, Nat.le_of_ble_eq_true rfl⟩) (gPreV hE hA hS hP (gw_recv hK hP 0 0 (rDf (by decide)) rfl rfl)) rfl rfl hl.1 rfl (lv_room (Nat.le_of_ble_eq_true rfl)) dX4_reckon_88 ⟨Nat.le_of_ble_eq_true rfl, Nat.le_of_ble_eq_true rfl⟩) hS (fun q _ h9 => h9) (fun q h9 => h9) (fun r_14 u9 t9 H locs ht9 hvm9 hw_r_14 hB9 hz9 hk9 hS => ?_)
          have hP : gw_P D vwCl A rDm (rEn cI cZ κ σ (wr sc 2 2 (nI 0)) ad) ad H := by rw [← ht9]; exact hB9
          refine lv_toq ((rIn κ σ b k 0)) hw_r_14 ?_
          refine lv_aload_n hx hb dX4_reckon_91 rfl (lv_at hl 1 rfl) ?_
          refine lv_iload_n hx hb dX4_reckon_92 rfl (lv_at hl 2 rfl) ?_
          refine lv_iconst (v := 1) hx hb dX4_reckon_93 (by decide) ?_
          refine va_calli (va_runV (As := [.int (nI b), .int 1]) (rest := [.int ((rIn κ σ b k 0)), .int (nI b), .ref (ad 0 0)]) ⟨hx, hb, hml, hown, hts⟩ (k_X4_input (l := l) (D := D) (cI := cI) (cZ := cZ) (cB := cB) (cS := cS) (A := A) κ σ (wr sc 2 2 (nI 0)) ad b k hb0 hn hk0 ek 1 (by decide) (hw 1 (by decide))) (cwV 2 hts gX4_reckon_X4_input rfl rfl rfl (by decide +kernel) ⟨Nat.le_of_ble_eq_true rfl, Nat.le_of_ble_eq_true rfl⟩) (gPreV hE hA hS hP (gw_recv hK hP 0 0 (rDf (by decide)) rfl rfl)) rfl rfl hl.1 rfl (lv_room (Nat.le_of_ble_eq_true rfl)) dX4_reckon_94 ⟨Nat.le_of_ble_eq_true rfl, Nat.le_of_ble_eq_true rfl⟩) hS (fun q _ h9 => h9) (fun q h9 => h9) (fun r_15 u9 t9 H locs ht9 hvm9 hw_r_15 hB9 hz9 hk9 hS => ?_)
          have hP : gw_P D vwCl A rDm (rEn cI cZ κ σ (wr sc 2 2 (nI 0)) ad) ad H := by rw [← ht9]; exact hB9
          refine lv_toq ((rIn κ σ b k 1)) hw_r_15 ?_
          refine lv_aload_n hx hb dX4_reckon_97 rfl (lv_at hl 1 rfl) ?_
          refine lv_iload_n hx hb dX4_reckon_98 rfl (lv_at hl 2 rfl) ?_
          refine lv_iconst (v := 2) hx hb dX4_reckon_99 (by decide) ?_
          refine va_calli (va_runV (As := [.int (nI b), .int 2]) (rest := [.int ((rIn κ σ b k 1)), .int ((rIn κ σ b k 0)), .int (nI b), .ref (ad 0 0)]) ⟨hx, hb, hml, hown, hts⟩ (k_X4_input (l := l) (D := D) (cI := cI) (cZ := cZ) (cB := cB) (cS := cS) (A := A) κ σ (wr sc 2 2 (nI 0)) ad b k hb0 hn hk0 ek 2 (by decide) (hw 2 (by decide))) (cwV 2 hts gX4_reckon_X4_input rfl rfl rfl (by decide +kernel) ⟨Nat.le_of_ble_eq_true rfl, Nat.le_of_ble_eq_true rfl⟩) (gPreV hE hA hS hP (gw_recv hK hP 0 0 (rDf (by decide)) rfl rfl)) rfl rfl hl.1 rfl (lv_room (Nat.le_of_ble_eq_true rfl)) dX4_reckon_100 ⟨Nat.le_of_ble_eq_true rfl, Nat.le_of_ble_eq_true rfl⟩) hS (fun q _ h9 => h9) (fun q h9 => h9) (fun r_16 u9 t9 H locs ht9 hvm9 hw_r_16 hB9 hz9 hk9 hS => ?_)
          have hP : gw_P D vwCl A rDm (rEn cI cZ κ σ (wr sc 2 2 (nI 0)) ad) ad H := by rw [← ht9]; exact hB9
          refine lv_toq ((rIn κ σ b k 2)) hw_r_16 ?_
          refine va_calli (va_runV (As := [.int (nI b), .int ((rIn κ σ b k 0)), .int ((rIn κ σ b k 1)), .int ((rIn κ σ b k 2))]) (rest := []) ⟨hx, hb, hml, hown, hts⟩ (k_X4_plain (l := l) (D := D) (cI := cI) (cZ := cZ) (cB := cB) (cS := cS) (A := A) κ σ (wr sc 2 2 (nI 0)) ad b k hb0 hn (by omega) ek wr_s (rIn κ σ b k 0) (rIn κ σ b k 1) (rIn κ σ b k 2)) (cwV 4 hts gX4_reckon_X4_plain rfl rfl rfl (by decide +kernel) ⟨Nat.le_of_ble_eq_true rfl, Nat.le_of_ble_eq_true rfl⟩) (gPreV hE hA hS hP (gw_recv hK hP 0 0 (rDf (by decide)) rfl rfl)) rfl rfl hl.1 rfl (lv_room (Nat.le_of_ble_eq_true rfl)) dX4_reckon_103 ⟨Nat.le_of_ble_eq_true rfl, Nat.le_of_ble_eq_true rfl⟩) hS (fun q _ h9 => h9) (fun q h9 => h9) (fun r_17 u9 t9 H locs ht9 hvm9 hw_r_17 hB9 hz9 hk9 hS => ?_)
          have hP : gw_P D vwCl A rDm (rEn cI cZ κ σ (wr (wr sc 2 2 (nI 0)) 2 2 (nI (plW σ k b (rIn κ σ b k 0) (rIn κ σ b k 1)))) ad) ad H := by rw [← ht9]; exact hB9
          refine lv_toq ((plV σ k b (rIn κ σ b k 0) (rIn κ σ b k 1) (rIn κ σ b k 2))) hw_r_17 ?_
          have hple : plW σ k b (rIn κ σ b k 0) (rIn κ σ b k 1) ≤ 3 := plW_le
          refine lv_goto (tgt := 126) hx hb dX4_reckon_106 (by decide) ?_
          refine lv_istore_n (lv' := [(2, .int ((plV σ k b (rIn κ σ b k 0) (rIn κ σ b k 1) (rIn κ σ b k 2)))), (0, .ref (ad 0 0)), (1, .int (nI b))]) hx hb dX4_reckon_126 rfl hl (by decide) rfl (fun ls hl => ?_)
          refine lv_aload_n hx hb dX4_reckon_127 rfl (lv_at hl 1 rfl) ?_
          refine gw_get (C := RX4) (T := TX4) (N := 25) hx hb hL4 hown hK hP 0 0 (rDf (by decide)) rfl rfl 24 (by decide) (hts (.fieldLink RX4 93 "BlockProgramsModel" "wrong" "I") (by decide +kernel)) (fun _ h9 => h9) (v := .int (nI ((plW σ k b (rIn κ σ b k 0) (rIn κ σ b k 1))))) (by simp [wr, va_up]) dX4_reckon_128 ?_
          refine lv_if_le (tgt := 150) hx hb dX4_reckon_131 (by decide) (fun c_18 => ?_) (fun c_18 => ?_)
          · have c_18 : (plW σ k b (rIn κ σ b k 0) (rIn κ σ b k 1)) ≤ 0 := (nI_leI (a := (plW σ k b (rIn κ σ b k 0) (rIn κ σ b k 1))) (b := 0) (by omega) (by omega)).mp c_18
            refine lv_aload_n hx hb dX4_reckon_150 rfl (lv_at hl 1 rfl) ?_
            refine gw_get (C := RX4) (T := TX4) (N := 25) hx hb hL4 hown hK hP 0 0 (rDf (by decide)) rfl rfl 7 (by decide) (hts (.fieldLink RX4 25 "BlockProgramsModel" "outs" "[I") (by decide +kernel)) (fun _ h9 => h9) (v := .ref (ad 7 0)) rfl dX4_reckon_151 ?_
            refine lv_iload_n hx hb dX4_reckon_154 rfl (lv_at hl 2 rfl) ?_
            refine lv_aload_n hx hb dX4_reckon_155 rfl (lv_at hl 1 rfl) ?_
            refine gw_get (C := RX4) (T := TX4) (N := 25) hx hb hL4 hown hK hP 0 0 (rDf (by decide)) rfl rfl 11 (by decide) (hts (.fieldLink RX4 37 "BlockProgramsModel" "inHand" "[Z") (by decide +kernel)) (fun _ h9 => h9) (v := .ref (ad 11 0)) rfl dX4_reckon_156 ?_
            refine lv_iload_n hx hb dX4_reckon_159 rfl (lv_at hl 2 rfl) ?_
            refine gw_zald hx hb hK hP 11 0 (rDf (by decide)) 1 rfl rfl (b) rfl (by omega) (by decide) (v := (σ 7 b)) rfl dX4_reckon_160 ?_
            refine lv_if_eq (tgt := 173) hx hb dX4_reckon_161 (by decide) (fun c_19 => ?_) (fun c_19 => ?_)
            · refine lv_iload_n hx hb dX4_reckon_173 rfl (lv_at hl 0 rfl) ?_
              refine gw_iast hx hb hK hP hS 7 0 (rDf (by decide)) 0 rfl rfl (b) rfl (by omega) (by decide) dX4_reckon_174 ((rEn cI cZ κ (wr σ 4 b ((plV σ k b (rIn κ σ b k 0) (rIn κ σ b k 1) (rIn κ σ b k 2)))) (wr (wr sc 2 2 (nI 0)) 2 2 (nI (plW σ k b (rIn κ σ b k 0) (rIn κ σ b k 1)))) ad)) rUs_7 (fun t9 i9 z9 h9 => rU7 _ t9 i9 h9 z9) (fun H locs hP hS => ?_)
              have e8 : wr σ 4 b ((plV σ k b (rIn κ σ b k 0) (rIn κ σ b k 1) (rIn κ σ b k 2))) = say σ b ((plV σ k b (rIn κ σ b k 0) (rIn κ σ b k 1) (rIn κ σ b k 2))) := say_y c_19
              rw [e8] at hP
              have er := reck_p (κ := κ) (σ := σ) (k := k) (b := b) (by omega) hlk9 (by omega)
              rw [← er.2] at hP
              exact W.vret hx hb hr (fun t ht hW => ⟨⟨wr (wr sc 2 2 (nI 0)) 2 2 (nI (plW σ k b (rIn κ σ b k 0) (rIn κ σ b k 1))), rfl, (fun f9 j9 h9 => by simp only [wr22 h9]), by rw [er.1]; rw [← ht] at hP; exact hP⟩, hS.F ht⟩) hS.2.2 dX4_reckon_175
            · refine lv_aload_n hx hb dX4_reckon_164 rfl (lv_at hl 1 rfl) ?_
              refine gw_get (C := RX4) (T := TX4) (N := 25) hx hb hL4 hown hK hP 0 0 (rDf (by decide)) rfl rfl 12 (by decide) (hts (.fieldLink RX4 41 "BlockProgramsModel" "hands" "[I") (by decide +kernel)) (fun _ h9 => h9) (v := .ref (ad 12 0)) rfl dX4_reckon_165 ?_
              refine lv_iload_n hx hb dX4_reckon_168 rfl (lv_at hl 2 rfl) ?_
              refine gw_iald hx hb hK hP 12 0 (rDf (by decide)) 0 rfl rfl (b) rfl (by omega) (by decide) (v := (σ 8 b)) rfl dX4_reckon_169 ?_
              refine lv_goto (tgt := 174) hx hb dX4_reckon_170 (by decide) ?_
              refine gw_iast hx hb hK hP hS 7 0 (rDf (by decide)) 0 rfl rfl (b) rfl (by omega) (by decide) dX4_reckon_174 ((rEn cI cZ κ (wr σ 4 b ((σ 8 b))) (wr (wr sc 2 2 (nI 0)) 2 2 (nI (plW σ k b (rIn κ σ b k 0) (rIn κ σ b k 1)))) ad)) rUs_7 (fun t9 i9 z9 h9 => rU7 _ t9 i9 h9 z9) (fun H locs hP hS => ?_)
              have e8 : wr σ 4 b ((σ 8 b)) = say σ b ((plV σ k b (rIn κ σ b k 0) (rIn κ σ b k 1) (rIn κ σ b k 2))) := say_n c_19
              rw [e8] at hP
              have er := reck_p (κ := κ) (σ := σ) (k := k) (b := b) (by omega) hlk9 (by omega)
              rw [← er.2] at hP
              exact W.vret hx hb hr (fun t ht hW => ⟨⟨wr (wr sc 2 2 (nI 0)) 2 2 (nI (plW σ k b (rIn κ σ b k 0) (rIn κ σ b k 1))), rfl, (fun f9 j9 h9 => by simp only [wr22 h9]), by rw [er.1]; rw [← ht] at hP; exact hP⟩, hS.F ht⟩) hS.2.2 dX4_reckon_175
          · have c_18 : ¬ ((plW σ k b (rIn κ σ b k 0) (rIn κ σ b k 1)) ≤ 0) := fun z => c_18 ((nI_leI (a := (plW σ k b (rIn κ σ b k 0) (rIn κ σ b k 1))) (b := 0) (by omega) (by omega)).mpr z)
            refine lv_aload_n hx hb dX4_reckon_134 rfl (lv_at hl 1 rfl) ?_
            refine lv_iload_n hx hb dX4_reckon_135 rfl (lv_at hl 2 rfl) ?_
            refine lv_aload_n hx hb dX4_reckon_136 rfl (lv_at hl 1 rfl) ?_
            refine gw_get (C := RX4) (T := TX4) (N := 25) hx hb hL4 hown hK hP 0 0 (rDf (by decide)) rfl rfl 24 (by decide) (hts (.fieldLink RX4 93 "BlockProgramsModel" "wrong" "I") (by decide +kernel)) (fun _ h9 => h9) (v := .int (nI ((plW σ k b (rIn κ σ b k 0) (rIn κ σ b k 1))))) (by simp [wr, va_up]) dX4_reckon_137 ?_
            refine va_callv (va_runV (As := [.int (nI b), .int (nI ((plW σ k b (rIn κ σ b k 0) (rIn κ σ b k 1))))]) (rest := []) ⟨hx, hb, hml, hown, hts⟩ (k_X4_fail (l := l) (D := D) (cI := cI) (cZ := cZ) (cB := cB) (cS := cS) (A := A) κ σ (wr (wr sc 2 2 (nI 0)) 2 2 (nI (plW σ k b (rIn κ σ b k 0) (rIn κ σ b k 1)))) ad b (plW σ k b (rIn κ σ b k 0) (rIn κ σ b k 1)) hb0 hn h2 (by omega) (by omega)) (cwV 2 hts gX4_reckon_X4_fail rfl rfl rfl (by decide +kernel) ⟨Nat.le_of_ble_eq_true rfl, Nat.le_of_ble_eq_true rfl⟩) (gPreV hE hA hS hP (gw_recv hK hP 0 0 (rDf (by decide)) rfl rfl)) rfl rfl hl.1 rfl (lv_room (Nat.le_of_ble_eq_true rfl)) dX4_reckon_140 ⟨Nat.le_of_ble_eq_true rfl, Nat.le_of_ble_eq_true rfl⟩) hS (fun q _ h9 => h9) (fun q h9 => h9) (fun u9 t9 H locs ht9 hvm9 hw_20 hB9 hz9 hk9 hS => ?_)
            have hP : gw_P D vwCl A rDm (rEn cI cZ ((noteK κ)) ((noteS κ σ (nI (κ 3)) (nI b) (plW σ k b (rIn κ σ b k 0) (rIn κ σ b k 1)))) (wr (wr sc 2 2 (nI 0)) 2 2 (nI (plW σ k b (rIn κ σ b k 0) (rIn κ σ b k 1)))) ad) ad H := by rw [← ht9]; exact hB9
            have n0 : noteK κ 0 = κ 0 := noteK_k (by decide)
            refine lv_aload_n hx hb dX4_reckon_143 rfl (lv_at hl 1 rfl) ?_
            refine gw_get (C := RX4) (T := TX4) (N := 25) hx hb hL4 hown hK hP 0 0 (rDf (by decide)) rfl rfl 5 (by decide) (hts (.fieldLink RX4 19 "BlockProgramsModel" "safes" "[I") (by decide +kernel)) (fun _ h9 => h9) (v := .ref (ad 5 0)) rfl dX4_reckon_144 ?_
            refine lv_iload_n hx hb dX4_reckon_147 rfl (lv_at hl 2 rfl) ?_
            refine gw_iald hx hb hK hP 5 0 (rDf (by decide)) 0 rfl rfl (b) rfl (by omega) (by decide) (v := (((noteS κ σ (nI (κ 3)) (nI b) (plW σ k b (rIn κ σ b k 0) (rIn κ σ b k 1)))) 3 b)) rfl dX4_reckon_148 ?_
            refine lv_istore_n (lv' := [(2, .int ((((noteS κ σ (nI (κ 3)) (nI b) (plW σ k b (rIn κ σ b k 0) (rIn κ σ b k 1)))) 3 b))), (0, .ref (ad 0 0)), (1, .int (nI b))]) hx hb dX4_reckon_149 rfl hl (by decide) rfl (fun ls hl => ?_)
            refine lv_aload_n hx hb dX4_reckon_150 rfl (lv_at hl 1 rfl) ?_
            refine gw_get (C := RX4) (T := TX4) (N := 25) hx hb hL4 hown hK hP 0 0 (rDf (by decide)) rfl rfl 7 (by decide) (hts (.fieldLink RX4 25 "BlockProgramsModel" "outs" "[I") (by decide +kernel)) (fun _ h9 => h9) (v := .ref (ad 7 0)) rfl dX4_reckon_151 ?_
            refine lv_iload_n hx hb dX4_reckon_154 rfl (lv_at hl 2 rfl) ?_
            refine lv_aload_n hx hb dX4_reckon_155 rfl (lv_at hl 1 rfl) ?_
            refine gw_get (C := RX4) (T := TX4) (N := 25) hx hb hL4 hown hK hP 0 0 (rDf (by decide)) rfl rfl 11 (by decide) (hts (.fieldLink RX4 37 "BlockProgramsModel" "inHand" "[Z") (by decide +kernel)) (fun _ h9 => h9) (v := .ref (ad 11 0)) rfl dX4_reckon_156 ?_
            refine lv_iload_n hx hb dX4_reckon_159 rfl (lv_at hl 2 rfl) ?_
            refine gw_zald hx hb hK hP 11 0 (rDf (by decide)) 1 rfl rfl (b) rfl (by omega) (by decide) (v := (((noteS κ σ (nI (κ 3)) (nI b) (plW σ k b (rIn κ σ b k 0) (rIn κ σ b k 1)))) 7 b)) rfl dX4_reckon_160 ?_
            refine lv_if_eq (tgt := 173) hx hb dX4_reckon_161 (by decide) (fun c_21 => ?_) (fun c_21 => ?_)
            · refine lv_iload_n hx hb dX4_reckon_173 rfl (lv_at hl 0 rfl) ?_
              refine gw_iast hx hb hK hP hS 7 0 (rDf (by decide)) 0 rfl rfl (b) rfl (by omega) (by decide) dX4_reckon_174 ((rEn cI cZ ((noteK κ)) (wr ((noteS κ σ (nI (κ 3)) (nI b) (plW σ k b (rIn κ σ b k 0) (rIn κ σ b k 1)))) 4 b ((((noteS κ σ (nI (κ 3)) (nI b) (plW σ k b (rIn κ σ b k 0) (rIn κ σ b k 1)))) 3 b))) (wr (wr sc 2 2 (nI 0)) 2 2 (nI (plW σ k b (rIn κ σ b k 0) (rIn κ σ b k 1)))) ad)) rUs_7 (fun t9 i9 z9 h9 => rU7 _ t9 i9 h9 z9) (fun H locs hP hS => ?_)
              have e8 : wr ((noteS κ σ (nI (κ 3)) (nI b) (plW σ k b (rIn κ σ b k 0) (rIn κ σ b k 1)))) 4 b ((((noteS κ σ (nI (κ 3)) (nI b) (plW σ k b (rIn κ σ b k 0) (rIn κ σ b k 1)))) 3 b)) = say ((noteS κ σ (nI (κ 3)) (nI b) (plW σ k b (rIn κ σ b k 0) (rIn κ σ b k 1)))) b ((((noteS κ σ (nI (κ 3)) (nI b) (plW σ k b (rIn κ σ b k 0) (rIn κ σ b k 1)))) 3 b)) := say_y c_21
              rw [e8] at hP
              have er := reck_f (κ := κ) (σ := σ) (k := k) (b := b) (rkF_p (by omega) hlk9) (by omega)
              rw [show noteS κ σ (nI (κ 3)) (nI b) (plW σ k b (rIn κ σ b k 0) (rIn κ σ b k 1)) 3 b = σ 3 b from noteS_q (by decide)] at hP
              rw [← er.1, ← er.2] at hP
              exact W.vret hx hb hr (fun t ht hW => ⟨⟨wr (wr sc 2 2 (nI 0)) 2 2 (nI (plW σ k b (rIn κ σ b k 0) (rIn κ σ b k 1))), rfl, (fun f9 j9 h9 => by simp only [wr22 h9]), by rw [← ht] at hP; exact hP⟩, hS.F ht⟩) hS.2.2 dX4_reckon_175
            · refine lv_aload_n hx hb dX4_reckon_164 rfl (lv_at hl 1 rfl) ?_
              refine gw_get (C := RX4) (T := TX4) (N := 25) hx hb hL4 hown hK hP 0 0 (rDf (by decide)) rfl rfl 12 (by decide) (hts (.fieldLink RX4 41 "BlockProgramsModel" "hands" "[I") (by decide +kernel)) (fun _ h9 => h9) (v := .ref (ad 12 0)) rfl dX4_reckon_165 ?_
              refine lv_iload_n hx hb dX4_reckon_168 rfl (lv_at hl 2 rfl) ?_
              refine gw_iald hx hb hK hP 12 0 (rDf (by decide)) 0 rfl rfl (b) rfl (by omega) (by decide) (v := (((noteS κ σ (nI (κ 3)) (nI b) (plW σ k b (rIn κ σ b k 0) (rIn κ σ b k 1)))) 8 b)) rfl dX4_reckon_169 ?_
              refine lv_goto (tgt := 174) hx hb dX4_reckon_170 (by decide) ?_
              refine gw_iast hx hb hK hP hS 7 0 (rDf (by decide)) 0 rfl rfl (b) rfl (by omega) (by decide) dX4_reckon_174 ((rEn cI cZ ((noteK κ)) (wr ((noteS κ σ (nI (κ 3)) (nI b) (plW σ k b (rIn κ σ b k 0) (rIn κ σ b k 1)))) 4 b ((((noteS κ σ (nI (κ 3)) (nI b) (plW σ k b (rIn κ σ b k 0) (rIn κ σ b k 1)))) 8 b))) (wr (wr sc 2 2 (nI 0)) 2 2 (nI (plW σ k b (rIn κ σ b k 0) (rIn κ σ b k 1)))) ad)) rUs_7 (fun t9 i9 z9 h9 => rU7 _ t9 i9 h9 z9) (fun H locs hP hS => ?_)
              have e8 : wr ((noteS κ σ (nI (κ 3)) (nI b) (plW σ k b (rIn κ σ b k 0) (rIn κ σ b k 1)))) 4 b ((((noteS κ σ (nI (κ 3)) (nI b) (plW σ k b (rIn κ σ b k 0) (rIn κ σ b k 1)))) 8 b)) = say ((noteS κ σ (nI (κ 3)) (nI b) (plW σ k b (rIn κ σ b k 0) (rIn κ σ b k 1)))) b ((((noteS κ σ (nI (κ 3)) (nI b) (plW σ k b (rIn κ σ b k 0) (rIn κ σ b k 1)))) 3 b)) := say_n c_21
              rw [e8] at hP
              have er := reck_f (κ := κ) (σ := σ) (k := k) (b := b) (rkF_p (by omega) hlk9) (by omega)
              rw [show noteS κ σ (nI (κ 3)) (nI b) (plW σ k b (rIn κ σ b k 0) (rIn κ σ b k 1)) 3 b = σ 3 b from noteS_q (by decide)] at hP
              rw [← er.1, ← er.2] at hP
              exact W.vret hx hb hr (fun t ht hW => ⟨⟨wr (wr sc 2 2 (nI 0)) 2 2 (nI (plW σ k b (rIn κ σ b k 0) (rIn κ σ b k 1))), rfl, (fun f9 j9 h9 => by simp only [wr22 h9]), by rw [← ht] at hP; exact hP⟩, hS.F ht⟩) hS.2.2 dX4_reckon_175
  · have c_2 : ¬ (nmd k ≤ i) := fun z => c_2 ((nI_leI (a := nmd k) (b := i) (by omega) (by omega)).mpr z)
    refine lv_aload_n hx hb dX4_reckon_20 rfl (lv_at hl 0 rfl) ?_
    refine gw_get (C := RX4) (T := TX4) (N := 25) hx hb hL4 hown hK hP 0 0 (rDf (by decide)) rfl rfl 2 (by decide) (hts (.fieldLink RX4 7 "BlockProgramsModel" "kinds" "[I") (by decide +kernel)) (fun _ h9 => h9) (v := .ref (ad 2 0)) rfl dX4_reckon_21 ?_
    refine lv_iload_n hx hb dX4_reckon_24 rfl (lv_at hl 1 rfl) ?_
    refine gw_iald hx hb hK hP 2 0 (rDf (by decide)) 0 rfl rfl (b) rfl (by omega) (by decide) (v := nI k) ek dX4_reckon_25 ?_
    refine lv_bipush (v := 16) hx hb dX4_reckon_26 (by decide) ?_
    refine lv_icmp_eq (tgt := 63) hx hb dX4_reckon_28 (by decide) (fun c_22 => ?_) (fun c_22 => ?_)
    · have c_22 : k = 16 := (nI_eq (a := k) (b := 16) (by omega) (by omega)).mp c_22
      have e9 : lkN σ b i = lkF σ k b := by have ei := hk16 c_22; rw [ei, c_22]; exact lkF_16
      rw [e9] at hP
      by_cases hlk9 : k ≠ 16 ∧ lack σ k b = true
      · rw [show lkF σ k b = 3 from if_pos hlk9] at hP
        refine lv_iconst (v := 0) hx hb dX4_reckon_63 (by decide) ?_
        refine lv_istore_n (lv' := [(2, .int 0), (0, .ref (ad 0 0)), (1, .int (nI b))]) hx hb dX4_reckon_64 rfl hl (by decide) rfl (fun ls hl => ?_)
        refine lv_aload_n hx hb dX4_reckon_65 rfl (lv_at hl 1 rfl) ?_
        refine gw_get (C := RX4) (T := TX4) (N := 25) hx hb hL4 hown hK hP 0 0 (rDf (by decide)) rfl rfl 24 (by decide) (hts (.fieldLink RX4 93 "BlockProgramsModel" "wrong" "I") (by decide +kernel)) (fun _ h9 => h9) (v := .int (nI 3)) (by simp [wr, va_up]) dX4_reckon_66 ?_
        refine lv_if_ne (tgt := 127) hx hb dX4_reckon_69 (by decide) (fun c_23 => ?_) (fun c_23 => ?_)
        · have c_23 : ¬ (3 = 0) := fun z => c_23 ((nI_eq (a := 3) (b := 0) (by omega) (by omega)).mpr z)
          refine lv_aload_n hx hb dX4_reckon_127 rfl (lv_at hl 1 rfl) ?_
          refine gw_get (C := RX4) (T := TX4) (N := 25) hx hb hL4 hown hK hP 0 0 (rDf (by decide)) rfl rfl 24 (by decide) (hts (.fieldLink RX4 93 "BlockProgramsModel" "wrong" "I") (by decide +kernel)) (fun _ h9 => h9) (v := .int (nI 3)) (by simp [wr, va_up]) dX4_reckon_128 ?_
          refine lv_if_le (tgt := 150) hx hb dX4_reckon_131 (by decide) (fun c_24 => ?_) (fun c_24 => ?_)
          · have c_24 : 3 ≤ 0 := (nI_leI (a := 3) (b := 0) (by omega) (by omega)).mp c_24
            exfalso; omega
          · have c_24 : ¬ (3 ≤ 0) := fun z => c_24 ((nI_leI (a := 3) (b := 0) (by omega) (by omega)).mpr z)
            refine lv_aload_n hx hb dX4_reckon_134 rfl (lv_at hl 1 rfl) ?_
            refine lv_iload_n hx hb dX4_reckon_135 rfl (lv_at hl 2 rfl) ?_
            refine lv_aload_n hx hb dX4_reckon_136 rfl (lv_at hl 1 rfl) ?_
            refine gw_get (C := RX4) (T := TX4) (N := 25) hx hb hL4 hown hK hP 0 0 (rDf (by decide)) rfl rfl 24 (by decide) (hts (.fieldLink RX4 93 "BlockProgramsModel" "wrong" "I") (by decide +kernel)) (fun _ h9 => h9) (v := .int (nI 3)) (by simp [wr, va_up]) dX4_reckon_137 ?_
            refine va_callv (va_runV (As := [.int (nI b), .int (nI 3)]) (rest := []) ⟨hx, hb, hml, hown, hts⟩ (k_X4_fail (l := l) (D := D) (cI := cI) (cZ := cZ) (cB := cB) (cS := cS) (A := A) κ σ (wr sc 2 2 (nI 3)) ad b 3 hb0 hn h2 (by omega) (by omega)) (cwV 2 hts gX4_reckon_X4_fail rfl rfl rfl (by decide +kernel) ⟨Nat.le_of_ble_eq_true rfl, Nat.le_of_ble_eq_true rfl⟩) (gPreV hE hA hS hP (gw_recv hK hP 0 0 (rDf (by decide)) rfl rfl)) rfl rfl hl.1 rfl (lv_room (Nat.le_of_ble_eq_true rfl)) dX4_reckon_140 ⟨Nat.le_of_ble_eq_true rfl, Nat.le_of_ble_eq_true rfl⟩) hS (fun q _ h9 => h9) (fun q h9 => h9) (fun u9 t9 H locs ht9 hvm9 hw_25 hB9 hz9 hk9 hS => ?_)
            have hP : gw_P D vwCl A rDm (rEn cI cZ ((noteK κ)) ((noteS κ σ (nI (κ 3)) (nI b) 3)) (wr sc 2 2 (nI 3)) ad) ad H := by rw [← ht9]; exact hB9
            have n0 : noteK κ 0 = κ 0 := noteK_k (by decide)
            refine lv_aload_n hx hb dX4_reckon_143 rfl (lv_at hl 1 rfl) ?_
            refine gw_get (C := RX4) (T := TX4) (N := 25) hx hb hL4 hown hK hP 0 0 (rDf (by decide)) rfl rfl 5 (by decide) (hts (.fieldLink RX4 19 "BlockProgramsModel" "safes" "[I") (by decide +kernel)) (fun _ h9 => h9) (v := .ref (ad 5 0)) rfl dX4_reckon_144 ?_
            refine lv_iload_n hx hb dX4_reckon_147 rfl (lv_at hl 2 rfl) ?_
            refine gw_iald hx hb hK hP 5 0 (rDf (by decide)) 0 rfl rfl (b) rfl (by omega) (by decide) (v := (((noteS κ σ (nI (κ 3)) (nI b) 3)) 3 b)) rfl dX4_reckon_148 ?_
            refine lv_istore_n (lv' := [(2, .int ((((noteS κ σ (nI (κ 3)) (nI b) 3)) 3 b))), (0, .ref (ad 0 0)), (1, .int (nI b))]) hx hb dX4_reckon_149 rfl hl (by decide) rfl (fun ls hl => ?_)
            refine lv_aload_n hx hb dX4_reckon_150 rfl (lv_at hl 1 rfl) ?_
            refine gw_get (C := RX4) (T := TX4) (N := 25) hx hb hL4 hown hK hP 0 0 (rDf (by decide)) rfl rfl 7 (by decide) (hts (.fieldLink RX4 25 "BlockProgramsModel" "outs" "[I") (by decide +kernel)) (fun _ h9 => h9) (v := .ref (ad 7 0)) rfl dX4_reckon_151 ?_
            refine lv_iload_n hx hb dX4_reckon_154 rfl (lv_at hl 2 rfl) ?_
            refine lv_aload_n hx hb dX4_reckon_155 rfl (lv_at hl 1 rfl) ?_
            refine gw_get (C := RX4) (T := TX4) (N := 25) hx hb hL4 hown hK hP 0 0 (rDf (by decide)) rfl rfl 11 (by decide) (hts (.fieldLink RX4 37 "BlockProgramsModel" "inHand" "[Z") (by decide +kernel)) (fun _ h9 => h9) (v := .ref (ad 11 0)) rfl dX4_reckon_156 ?_
            refine lv_iload_n hx hb dX4_reckon_159 rfl (lv_at hl 2 rfl) ?_
            refine gw_zald hx hb hK hP 11 0 (rDf (by decide)) 1 rfl rfl (b) rfl (by omega) (by decide) (v := (((noteS κ σ (nI (κ 3)) (nI b) 3)) 7 b)) rfl dX4_reckon_160 ?_
            refine lv_if_eq (tgt := 173) hx hb dX4_reckon_161 (by decide) (fun c_26 => ?_) (fun c_26 => ?_)
            · refine lv_iload_n hx hb dX4_reckon_173 rfl (lv_at hl 0 rfl) ?_
              refine gw_iast hx hb hK hP hS 7 0 (rDf (by decide)) 0 rfl rfl (b) rfl (by omega) (by decide) dX4_reckon_174 ((rEn cI cZ ((noteK κ)) (wr ((noteS κ σ (nI (κ 3)) (nI b) 3)) 4 b ((((noteS κ σ (nI (κ 3)) (nI b) 3)) 3 b))) (wr sc 2 2 (nI 3)) ad)) rUs_7 (fun t9 i9 z9 h9 => rU7 _ t9 i9 h9 z9) (fun H locs hP hS => ?_)
              have e8 : wr ((noteS κ σ (nI (κ 3)) (nI b) 3)) 4 b ((((noteS κ σ (nI (κ 3)) (nI b) 3)) 3 b)) = say ((noteS κ σ (nI (κ 3)) (nI b) 3)) b ((((noteS κ σ (nI (κ 3)) (nI b) 3)) 3 b)) := say_y c_26
              rw [e8] at hP
              have er := reck_f (κ := κ) (σ := σ) (k := k) (b := b) (rkF_3 hlk9) (by omega)
              rw [show noteS κ σ (nI (κ 3)) (nI b) 3 3 b = σ 3 b from noteS_q (by decide)] at hP
              rw [← er.1, ← er.2] at hP
              exact W.vret hx hb hr (fun t ht hW => ⟨⟨wr sc 2 2 (nI 3), rfl, (fun f9 j9 h9 => by simp only [wr22 h9]), by rw [← ht] at hP; exact hP⟩, hS.F ht⟩) hS.2.2 dX4_reckon_175
            · refine lv_aload_n hx hb dX4_reckon_164 rfl (lv_at hl 1 rfl) ?_
              refine gw_get (C := RX4) (T := TX4) (N := 25) hx hb hL4 hown hK hP 0 0 (rDf (by decide)) rfl rfl 12 (by decide) (hts (.fieldLink RX4 41 "BlockProgramsModel" "hands" "[I") (by decide +kernel)) (fun _ h9 => h9) (v := .ref (ad 12 0)) rfl dX4_reckon_165 ?_
              refine lv_iload_n hx hb dX4_reckon_168 rfl (lv_at hl 2 rfl) ?_
              refine gw_iald hx hb hK hP 12 0 (rDf (by decide)) 0 rfl rfl (b) rfl (by omega) (by decide) (v := (((noteS κ σ (nI (κ 3)) (nI b) 3)) 8 b)) rfl dX4_reckon_169 ?_
              refine lv_goto (tgt := 174) hx hb dX4_reckon_170 (by decide) ?_
              refine gw_iast hx hb hK hP hS 7 0 (rDf (by decide)) 0 rfl rfl (b) rfl (by omega) (by decide) dX4_reckon_174 ((rEn cI cZ ((noteK κ)) (wr ((noteS κ σ (nI (κ 3)) (nI b) 3)) 4 b ((((noteS κ σ (nI (κ 3)) (nI b) 3)) 8 b))) (wr sc 2 2 (nI 3)) ad)) rUs_7 (fun t9 i9 z9 h9 => rU7 _ t9 i9 h9 z9) (fun H locs hP hS => ?_)
              have e8 : wr ((noteS κ σ (nI (κ 3)) (nI b) 3)) 4 b ((((noteS κ σ (nI (κ 3)) (nI b) 3)) 8 b)) = say ((noteS κ σ (nI (κ 3)) (nI b) 3)) b ((((noteS κ σ (nI (κ 3)) (nI b) 3)) 3 b)) := say_n c_26
              rw [e8] at hP
              have er := reck_f (κ := κ) (σ := σ) (k := k) (b := b) (rkF_3 hlk9) (by omega)
              rw [show noteS κ σ (nI (κ 3)) (nI b) 3 3 b = σ 3 b from noteS_q (by decide)] at hP
              rw [← er.1, ← er.2] at hP
              exact W.vret hx hb hr (fun t ht hW => ⟨⟨wr sc 2 2 (nI 3), rfl, (fun f9 j9 h9 => by simp only [wr22 h9]), by rw [← ht] at hP; exact hP⟩, hS.F ht⟩) hS.2.2 dX4_reckon_175
        · have c_23 : 3 = 0 := (nI_eq (a := 3) (b := 0) (by omega) (by omega)).mp c_23
          exfalso; omega
      · rw [show lkF σ k b = 0 from if_neg hlk9] at hP
        refine lv_iconst (v := 0) hx hb dX4_reckon_63 (by decide) ?_
        refine lv_istore_n (lv' := [(2, .int 0), (0, .ref (ad 0 0)), (1, .int (nI b))]) hx hb dX4_reckon_64 rfl hl (by decide) rfl (fun ls hl => ?_)
        refine lv_aload_n hx hb dX4_reckon_65 rfl (lv_at hl 1 rfl) ?_
        refine gw_get (C := RX4) (T := TX4) (N := 25) hx hb hL4 hown hK hP 0 0 (rDf (by decide)) rfl rfl 24 (by decide) (hts (.fieldLink RX4 93 "BlockProgramsModel" "wrong" "I") (by decide +kernel)) (fun _ h9 => h9) (v := .int (nI 0)) (by simp [wr, va_up]) dX4_reckon_66 ?_
        refine lv_if_ne (tgt := 127) hx hb dX4_reckon_69 (by decide) (fun c_27 => ?_) (fun c_27 => ?_)
        · have c_27 : ¬ (0 = 0) := fun z => c_27 ((nI_eq (a := 0) (b := 0) (by omega) (by omega)).mpr z)
          exfalso; omega
        · have c_27 : 0 = 0 := (nI_eq (a := 0) (b := 0) (by omega) (by omega)).mp c_27
          refine lv_aload_n hx hb dX4_reckon_72 rfl (lv_at hl 1 rfl) ?_
          refine gw_get (C := RX4) (T := TX4) (N := 25) hx hb hL4 hown hK hP 0 0 (rDf (by decide)) rfl rfl 2 (by decide) (hts (.fieldLink RX4 7 "BlockProgramsModel" "kinds" "[I") (by decide +kernel)) (fun _ h9 => h9) (v := .ref (ad 2 0)) rfl dX4_reckon_73 ?_
          refine lv_iload_n hx hb dX4_reckon_76 rfl (lv_at hl 2 rfl) ?_
          refine gw_iald hx hb hK hP 2 0 (rDf (by decide)) 0 rfl rfl (b) rfl (by omega) (by decide) (v := nI k) ek dX4_reckon_77 ?_
          refine lv_bipush (v := 15) hx hb dX4_reckon_78 (by decide) ?_
          refine lv_icmp_gt (tgt := 109) hx hb dX4_reckon_80 (by decide) (fun c_28 => ?_) (fun c_28 => ?_)
          · have c_28 : 15 < k := (nI_ltI (a := 15) (b := k) (by omega) (by omega)).mp c_28
            refine lv_aload_n hx hb dX4_reckon_109 rfl (lv_at hl 1 rfl) ?_
            refine lv_iload_n hx hb dX4_reckon_110 rfl (lv_at hl 2 rfl) ?_
            refine lv_aload_n hx hb dX4_reckon_111 rfl (lv_at hl 1 rfl) ?_
            refine lv_iload_n hx hb dX4_reckon_112 rfl (lv_at hl 2 rfl) ?_
            refine lv_iconst (v := 0) hx hb dX4_reckon_113 (by decide) ?_
            refine va_calli (va_runV (As := [.int (nI b), .int 0]) (rest := [.int (nI b), .ref (ad 0 0)]) ⟨hx, hb, hml, hown, hts⟩ (k_X4_input (l := l) (D := D) (cI := cI) (cZ := cZ) (cB := cB) (cS := cS) (A := A) κ σ (wr sc 2 2 (nI 0)) ad b k hb0 hn hk0 ek 0 (by decide) (hw 0 (by decide))) (cwV 2 hts gX4_reckon_X4_input rfl rfl rfl (by decide +kernel) ⟨Nat.le_of_ble_eq_true rfl, Nat.le_of_ble_eq_true rfl⟩) (gPreV hE hA hS hP (gw_recv hK hP 0 0 (rDf (by decide)) rfl rfl)) rfl rfl hl.1 rfl (lv_room (Nat.le_of_ble_eq_true rfl)) dX4_reckon_114 ⟨Nat.le_of_ble_eq_true rfl, Nat.le_of_ble_eq_true rfl⟩) hS (fun q _ h9 => h9) (fun q h9 => h9) (fun r_29 u9 t9 H locs ht9 hvm9 hw_r_29 hB9 hz9 hk9 hS => ?_)
            have hP : gw_P D vwCl A rDm (rEn cI cZ κ σ (wr sc 2 2 (nI 0)) ad) ad H := by rw [← ht9]; exact hB9
            refine lv_toq ((rIn κ σ b k 0)) hw_r_29 ?_
            refine lv_aload_n hx hb dX4_reckon_117 rfl (lv_at hl 1 rfl) ?_
            refine lv_iload_n hx hb dX4_reckon_118 rfl (lv_at hl 2 rfl) ?_
            refine lv_iconst (v := 1) hx hb dX4_reckon_119 (by decide) ?_
            refine va_calli (va_runV (As := [.int (nI b), .int 1]) (rest := [.int ((rIn κ σ b k 0)), .int (nI b), .ref (ad 0 0)]) ⟨hx, hb, hml, hown, hts⟩ (k_X4_input (l := l) (D := D) (cI := cI) (cZ := cZ) (cB := cB) (cS := cS) (A := A) κ σ (wr sc 2 2 (nI 0)) ad b k hb0 hn hk0 ek 1 (by decide) (hw 1 (by decide))) (cwV 2 hts gX4_reckon_X4_input rfl rfl rfl (by decide +kernel) ⟨Nat.le_of_ble_eq_true rfl, Nat.le_of_ble_eq_true rfl⟩) (gPreV hE hA hS hP (gw_recv hK hP 0 0 (rDf (by decide)) rfl rfl)) rfl rfl hl.1 rfl (lv_room (Nat.le_of_ble_eq_true rfl)) dX4_reckon_120 ⟨Nat.le_of_ble_eq_true rfl, Nat.le_of_ble_eq_true rfl⟩) hS (fun q _ h9 => h9) (fun q h9 => h9) (fun r_30 u9 t9 H locs ht9 hvm9 hw_r_30 hB9 hz9 hk9 hS => ?_)
            have hP : gw_P D vwCl A rDm (rEn cI cZ κ σ (wr sc 2 2 (nI 0)) ad) ad H := by rw [← ht9]; exact hB9
            refine lv_toq ((rIn κ σ b k 1)) hw_r_30 ?_
            refine va_calli (va_runV (As := [.int (nI b), .int ((rIn κ σ b k 0)), .int ((rIn κ σ b k 1))]) (rest := []) ⟨hx, hb, hml, hown, hts⟩ (k_X4_withState (l := l) (D := D) (cI := cI) (cZ := cZ) (cB := cB) (cS := cS) (A := A) κ σ (wr sc 2 2 (nI 0)) ad b k hb0 hn (by omega) hk0 ek h3 (rIn κ σ b k 0) (rIn κ σ b k 1)) (cwV 3 hts gX4_reckon_X4_withState rfl rfl rfl (by decide +kernel) ⟨Nat.le_of_ble_eq_true rfl, Nat.le_of_ble_eq_true rfl⟩) (gPreV hE hA hS hP (gw_recv hK hP 0 0 (rDf (by decide)) rfl rfl)) rfl rfl hl.1 rfl (lv_room (Nat.le_of_ble_eq_true rfl)) dX4_reckon_123 ⟨Nat.le_of_ble_eq_true rfl, Nat.le_of_ble_eq_true rfl⟩) hS (fun q _ h9 => h9) (fun q h9 => h9) (fun r_31 u9 t9 H locs ht9 hvm9 hw_r_31 hB9 hz9 hk9 hS => ?_)
            have hP : gw_P D vwCl A rDm (rEn cI cZ κ ((ownS σ k b (rIn κ σ b k 0) (rIn κ σ b k 1))) (wr sc 2 2 (nI 0)) ad) ad H := by rw [← ht9]; exact hB9
            refine lv_toq ((f_own σ k b (rIn κ σ b k 0) (rIn κ σ b k 1) (nI (κ 3 % 1440)))) hw_r_31 ?_
            refine lv_istore_n (lv' := [(2, .int ((f_own σ k b (rIn κ σ b k 0) (rIn κ σ b k 1) (nI (κ 3 % 1440))))), (0, .ref (ad 0 0)), (1, .int (nI b))]) hx hb dX4_reckon_126 rfl hl (by decide) rfl (fun ls hl => ?_)
            refine lv_aload_n hx hb dX4_reckon_127 rfl (lv_at hl 1 rfl) ?_
            refine gw_get (C := RX4) (T := TX4) (N := 25) hx hb hL4 hown hK hP 0 0 (rDf (by decide)) rfl rfl 24 (by decide) (hts (.fieldLink RX4 93 "BlockProgramsModel" "wrong" "I") (by decide +kernel)) (fun _ h9 => h9) (v := .int (nI 0)) (by simp [wr, va_up]) dX4_reckon_128 ?_
            refine lv_if_le (tgt := 150) hx hb dX4_reckon_131 (by decide) (fun c_32 => ?_) (fun c_32 => ?_)
            · have c_32 : 0 ≤ 0 := (nI_leI (a := 0) (b := 0) (by omega) (by omega)).mp c_32
              refine lv_aload_n hx hb dX4_reckon_150 rfl (lv_at hl 1 rfl) ?_
              refine gw_get (C := RX4) (T := TX4) (N := 25) hx hb hL4 hown hK hP 0 0 (rDf (by decide)) rfl rfl 7 (by decide) (hts (.fieldLink RX4 25 "BlockProgramsModel" "outs" "[I") (by decide +kernel)) (fun _ h9 => h9) (v := .ref (ad 7 0)) rfl dX4_reckon_151 ?_
              refine lv_iload_n hx hb dX4_reckon_154 rfl (lv_at hl 2 rfl) ?_
              refine lv_aload_n hx hb dX4_reckon_155 rfl (lv_at hl 1 rfl) ?_
              refine gw_get (C := RX4) (T := TX4) (N := 25) hx hb hL4 hown hK hP 0 0 (rDf (by decide)) rfl rfl 11 (by decide) (hts (.fieldLink RX4 37 "BlockProgramsModel" "inHand" "[Z") (by decide +kernel)) (fun _ h9 => h9) (v := .ref (ad 11 0)) rfl dX4_reckon_156 ?_
              refine lv_iload_n hx hb dX4_reckon_159 rfl (lv_at hl 2 rfl) ?_
              refine gw_zald hx hb hK hP 11 0 (rDf (by decide)) 1 rfl rfl (b) rfl (by omega) (by decide) (v := (((ownS σ k b (rIn κ σ b k 0) (rIn κ σ b k 1))) 7 b)) rfl dX4_reckon_160 ?_
              refine lv_if_eq (tgt := 173) hx hb dX4_reckon_161 (by decide) (fun c_33 => ?_) (fun c_33 => ?_)
              · refine lv_iload_n hx hb dX4_reckon_173 rfl (lv_at hl 0 rfl) ?_
                refine gw_iast hx hb hK hP hS 7 0 (rDf (by decide)) 0 rfl rfl (b) rfl (by omega) (by decide) dX4_reckon_174 ((rEn cI cZ κ (wr ((ownS σ k b (rIn κ σ b k 0) (rIn κ σ b k 1))) 4 b ((f_own σ k b (rIn κ σ b k 0) (rIn κ σ b k 1) (nI (κ 3 % 1440))))) (wr sc 2 2 (nI 0)) ad)) rUs_7 (fun t9 i9 z9 h9 => rU7 _ t9 i9 h9 z9) (fun H locs hP hS => ?_)
                have e8 : wr ((ownS σ k b (rIn κ σ b k 0) (rIn κ σ b k 1))) 4 b ((f_own σ k b (rIn κ σ b k 0) (rIn κ σ b k 1) (nI (κ 3 % 1440)))) = say ((ownS σ k b (rIn κ σ b k 0) (rIn κ σ b k 1))) b ((f_own σ k b (rIn κ σ b k 0) (rIn κ σ b k 1) (nI (κ 3 % 1440)))) := say_y c_33
                rw [e8] at hP
                have er := reck_s (κ := κ) (σ := σ) (k := k) (b := b) (by omega) hk0 hlk9
                rw [← er.2] at hP
                exact W.vret hx hb hr (fun t ht hW => ⟨⟨wr sc 2 2 (nI 0), rfl, (fun f9 j9 h9 => by simp only [wr22 h9]), by rw [er.1]; rw [← ht] at hP; exact hP⟩, hS.F ht⟩) hS.2.2 dX4_reckon_175
              · refine lv_aload_n hx hb dX4_reckon_164 rfl (lv_at hl 1 rfl) ?_
                refine gw_get (C := RX4) (T := TX4) (N := 25) hx hb hL4 hown hK hP 0 0 (rDf (by decide)) rfl rfl 12 (by decide) (hts (.fieldLink RX4 41 "BlockProgramsModel" "hands" "[I") (by decide +kernel)) (fun _ h9 => h9) (v := .ref (ad 12 0)) rfl dX4_reckon_165 ?_
                refine lv_iload_n hx hb dX4_reckon_168 rfl (lv_at hl 2 rfl) ?_
                refine gw_iald hx hb hK hP 12 0 (rDf (by decide)) 0 rfl rfl (b) rfl (by omega) (by decide) (v := (((ownS σ k b (rIn κ σ b k 0) (rIn κ σ b k 1))) 8 b)) rfl dX4_reckon_169 ?_
                refine lv_goto (tgt := 174) hx hb dX4_reckon_170 (by decide) ?_
                refine gw_iast hx hb hK hP hS 7 0 (rDf (by decide)) 0 rfl rfl (b) rfl (by omega) (by decide) dX4_reckon_174 ((rEn cI cZ κ (wr ((ownS σ k b (rIn κ σ b k 0) (rIn κ σ b k 1))) 4 b ((((ownS σ k b (rIn κ σ b k 0) (rIn κ σ b k 1))) 8 b))) (wr sc 2 2 (nI 0)) ad)) rUs_7 (fun t9 i9 z9 h9 => rU7 _ t9 i9 h9 z9) (fun H locs hP hS => ?_)
                have e8 : wr ((ownS σ k b (rIn κ σ b k 0) (rIn κ σ b k 1))) 4 b ((((ownS σ k b (rIn κ σ b k 0) (rIn κ σ b k 1))) 8 b)) = say ((ownS σ k b (rIn κ σ b k 0) (rIn κ σ b k 1))) b ((f_own σ k b (rIn κ σ b k 0) (rIn κ σ b k 1) (nI (κ 3 % 1440)))) := say_n c_33
                rw [e8] at hP
                have er := reck_s (κ := κ) (σ := σ) (k := k) (b := b) (by omega) hk0 hlk9
                rw [← er.2] at hP
                exact W.vret hx hb hr (fun t ht hW => ⟨⟨wr sc 2 2 (nI 0), rfl, (fun f9 j9 h9 => by simp only [wr22 h9]), by rw [er.1]; rw [← ht] at hP; exact hP⟩, hS.F ht⟩) hS.2.2 dX4_reckon_175
            · have c_32 : ¬ (0 ≤ 0) := fun z => c_32 ((nI_leI (a := 0) (b := 0) (by omega) (by omega)).mpr z)
              exfalso; omega
          · have c_28 : ¬ (15 < k) := fun z => c_28 ((nI_ltI (a := 15) (b := k) (by omega) (by omega)).mpr z)
            refine lv_aload_n hx hb dX4_reckon_83 rfl (lv_at hl 1 rfl) ?_
            refine lv_iload_n hx hb dX4_reckon_84 rfl (lv_at hl 2 rfl) ?_
            refine lv_aload_n hx hb dX4_reckon_85 rfl (lv_at hl 1 rfl) ?_
            refine lv_iload_n hx hb dX4_reckon_86 rfl (lv_at hl 2 rfl) ?_
            refine lv_iconst (v := 0) hx hb dX4_reckon_87 (by decide) ?_
            refine va_calli (va_runV (As := [.int (nI b), .int 0]) (rest := [.int (nI b), .ref (ad 0 0)]) ⟨hx, hb, hml, hown, hts⟩ (k_X4_input (l := l) (D := D) (cI := cI) (cZ := cZ) (cB := cB) (cS := cS) (A := A) κ σ (wr sc 2 2 (nI 0)) ad b k hb0 hn hk0 ek 0 (by decide) (hw 0 (by decide))) (cwV 2 hts gX4_reckon_X4_input rfl rfl rfl (by decide +kernel) ⟨Nat.le_of_ble_eq_true rfl, Nat.le_of_ble_eq_true rfl⟩) (gPreV hE hA hS hP (gw_recv hK hP 0 0 (rDf (by decide)) rfl rfl)) rfl rfl hl.1 rfl (lv_room (Nat.le_of_ble_eq_true rfl)) dX4_reckon_88 ⟨Nat.le_of_ble_eq_true rfl, Nat.le_of_ble_eq_true rfl⟩) hS (fun q _ h9 => h9) (fun q h9 => h9) (fun r_34 u9 t9 H locs ht9 hvm9 hw_r_34 hB9 hz9 hk9 hS => ?_)
            have hP : gw_P D vwCl A rDm (rEn cI cZ κ σ (wr sc 2 2 (nI 0)) ad) ad H := by rw [← ht9]; exact hB9
            refine lv_toq ((rIn κ σ b k 0)) hw_r_34 ?_
            refine lv_aload_n hx hb dX4_reckon_91 rfl (lv_at hl 1 rfl) ?_
            refine lv_iload_n hx hb dX4_reckon_92 rfl (lv_at hl 2 rfl) ?_
            refine lv_iconst (v := 1) hx hb dX4_reckon_93 (by decide) ?_
            refine va_calli (va_runV (As := [.int (nI b), .int 1]) (rest := [.int ((rIn κ σ b k 0)), .int (nI b), .ref (ad 0 0)]) ⟨hx, hb, hml, hown, hts⟩ (k_X4_input (l := l) (D := D) (cI := cI) (cZ := cZ) (cB := cB) (cS := cS) (A := A) κ σ (wr sc 2 2 (nI 0)) ad b k hb0 hn hk0 ek 1 (by decide) (hw 1 (by decide))) (cwV 2 hts gX4_reckon_X4_input rfl rfl rfl (by decide +kernel) ⟨Nat.le_of_ble_eq_true rfl, Nat.le_of_ble_eq_true rfl⟩) (gPreV hE hA hS hP (gw_recv hK hP 0 0 (rDf (by decide)) rfl rfl)) rfl rfl hl.1 rfl (lv_room (Nat.le_of_ble_eq_true rfl)) dX4_reckon_94 ⟨Nat.le_of_ble_eq_true rfl, Nat.le_of_ble_eq_true rfl⟩) hS (fun q _ h9 => h9) (fun q h9 => h9) (fun r_35 u9 t9 H locs ht9 hvm9 hw_r_35 hB9 hz9 hk9 hS => ?_)
            have hP : gw_P D vwCl A rDm (rEn cI cZ κ σ (wr sc 2 2 (nI 0)) ad) ad H := by rw [← ht9]; exact hB9
            refine lv_toq ((rIn κ σ b k 1)) hw_r_35 ?_
            refine lv_aload_n hx hb dX4_reckon_97 rfl (lv_at hl 1 rfl) ?_
            refine lv_iload_n hx hb dX4_reckon_98 rfl (lv_at hl 2 rfl) ?_
            refine lv_iconst (v := 2) hx hb dX4_reckon_99 (by decide) ?_
            refine va_calli (va_runV (As := [.int (nI b), .int 2]) (rest := [.int ((rIn κ σ b k 1)), .int ((rIn κ σ b k 0)), .int (nI b), .ref (ad 0 0)]) ⟨hx, hb, hml, hown, hts⟩ (k_X4_input (l := l) (D := D) (cI := cI) (cZ := cZ) (cB := cB) (cS := cS) (A := A) κ σ (wr sc 2 2 (nI 0)) ad b k hb0 hn hk0 ek 2 (by decide) (hw 2 (by decide))) (cwV 2 hts gX4_reckon_X4_input rfl rfl rfl (by decide +kernel) ⟨Nat.le_of_ble_eq_true rfl, Nat.le_of_ble_eq_true rfl⟩) (gPreV hE hA hS hP (gw_recv hK hP 0 0 (rDf (by decide)) rfl rfl)) rfl rfl hl.1 rfl (lv_room (Nat.le_of_ble_eq_true rfl)) dX4_reckon_100 ⟨Nat.le_of_ble_eq_true rfl, Nat.le_of_ble_eq_true rfl⟩) hS (fun q _ h9 => h9) (fun q h9 => h9) (fun r_36 u9 t9 H locs ht9 hvm9 hw_r_36 hB9 hz9 hk9 hS => ?_)
            have hP : gw_P D vwCl A rDm (rEn cI cZ κ σ (wr sc 2 2 (nI 0)) ad) ad H := by rw [← ht9]; exact hB9
            refine lv_toq ((rIn κ σ b k 2)) hw_r_36 ?_
            refine va_calli (va_runV (As := [.int (nI b), .int ((rIn κ σ b k 0)), .int ((rIn κ σ b k 1)), .int ((rIn κ σ b k 2))]) (rest := []) ⟨hx, hb, hml, hown, hts⟩ (k_X4_plain (l := l) (D := D) (cI := cI) (cZ := cZ) (cB := cB) (cS := cS) (A := A) κ σ (wr sc 2 2 (nI 0)) ad b k hb0 hn (by omega) ek wr_s (rIn κ σ b k 0) (rIn κ σ b k 1) (rIn κ σ b k 2)) (cwV 4 hts gX4_reckon_X4_plain rfl rfl rfl (by decide +kernel) ⟨Nat.le_of_ble_eq_true rfl, Nat.le_of_ble_eq_true rfl⟩) (gPreV hE hA hS hP (gw_recv hK hP 0 0 (rDf (by decide)) rfl rfl)) rfl rfl hl.1 rfl (lv_room (Nat.le_of_ble_eq_true rfl)) dX4_reckon_103 ⟨Nat.le_of_ble_eq_true rfl, Nat.le_of_ble_eq_true rfl⟩) hS (fun q _ h9 => h9) (fun q h9 => h9) (fun r_37 u9 t9 H locs ht9 hvm9 hw_r_37 hB9 hz9 hk9 hS => ?_)
            have hP : gw_P D vwCl A rDm (rEn cI cZ κ σ (wr (wr sc 2 2 (nI 0)) 2 2 (nI (plW σ k b (rIn κ σ b k 0) (rIn κ σ b k 1)))) ad) ad H := by rw [← ht9]; exact hB9
            refine lv_toq ((plV σ k b (rIn κ σ b k 0) (rIn κ σ b k 1) (rIn κ σ b k 2))) hw_r_37 ?_
            have hple : plW σ k b (rIn κ σ b k 0) (rIn κ σ b k 1) ≤ 3 := plW_le
            refine lv_goto (tgt := 126) hx hb dX4_reckon_106 (by decide) ?_
            refine lv_istore_n (lv' := [(2, .int ((plV σ k b (rIn κ σ b k 0) (rIn κ σ b k 1) (rIn κ σ b k 2)))), (0, .ref (ad 0 0)), (1, .int (nI b))]) hx hb dX4_reckon_126 rfl hl (by decide) rfl (fun ls hl => ?_)
            refine lv_aload_n hx hb dX4_reckon_127 rfl (lv_at hl 1 rfl) ?_
            refine gw_get (C := RX4) (T := TX4) (N := 25) hx hb hL4 hown hK hP 0 0 (rDf (by decide)) rfl rfl 24 (by decide) (hts (.fieldLink RX4 93 "BlockProgramsModel" "wrong" "I") (by decide +kernel)) (fun _ h9 => h9) (v := .int (nI ((plW σ k b (rIn κ σ b k 0) (rIn κ σ b k 1))))) (by simp [wr, va_up]) dX4_reckon_128 ?_
            refine lv_if_le (tgt := 150) hx hb dX4_reckon_131 (by decide) (fun c_38 => ?_) (fun c_38 => ?_)
            · have c_38 : (plW σ k b (rIn κ σ b k 0) (rIn κ σ b k 1)) ≤ 0 := (nI_leI (a := (plW σ k b (rIn κ σ b k 0) (rIn κ σ b k 1))) (b := 0) (by omega) (by omega)).mp c_38
              refine lv_aload_n hx hb dX4_reckon_150 rfl (lv_at hl 1 rfl) ?_
              refine gw_get (C := RX4) (T := TX4) (N := 25) hx hb hL4 hown hK hP 0 0 (rDf (by decide)) rfl rfl 7 (by decide) (hts (.fieldLink RX4 25 "BlockProgramsModel" "outs" "[I") (by decide +kernel)) (fun _ h9 => h9) (v := .ref (ad 7 0)) rfl dX4_reckon_151 ?_
              refine lv_iload_n hx hb dX4_reckon_154 rfl (lv_at hl 2 rfl) ?_
              refine lv_aload_n hx hb dX4_reckon_155 rfl (lv_at hl 1 rfl) ?_
              refine gw_get (C := RX4) (T := TX4) (N := 25) hx hb hL4 hown hK hP 0 0 (rDf (by decide)) rfl rfl 11 (by decide) (hts (.fieldLink RX4 37 "BlockProgramsModel" "inHand" "[Z") (by decide +kernel)) (fun _ h9 => h9) (v := .ref (ad 11 0)) rfl dX4_reckon_156 ?_
              refine lv_iload_n hx hb dX4_reckon_159 rfl (lv_at hl 2 rfl) ?_
              refine gw_zald hx hb hK hP 11 0 (rDf (by decide)) 1 rfl rfl (b) rfl (by omega) (by decide) (v := (σ 7 b)) rfl dX4_reckon_160 ?_
              refine lv_if_eq (tgt := 173) hx hb dX4_reckon_161 (by decide) (fun c_39 => ?_) (fun c_39 => ?_)
              · refine lv_iload_n hx hb dX4_reckon_173 rfl (lv_at hl 0 rfl) ?_
                refine gw_iast hx hb hK hP hS 7 0 (rDf (by decide)) 0 rfl rfl (b) rfl (by omega) (by decide) dX4_reckon_174 ((rEn cI cZ κ (wr σ 4 b ((plV σ k b (rIn κ σ b k 0) (rIn κ σ b k 1) (rIn κ σ b k 2)))) (wr (wr sc 2 2 (nI 0)) 2 2 (nI (plW σ k b (rIn κ σ b k 0) (rIn κ σ b k 1)))) ad)) rUs_7 (fun t9 i9 z9 h9 => rU7 _ t9 i9 h9 z9) (fun H locs hP hS => ?_)
                have e8 : wr σ 4 b ((plV σ k b (rIn κ σ b k 0) (rIn κ σ b k 1) (rIn κ σ b k 2))) = say σ b ((plV σ k b (rIn κ σ b k 0) (rIn κ σ b k 1) (rIn κ σ b k 2))) := say_y c_39
                rw [e8] at hP
                have er := reck_p (κ := κ) (σ := σ) (k := k) (b := b) (by omega) hlk9 (by omega)
                rw [← er.2] at hP
                exact W.vret hx hb hr (fun t ht hW => ⟨⟨wr (wr sc 2 2 (nI 0)) 2 2 (nI (plW σ k b (rIn κ σ b k 0) (rIn κ σ b k 1))), rfl, (fun f9 j9 h9 => by simp only [wr22 h9]), by rw [er.1]; rw [← ht] at hP; exact hP⟩, hS.F ht⟩) hS.2.2 dX4_reckon_175
              · refine lv_aload_n hx hb dX4_reckon_164 rfl (lv_at hl 1 rfl) ?_
                refine gw_get (C := RX4) (T := TX4) (N := 25) hx hb hL4 hown hK hP 0 0 (rDf (by decide)) rfl rfl 12 (by decide) (hts (.fieldLink RX4 41 "BlockProgramsModel" "hands" "[I") (by decide +kernel)) (fun _ h9 => h9) (v := .ref (ad 12 0)) rfl dX4_reckon_165 ?_
                refine lv_iload_n hx hb dX4_reckon_168 rfl (lv_at hl 2 rfl) ?_
                refine gw_iald hx hb hK hP 12 0 (rDf (by decide)) 0 rfl rfl (b) rfl (by omega) (by decide) (v := (σ 8 b)) rfl dX4_reckon_169 ?_
                refine lv_goto (tgt := 174) hx hb dX4_reckon_170 (by decide) ?_
                refine gw_iast hx hb hK hP hS 7 0 (rDf (by decide)) 0 rfl rfl (b) rfl (by omega) (by decide) dX4_reckon_174 ((rEn cI cZ κ (wr σ 4 b ((σ 8 b))) (wr (wr sc 2 2 (nI 0)) 2 2 (nI (plW σ k b (rIn κ σ b k 0) (rIn κ σ b k 1)))) ad)) rUs_7 (fun t9 i9 z9 h9 => rU7 _ t9 i9 h9 z9) (fun H locs hP hS => ?_)
                have e8 : wr σ 4 b ((σ 8 b)) = say σ b ((plV σ k b (rIn κ σ b k 0) (rIn κ σ b k 1) (rIn κ σ b k 2))) := say_n c_39
                rw [e8] at hP
                have er := reck_p (κ := κ) (σ := σ) (k := k) (b := b) (by omega) hlk9 (by omega)
                rw [← er.2] at hP
                exact W.vret hx hb hr (fun t ht hW => ⟨⟨wr (wr sc 2 2 (nI 0)) 2 2 (nI (plW σ k b (rIn κ σ b k 0) (rIn κ σ b k 1))), rfl, (fun f9 j9 h9 => by simp only [wr22 h9]), by rw [er.1]; rw [← ht] at hP; exact hP⟩, hS.F ht⟩) hS.2.2 dX4_reckon_175
            · have c_38 : ¬ ((plW σ k b (rIn κ σ b k 0) (rIn κ σ b k 1)) ≤ 0) := fun z => c_38 ((nI_leI (a := (plW σ k b (rIn κ σ b k 0) (rIn κ σ b k 1))) (b := 0) (by omega) (by omega)).mpr z)
              refine lv_aload_n hx hb dX4_reckon_134 rfl (lv_at hl 1 rfl) ?_
              refine lv_iload_n hx hb dX4_reckon_135 rfl (lv_at hl 2 rfl) ?_
              refine lv_aload_n hx hb dX4_reckon_136 rfl (lv_at hl 1 rfl) ?_
              refine gw_get (C := RX4) (T := TX4) (N := 25) hx hb hL4 hown hK hP 0 0 (rDf (by decide)) rfl rfl 24 (by decide) (hts (.fieldLink RX4 93 "BlockProgramsModel" "wrong" "I") (by decide +kernel)) (fun _ h9 => h9) (v := .int (nI ((plW σ k b (rIn κ σ b k 0) (rIn κ σ b k 1))))) (by simp [wr, va_up]) dX4_reckon_137 ?_
              refine va_callv (va_runV (As := [.int (nI b), .int (nI ((plW σ k b (rIn κ σ b k 0) (rIn κ σ b k 1))))]) (rest := []) ⟨hx, hb, hml, hown, hts⟩ (k_X4_fail (l := l) (D := D) (cI := cI) (cZ := cZ) (cB := cB) (cS := cS) (A := A) κ σ (wr (wr sc 2 2 (nI 0)) 2 2 (nI (plW σ k b (rIn κ σ b k 0) (rIn κ σ b k 1)))) ad b (plW σ k b (rIn κ σ b k 0) (rIn κ σ b k 1)) hb0 hn h2 (by omega) (by omega)) (cwV 2 hts gX4_reckon_X4_fail rfl rfl rfl (by decide +kernel) ⟨Nat.le_of_ble_eq_true rfl, Nat.le_of_ble_eq_true rfl⟩) (gPreV hE hA hS hP (gw_recv hK hP 0 0 (rDf (by decide)) rfl rfl)) rfl rfl hl.1 rfl (lv_room (Nat.le_of_ble_eq_true rfl)) dX4_reckon_140 ⟨Nat.le_of_ble_eq_true rfl, Nat.le_of_ble_eq_true rfl⟩) hS (fun q _ h9 => h9) (fun q h9 => h9) (fun u9 t9 H locs ht9 hvm9 hw_40 hB9 hz9 hk9 hS => ?_)
              have hP : gw_P D vwCl A rDm (rEn cI cZ ((noteK κ)) ((noteS κ σ (nI (κ 3)) (nI b) (plW σ k b (rIn κ σ b k 0) (rIn κ σ b k 1)))) (wr (wr sc 2 2 (nI 0)) 2 2 (nI (plW σ k b (rIn κ σ b k 0) (rIn κ σ b k 1)))) ad) ad H := by rw [← ht9]; exact hB9
              have n0 : noteK κ 0 = κ 0 := noteK_k (by decide)
              refine lv_aload_n hx hb dX4_reckon_143 rfl (lv_at hl 1 rfl) ?_
              refine gw_get (C := RX4) (T := TX4) (N := 25) hx hb hL4 hown hK hP 0 0 (rDf (by decide)) rfl rfl 5 (by decide) (hts (.fieldLink RX4 19 "BlockProgramsModel" "safes" "[I") (by decide +kernel)) (fun _ h9 => h9) (v := .ref (ad 5 0)) rfl dX4_reckon_144 ?_
              refine lv_iload_n hx hb dX4_reckon_147 rfl (lv_at hl 2 rfl) ?_
              refine gw_iald hx hb hK hP 5 0 (rDf (by decide)) 0 rfl rfl (b) rfl (by omega) (by decide) (v := (((noteS κ σ (nI (κ 3)) (nI b) (plW σ k b (rIn κ σ b k 0) (rIn κ σ b k 1)))) 3 b)) rfl dX4_reckon_148 ?_
              refine lv_istore_n (lv' := [(2, .int ((((noteS κ σ (nI (κ 3)) (nI b) (plW σ k b (rIn κ σ b k 0) (rIn κ σ b k 1)))) 3 b))), (0, .ref (ad 0 0)), (1, .int (nI b))]) hx hb dX4_reckon_149 rfl hl (by decide) rfl (fun ls hl => ?_)
              refine lv_aload_n hx hb dX4_reckon_150 rfl (lv_at hl 1 rfl) ?_
              refine gw_get (C := RX4) (T := TX4) (N := 25) hx hb hL4 hown hK hP 0 0 (rDf (by decide)) rfl rfl 7 (by decide) (hts (.fieldLink RX4 25 "BlockProgramsModel" "outs" "[I") (by decide +kernel)) (fun _ h9 => h9) (v := .ref (ad 7 0)) rfl dX4_reckon_151 ?_
              refine lv_iload_n hx hb dX4_reckon_154 rfl (lv_at hl 2 rfl) ?_
              refine lv_aload_n hx hb dX4_reckon_155 rfl (lv_at hl 1 rfl) ?_
              refine gw_get (C := RX4) (T := TX4) (N := 25) hx hb hL4 hown hK hP 0 0 (rDf (by decide)) rfl rfl 11 (by decide) (hts (.fieldLink RX4 37 "BlockProgramsModel" "inHand" "[Z") (by decide +kernel)) (fun _ h9 => h9) (v := .ref (ad 11 0)) rfl dX4_reckon_156 ?_
              refine lv_iload_n hx hb dX4_reckon_159 rfl (lv_at hl 2 rfl) ?_
              refine gw_zald hx hb hK hP 11 0 (rDf (by decide)) 1 rfl rfl (b) rfl (by omega) (by decide) (v := (((noteS κ σ (nI (κ 3)) (nI b) (plW σ k b (rIn κ σ b k 0) (rIn κ σ b k 1)))) 7 b)) rfl dX4_reckon_160 ?_
              refine lv_if_eq (tgt := 173) hx hb dX4_reckon_161 (by decide) (fun c_41 => ?_) (fun c_41 => ?_)
              · refine lv_iload_n hx hb dX4_reckon_173 rfl (lv_at hl 0 rfl) ?_
                refine gw_iast hx hb hK hP hS 7 0 (rDf (by decide)) 0 rfl rfl (b) rfl (by omega) (by decide) dX4_reckon_174 ((rEn cI cZ ((noteK κ)) (wr ((noteS κ σ (nI (κ 3)) (nI b) (plW σ k b (rIn κ σ b k 0) (rIn κ σ b k 1)))) 4 b ((((noteS κ σ (nI (κ 3)) (nI b) (plW σ k b (rIn κ σ b k 0) (rIn κ σ b k 1)))) 3 b))) (wr (wr sc 2 2 (nI 0)) 2 2 (nI (plW σ k b (rIn κ σ b k 0) (rIn κ σ b k 1)))) ad)) rUs_7 (fun t9 i9 z9 h9 => rU7 _ t9 i9 h9 z9) (fun H locs hP hS => ?_)
                have e8 : wr ((noteS κ σ (nI (κ 3)) (nI b) (plW σ k b (rIn κ σ b k 0) (rIn κ σ b k 1)))) 4 b ((((noteS κ σ (nI (κ 3)) (nI b) (plW σ k b (rIn κ σ b k 0) (rIn κ σ b k 1)))) 3 b)) = say ((noteS κ σ (nI (κ 3)) (nI b) (plW σ k b (rIn κ σ b k 0) (rIn κ σ b k 1)))) b ((((noteS κ σ (nI (κ 3)) (nI b) (plW σ k b (rIn κ σ b k 0) (rIn κ σ b k 1)))) 3 b)) := say_y c_41
                rw [e8] at hP
                have er := reck_f (κ := κ) (σ := σ) (k := k) (b := b) (rkF_p (by omega) hlk9) (by omega)
                rw [show noteS κ σ (nI (κ 3)) (nI b) (plW σ k b (rIn κ σ b k 0) (rIn κ σ b k 1)) 3 b = σ 3 b from noteS_q (by decide)] at hP
                rw [← er.1, ← er.2] at hP
                exact W.vret hx hb hr (fun t ht hW => ⟨⟨wr (wr sc 2 2 (nI 0)) 2 2 (nI (plW σ k b (rIn κ σ b k 0) (rIn κ σ b k 1))), rfl, (fun f9 j9 h9 => by simp only [wr22 h9]), by rw [← ht] at hP; exact hP⟩, hS.F ht⟩) hS.2.2 dX4_reckon_175
              · refine lv_aload_n hx hb dX4_reckon_164 rfl (lv_at hl 1 rfl) ?_
                refine gw_get (C := RX4) (T := TX4) (N := 25) hx hb hL4 hown hK hP 0 0 (rDf (by decide)) rfl rfl 12 (by decide) (hts (.fieldLink RX4 41 "BlockProgramsModel" "hands" "[I") (by decide +kernel)) (fun _ h9 => h9) (v := .ref (ad 12 0)) rfl dX4_reckon_165 ?_
                refine lv_iload_n hx hb dX4_reckon_168 rfl (lv_at hl 2 rfl) ?_
                refine gw_iald hx hb hK hP 12 0 (rDf (by decide)) 0 rfl rfl (b) rfl (by omega) (by decide) (v := (((noteS κ σ (nI (κ 3)) (nI b) (plW σ k b (rIn κ σ b k 0) (rIn κ σ b k 1)))) 8 b)) rfl dX4_reckon_169 ?_
                refine lv_goto (tgt := 174) hx hb dX4_reckon_170 (by decide) ?_
                refine gw_iast hx hb hK hP hS 7 0 (rDf (by decide)) 0 rfl rfl (b) rfl (by omega) (by decide) dX4_reckon_174 ((rEn cI cZ ((noteK κ)) (wr ((noteS κ σ (nI (κ 3)) (nI b) (plW σ k b (rIn κ σ b k 0) (rIn κ σ b k 1)))) 4 b ((((noteS κ σ (nI (κ 3)) (nI b) (plW σ k b (rIn κ σ b k 0) (rIn κ σ b k 1)))) 8 b))) (wr (wr sc 2 2 (nI 0)) 2 2 (nI (plW σ k b (rIn κ σ b k 0) (rIn κ σ b k 1)))) ad)) rUs_7 (fun t9 i9 z9 h9 => rU7 _ t9 i9 h9 z9) (fun H locs hP hS => ?_)
                have e8 : wr ((noteS κ σ (nI (κ 3)) (nI b) (plW σ k b (rIn κ σ b k 0) (rIn κ σ b k 1)))) 4 b ((((noteS κ σ (nI (κ 3)) (nI b) (plW σ k b (rIn κ σ b k 0) (rIn κ σ b k 1)))) 8 b)) = say ((noteS κ σ (nI (κ 3)) (nI b) (plW σ k b (rIn κ σ b k 0) (rIn κ σ b k 1)))) b ((((noteS κ σ (nI (κ 3)) (nI b) (plW σ k b (rIn κ σ b k 0) (rIn κ σ b k 1)))) 3 b)) := say_n c_41
                rw [e8] at hP
                have er := reck_f (κ := κ) (σ := σ) (k := k) (b := b) (rkF_p (by omega) hlk9) (by omega)
                rw [show noteS κ σ (nI (κ 3)) (nI b) (plW σ k b (rIn κ σ b k 0) (rIn κ σ b k 1)) 3 b = σ 3 b from noteS_q (by decide)] at hP
                rw [← er.1, ← er.2] at hP
                exact W.vret hx hb hr (fun t ht hW => ⟨⟨wr (wr sc 2 2 (nI 0)) 2 2 (nI (plW σ k b (rIn κ σ b k 0) (rIn κ σ b k 1))), rfl, (fun f9 j9 h9 => by simp only [wr22 h9]), by rw [← ht] at hP; exact hP⟩, hS.F ht⟩) hS.2.2 dX4_reckon_175
    · have c_22 : ¬ (k = 16) := fun z => c_22 ((nI_eq (a := k) (b := 16) (by omega) (by omega)).mpr z)
      refine lv_aload_n hx hb dX4_reckon_31 rfl (lv_at hl 0 rfl) ?_
      refine lv_aload_n hx hb dX4_reckon_32 rfl (lv_at hl 0 rfl) ?_
      refine gw_get (C := RX4) (T := TX4) (N := 25) hx hb hL4 hown hK hP 0 0 (rDf (by decide)) rfl rfl 6 (by decide) (hts (.fieldLink RX4 22 "BlockProgramsModel" "wires" "[I") (by decide +kernel)) (fun _ h9 => h9) (v := .ref (ad 6 0)) rfl dX4_reckon_33 ?_
      refine lv_iconst (v := 3) hx hb dX4_reckon_36 (by decide) ?_
      refine lv_iload_n hx hb dX4_reckon_37 rfl (lv_at hl 1 rfl) ?_
      refine lv_imul hx hb dX4_reckon_38 ?_
      refine lv_toq (nI (3 * b)) (pk_mul 3 b) ?_
      refine lv_iload_n hx hb dX4_reckon_39 rfl (lv_at hl 2 rfl) ?_
      refine lv_iadd hx hb dX4_reckon_40 ?_
      refine lv_toq (nI (3 * b + i)) (nI_add (3 * b) i) ?_
      refine gw_iald hx hb hK hP 6 0 (rDf (by decide)) 0 rfl rfl (3 * b + i) rfl (by omega) (by decide) (v := (σ 9 (3 * b + i))) rfl dX4_reckon_41 ?_
      refine lv_iconst (v := -1) hx hb dX4_reckon_42 (by decide) ?_
      refine lv_icmp_ne (tgt := 50) hx hb dX4_reckon_43 (by decide) (fun c_42 => ?_) (fun c_42 => ?_)
      · refine lv_aload_n hx hb dX4_reckon_50 rfl (lv_at hl 0 rfl) ?_
        refine gw_get (C := RX4) (T := TX4) (N := 25) hx hb hL4 hown hK hP 0 0 (rDf (by decide)) rfl rfl 24 (by decide) (hts (.fieldLink RX4 93 "BlockProgramsModel" "wrong" "I") (by decide +kernel)) (fun _ h9 => h9) (v := .int (nI ((lkN σ b i)))) (by simp [wr, va_up]) dX4_reckon_51 ?_
        refine gw_put (ty := .int) (C := RX4) (T := TX4) (N := 25) hx hb hL4 tyX4 tyX4_ok nmX4 hown hK hP hS 0 0 (rDf (by decide)) rfl rfl 24 (by decide) (hts (.fieldLink RX4 93 "BlockProgramsModel" "wrong" "I") (by decide +kernel)) (fun _ h9 => h9) rfl (by decide +kernel) rfl rfl (Nat.le_of_ble_eq_true rfl) dX4_reckon_54 (rEn cI cZ κ σ (wr (wr sc 2 2 (nI (lkN σ b i))) 2 2 (nI ((lkN σ b i)))) ad) (rU0s_24 _) (fun t9 i9 z9 h9 => rU0 _ _ t9 i9 h9 z9) (fun H locs hP hS => ?_)
        refine lv_iinc (v := nI (i + 1)) (lv' := [(2, .int (nI (i + 1))), (0, .ref (ad 0 0)), (1, .int (nI b))]) hx hb dX4_reckon_57 hl (k := 2) rfl (nI_add i 1) (by decide) rfl (fun ls hl => ?_)
        refine lv_goto (tgt := 7) hx hb dX4_reckon_60 (by decide) ?_
        have e9 : wr (wr sc 2 2 (nI (lkN σ b i))) 2 2 (nI ((lkN σ b i))) = wr sc 2 2 (nI (lkN σ b (i + 1))) := by rw [wr_wr, lkN_n c_42]
        rw [e9] at hP
        exact ih _ _ _ _ (by omega) ⟨i + 1, rfl, by omega, (fun z => absurd z c_22), hP, hS, lv_sub hl [1, 2, 0] rfl⟩
      · refine lv_iconst (v := 3) hx hb dX4_reckon_46 (by decide) ?_
        refine lv_goto (tgt := 54) hx hb dX4_reckon_47 (by decide) ?_
        refine gw_put (ty := .int) (C := RX4) (T := TX4) (N := 25) hx hb hL4 tyX4 tyX4_ok nmX4 hown hK hP hS 0 0 (rDf (by decide)) rfl rfl 24 (by decide) (hts (.fieldLink RX4 93 "BlockProgramsModel" "wrong" "I") (by decide +kernel)) (fun _ h9 => h9) rfl (by decide +kernel) rfl rfl (Nat.le_of_ble_eq_true rfl) dX4_reckon_54 (rEn cI cZ κ σ (wr (wr sc 2 2 (nI (lkN σ b i))) 2 2 3) ad) (rU0s_24 _) (fun t9 i9 z9 h9 => rU0 _ _ t9 i9 h9 z9) (fun H locs hP hS => ?_)
        refine lv_iinc (v := nI (i + 1)) (lv' := [(2, .int (nI (i + 1))), (0, .ref (ad 0 0)), (1, .int (nI b))]) hx hb dX4_reckon_57 hl (k := 2) rfl (nI_add i 1) (by decide) rfl (fun ls hl => ?_)
        refine lv_goto (tgt := 7) hx hb dX4_reckon_60 (by decide) ?_
        have e9 : wr (wr sc 2 2 (nI (lkN σ b i))) 2 2 3 = wr sc 2 2 (nI (lkN σ b (i + 1))) := by rw [wr_wr, lkN_y c_42]; rfl
        rw [e9] at hP
        exact ih _ _ _ _ (by omega) ⟨i + 1, rfl, by omega, (fun z => absurd z c_22), hP, hS, lv_sub hl [1, 2, 0] rfl⟩

theorem iL_X4_takeDelay_X4 : ∀ w ∈ u_ws RX4 TX4 25, w ∈ wsX4_takeDelay := by decide +kernel
set_option maxHeartbeats 4000000 in
set_option maxRecDepth 100000 in
theorem k_X4_takeDelay {l : Launch} {D : va_G} {cI cZ cB cS : ClassId} {A : Nat → Prop} (κ : Nat → Nat) (σ sc : Nat → Nat → Int32) (ad : Nat → Nat → Nat) (b : Nat) (hb0 : b < κ 0) (hn : κ 0 ≤ 40) (h2 : κ 2 < 2 ^ 31) (hw : okW κ σ b 0) : Met l yX4_takeDelay wsX4_takeDelay ({ frames := 1, cells := 0, slots := 0, locals := 23 } : Room) (gPc D cI cZ cB cS A rDm (rEn cI cZ κ σ sc ad) ad [.ref (ad 0 0), .int (nI b)]) (va_Qv (fun _ : Unit => True) (fun _ t => gw_P D vwCl A rDm (rEn cI cZ ((takeK κ σ b)) ((takeS κ σ b)) sc ad) ad t.heap) A) 0 0 A := by
  refine Met.ofW (cc := cX4_takeDelay) (maxL := 3) (ret := none) (by decide) rfl ?_
  intro p e s m args below meth c s₁ B hml hv
  obtain ⟨rfl, hP, hE, hA⟩ := hv
  have hx := B.exec
  have hb := B.bytes
  have hr := B.returns
  have hts := atoms_spec (ws := wsX4_takeDelay) B.pre
  have hown : s.vm.findClass RX4 = some m.cls := findClass_of_methodNamed B.named
  have hlocks := B.notSynchronized
  have hK := hE.1
  have hS : va_S A s.heap s.heap [] := va_S.rf
  have hL4 := fun w (hw : w ∈ u_ws RX4 TX4 25) => hts w (iL_X4_takeDelay_X4 w hw)
  have hl := lv_entry ([.ref (ad 0 0), .int (nI b)]) (n := 3) (Nat.le_of_ble_eq_true rfl)
  rw [lg_entry_eq]
  generalize (lg_sl ([.ref (ad 0 0), .int (nI b)]) ++ List.replicate (3 - (lg_sl ([.ref (ad 0 0), .int (nI b)])).length) Slot.unset).toArray = ls at hl ⊢
  have hl : lv_has ls 3 [(0, .ref (ad 0 0)), (1, .int (nI b))] := hl
  refine lv_aload_n hx hb dX4_takeDelay_0 rfl (lv_at hl 0 rfl) ?_
  refine gw_get (C := RX4) (T := TX4) (N := 25) hx hb hL4 hown hK hP 0 0 (rDf (by decide)) rfl rfl 6 (by decide) (hts (.fieldLink RX4 22 "BlockProgramsModel" "wires" "[I") (by decide +kernel)) (fun _ h9 => h9) (v := .ref (ad 6 0)) rfl dX4_takeDelay_1 ?_
  refine lv_iconst (v := 3) hx hb dX4_takeDelay_4 (by decide) ?_
  refine lv_iload_n hx hb dX4_takeDelay_5 rfl (lv_at hl 1 rfl) ?_
  refine lv_imul hx hb dX4_takeDelay_6 ?_
  refine lv_toq (nI (3 * b)) (pk_mul 3 b) ?_
  refine gw_iald hx hb hK hP 6 0 (rDf (by decide)) 0 rfl rfl (3 * b) rfl (by omega) (by decide) (v := (σ 9 (3 * b))) rfl dX4_takeDelay_7 ?_
  refine lv_istore_n (lv' := [(2, .int ((σ 9 (3 * b)))), (0, .ref (ad 0 0)), (1, .int (nI b))]) hx hb dX4_takeDelay_8 rfl hl (by decide) rfl (fun ls hl => ?_)
  refine lv_iload_n hx hb dX4_takeDelay_9 rfl (lv_at hl 0 rfl) ?_
  refine lv_iconst (v := -1) hx hb dX4_takeDelay_10 (by decide) ?_
  refine lv_icmp_eq (tgt := 29) hx hb dX4_takeDelay_11 (by decide) (fun c_1 => ?_) (fun c_1 => ?_)
  · refine lv_aload_n hx hb dX4_takeDelay_29 rfl (lv_at hl 1 rfl) ?_
    refine lv_iload_n hx hb dX4_takeDelay_30 rfl (lv_at hl 2 rfl) ?_
    refine lv_iconst (v := 3) hx hb dX4_takeDelay_31 (by decide) ?_
    refine va_callv (va_runV (As := [.int (nI b), .int 3]) (rest := []) ⟨hx, hb, hml, hown, hts⟩ (k_X4_fail (l := l) (D := D) (cI := cI) (cZ := cZ) (cB := cB) (cS := cS) (A := A) κ σ sc ad b 3 hb0 hn h2 (by omega) (by omega)) (cwV 2 hts gX4_takeDelay_X4_fail rfl rfl rfl (by decide +kernel) ⟨Nat.le_of_ble_eq_true rfl, Nat.le_of_ble_eq_true rfl⟩) (gPreV hE hA hS hP (gw_recv hK hP 0 0 (rDf (by decide)) rfl rfl)) rfl rfl hl.1 rfl (lv_room (Nat.le_of_ble_eq_true rfl)) dX4_takeDelay_32 ⟨Nat.le_of_ble_eq_true rfl, Nat.le_of_ble_eq_true rfl⟩) hS (fun q _ h9 => h9) (fun q h9 => h9) (fun u9 t9 H locs ht9 hvm9 hw_2 hB9 hz9 hk9 hS => ?_)
    have hP : gw_P D vwCl A rDm (rEn cI cZ ((noteK κ)) ((noteS κ σ (nI (κ 3)) (nI b) 3)) sc ad) ad H := by rw [← ht9]; exact hB9
    refine lv_aload_n hx hb dX4_takeDelay_35 rfl (lv_at hl 1 rfl) ?_
    refine gw_get (C := RX4) (T := TX4) (N := 25) hx hb hL4 hown hK hP 0 0 (rDf (by decide)) rfl rfl 7 (by decide) (hts (.fieldLink RX4 25 "BlockProgramsModel" "outs" "[I") (by decide +kernel)) (fun _ h9 => h9) (v := .ref (ad 7 0)) rfl dX4_takeDelay_36 ?_
    refine lv_iload_n hx hb dX4_takeDelay_39 rfl (lv_at hl 2 rfl) ?_
    refine lv_aload_n hx hb dX4_takeDelay_40 rfl (lv_at hl 1 rfl) ?_
    refine gw_get (C := RX4) (T := TX4) (N := 25) hx hb hL4 hown hK hP 0 0 (rDf (by decide)) rfl rfl 11 (by decide) (hts (.fieldLink RX4 37 "BlockProgramsModel" "inHand" "[Z") (by decide +kernel)) (fun _ h9 => h9) (v := .ref (ad 11 0)) rfl dX4_takeDelay_41 ?_
    refine lv_iload_n hx hb dX4_takeDelay_44 rfl (lv_at hl 2 rfl) ?_
    refine gw_zald hx hb hK hP 11 0 (rDf (by decide)) 1 rfl rfl (b) rfl (by omega) (by decide) (v := (((noteS κ σ (nI (κ 3)) (nI b) 3)) 7 b)) rfl dX4_takeDelay_45 ?_
    refine lv_if_eq (tgt := 58) hx hb dX4_takeDelay_46 (by decide) (fun c_3 => ?_) (fun c_3 => ?_)
    · refine lv_aload_n hx hb dX4_takeDelay_58 rfl (lv_at hl 1 rfl) ?_
      refine gw_get (C := RX4) (T := TX4) (N := 25) hx hb hL4 hown hK hP 0 0 (rDf (by decide)) rfl rfl 5 (by decide) (hts (.fieldLink RX4 19 "BlockProgramsModel" "safes" "[I") (by decide +kernel)) (fun _ h9 => h9) (v := .ref (ad 5 0)) rfl dX4_takeDelay_59 ?_
      refine lv_iload_n hx hb dX4_takeDelay_62 rfl (lv_at hl 2 rfl) ?_
      refine gw_iald hx hb hK hP 5 0 (rDf (by decide)) 0 rfl rfl (b) rfl (by omega) (by decide) (v := (((noteS κ σ (nI (κ 3)) (nI b) 3)) 3 b)) rfl dX4_takeDelay_63 ?_
      refine gw_iast hx hb hK hP hS 7 0 (rDf (by decide)) 0 rfl rfl (b) rfl (by omega) (by decide) dX4_takeDelay_64 ((rEn cI cZ ((noteK κ)) (wr ((noteS κ σ (nI (κ 3)) (nI b) 3)) 4 b ((((noteS κ σ (nI (κ 3)) (nI b) 3)) 3 b))) sc ad)) rUs_7 (fun t9 i9 z9 h9 => rU7 _ t9 i9 h9 z9) (fun H locs hP hS => ?_)
      have eK : takeK κ σ b = noteK κ := if_pos c_1
      have eS : takeS κ σ b = failS κ σ b 3 := if_pos c_1
      have e8 : wr ((noteS κ σ (nI (κ 3)) (nI b) 3)) 4 b ((((noteS κ σ (nI (κ 3)) (nI b) 3)) 3 b)) = failS κ σ b 3 := by rw [show noteS κ σ (nI (κ 3)) (nI b) 3 3 b = σ 3 b from noteS_q (by decide)]; exact say_y c_3
      rw [e8] at hP
      exact W.vret hx hb hr (fun t ht hW => ⟨⟨(), rfl, trivial, by rw [eK, eS]; rw [← ht] at hP; exact hP⟩, hS.F ht⟩) hS.2.2 dX4_takeDelay_65
    · refine lv_aload_n hx hb dX4_takeDelay_49 rfl (lv_at hl 1 rfl) ?_
      refine gw_get (C := RX4) (T := TX4) (N := 25) hx hb hL4 hown hK hP 0 0 (rDf (by decide)) rfl rfl 12 (by decide) (hts (.fieldLink RX4 41 "BlockProgramsModel" "hands" "[I") (by decide +kernel)) (fun _ h9 => h9) (v := .ref (ad 12 0)) rfl dX4_takeDelay_50 ?_
      refine lv_iload_n hx hb dX4_takeDelay_53 rfl (lv_at hl 2 rfl) ?_
      refine gw_iald hx hb hK hP 12 0 (rDf (by decide)) 0 rfl rfl (b) rfl (by omega) (by decide) (v := (((noteS κ σ (nI (κ 3)) (nI b) 3)) 8 b)) rfl dX4_takeDelay_54 ?_
      refine lv_goto (tgt := 64) hx hb dX4_takeDelay_55 (by decide) ?_
      refine gw_iast hx hb hK hP hS 7 0 (rDf (by decide)) 0 rfl rfl (b) rfl (by omega) (by decide) dX4_takeDelay_64 ((rEn cI cZ ((noteK κ)) (wr ((noteS κ σ (nI (κ 3)) (nI b) 3)) 4 b ((((noteS κ σ (nI (κ 3)) (nI b) 3)) 8 b))) sc ad)) rUs_7 (fun t9 i9 z9 h9 => rU7 _ t9 i9 h9 z9) (fun H locs hP hS => ?_)
      have eK : takeK κ σ b = noteK κ := if_pos c_1
      have eS : takeS κ σ b = failS κ σ b 3 := if_pos c_1
      have e8 : wr ((noteS κ σ (nI (κ 3)) (nI b) 3)) 4 b ((((noteS κ σ (nI (κ 3)) (nI b) 3)) 8 b)) = failS κ σ b 3 := by unfold failS; exact say_n c_3
      rw [e8] at hP
      exact W.vret hx hb hr (fun t ht hW => ⟨⟨(), rfl, trivial, by rw [eK, eS]; rw [← ht] at hP; exact hP⟩, hS.F ht⟩) hS.2.2 dX4_takeDelay_65
  · refine lv_aload_n hx hb dX4_takeDelay_14 rfl (lv_at hl 1 rfl) ?_
    refine gw_get (C := RX4) (T := TX4) (N := 25) hx hb hL4 hown hK hP 0 0 (rDf (by decide)) rfl rfl 8 (by decide) (hts (.fieldLink RX4 28 "BlockProgramsModel" "firsts" "[I") (by decide +kernel)) (fun _ h9 => h9) (v := .ref (ad 8 0)) rfl dX4_takeDelay_15 ?_
    refine lv_iload_n hx hb dX4_takeDelay_18 rfl (lv_at hl 2 rfl) ?_
    refine lv_aload_n hx hb dX4_takeDelay_19 rfl (lv_at hl 1 rfl) ?_
    refine gw_get (C := RX4) (T := TX4) (N := 25) hx hb hL4 hown hK hP 0 0 (rDf (by decide)) rfl rfl 7 (by decide) (hts (.fieldLink RX4 25 "BlockProgramsModel" "outs" "[I") (by decide +kernel)) (fun _ h9 => h9) (v := .ref (ad 7 0)) rfl dX4_takeDelay_20 ?_
    refine lv_iload_n hx hb dX4_takeDelay_23 rfl (lv_at hl 0 rfl) ?_
    obtain ⟨j, hj, ej⟩ := ix_of (n := κ 0) (by omega) (hw.resolve_left c_1).1 (hw.resolve_left c_1).2
    refine lv_toq (nI j) ej ?_
    refine gw_iald hx hb hK hP 7 0 (rDf (by decide)) 0 rfl rfl (j) rfl (by omega) (by decide) (v := (σ 4 j)) rfl dX4_takeDelay_24 ?_
    refine gw_iast hx hb hK hP hS 8 0 (rDf (by decide)) 0 rfl rfl (b) rfl (by omega) (by decide) dX4_takeDelay_25 ((rEn cI cZ κ (wr σ 5 b ((σ 4 j))) sc ad)) rUs_8 (fun t9 i9 z9 h9 => rU8 _ t9 i9 h9 z9) (fun H locs hP hS => ?_)
    refine lv_goto (tgt := 65) hx hb dX4_takeDelay_26 (by decide) ?_
    have eK : takeK κ σ b = κ := if_neg c_1
    have eS : takeS κ σ b = wr σ 5 b ((σ 4 j)) := (if_neg c_1).trans (by show wr σ 5 b (outV (κ 0) σ (σ 9 (3 * b + 0))) = _; rw [show σ 9 (3 * b + 0) = nI j from ej, outV_at hj (by omega)])
    exact W.vret hx hb hr (fun t ht hW => ⟨⟨(), rfl, trivial, by rw [eK, eS]; rw [← ht] at hP; exact hP⟩, hS.F ht⟩) hS.2.2 dX4_takeDelay_65

