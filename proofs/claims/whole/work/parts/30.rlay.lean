theorem iL_X4_lay_X4 : ∀ w ∈ u_ws RX4 TX4 25, w ∈ wsX4_lay := by decide +kernel
set_option maxHeartbeats 4000000 in
set_option maxRecDepth 100000 in
theorem k_X4_lay {l : Launch} {D : va_G} {cI cZ cB cS : ClassId} {A : Nat → Prop} (κ : Nat → Nat) (σ sc : Nat → Nat → Int32) (ad : Nat → Nat → Nat) (hn : κ 0 ≤ 40) (hk : kok (κ 0) σ) (hwv : ∀ b, b < κ 0 → ∀ i, i < 3 → okW κ σ b i) : Met l yX4_lay wsX4_lay ({ frames := 3, cells := 0, slots := 0, locals := 66 } : Room) (gPc D cI cZ cB cS A rDm (rEn cI cZ κ σ sc ad) ad [.ref (ad 0 0)]) (va_Qv (fun u : Nat → Nat → Int32 => u 2 0 = sc 2 0 ∧ u 2 1 = nI (comeF (κ 0) σ) ∧ ∀ j, j < κ 0 → u 0 j = nI (lineF (κ 0) σ j)) (fun u t => gw_P D vwCl A rDm (rEn cI cZ κ σ u ad) ad t.heap) A) 0 0 A := by
  refine Met.ofW (cc := cX4_lay) (maxL := 4) (ret := none) (by decide) rfl ?_
  intro p e s m args below meth c s₁ B hml hv
  obtain ⟨rfl, hP, hE, hA⟩ := hv
  have hx := B.exec
  have hb := B.bytes
  have hr := B.returns
  have hts := atoms_spec (ws := wsX4_lay) B.pre
  have hown : s.vm.findClass RX4 = some m.cls := findClass_of_methodNamed B.named
  have hlocks := B.notSynchronized
  have hK := hE.1
  have hS : va_S A s.heap s.heap [] := va_S.rf
  have hL4 := fun w (hw : w ∈ u_ws RX4 TX4 25) => hts w (iL_X4_lay_X4 w hw)
  have hl := lv_entry ([.ref (ad 0 0)]) (n := 4) (Nat.le_of_ble_eq_true rfl)
  rw [lg_entry_eq]
  generalize (lg_sl ([.ref (ad 0 0)]) ++ List.replicate (4 - (lg_sl ([.ref (ad 0 0)])).length) Slot.unset).toArray = ls at hl ⊢
  have hl : lv_has ls 4 [(0, .ref (ad 0 0))] := hl
  refine lv_aload_n hx hb dX4_lay_0 rfl (lv_at hl 0 rfl) ?_
  refine lv_iconst (v := 0) hx hb dX4_lay_1 (by decide) ?_
  refine gw_put (ty := .int) (C := RX4) (T := TX4) (N := 25) hx hb hL4 tyX4 tyX4_ok nmX4 hown hK hP hS 0 0 (rDf (by decide)) rfl rfl 16 (by decide) (hts (.fieldLink RX4 84 "BlockProgramsModel" "come" "I") (by decide +kernel)) (fun _ h9 => h9) rfl (by decide +kernel) rfl rfl (Nat.le_of_ble_eq_true rfl) dX4_lay_2 (rEn cI cZ κ σ (wr sc 2 1 0) ad) (rU0s_16 _) (fun t9 i9 z9 h9 => rU0 _ _ t9 i9 h9 z9) (fun H locs hP hS => ?_)
  refine lv_iconst (v := 0) hx hb dX4_lay_5 (by decide) ?_
  refine lv_istore_n (lv' := [(1, .int 0), (0, .ref (ad 0 0))]) hx hb dX4_lay_6 rfl hl (by decide) rfl (fun ls hl => ?_)
  refine lv_loop (fun kk H locs ls => ∃ i : Nat, ∃ sc1 : Nat → Nat → Int32, kk = (κ 0) - i ∧ i ≤ κ 0 ∧ (∀ j : Nat, j < i → sc1 1 j = 0) ∧ (sc1 2 1 = 0) ∧ (sc1 2 0 = sc 2 0) ∧ gw_P D vwCl A rDm (rEn cI cZ κ σ sc1 ad) ad H ∧ va_S A s.heap H locs ∧ lv_has ls 4 [(0, .ref (ad 0 0)), (1, .int (nI i))]) (fun kk H locs ls hI ih => ?_) ((κ 0) - 0) ⟨0, (wr sc 2 1 0), rfl, by omega, fun j hj => absurd hj (Nat.not_lt_zero j), wr_s, wr_i (by decide), hP, hS, lv_sub hl [1, 0] rfl⟩
  obtain ⟨i, sc1, hk_7, hi_7, h0, h21, h20, hP, hS, hl⟩ := hI
  refine lv_iload_n hx hb dX4_lay_7 rfl (lv_at hl 1 rfl) ?_
  refine lv_aload_n hx hb dX4_lay_8 rfl (lv_at hl 0 rfl) ?_
  refine gw_get (C := RX4) (T := TX4) (N := 25) hx hb hL4 hown hK hP 0 0 (rDf (by decide)) rfl rfl 1 (by decide) (hts (.fieldLink RX4 69 "BlockProgramsModel" "blocks" "I") (by decide +kernel)) (fun _ h9 => h9) (v := .int (nI (κ 0))) rfl dX4_lay_9 ?_
  refine lv_icmp_ge (tgt := 28) hx hb dX4_lay_12 (by decide) (fun c_1 => ?_) (fun c_1 => ?_)
  · have c_1 : κ 0 ≤ i := (nI_leI (a := κ 0) (b := i) (by omega) (by omega)).mp c_1
    refine lv_iconst (v := 1) hx hb dX4_lay_28 (by decide) ?_
    refine lv_istore_n (lv' := [(1, .int 1), (0, .ref (ad 0 0))]) hx hb dX4_lay_29 rfl hl (by decide) rfl (fun ls hl => ?_)
    refine lv_loop (fun kk H locs ls => ∃ c : Nat, ∃ m9 : Int32, ∃ sc2 : Nat → Nat → Int32, ((m9 = 1 ∧ kk = κ 0 - c + 1) ∨ (m9 = 0 ∧ kk = 0 ∧ ¬ lst (cand (κ 0) σ (layS (κ 0) σ c).1) (κ 0) < κ 0)) ∧ c ≤ κ 0 ∧ (layS (κ 0) σ c).2.2 = c ∧ sc2 2 0 = sc 2 0 ∧ sc2 2 1 = nI c ∧ (∀ j : Nat, j < κ 0 → sc2 1 j = bI ((layS (κ 0) σ c).1 j)) ∧ (∀ j : Nat, j < c → sc2 0 j = nI ((layS (κ 0) σ c).2.1 j)) ∧ gw_P D vwCl A rDm (rEn cI cZ κ σ sc2 ad) ad H ∧ va_S A s.heap H locs ∧ lv_has ls 4 [(0, .ref (ad 0 0)), (1, .int m9)]) (fun kk H locs ls hI ih => ?_) (κ 0 - 0 + 1) ⟨0, 1, sc1, Or.inl ⟨rfl, rfl⟩, Nat.zero_le _, rfl, h20, h21, fun j hj => h0 j (by omega), fun j hj => absurd hj (Nat.not_lt_zero j), hP, hS, lv_sub hl [1, 0] rfl⟩
    obtain ⟨c, m9, sc2, hm9, hcn, hc, hc0, hcm, hpl2, hln2, hP, hS, hl⟩ := hI
    refine lv_iload_n hx hb dX4_lay_30 rfl (lv_at hl 1 rfl) ?_
    refine lv_if_eq (tgt := 112) hx hb dX4_lay_31 (by decide) (fun c_2 => ?_) (fun c_2 => ?_)
    · have hst9 : ¬ lst (cand (κ 0) σ (layS (κ 0) σ c).1) (κ 0) < κ 0 := (hm9.resolve_left (fun z => absurd (z.1.symm.trans c_2) (by decide))).2.2
      refine lv_aload_n hx hb dX4_lay_112 rfl (lv_at hl 0 rfl) ?_
      refine gw_get (C := RX4) (T := TX4) (N := 25) hx hb hL4 hown hK hP 0 0 (rDf (by decide)) rfl rfl 16 (by decide) (hts (.fieldLink RX4 84 "BlockProgramsModel" "come" "I") (by decide +kernel)) (fun _ h9 => h9) (v := .int (nI c)) (congrArg (fun z : Int32 => some (Value.int z)) hcm) dX4_lay_113 ?_
      refine lv_istore_n (lv' := [(2, .int (nI c)), (0, .ref (ad 0 0)), (1, .int m9)]) hx hb dX4_lay_116 rfl hl (by decide) rfl (fun ls hl => ?_)
      refine lv_iconst (v := 0) hx hb dX4_lay_117 (by decide) ?_
      refine lv_istore_n (lv' := [(3, .int 0), (2, .int (nI c)), (0, .ref (ad 0 0)), (1, .int m9)]) hx hb dX4_lay_118 rfl hl (by decide) rfl (fun ls hl => ?_)
      have eL : (layS (κ 0) σ (κ 0)) = (layS (κ 0) σ c) := by
        have z := lay_stuck (n := κ 0) (σ := σ) (c := c) hst9 (κ 0 - c)
        rwa [show c + (κ 0 - c) = κ 0 by omega] at z
      have ec : (restS (κ 0) σ 0).2 = c := by show (layS (κ 0) σ (κ 0)).2.2 = c; rw [eL]; exact hc
      have hplc : ∀ j : Nat, j < κ 0 → sc2 1 j = bI (plF (κ 0) σ j) := by unfold plF; rw [eL]; exact hpl2
      have hlnc : ∀ j : Nat, j < (restS (κ 0) σ 0).2 → sc2 0 j = nI ((restS (κ 0) σ 0).1 j) := by rw [ec]; show ∀ j : Nat, j < c → sc2 0 j = nI ((layS (κ 0) σ (κ 0)).2.1 j); rw [eL]; exact hln2
      have hcome : sc2 2 1 = nI (comeF (κ 0) σ) := by rw [hcm]; show nI c = nI (layS (κ 0) σ (κ 0)).2.2; rw [eL, hc]
      rw [← ec] at hl
      refine lv_loop (fun kk H locs ls => ∃ i : Nat, ∃ sc3 : Nat → Nat → Int32, kk = (κ 0) - i ∧ i ≤ κ 0 ∧ (∀ j : Nat, j < κ 0 → sc3 1 j = bI (plF (κ 0) σ j)) ∧ (∀ j : Nat, j < (restS (κ 0) σ i).2 → sc3 0 j = nI ((restS (κ 0) σ i).1 j)) ∧ (sc3 2 0 = sc 2 0) ∧ (sc3 2 1 = nI (comeF (κ 0) σ)) ∧ gw_P D vwCl A rDm (rEn cI cZ κ σ sc3 ad) ad H ∧ va_S A s.heap H locs ∧ lv_has ls 4 [(0, .ref (ad 0 0)), (2, .int (nI ((restS (κ 0) σ i).2))), (3, .int (nI i))]) (fun kk H locs ls hI ih => ?_) ((κ 0) - 0) ⟨0, sc2, rfl, by omega, hplc, hlnc, hc0, hcome, hP, hS, lv_sub hl [2, 1, 0] rfl⟩
      obtain ⟨i, sc3, hk_119, hi_119, hplC, hlnC, h23, hcm3, hP, hS, hl⟩ := hI
      refine lv_iload_n hx hb dX4_lay_119 rfl (lv_at hl 2 rfl) ?_
      refine lv_aload_n hx hb dX4_lay_120 rfl (lv_at hl 0 rfl) ?_
      refine gw_get (C := RX4) (T := TX4) (N := 25) hx hb hL4 hown hK hP 0 0 (rDf (by decide)) rfl rfl 1 (by decide) (hts (.fieldLink RX4 69 "BlockProgramsModel" "blocks" "I") (by decide +kernel)) (fun _ h9 => h9) (v := .int (nI (κ 0))) rfl dX4_lay_121 ?_
      refine lv_icmp_ge (tgt := 152) hx hb dX4_lay_124 (by decide) (fun c_3 => ?_) (fun c_3 => ?_)
      · have c_3 : κ 0 ≤ i := (nI_leI (a := κ 0) (b := i) (by omega) (by omega)).mp c_3
        have ei : i = κ 0 := by omega
        have eR : (restS (κ 0) σ (κ 0)) = (restS (κ 0) σ i) := by rw [ei]
        have hF : ∀ j : Nat, j < κ 0 → sc3 0 j = nI (lineF (κ 0) σ j) := fun j hj => by show _ = nI ((restS (κ 0) σ (κ 0)).1 j); rw [eR]; exact hlnC j (by rw [← eR, rest_end]; exact hj)
        exact W.vret hx hb hr (fun t ht hW => ⟨⟨sc3, rfl, ⟨h23, hcm3, hF⟩, by rw [← ht] at hP; exact hP⟩, hS.F ht⟩) hS.2.2 dX4_lay_152
      · have c_3 : ¬ (κ 0 ≤ i) := fun z => c_3 ((nI_leI (a := κ 0) (b := i) (by omega) (by omega)).mpr z)
        refine lv_aload_n hx hb dX4_lay_127 rfl (lv_at hl 0 rfl) ?_
        refine gw_get (C := RX4) (T := TX4) (N := 25) hx hb hL4 hown hK hP 0 0 (rDf (by decide)) rfl rfl 17 (by decide) (hts (.fieldLink RX4 50 "BlockProgramsModel" "isIn" "[Z") (by decide +kernel)) (fun _ h9 => h9) (v := .ref (ad 17 0)) rfl dX4_lay_128 ?_
        refine lv_iload_n hx hb dX4_lay_131 rfl (lv_at hl 2 rfl) ?_
        refine gw_zald hx hb hK hP 17 0 (rDf (by decide)) 1 rfl rfl (i) rfl (by omega) (by decide) (v := (bI (plF (κ 0) σ i))) (hplC i (by omega)) dX4_lay_132 ?_
        refine lv_if_ne (tgt := 146) hx hb dX4_lay_133 (by decide) (fun c_4 => ?_) (fun c_4 => ?_)
        · refine lv_iinc (v := nI (i + 1)) (lv' := [(3, .int (nI (i + 1))), (0, .ref (ad 0 0)), (2, .int (nI ((restS (κ 0) σ i).2)))]) hx hb dX4_lay_146 hl (k := 2) rfl (nI_add i 1) (by decide) rfl (fun ls hl => ?_)
          refine lv_goto (tgt := 119) hx hb dX4_lay_149 (by decide) ?_
          have eR := rest_y (bI_1 c_4)
          have hlnN : ∀ j : Nat, j < (restS (κ 0) σ (i + 1)).2 → sc3 0 j = nI ((restS (κ 0) σ (i + 1)).1 j) := by rw [eR]; exact hlnC
          rw [← eR] at hl
          exact ih _ _ _ _ (by omega) ⟨i + 1, sc3, rfl, by omega, hplC, hlnN, h23, hcm3, hP, hS, lv_sub hl [1, 2, 0] rfl⟩
        · have hlt9 := rest_lt (n := κ 0) (σ := σ) (i := i) (by omega) (bI_0 c_4)
          refine lv_aload_n hx hb dX4_lay_136 rfl (lv_at hl 0 rfl) ?_
          refine gw_get (C := RX4) (T := TX4) (N := 25) hx hb hL4 hown hK hP 0 0 (rDf (by decide)) rfl rfl 15 (by decide) (hts (.fieldLink RX4 47 "BlockProgramsModel" "order" "[I") (by decide +kernel)) (fun _ h9 => h9) (v := .ref (ad 15 0)) rfl dX4_lay_137 ?_
          refine lv_iload_n hx hb dX4_lay_140 rfl (lv_at hl 1 rfl) ?_
          refine lv_iload_n hx hb dX4_lay_141 rfl (lv_at hl 2 rfl) ?_
          refine gw_iast hx hb hK hP hS 15 0 (rDf (by decide)) 0 rfl rfl ((restS (κ 0) σ i).2) rfl (by omega) (by decide) dX4_lay_142 ((rEn cI cZ κ σ (wr sc3 0 ((restS (κ 0) σ i).2) (nI i)) ad)) rUs_15 (fun t9 i9 z9 h9 => rU15 _ t9 i9 h9 z9) (fun H locs hP hS => ?_)
          refine lv_iinc (v := nI ((restS (κ 0) σ i).2 + 1)) (lv' := [(2, .int (nI ((restS (κ 0) σ i).2 + 1))), (0, .ref (ad 0 0)), (3, .int (nI i))]) hx hb dX4_lay_143 hl (k := 1) rfl (nI_add ((restS (κ 0) σ i).2) 1) (by decide) rfl (fun ls hl => ?_)
          refine lv_iinc (v := nI (i + 1)) (lv' := [(3, .int (nI (i + 1))), (2, .int (nI ((restS (κ 0) σ i).2 + 1))), (0, .ref (ad 0 0))]) hx hb dX4_lay_146 hl (k := 2) rfl (nI_add i 1) (by decide) rfl (fun ls hl => ?_)
          refine lv_goto (tgt := 119) hx hb dX4_lay_149 (by decide) ?_
          have eR := rest_n (bI_0 c_4)
          have eR2 : (restS (κ 0) σ (i + 1)).2 = (restS (κ 0) σ i).2 + 1 := by rw [eR]
          have hlnN : ∀ j : Nat, j < (restS (κ 0) σ (i + 1)).2 → (wr sc3 0 ((restS (κ 0) σ i).2) (nI i)) 0 j = nI ((restS (κ 0) σ (i + 1)).1 j) := by
            intro j hj
            rw [eR2] at hj
            rw [eR]
            show _ = nI (if j = (restS (κ 0) σ i).2 then i else _)
            by_cases e : j = (restS (κ 0) σ i).2
            · rw [if_pos e, e, wr_s]
            · rw [if_neg e, wr_i e]; exact hlnC j (by omega)
          rw [← eR2] at hl
          exact ih _ _ _ _ (by omega) ⟨i + 1, (wr sc3 0 ((restS (κ 0) σ i).2) (nI i)), rfl, by omega, (fun j hj => (wr_f (by decide)).trans (hplC j hj)), hlnN, ((wr_f (by decide)).trans h23), ((wr_f (by decide)).trans hcm3), hP, hS, lv_sub hl [2, 1, 0] rfl⟩
    · refine lv_iconst (v := -1) hx hb dX4_lay_34 (by decide) ?_
      refine lv_istore_n (lv' := [(2, .int ((-1))), (0, .ref (ad 0 0)), (1, .int m9)]) hx hb dX4_lay_35 rfl hl (by decide) rfl (fun ls hl => ?_)
      refine lv_aload_n hx hb dX4_lay_36 rfl (lv_at hl 1 rfl) ?_
      refine gw_get (C := RX4) (T := TX4) (N := 25) hx hb hL4 hown hK hP 0 0 (rDf (by decide)) rfl rfl 1 (by decide) (hts (.fieldLink RX4 69 "BlockProgramsModel" "blocks" "I") (by decide +kernel)) (fun _ h9 => h9) (v := .int (nI (κ 0))) rfl dX4_lay_37 ?_
      refine lv_iconst (v := 1) hx hb dX4_lay_40 (by decide) ?_
      refine lv_isub hx hb dX4_lay_41 ?_
      refine lv_istore_n (lv' := [(3, .int ((nI (κ 0) - 1))), (2, .int ((-1))), (0, .ref (ad 0 0)), (1, .int m9)]) hx hb dX4_lay_42 rfl hl (by decide) rfl (fun ls hl => ?_)
      have hm1 : m9 = 1 ∧ kk = κ 0 - c + 1 := hm9.resolve_right (fun z => c_2 z.1)
      have hl : lv_has ls 4 [(3, .int ((nI (κ 0) - 1))), (2, .int ((if κ 0 < κ 0 then nI (κ 0) else -1))), (0, .ref (ad 0 0)), (1, .int m9)] := by rw [if_neg (Nat.lt_irrefl _)]; exact hl
      refine lv_loop (fun kk H locs ls => ∃ i : Nat, ∃ d : Nat, kk = i ∧ i ≤ κ 0 ∧ dsS (cand (κ 0) σ (layS (κ 0) σ c).1) (κ 0) i d ∧ gw_P D vwCl A rDm (rEn cI cZ κ σ sc2 ad) ad H ∧ va_S A s.heap H locs ∧ lv_has ls 4 [(0, .ref (ad 0 0)), (1, .int m9), (2, .int (if d < κ 0 then nI d else -1)), (3, .int (nI i - 1))]) (fun kI H locs ls hI ihI => ?_) (κ 0) ⟨κ 0, κ 0, rfl, Nat.le_refl _, ds_n, hP, hS, lv_sub hl [2, 3, 1, 0] rfl⟩
      obtain ⟨i, d, hk_i, hi_i, hds, hP, hS, hl⟩ := hI
      refine lv_iload_n hx hb dX4_lay_43 rfl (lv_at hl 3 rfl) ?_
      refine lv_if_lt (tgt := 67) hx hb dX4_lay_44 (by decide) (fun c_5 => ?_) (fun c_5 => ?_)
      · have ei : i = 0 := (dec_lt (by omega)).mp c_5
        rw [ei] at hds
        have ed : d = lst (cand (κ 0) σ (layS (κ 0) σ c).1) (κ 0) := ds_end hds
        by_cases hd : d < κ 0
        · rw [if_pos hd] at hl
          have hcl : c < κ 0 := Nat.lt_of_le_of_ne hcn (fun z => lay_full (hc.trans z) (by rw [← ed]; exact hd))
          refine lv_iload_n hx hb dX4_lay_67 rfl (lv_at hl 2 rfl) ?_
          refine lv_iconst (v := -1) hx hb dX4_lay_68 (by decide) ?_
          refine lv_icmp_eq (tgt := 76) hx hb dX4_lay_69 (by decide) (fun c_6 => ?_) (fun c_6 => ?_)
          · exact absurd c_6 (nI_nm1 (by omega))
          · refine lv_iconst (v := 1) hx hb dX4_lay_72 (by decide) ?_
            refine lv_goto (tgt := 77) hx hb dX4_lay_73 (by decide) ?_
            refine lv_istore_n (lv' := [(1, .int 1), (0, .ref (ad 0 0)), (2, .int (nI d)), (3, .int ((nI i - 1)))]) hx hb dX4_lay_77 rfl hl (by decide) rfl (fun ls hl => ?_)
            refine lv_iload_n hx hb dX4_lay_78 rfl (lv_at hl 0 rfl) ?_
            refine lv_if_eq (tgt := 109) hx hb dX4_lay_79 (by decide) (fun c_7 => ?_) (fun c_7 => ?_)
            · have c_7 : 1 = 0 := (nI_eq (a := 1) (b := 0) (by omega) (by omega)).mp c_7
              exfalso; omega
            · have c_7 : ¬ (1 = 0) := fun z => c_7 ((nI_eq (a := 1) (b := 0) (by omega) (by omega)).mpr z)
              refine lv_aload_n hx hb dX4_lay_82 rfl (lv_at hl 1 rfl) ?_
              refine gw_get (C := RX4) (T := TX4) (N := 25) hx hb hL4 hown hK hP 0 0 (rDf (by decide)) rfl rfl 15 (by decide) (hts (.fieldLink RX4 47 "BlockProgramsModel" "order" "[I") (by decide +kernel)) (fun _ h9 => h9) (v := .ref (ad 15 0)) rfl dX4_lay_83 ?_
              refine lv_aload_n hx hb dX4_lay_86 rfl (lv_at hl 1 rfl) ?_
              refine gw_get (C := RX4) (T := TX4) (N := 25) hx hb hL4 hown hK hP 0 0 (rDf (by decide)) rfl rfl 16 (by decide) (hts (.fieldLink RX4 84 "BlockProgramsModel" "come" "I") (by decide +kernel)) (fun _ h9 => h9) (v := .int (nI c)) (congrArg (fun z : Int32 => some (Value.int z)) hcm) dX4_lay_87 ?_
              refine lv_iload_n hx hb dX4_lay_90 rfl (lv_at hl 2 rfl) ?_
              refine gw_iast hx hb hK hP hS 15 0 (rDf (by decide)) 0 rfl rfl (c) rfl (by omega) (by decide) dX4_lay_91 ((rEn cI cZ κ σ (wr sc2 0 c (nI d)) ad)) rUs_15 (fun t9 i9 z9 h9 => rU15 _ t9 i9 h9 z9) (fun H locs hP hS => ?_)
              refine lv_aload_n hx hb dX4_lay_92 rfl (lv_at hl 1 rfl) ?_
              refine gw_get (C := RX4) (T := TX4) (N := 25) hx hb hL4 hown hK hP 0 0 (rDf (by decide)) rfl rfl 17 (by decide) (hts (.fieldLink RX4 50 "BlockProgramsModel" "isIn" "[Z") (by decide +kernel)) (fun _ h9 => h9) (v := .ref (ad 17 0)) rfl dX4_lay_93 ?_
              refine lv_iload_n hx hb dX4_lay_96 rfl (lv_at hl 2 rfl) ?_
              refine lv_iconst (v := 1) hx hb dX4_lay_97 (by decide) ?_
              refine gw_zast hx hb hK hP hS 17 0 (rDf (by decide)) 1 rfl rfl (d) rfl (by omega) (by decide) rfl dX4_lay_98 ((rEn cI cZ κ σ (wr (wr sc2 0 c (nI d)) 1 d 1) ad)) rUs_17 (fun t9 i9 z9 h9 => rU17 _ t9 i9 h9 z9) (fun H locs hP hS => ?_)
              refine lv_aload_n hx hb dX4_lay_99 rfl (lv_at hl 1 rfl) ?_
              refine lv_dup hx hb dX4_lay_100 rfl ?_
              refine gw_get (C := RX4) (T := TX4) (N := 25) hx hb hL4 hown hK hP 0 0 (rDf (by decide)) rfl rfl 16 (by decide) (hts (.fieldLink RX4 84 "BlockProgramsModel" "come" "I") (by decide +kernel)) (fun _ h9 => h9) (v := .int (nI c)) (by simp [wr, hcm]) dX4_lay_101 ?_
              refine lv_iconst (v := 1) hx hb dX4_lay_104 (by decide) ?_
              refine lv_iadd hx hb dX4_lay_105 ?_
              refine lv_toq (nI (c + 1)) (nI_add c 1) ?_
              refine gw_put (ty := .int) (C := RX4) (T := TX4) (N := 25) hx hb hL4 tyX4 tyX4_ok nmX4 hown hK hP hS 0 0 (rDf (by decide)) rfl rfl 16 (by decide) (hts (.fieldLink RX4 84 "BlockProgramsModel" "come" "I") (by decide +kernel)) (fun _ h9 => h9) rfl (by decide +kernel) rfl rfl (Nat.le_of_ble_eq_true rfl) dX4_lay_106 (rEn cI cZ κ σ (wr (wr (wr sc2 0 c (nI d)) 1 d 1) 2 1 (nI (c + 1))) ad) (rU0s_16 _) (fun t9 i9 z9 h9 => rU0 _ _ t9 i9 h9 z9) (fun H locs hP hS => ?_)
              refine lv_goto (tgt := 30) hx hb dX4_lay_109 (by decide) ?_
              have hd2 : lst (cand (κ 0) σ (layS (κ 0) σ c).1) (κ 0) < κ 0 := by rw [← ed]; exact hd
              have hgo := lay_go hc hd2
              rw [← ed] at hgo
              have hc3 : (layS (κ 0) σ (c + 1)).2.2 = c + 1 := by rw [hgo]
              have hpl3 : ∀ j : Nat, j < κ 0 → (wr (wr (wr sc2 0 c (nI d)) 1 d 1) 2 1 (nI (c + 1))) 1 j = bI ((layS (κ 0) σ (c + 1)).1 j) := by
                intro j hj
                rw [hgo, wr_f (by decide)]
                show wr _ 1 d 1 1 j = bI (if j = d then true else _)
                by_cases e : j = d
                · rw [if_pos e, e, wr_s]; rfl
                · rw [if_neg e, wr_i e, wr_f (by decide)]; exact hpl2 j hj
              have hln3 : ∀ j : Nat, j < c + 1 → (wr (wr (wr sc2 0 c (nI d)) 1 d 1) 2 1 (nI (c + 1))) 0 j = nI ((layS (κ 0) σ (c + 1)).2.1 j) := by
                intro j hj
                rw [hgo, wr_f (by decide), wr_f (by decide)]
                show _ = nI (if j = c then d else _)
                by_cases e : j = c
                · rw [if_pos e, e, wr_s]
                · rw [if_neg e, wr_i e]; exact hln2 j (by omega)
              have h203 : (wr (wr (wr sc2 0 c (nI d)) 1 d 1) 2 1 (nI (c + 1))) 2 0 = sc 2 0 := by simp [wr, hc0]
              exact ih _ _ _ _ (by omega) ⟨c + 1, 1, (wr (wr (wr sc2 0 c (nI d)) 1 d 1) 2 1 (nI (c + 1))), Or.inl ⟨rfl, rfl⟩, by omega, hc3, h203, wr_s, hpl3, hln3, hP, hS, lv_sub hl [1, 0] rfl⟩
        · rw [if_neg hd] at hl
          refine lv_iload_n hx hb dX4_lay_67 rfl (lv_at hl 2 rfl) ?_
          refine lv_iconst (v := -1) hx hb dX4_lay_68 (by decide) ?_
          refine lv_icmp_eq (tgt := 76) hx hb dX4_lay_69 (by decide) (fun c_8 => ?_) (fun c_8 => ?_)
          · refine lv_iconst (v := 0) hx hb dX4_lay_76 (by decide) ?_
            refine lv_istore_n (lv' := [(1, .int 0), (0, .ref (ad 0 0)), (2, .int ((-1))), (3, .int ((nI i - 1)))]) hx hb dX4_lay_77 rfl hl (by decide) rfl (fun ls hl => ?_)
            refine lv_iload_n hx hb dX4_lay_78 rfl (lv_at hl 0 rfl) ?_
            refine lv_if_eq (tgt := 109) hx hb dX4_lay_79 (by decide) (fun c_9 => ?_) (fun c_9 => ?_)
            · have c_9 : 0 = 0 := (nI_eq (a := 0) (b := 0) (by omega) (by omega)).mp c_9
              refine lv_goto (tgt := 30) hx hb dX4_lay_109 (by decide) ?_
              exact ih _ _ _ _ (by omega) ⟨c, 0, sc2, Or.inr ⟨rfl, rfl, by rw [← ed]; exact hd⟩, hcn, hc, hc0, hcm, hpl2, hln2, hP, hS, lv_sub hl [1, 0] rfl⟩
            · have c_9 : ¬ (0 = 0) := fun z => c_9 ((nI_eq (a := 0) (b := 0) (by omega) (by omega)).mpr z)
              exfalso; omega
          · exact absurd rfl c_8
      · have hi0 : ¬ i = 0 := fun z => c_5 ((dec_lt (by omega)).mpr z)
        obtain ⟨i2, rfl⟩ : ∃ i2, i = i2 + 1 := ⟨i - 1, by omega⟩
        have e3 : nI (i2 + 1) - 1 = nI i2 := (pk_sub (a := i2 + 1) (b := 1) (by omega)).trans (by rw [Nat.add_sub_cancel])
        rw [e3] at hl
        refine lv_aload_n hx hb dX4_lay_47 rfl (lv_at hl 0 rfl) ?_
        refine lv_iload_n hx hb dX4_lay_48 rfl (lv_at hl 3 rfl) ?_
        obtain ⟨k, hk26, ek⟩ := hk i2 (by omega)
        refine va_calli (va_runV (As := [.int (nI i2)]) (rest := []) ⟨hx, hb, hml, hown, hts⟩ (k_X4_mayCome (l := l) (D := D) (cI := cI) (cZ := cZ) (cB := cB) (cS := cS) (A := A) κ σ sc2 ad i2 k (by omega) hn hk26 ek (hwv i2 (by omega)) (layS (κ 0) σ c).1 hpl2) (cwV 1 hts gX4_lay_X4_mayCome rfl rfl rfl (by decide +kernel) ⟨Nat.le_of_ble_eq_true rfl, Nat.le_of_ble_eq_true rfl⟩) (gPreV hE hA hS hP (gw_recv hK hP 0 0 (rDf (by decide)) rfl rfl)) rfl rfl hl.1 rfl (lv_room (Nat.le_of_ble_eq_true rfl)) dX4_lay_49 ⟨Nat.le_of_ble_eq_true rfl, Nat.le_of_ble_eq_true rfl⟩) hS (fun q _ h9 => h9) (fun q h9 => h9) (fun r_10 u9 t9 H locs ht9 hvm9 hw_r_10 hB9 hz9 hk9 hS => ?_)
        have hP : gw_P D vwCl A rDm (rEn cI cZ κ σ sc2 ad) ad H := by rw [← ht9]; exact hB9
        refine lv_toq ((bI (cand (κ 0) σ (layS (κ 0) σ c).1 i2))) hw_r_10 ?_
        refine lv_if_eq (tgt := 59) hx hb dX4_lay_52 (by decide) (fun c_11 => ?_) (fun c_11 => ?_)
        · refine lv_iload_n hx hb dX4_lay_59 rfl (lv_at hl 2 rfl) ?_
          refine lv_istore_n (lv' := [(2, .int ((if d < κ 0 then nI d else -1))), (0, .ref (ad 0 0)), (1, .int m9), (3, .int (nI i2))]) hx hb dX4_lay_60 rfl hl (by decide) rfl (fun ls hl => ?_)
          refine lv_iinc (v := (nI i2 - 1)) (lv' := [(3, .int ((nI i2 - 1))), (2, .int ((if d < κ 0 then nI d else -1))), (0, .ref (ad 0 0)), (1, .int m9)]) hx hb dX4_lay_61 hl (k := 3) rfl (dec_eq _) (by decide) rfl (fun ls hl => ?_)
          refine lv_goto (tgt := 43) hx hb dX4_lay_64 (by decide) ?_
          exact ihI _ _ _ _ (by omega) ⟨i2, d, rfl, by omega, ds_o hds (bI_0 c_11), hP, hS, lv_sub hl [2, 3, 1, 0] rfl⟩
        · refine lv_iload_n hx hb dX4_lay_55 rfl (lv_at hl 3 rfl) ?_
          refine lv_goto (tgt := 60) hx hb dX4_lay_56 (by decide) ?_
          refine lv_istore_n (lv' := [(2, .int (nI i2)), (0, .ref (ad 0 0)), (1, .int m9), (3, .int (nI i2))]) hx hb dX4_lay_60 rfl hl (by decide) rfl (fun ls hl => ?_)
          refine lv_iinc (v := (nI i2 - 1)) (lv' := [(3, .int ((nI i2 - 1))), (2, .int (nI i2)), (0, .ref (ad 0 0)), (1, .int m9)]) hx hb dX4_lay_61 hl (k := 3) rfl (dec_eq _) (by decide) rfl (fun ls hl => ?_)
          refine lv_goto (tgt := 43) hx hb dX4_lay_64 (by decide) ?_
          have hl : lv_has ls 4 [(3, .int ((nI i2 - 1))), (2, .int ((if i2 < κ 0 then nI i2 else -1))), (0, .ref (ad 0 0)), (1, .int m9)] := by rw [if_pos (show i2 < κ 0 by omega)]; exact hl
          exact ihI _ _ _ _ (by omega) ⟨i2, i2, rfl, by omega, ds_y hds (bI_1 c_11), hP, hS, lv_sub hl [2, 3, 1, 0] rfl⟩
  · have c_1 : ¬ (κ 0 ≤ i) := fun z => c_1 ((nI_leI (a := κ 0) (b := i) (by omega) (by omega)).mpr z)
    refine lv_aload_n hx hb dX4_lay_15 rfl (lv_at hl 0 rfl) ?_
    refine gw_get (C := RX4) (T := TX4) (N := 25) hx hb hL4 hown hK hP 0 0 (rDf (by decide)) rfl rfl 17 (by decide) (hts (.fieldLink RX4 50 "BlockProgramsModel" "isIn" "[Z") (by decide +kernel)) (fun _ h9 => h9) (v := .ref (ad 17 0)) rfl dX4_lay_16 ?_
    refine lv_iload_n hx hb dX4_lay_19 rfl (lv_at hl 1 rfl) ?_
    refine lv_iconst (v := 0) hx hb dX4_lay_20 (by decide) ?_
    refine gw_zast hx hb hK hP hS 17 0 (rDf (by decide)) 1 rfl rfl (i) rfl (by omega) (by decide) rfl dX4_lay_21 ((rEn cI cZ κ σ (wr sc1 1 i 0) ad)) rUs_17 (fun t9 i9 z9 h9 => rU17 _ t9 i9 h9 z9) (fun H locs hP hS => ?_)
    refine lv_iinc (v := nI (i + 1)) (lv' := [(1, .int (nI (i + 1))), (0, .ref (ad 0 0))]) hx hb dX4_lay_22 hl (k := 1) rfl (nI_add i 1) (by decide) rfl (fun ls hl => ?_)
    refine lv_goto (tgt := 7) hx hb dX4_lay_25 (by decide) ?_
    exact ih _ _ _ _ (by omega) ⟨i + 1, (wr sc1 1 i 0), rfl, by omega, (lt_s (fun j hj => (wr_i (by omega)).trans (h0 j hj)) wr_s), ((wr_f (by decide)).trans h21), ((wr_f (by decide)).trans h20), hP, hS, lv_sub hl [1, 0] rfl⟩

