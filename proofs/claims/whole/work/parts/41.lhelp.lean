set_option maxHeartbeats 4000000 in
set_option maxRecDepth 100000 in
theorem k_L_block {l : Launch} {D : va_G} {cI cZ cB cS : ClassId} {A : Nat → Prop} {cL : ClassId} (κ : Nat → Nat) (σ sc : Nat → Nat → Int32) (ad : Nat → Nat → Nat) (o : Nat) (f : Nat → Int64) (hst : l.stackTraces = false) (hn : κ 0 ≤ 40) (hz8 : ∀ f, 1 ≤ f → f ≤ 8 → σ f (κ 0) = 0) (hz10 : ∀ k, k < 8 → σ 10 (8 * κ 0 + k) = 0) (y0 : Int32) : Met l yL_block wsL_block ({ frames := 8, cells := 4, slots := 28, locals := 131 } : Room) (lPc D cI cZ cB cS cL A (cDm κ) (cEn cI cZ cB cS κ σ sc ad) ad o f [.ref ((ad 0 0)), .int y0, .ref o]) (lQ D cI cZ cB cS cL A o (cBlock κ y0) ((nI (κ 0)).toInt64) ((if cBlock κ y0 = 0 then (va_up κ 0 (κ 0 + 1)) else κ)) ((if cBlock κ y0 = 0 then (sBlock κ σ y0) else σ)) (ad 0 0)) 4 28 A := by
  refine Met.ofWX (cc := cL_block) (maxL := 4) (ret := (some .int)) (by decide) rfl ?_
  intro p e s m args below meth c s₁ B hml htab hv
  obtain ⟨rfl, hP, hat, ho, ⟨hE, hKL, hNc⟩, hA⟩ := hv
  have hx := B.exec
  have hb := B.bytes
  have hr := B.returns
  have hts := atoms_spec (ws := wsL_block) B.pre
  have hown : s.vm.findClass RL = some m.cls := findClass_of_methodNamed B.named
  have hK := hE.1
  have hS : va_S A s.heap s.heap [] := va_S.rf
  have hol : o < s.heap.size := hat.lt
  have hA1 : ∀ q : Nat, s.heap.size ≤ q → A q ∧ q ≠ o := fun q hq => ⟨hA q hq, by omega⟩
  have hl := lv_entry ([.ref ((ad 0 0)), .int y0, .ref o]) (n := 4) (Nat.le_of_ble_eq_true rfl)
  rw [lg_entry_eq]
  generalize (lg_sl ([.ref ((ad 0 0)), .int y0, .ref o]) ++ List.replicate (4 - (lg_sl ([.ref ((ad 0 0)), .int y0, .ref o])).length) Slot.unset).toArray = ls at hl ⊢
  have hl : lv_has ls 4 [(0, .ref ((ad 0 0))), (1, .int y0), (2, .ref o)] := hl
  refine lv_aload_n hx hb dL_block_0 rfl (lv_at hl 2 rfl) ?_
  refine lv_iconst (v := 0) hx hb dL_block_1 (by decide) ?_
  refine lv_aload_n hx hb dL_block_2 rfl (lv_at hl 0 rfl) ?_
  refine lv_iload_n hx hb dL_block_3 rfl (lv_at hl 1 rfl) ?_
  refine vx_calli (vx_runV (As := [.int y0]) (rest := [.int 0, .ref o]) ⟨hx, hb, hml, hown, hts⟩ (k_X3_block (l := l) (D := D) (cI := cI) (cZ := cZ) (cB := cB) (cS := cS) (A := (fun q => A q ∧ q ≠ o)) κ σ sc ad hst hn hz8 hz10 y0) (cwV 1 hts gL_block_X3_block rfl rfl rfl (by decide +kernel) ⟨(Nat.le_of_ble_eq_true rfl), (Nat.le_of_ble_eq_true rfl)⟩) (lPreV (hE.narrow (fun q h => h.1)) (Nat.le_refl _) (fun _ _ _ => rfl) hA1 hP (gw_recv hK hP 0 0 (cDf (by decide)) rfl rfl)) rfl rfl hl.1 rfl (lv_room (Nat.le_of_ble_eq_true rfl)) dL_block_4 ⟨(Nat.le_of_ble_eq_true rfl), (Nat.le_of_ble_eq_true rfl)⟩) hS (fun q _ h9 => h9.1) (fun q h9 => h9.1) (fun q _ h9 => h9.1) (fun E ce q9 u9 t9 H locs ht9 hvm9 hp9 hB9 hz9 hk9 hS hce hcv hcl => ?_) (fun r u9 t9 H locs ht9 hvm9 hw hB9 hz9 hk9 hS => ?_)
  · obtain ⟨hP9, ⟨rfl, hcr⟩ | ⟨rfl, hcr⟩⟩ := hB9
    · refine vx_catch (own := RL) (name := g_IA) hown [] ⟨0, 9, 12, 13⟩ [⟨0, 9, 15, 15⟩] (htab.trans rfl) (fun z hz => absurd hz List.not_mem_nil) rfl (by decide) (hts (.classLink RL 13 g_IA) (by decide +kernel)) (va_Nw.use rfl hE.2.2.2.2.2.1.1) hce hcv hcl ?_
      refine lv_astore_n (lv' := [(3, .ref q9), (0, .ref ((ad 0 0))), (1, .int y0), (2, .ref o)]) hx hb dL_block_12 rfl hl (by decide) rfl (fun ls hl => ?_)
      refine lv_iconst (v := 1) hx hb dL_block_13 (by decide) ?_
      have hP : gw_P D vwCl (fun q => A q ∧ q ≠ o) (cDm κ) (cEn cI cZ cB cS κ σ sc ad) ad H := by rw [← ht9]; exact hP9
      have hat : va_at D vwCl (o, oRow cL f) H := hat.kept (hk9 o hol (fun z => z.2 rfl))
      exact W.iret (v := 1) hx hb hr (fun t ht hW => ⟨⟨1, (ad, sc, f), rfl, ⟨by rw [hcr]; rfl, fun z => absurd (hcr.symm.trans z) (by decide), rfl⟩, ⟨by rw [if_neg (show ¬ cBlock κ y0 = 0 by rw [hcr]; decide), if_neg (show ¬ cBlock κ y0 = 0 by rw [hcr]; decide)]; rw [← ht] at hP; exact hP, by rw [ht]; exact hat⟩⟩, hS.F ht⟩) hS.2.2 dL_block_14
    · refine vx_catch (own := RL) (name := g_IS) hown [⟨0, 9, 12, 13⟩] ⟨0, 9, 15, 15⟩ [] (htab.trans rfl) (fun z hz => by rw [List.mem_singleton] at hz; subst hz; exact Or.inr ⟨by decide, g_IA, hts (.classLink RL 13 g_IA) (by decide +kernel), hNc⟩) rfl (by decide) (hts (.classLink RL 15 g_IS) (by decide +kernel)) (va_Nw.use rfl hE.2.2.2.2.2.1.2) hce hcv hcl ?_
      refine lv_astore_n (lv' := [(3, .ref q9), (0, .ref ((ad 0 0))), (1, .int y0), (2, .ref o)]) hx hb dL_block_15 rfl hl (by decide) rfl (fun ls hl => ?_)
      refine lv_iconst (v := 2) hx hb dL_block_16 (by decide) ?_
      have hP : gw_P D vwCl (fun q => A q ∧ q ≠ o) (cDm κ) (cEn cI cZ cB cS κ σ sc ad) ad H := by rw [← ht9]; exact hP9
      have hat : va_at D vwCl (o, oRow cL f) H := hat.kept (hk9 o hol (fun z => z.2 rfl))
      exact W.iret (v := 2) hx hb hr (fun t ht hW => ⟨⟨2, (ad, sc, f), rfl, ⟨by rw [hcr]; rfl, fun z => absurd (hcr.symm.trans z) (by decide), rfl⟩, ⟨by rw [if_neg (show ¬ cBlock κ y0 = 0 by rw [hcr]; decide), if_neg (show ¬ cBlock κ y0 = 0 by rw [hcr]; decide)]; rw [← ht] at hP; exact hP, by rw [ht]; exact hat⟩⟩, hS.F ht⟩) hS.2.2 dL_block_17
  · obtain ⟨hcr, hrv, had⟩ := hw
    have hP : gw_P D vwCl (fun q => A q ∧ q ≠ o) (cDm ((va_up κ 0 (κ 0 + 1)))) (cEn cI cZ cB cS ((va_up κ 0 (κ 0 + 1))) ((sBlock κ σ y0)) sc u9) u9 H := by rw [← ht9]; exact hB9
    have hat : va_at D vwCl (o, oRow cL f) H := hat.kept (hk9 o hol (fun z => z.2 rfl))
    refine lv_i2l (v := r.toInt64) hx hb dL_block_7 rfl ?_
    refine gl_last (f := f) (o := o) hx hb hKL hat hS ho (v := r.toInt64) dL_block_8 (fun H locs1 hat oq hS => ?_)
    have hP : gw_P D vwCl (fun q => A q ∧ q ≠ o) (cDm ((va_up κ 0 (κ 0 + 1)))) (cEn cI cZ cB cS ((va_up κ 0 (κ 0 + 1))) ((sBlock κ σ y0)) sc u9) u9 H := hP.kept (fun t i hi => oq _ (hP.2.1 t i hi).2)
    refine lv_goto (tgt := 18) hx hb dL_block_9 (by decide) ?_
    refine lv_iconst (v := 0) hx hb dL_block_18 (by decide) ?_
    exact W.iret (v := 0) hx hb hr (fun t ht hW => ⟨⟨0, (u9, sc, vp_updL f 0 r.toInt64), rfl, ⟨by rw [hcr]; rfl, fun _ => (row_0 (congrArg Int32.toInt64 hrv)), had⟩, ⟨by rw [if_pos hcr, if_pos hcr]; rw [← ht] at hP; exact hP, by rw [ht]; exact hat⟩⟩, hS.F ht⟩) hS.2.2 dL_block_19

set_option maxHeartbeats 4000000 in
set_option maxRecDepth 100000 in
theorem k_L_wire {l : Launch} {D : va_G} {cI cZ cB cS : ClassId} {A : Nat → Prop} {cL : ClassId} (κ : Nat → Nat) (σ sc : Nat → Nat → Int32) (ad : Nat → Nat → Nat) (o : Nat) (f : Nat → Int64) (hst : l.stackTraces = false) (hn : κ 0 ≤ 40) (y0 y1 y2 : Int32) : Met l yL_wire wsL_wire ({ frames := 8, cells := 3, slots := 18, locals := 136 } : Room) (lPc D cI cZ cB cS cL A (cDm κ) (cEn cI cZ cB cS κ σ sc ad) ad o f [.ref ((ad 0 0)), .int y0, .int y1, .int y2, .ref o]) (lQ D cI cZ cB cS cL A o (cWire κ y0 y1 y2) ((σ 9 (3 * y0.toNatClampNeg + y1.toNatClampNeg)).toInt64) κ ((if cWire κ y0 y1 y2 = 0 then (wr σ 9 (3 * y0.toNatClampNeg + y1.toNatClampNeg) y2) else σ)) (ad 0 0)) 3 18 A := by
  refine Met.ofWX (cc := cL_wire) (maxL := 6) (ret := (some .int)) (by decide) rfl ?_
  intro p e s m args below meth c s₁ B hml htab hv
  obtain ⟨rfl, hP, hat, ho, ⟨hE, hKL, hNc⟩, hA⟩ := hv
  have hx := B.exec
  have hb := B.bytes
  have hr := B.returns
  have hts := atoms_spec (ws := wsL_wire) B.pre
  have hown : s.vm.findClass RL = some m.cls := findClass_of_methodNamed B.named
  have hK := hE.1
  have hS : va_S A s.heap s.heap [] := va_S.rf
  have hol : o < s.heap.size := hat.lt
  have hA1 : ∀ q : Nat, s.heap.size ≤ q → A q ∧ q ≠ o := fun q hq => ⟨hA q hq, by omega⟩
  have hl := lv_entry ([.ref ((ad 0 0)), .int y0, .int y1, .int y2, .ref o]) (n := 6) (Nat.le_of_ble_eq_true rfl)
  rw [lg_entry_eq]
  generalize (lg_sl ([.ref ((ad 0 0)), .int y0, .int y1, .int y2, .ref o]) ++ List.replicate (6 - (lg_sl ([.ref ((ad 0 0)), .int y0, .int y1, .int y2, .ref o])).length) Slot.unset).toArray = ls at hl ⊢
  have hl : lv_has ls 6 [(0, .ref ((ad 0 0))), (1, .int y0), (2, .int y1), (3, .int y2), (4, .ref o)] := hl
  refine lv_aload hx hb dL_wire_0 (lv_at hl 4 rfl) ?_
  refine lv_iconst (v := 0) hx hb dL_wire_2 (by decide) ?_
  refine lv_aload_n hx hb dL_wire_3 rfl (lv_at hl 0 rfl) ?_
  refine lv_iload_n hx hb dL_wire_4 rfl (lv_at hl 1 rfl) ?_
  refine lv_iload_n hx hb dL_wire_5 rfl (lv_at hl 2 rfl) ?_
  refine lv_iload_n hx hb dL_wire_6 rfl (lv_at hl 3 rfl) ?_
  refine vx_calli (vx_runV (As := [.int y0, .int y1, .int y2]) (rest := [.int 0, .ref o]) ⟨hx, hb, hml, hown, hts⟩ (k_X3_wire (l := l) (D := D) (cI := cI) (cZ := cZ) (cB := cB) (cS := cS) (A := (fun q => A q ∧ q ≠ o)) κ σ sc ad hst hn y0 y1 y2) (cwV 3 hts gL_wire_X3_wire rfl rfl rfl (by decide +kernel) ⟨(Nat.le_of_ble_eq_true rfl), (Nat.le_of_ble_eq_true rfl)⟩) (lPreV (hE.narrow (fun q h => h.1)) (Nat.le_refl _) (fun _ _ _ => rfl) hA1 hP (gw_recv hK hP 0 0 (cDf (by decide)) rfl rfl)) rfl rfl hl.1 rfl (lv_room (Nat.le_of_ble_eq_true rfl)) dL_wire_7 ⟨(Nat.le_of_ble_eq_true rfl), (Nat.le_of_ble_eq_true rfl)⟩) hS (fun q _ h9 => h9.1) (fun q h9 => h9.1) (fun q _ h9 => h9.1) (fun E ce q9 u9 t9 H locs ht9 hvm9 hp9 hB9 hz9 hk9 hS hce hcv hcl => ?_) (fun r u9 t9 H locs ht9 hvm9 hw hB9 hz9 hk9 hS => ?_)
  · obtain ⟨hP9, rfl, hcr⟩ := hB9
    refine vx_catch (own := RL) (name := g_IA) hown [] ⟨0, 12, 15, 13⟩ [] (htab.trans rfl) (fun z hz => absurd hz List.not_mem_nil) rfl (by decide) (hts (.classLink RL 13 g_IA) (by decide +kernel)) (va_Nw.use rfl hE.2.2.2.2.2.1.1) hce hcv hcl ?_
    refine lv_astore (lv' := [(5, .ref q9), (0, .ref ((ad 0 0))), (1, .int y0), (2, .int y1), (3, .int y2), (4, .ref o)]) hx hb dL_wire_15 hl (by decide) rfl (fun ls hl => ?_)
    refine lv_iconst (v := 1) hx hb dL_wire_17 (by decide) ?_
    have hP : gw_P D vwCl (fun q => A q ∧ q ≠ o) (cDm κ) (cEn cI cZ cB cS κ σ sc ad) ad H := by rw [← ht9]; exact hP9
    have hat : va_at D vwCl (o, oRow cL f) H := hat.kept (hk9 o hol (fun z => z.2 rfl))
    exact W.iret (v := 1) hx hb hr (fun t ht hW => ⟨⟨1, (ad, sc, f), rfl, ⟨by rw [hcr]; rfl, fun z => absurd (hcr.symm.trans z) (by decide), rfl⟩, ⟨by rw [if_neg (show ¬ cWire κ y0 y1 y2 = 0 by rw [hcr]; decide)]; rw [← ht] at hP; exact hP, by rw [ht]; exact hat⟩⟩, hS.F ht⟩) hS.2.2 dL_wire_18
  · obtain ⟨hcr, hrv⟩ := hw
    have hP : gw_P D vwCl (fun q => A q ∧ q ≠ o) (cDm κ) (cEn cI cZ cB cS κ ((wr σ 9 (3 * y0.toNatClampNeg + y1.toNatClampNeg) y2)) sc ad) ad H := by rw [← ht9]; exact hB9
    have hat : va_at D vwCl (o, oRow cL f) H := hat.kept (hk9 o hol (fun z => z.2 rfl))
    refine lv_i2l (v := r.toInt64) hx hb dL_wire_10 rfl ?_
    refine gl_last (f := f) (o := o) hx hb hKL hat hS ho (v := r.toInt64) dL_wire_11 (fun H locs1 hat oq hS => ?_)
    have hP : gw_P D vwCl (fun q => A q ∧ q ≠ o) (cDm κ) (cEn cI cZ cB cS κ ((wr σ 9 (3 * y0.toNatClampNeg + y1.toNatClampNeg) y2)) sc ad) ad H := hP.kept (fun t i hi => oq _ (hP.2.1 t i hi).2)
    refine lv_goto (tgt := 19) hx hb dL_wire_12 (by decide) ?_
    refine lv_iconst (v := 0) hx hb dL_wire_19 (by decide) ?_
    exact W.iret (v := 0) hx hb hr (fun t ht hW => ⟨⟨0, (ad, sc, vp_updL f 0 r.toInt64), rfl, ⟨by rw [hcr]; rfl, fun _ => (row_0 (congrArg Int32.toInt64 hrv)), rfl⟩, ⟨by rw [if_pos hcr]; rw [← ht] at hP; exact hP, by rw [ht]; exact hat⟩⟩, hS.F ht⟩) hS.2.2 dL_wire_20

set_option maxHeartbeats 4000000 in
set_option maxRecDepth 100000 in
theorem k_L_numbers {l : Launch} {D : va_G} {cI cZ cB cS : ClassId} {A : Nat → Prop} {cL : ClassId} (κ : Nat → Nat) (σ sc : Nat → Nat → Int32) (ad : Nat → Nat → Nat) (o : Nat) (f : Nat → Int64) (hst : l.stackTraces = false) (hn : κ 0 ≤ 40) (y0 y1 y2 : Int32) : Met l yL_numbers wsL_numbers ({ frames := 8, cells := 1, slots := 6, locals := 135 } : Room) (lPc D cI cZ cB cS cL A (cDm κ) (cEn cI cZ cB cS κ σ sc ad) ad o f [.ref ((ad 0 0)), .int y0, .int y1, .int y2]) (lQ D cI cZ cB cS cL A o (cOne (κ 0) y0) ((f 0)) κ ((if cOne (κ 0) y0 = 0 then (wr (wr σ 1 y0.toNatClampNeg y1) 2 y0.toNatClampNeg y2) else σ)) (ad 0 0)) 1 6 A := by
  refine Met.ofWX (cc := cL_numbers) (maxL := 5) (ret := (some .int)) (by decide) rfl ?_
  intro p e s m args below meth c s₁ B hml htab hv
  obtain ⟨rfl, hP, hat, ho, ⟨hE, hKL, hNc⟩, hA⟩ := hv
  have hx := B.exec
  have hb := B.bytes
  have hr := B.returns
  have hts := atoms_spec (ws := wsL_numbers) B.pre
  have hown : s.vm.findClass RL = some m.cls := findClass_of_methodNamed B.named
  have hK := hE.1
  have hS : va_S A s.heap s.heap [] := va_S.rf
  have hol : o < s.heap.size := hat.lt
  have hA1 : ∀ q : Nat, s.heap.size ≤ q → A q ∧ q ≠ o := fun q hq => ⟨hA q hq, by omega⟩
  have hl := lv_entry ([.ref ((ad 0 0)), .int y0, .int y1, .int y2]) (n := 5) (Nat.le_of_ble_eq_true rfl)
  rw [lg_entry_eq]
  generalize (lg_sl ([.ref ((ad 0 0)), .int y0, .int y1, .int y2]) ++ List.replicate (5 - (lg_sl ([.ref ((ad 0 0)), .int y0, .int y1, .int y2])).length) Slot.unset).toArray = ls at hl ⊢
  have hl : lv_has ls 5 [(0, .ref ((ad 0 0))), (1, .int y0), (2, .int y1), (3, .int y2)] := hl
  refine lv_aload_n hx hb dL_numbers_0 rfl (lv_at hl 0 rfl) ?_
  refine lv_iload_n hx hb dL_numbers_1 rfl (lv_at hl 1 rfl) ?_
  refine lv_iload_n hx hb dL_numbers_2 rfl (lv_at hl 2 rfl) ?_
  refine lv_iload_n hx hb dL_numbers_3 rfl (lv_at hl 3 rfl) ?_
  refine vx_callv (vx_runV (As := [.int y0, .int y1, .int y2]) (rest := []) ⟨hx, hb, hml, hown, hts⟩ (k_X3_numbers (l := l) (D := D) (cI := cI) (cZ := cZ) (cB := cB) (cS := cS) (A := (fun q => A q ∧ q ≠ o)) κ σ sc ad hst hn y0 y1 y2) (cwV 3 hts gL_numbers_X3_numbers rfl rfl rfl (by decide +kernel) ⟨(Nat.le_of_ble_eq_true rfl), (Nat.le_of_ble_eq_true rfl)⟩) (lPreV (hE.narrow (fun q h => h.1)) (Nat.le_refl _) (fun _ _ _ => rfl) hA1 hP (gw_recv hK hP 0 0 (cDf (by decide)) rfl rfl)) rfl rfl hl.1 rfl (lv_room (Nat.le_of_ble_eq_true rfl)) dL_numbers_4 ⟨(Nat.le_of_ble_eq_true rfl), (Nat.le_of_ble_eq_true rfl)⟩) hS (fun q _ h9 => h9.1) (fun q h9 => h9.1) (fun q _ h9 => h9.1) (fun E ce q9 u9 t9 H locs ht9 hvm9 hp9 hB9 hz9 hk9 hS hce hcv hcl => ?_) (fun u9 t9 H locs ht9 hvm9 hw hB9 hz9 hk9 hS => ?_)
  · obtain ⟨hP9, rfl, hcr⟩ := hB9
    refine vx_catch (own := RL) (name := g_IA) hown [] ⟨0, 7, 10, 13⟩ [] (htab.trans rfl) (fun z hz => absurd hz List.not_mem_nil) rfl (by decide) (hts (.classLink RL 13 g_IA) (by decide +kernel)) (va_Nw.use rfl hE.2.2.2.2.2.1.1) hce hcv hcl ?_
    refine lv_astore (lv' := [(4, .ref q9), (0, .ref ((ad 0 0))), (1, .int y0), (2, .int y1), (3, .int y2)]) hx hb dL_numbers_10 hl (by decide) rfl (fun ls hl => ?_)
    refine lv_iconst (v := 1) hx hb dL_numbers_12 (by decide) ?_
    have hP : gw_P D vwCl (fun q => A q ∧ q ≠ o) (cDm κ) (cEn cI cZ cB cS κ σ sc ad) ad H := by rw [← ht9]; exact hP9
    have hat : va_at D vwCl (o, oRow cL f) H := hat.kept (hk9 o hol (fun z => z.2 rfl))
    exact W.iret (v := 1) hx hb hr (fun t ht hW => ⟨⟨1, (ad, sc, f), rfl, ⟨by rw [hcr]; rfl, fun z => absurd (hcr.symm.trans z) (by decide), rfl⟩, ⟨by rw [if_neg (show ¬ cOne (κ 0) y0 = 0 by rw [hcr]; decide)]; rw [← ht] at hP; exact hP, by rw [ht]; exact hat⟩⟩, hS.F ht⟩) hS.2.2 dL_numbers_13
  · have hcr : cOne (κ 0) y0 = 0 := hw
    have hP : gw_P D vwCl (fun q => A q ∧ q ≠ o) (cDm κ) (cEn cI cZ cB cS κ ((wr (wr σ 1 y0.toNatClampNeg y1) 2 y0.toNatClampNeg y2)) sc ad) ad H := by rw [← ht9]; exact hB9
    have hat : va_at D vwCl (o, oRow cL f) H := hat.kept (hk9 o hol (fun z => z.2 rfl))
    refine lv_goto (tgt := 14) hx hb dL_numbers_7 (by decide) ?_
    refine lv_iconst (v := 0) hx hb dL_numbers_14 (by decide) ?_
    exact W.iret (v := 0) hx hb hr (fun t ht hW => ⟨⟨0, (ad, sc, f), rfl, ⟨by rw [hcr]; rfl, fun _ => rfl, rfl⟩, ⟨by rw [if_pos hcr]; rw [← ht] at hP; exact hP, by rw [ht]; exact hat⟩⟩, hS.F ht⟩) hS.2.2 dL_numbers_15

set_option maxHeartbeats 4000000 in
set_option maxRecDepth 100000 in
theorem k_L_row {l : Launch} {D : va_G} {cI cZ cB cS : ClassId} {A : Nat → Prop} {cL : ClassId} (κ : Nat → Nat) (σ sc : Nat → Nat → Int32) (ad : Nat → Nat → Nat) (o : Nat) (f : Nat → Int64) (hst : l.stackTraces = false) (hn : κ 0 ≤ 40) (y0 y1 y2 : Int32) : Met l yL_row wsL_row ({ frames := 8, cells := 3, slots := 18, locals := 136 } : Room) (lPc D cI cZ cB cS cL A (cDm κ) (cEn cI cZ cB cS κ σ sc ad) ad o f [.ref ((ad 0 0)), .int y0, .int y1, .int y2, .ref o]) (lQ D cI cZ cB cS cL A o (cRow κ σ y0 y1) ((σ 10 (8 * y0.toNatClampNeg + y1.toNatClampNeg)).toInt64) κ ((if cRow κ σ y0 y1 = 0 then (wr σ 10 (8 * y0.toNatClampNeg + y1.toNatClampNeg) y2) else σ)) (ad 0 0)) 3 18 A := by
  refine Met.ofWX (cc := cL_row) (maxL := 6) (ret := (some .int)) (by decide) rfl ?_
  intro p e s m args below meth c s₁ B hml htab hv
  obtain ⟨rfl, hP, hat, ho, ⟨hE, hKL, hNc⟩, hA⟩ := hv
  have hx := B.exec
  have hb := B.bytes
  have hr := B.returns
  have hts := atoms_spec (ws := wsL_row) B.pre
  have hown : s.vm.findClass RL = some m.cls := findClass_of_methodNamed B.named
  have hK := hE.1
  have hS : va_S A s.heap s.heap [] := va_S.rf
  have hol : o < s.heap.size := hat.lt
  have hA1 : ∀ q : Nat, s.heap.size ≤ q → A q ∧ q ≠ o := fun q hq => ⟨hA q hq, by omega⟩
  have hl := lv_entry ([.ref ((ad 0 0)), .int y0, .int y1, .int y2, .ref o]) (n := 6) (Nat.le_of_ble_eq_true rfl)
  rw [lg_entry_eq]
  generalize (lg_sl ([.ref ((ad 0 0)), .int y0, .int y1, .int y2, .ref o]) ++ List.replicate (6 - (lg_sl ([.ref ((ad 0 0)), .int y0, .int y1, .int y2, .ref o])).length) Slot.unset).toArray = ls at hl ⊢
  have hl : lv_has ls 6 [(0, .ref ((ad 0 0))), (1, .int y0), (2, .int y1), (3, .int y2), (4, .ref o)] := hl
  refine lv_aload hx hb dL_row_0 (lv_at hl 4 rfl) ?_
  refine lv_iconst (v := 0) hx hb dL_row_2 (by decide) ?_
  refine lv_aload_n hx hb dL_row_3 rfl (lv_at hl 0 rfl) ?_
  refine lv_iload_n hx hb dL_row_4 rfl (lv_at hl 1 rfl) ?_
  refine lv_iload_n hx hb dL_row_5 rfl (lv_at hl 2 rfl) ?_
  refine lv_iload_n hx hb dL_row_6 rfl (lv_at hl 3 rfl) ?_
  refine vx_calli (vx_runV (As := [.int y0, .int y1, .int y2]) (rest := [.int 0, .ref o]) ⟨hx, hb, hml, hown, hts⟩ (k_X3_row (l := l) (D := D) (cI := cI) (cZ := cZ) (cB := cB) (cS := cS) (A := (fun q => A q ∧ q ≠ o)) κ σ sc ad hst hn y0 y1 y2) (cwV 3 hts gL_row_X3_row rfl rfl rfl (by decide +kernel) ⟨(Nat.le_of_ble_eq_true rfl), (Nat.le_of_ble_eq_true rfl)⟩) (lPreV (hE.narrow (fun q h => h.1)) (Nat.le_refl _) (fun _ _ _ => rfl) hA1 hP (gw_recv hK hP 0 0 (cDf (by decide)) rfl rfl)) rfl rfl hl.1 rfl (lv_room (Nat.le_of_ble_eq_true rfl)) dL_row_7 ⟨(Nat.le_of_ble_eq_true rfl), (Nat.le_of_ble_eq_true rfl)⟩) hS (fun q _ h9 => h9.1) (fun q h9 => h9.1) (fun q _ h9 => h9.1) (fun E ce q9 u9 t9 H locs ht9 hvm9 hp9 hB9 hz9 hk9 hS hce hcv hcl => ?_) (fun r u9 t9 H locs ht9 hvm9 hw hB9 hz9 hk9 hS => ?_)
  · obtain ⟨hP9, ⟨rfl, hcr⟩ | ⟨rfl, hcr⟩⟩ := hB9
    · refine vx_catch (own := RL) (name := g_IA) hown [] ⟨0, 12, 15, 13⟩ [⟨0, 12, 19, 15⟩] (htab.trans rfl) (fun z hz => absurd hz List.not_mem_nil) rfl (by decide) (hts (.classLink RL 13 g_IA) (by decide +kernel)) (va_Nw.use rfl hE.2.2.2.2.2.1.1) hce hcv hcl ?_
      refine lv_astore (lv' := [(5, .ref q9), (0, .ref ((ad 0 0))), (1, .int y0), (2, .int y1), (3, .int y2), (4, .ref o)]) hx hb dL_row_15 hl (by decide) rfl (fun ls hl => ?_)
      refine lv_iconst (v := 1) hx hb dL_row_17 (by decide) ?_
      have hP : gw_P D vwCl (fun q => A q ∧ q ≠ o) (cDm κ) (cEn cI cZ cB cS κ σ sc ad) ad H := by rw [← ht9]; exact hP9
      have hat : va_at D vwCl (o, oRow cL f) H := hat.kept (hk9 o hol (fun z => z.2 rfl))
      exact W.iret (v := 1) hx hb hr (fun t ht hW => ⟨⟨1, (ad, sc, f), rfl, ⟨by rw [hcr]; rfl, fun z => absurd (hcr.symm.trans z) (by decide), rfl⟩, ⟨by rw [if_neg (show ¬ cRow κ σ y0 y1 = 0 by rw [hcr]; decide)]; rw [← ht] at hP; exact hP, by rw [ht]; exact hat⟩⟩, hS.F ht⟩) hS.2.2 dL_row_18
    · refine vx_catch (own := RL) (name := g_IS) hown [⟨0, 12, 15, 13⟩] ⟨0, 12, 19, 15⟩ [] (htab.trans rfl) (fun z hz => by rw [List.mem_singleton] at hz; subst hz; exact Or.inr ⟨by decide, g_IA, hts (.classLink RL 13 g_IA) (by decide +kernel), hNc⟩) rfl (by decide) (hts (.classLink RL 15 g_IS) (by decide +kernel)) (va_Nw.use rfl hE.2.2.2.2.2.1.2) hce hcv hcl ?_
      refine lv_astore (lv' := [(5, .ref q9), (0, .ref ((ad 0 0))), (1, .int y0), (2, .int y1), (3, .int y2), (4, .ref o)]) hx hb dL_row_19 hl (by decide) rfl (fun ls hl => ?_)
      refine lv_iconst (v := 2) hx hb dL_row_21 (by decide) ?_
      have hP : gw_P D vwCl (fun q => A q ∧ q ≠ o) (cDm κ) (cEn cI cZ cB cS κ σ sc ad) ad H := by rw [← ht9]; exact hP9
      have hat : va_at D vwCl (o, oRow cL f) H := hat.kept (hk9 o hol (fun z => z.2 rfl))
      exact W.iret (v := 2) hx hb hr (fun t ht hW => ⟨⟨2, (ad, sc, f), rfl, ⟨by rw [hcr]; rfl, fun z => absurd (hcr.symm.trans z) (by decide), rfl⟩, ⟨by rw [if_neg (show ¬ cRow κ σ y0 y1 = 0 by rw [hcr]; decide)]; rw [← ht] at hP; exact hP, by rw [ht]; exact hat⟩⟩, hS.F ht⟩) hS.2.2 dL_row_22
  · obtain ⟨hcr, hrv⟩ := hw
    have hP : gw_P D vwCl (fun q => A q ∧ q ≠ o) (cDm κ) (cEn cI cZ cB cS κ ((wr σ 10 (8 * y0.toNatClampNeg + y1.toNatClampNeg) y2)) sc ad) ad H := by rw [← ht9]; exact hB9
    have hat : va_at D vwCl (o, oRow cL f) H := hat.kept (hk9 o hol (fun z => z.2 rfl))
    refine lv_i2l (v := r.toInt64) hx hb dL_row_10 rfl ?_
    refine gl_last (f := f) (o := o) hx hb hKL hat hS ho (v := r.toInt64) dL_row_11 (fun H locs1 hat oq hS => ?_)
    have hP : gw_P D vwCl (fun q => A q ∧ q ≠ o) (cDm κ) (cEn cI cZ cB cS κ ((wr σ 10 (8 * y0.toNatClampNeg + y1.toNatClampNeg) y2)) sc ad) ad H := hP.kept (fun t i hi => oq _ (hP.2.1 t i hi).2)
    refine lv_goto (tgt := 23) hx hb dL_row_12 (by decide) ?_
    refine lv_iconst (v := 0) hx hb dL_row_23 (by decide) ?_
    exact W.iret (v := 0) hx hb hr (fun t ht hW => ⟨⟨0, (ad, sc, vp_updL f 0 r.toInt64), rfl, ⟨by rw [hcr]; rfl, fun _ => (row_0 (congrArg Int32.toInt64 hrv)), rfl⟩, ⟨by rw [if_pos hcr]; rw [← ht] at hP; exact hP, by rw [ht]; exact hat⟩⟩, hS.F ht⟩) hS.2.2 dL_row_24

set_option maxHeartbeats 4000000 in
set_option maxRecDepth 100000 in
theorem k_L_safe {l : Launch} {D : va_G} {cI cZ cB cS : ClassId} {A : Nat → Prop} {cL : ClassId} (κ : Nat → Nat) (σ sc : Nat → Nat → Int32) (ad : Nat → Nat → Nat) (o : Nat) (f : Nat → Int64) (hst : l.stackTraces = false) (hn : κ 0 ≤ 40) (y0 y1 : Int32) : Met l yL_safe wsL_safe ({ frames := 8, cells := 1, slots := 6, locals := 135 } : Room) (lPc D cI cZ cB cS cL A (cDm κ) (cEn cI cZ cB cS κ σ sc ad) ad o f [.ref ((ad 0 0)), .int y0, .int y1, .ref o]) (lQ D cI cZ cB cS cL A o (cOne (κ 0) y0) ((σ 3 y0.toNatClampNeg).toInt64) κ ((if cOne (κ 0) y0 = 0 then (wr σ 3 y0.toNatClampNeg y1) else σ)) (ad 0 0)) 1 6 A := by
  refine Met.ofWX (cc := cL_safe) (maxL := 5) (ret := (some .int)) (by decide) rfl ?_
  intro p e s m args below meth c s₁ B hml htab hv
  obtain ⟨rfl, hP, hat, ho, ⟨hE, hKL, hNc⟩, hA⟩ := hv
  have hx := B.exec
  have hb := B.bytes
  have hr := B.returns
  have hts := atoms_spec (ws := wsL_safe) B.pre
  have hown : s.vm.findClass RL = some m.cls := findClass_of_methodNamed B.named
  have hK := hE.1
  have hS : va_S A s.heap s.heap [] := va_S.rf
  have hol : o < s.heap.size := hat.lt
  have hA1 : ∀ q : Nat, s.heap.size ≤ q → A q ∧ q ≠ o := fun q hq => ⟨hA q hq, by omega⟩
  have hl := lv_entry ([.ref ((ad 0 0)), .int y0, .int y1, .ref o]) (n := 5) (Nat.le_of_ble_eq_true rfl)
  rw [lg_entry_eq]
  generalize (lg_sl ([.ref ((ad 0 0)), .int y0, .int y1, .ref o]) ++ List.replicate (5 - (lg_sl ([.ref ((ad 0 0)), .int y0, .int y1, .ref o])).length) Slot.unset).toArray = ls at hl ⊢
  have hl : lv_has ls 5 [(0, .ref ((ad 0 0))), (1, .int y0), (2, .int y1), (3, .ref o)] := hl
  refine lv_aload_n hx hb dL_safe_0 rfl (lv_at hl 3 rfl) ?_
  refine lv_iconst (v := 0) hx hb dL_safe_1 (by decide) ?_
  refine lv_aload_n hx hb dL_safe_2 rfl (lv_at hl 0 rfl) ?_
  refine lv_iload_n hx hb dL_safe_3 rfl (lv_at hl 1 rfl) ?_
  refine lv_iload_n hx hb dL_safe_4 rfl (lv_at hl 2 rfl) ?_
  refine vx_calli (vx_runV (As := [.int y0, .int y1]) (rest := [.int 0, .ref o]) ⟨hx, hb, hml, hown, hts⟩ (k_X3_safe (l := l) (D := D) (cI := cI) (cZ := cZ) (cB := cB) (cS := cS) (A := (fun q => A q ∧ q ≠ o)) κ σ sc ad hst hn y0 y1) (cwV 2 hts gL_safe_X3_safe rfl rfl rfl (by decide +kernel) ⟨(Nat.le_of_ble_eq_true rfl), (Nat.le_of_ble_eq_true rfl)⟩) (lPreV (hE.narrow (fun q h => h.1)) (Nat.le_refl _) (fun _ _ _ => rfl) hA1 hP (gw_recv hK hP 0 0 (cDf (by decide)) rfl rfl)) rfl rfl hl.1 rfl (lv_room (Nat.le_of_ble_eq_true rfl)) dL_safe_5 ⟨(Nat.le_of_ble_eq_true rfl), (Nat.le_of_ble_eq_true rfl)⟩) hS (fun q _ h9 => h9.1) (fun q h9 => h9.1) (fun q _ h9 => h9.1) (fun E ce q9 u9 t9 H locs ht9 hvm9 hp9 hB9 hz9 hk9 hS hce hcv hcl => ?_) (fun r u9 t9 H locs ht9 hvm9 hw hB9 hz9 hk9 hS => ?_)
  · obtain ⟨hP9, rfl, hcr⟩ := hB9
    refine vx_catch (own := RL) (name := g_IA) hown [] ⟨0, 10, 13, 13⟩ [] (htab.trans rfl) (fun z hz => absurd hz List.not_mem_nil) rfl (by decide) (hts (.classLink RL 13 g_IA) (by decide +kernel)) (va_Nw.use rfl hE.2.2.2.2.2.1.1) hce hcv hcl ?_
    refine lv_astore (lv' := [(4, .ref q9), (0, .ref ((ad 0 0))), (1, .int y0), (2, .int y1), (3, .ref o)]) hx hb dL_safe_13 hl (by decide) rfl (fun ls hl => ?_)
    refine lv_iconst (v := 1) hx hb dL_safe_15 (by decide) ?_
    have hP : gw_P D vwCl (fun q => A q ∧ q ≠ o) (cDm κ) (cEn cI cZ cB cS κ σ sc ad) ad H := by rw [← ht9]; exact hP9
    have hat : va_at D vwCl (o, oRow cL f) H := hat.kept (hk9 o hol (fun z => z.2 rfl))
    exact W.iret (v := 1) hx hb hr (fun t ht hW => ⟨⟨1, (ad, sc, f), rfl, ⟨by rw [hcr]; rfl, fun z => absurd (hcr.symm.trans z) (by decide), rfl⟩, ⟨by rw [if_neg (show ¬ cOne (κ 0) y0 = 0 by rw [hcr]; decide)]; rw [← ht] at hP; exact hP, by rw [ht]; exact hat⟩⟩, hS.F ht⟩) hS.2.2 dL_safe_16
  · obtain ⟨hcr, hrv⟩ := hw
    have hP : gw_P D vwCl (fun q => A q ∧ q ≠ o) (cDm κ) (cEn cI cZ cB cS κ ((wr σ 3 y0.toNatClampNeg y1)) sc ad) ad H := by rw [← ht9]; exact hB9
    have hat : va_at D vwCl (o, oRow cL f) H := hat.kept (hk9 o hol (fun z => z.2 rfl))
    refine lv_i2l (v := r.toInt64) hx hb dL_safe_8 rfl ?_
    refine gl_last (f := f) (o := o) hx hb hKL hat hS ho (v := r.toInt64) dL_safe_9 (fun H locs1 hat oq hS => ?_)
    have hP : gw_P D vwCl (fun q => A q ∧ q ≠ o) (cDm κ) (cEn cI cZ cB cS κ ((wr σ 3 y0.toNatClampNeg y1)) sc ad) ad H := hP.kept (fun t i hi => oq _ (hP.2.1 t i hi).2)
    refine lv_goto (tgt := 17) hx hb dL_safe_10 (by decide) ?_
    refine lv_iconst (v := 0) hx hb dL_safe_17 (by decide) ?_
    exact W.iret (v := 0) hx hb hr (fun t ht hW => ⟨⟨0, (ad, sc, vp_updL f 0 r.toInt64), rfl, ⟨by rw [hcr]; rfl, fun _ => (row_0 (congrArg Int32.toInt64 hrv)), rfl⟩, ⟨by rw [if_pos hcr]; rw [← ht] at hP; exact hP, by rw [ht]; exact hat⟩⟩, hS.F ht⟩) hS.2.2 dL_safe_18

set_option maxHeartbeats 4000000 in
set_option maxRecDepth 100000 in
theorem k_L_point {l : Launch} {D : va_G} {cI cZ cB cS : ClassId} {A : Nat → Prop} {cL : ClassId} (κ : Nat → Nat) (σ sc : Nat → Nat → Int32) (ad : Nat → Nat → Nat) (o : Nat) (f : Nat → Int64) (hst : l.stackTraces = false)  (y0 y1 : Int32) : Met l yL_point wsL_point ({ frames := 7, cells := 1, slots := 6, locals := 113 } : Room) (lPc D cI cZ cB cS cL A (cDm κ) (cEn cI cZ cB cS κ σ sc ad) ad o f [.ref ((ad 0 0)), .int y0, .int y1, .ref o]) (lQ D cI cZ cB cS cL A o (cOne 10 y0) ((σ 20 y0.toNatClampNeg).toInt64) κ ((if cOne 10 y0 = 0 then (wr σ 20 y0.toNatClampNeg y1) else σ)) (ad 0 0)) 1 6 A := by
  refine Met.ofWX (cc := cL_point) (maxL := 5) (ret := (some .int)) (by decide) rfl ?_
  intro p e s m args below meth c s₁ B hml htab hv
  obtain ⟨rfl, hP, hat, ho, ⟨hE, hKL, hNc⟩, hA⟩ := hv
  have hx := B.exec
  have hb := B.bytes
  have hr := B.returns
  have hts := atoms_spec (ws := wsL_point) B.pre
  have hown : s.vm.findClass RL = some m.cls := findClass_of_methodNamed B.named
  have hK := hE.1
  have hS : va_S A s.heap s.heap [] := va_S.rf
  have hol : o < s.heap.size := hat.lt
  have hA1 : ∀ q : Nat, s.heap.size ≤ q → A q ∧ q ≠ o := fun q hq => ⟨hA q hq, by omega⟩
  have hl := lv_entry ([.ref ((ad 0 0)), .int y0, .int y1, .ref o]) (n := 5) (Nat.le_of_ble_eq_true rfl)
  rw [lg_entry_eq]
  generalize (lg_sl ([.ref ((ad 0 0)), .int y0, .int y1, .ref o]) ++ List.replicate (5 - (lg_sl ([.ref ((ad 0 0)), .int y0, .int y1, .ref o])).length) Slot.unset).toArray = ls at hl ⊢
  have hl : lv_has ls 5 [(0, .ref ((ad 0 0))), (1, .int y0), (2, .int y1), (3, .ref o)] := hl
  refine lv_aload_n hx hb dL_point_0 rfl (lv_at hl 3 rfl) ?_
  refine lv_iconst (v := 0) hx hb dL_point_1 (by decide) ?_
  refine lv_aload_n hx hb dL_point_2 rfl (lv_at hl 0 rfl) ?_
  refine lv_iload_n hx hb dL_point_3 rfl (lv_at hl 1 rfl) ?_
  refine lv_iload_n hx hb dL_point_4 rfl (lv_at hl 2 rfl) ?_
  refine vx_calli (vx_runV (As := [.int y0, .int y1]) (rest := [.int 0, .ref o]) ⟨hx, hb, hml, hown, hts⟩ (k_X3_point (l := l) (D := D) (cI := cI) (cZ := cZ) (cB := cB) (cS := cS) (A := (fun q => A q ∧ q ≠ o)) κ σ sc ad hst  y0 y1) (cwV 2 hts gL_point_X3_point rfl rfl rfl (by decide +kernel) ⟨(Nat.le_of_ble_eq_true rfl), (Nat.le_of_ble_eq_true rfl)⟩) (lPreV (hE.narrow (fun q h => h.1)) (Nat.le_refl _) (fun _ _ _ => rfl) hA1 hP (gw_recv hK hP 0 0 (cDf (by decide)) rfl rfl)) rfl rfl hl.1 rfl (lv_room (Nat.le_of_ble_eq_true rfl)) dL_point_5 ⟨(Nat.le_of_ble_eq_true rfl), (Nat.le_of_ble_eq_true rfl)⟩) hS (fun q _ h9 => h9.1) (fun q h9 => h9.1) (fun q _ h9 => h9.1) (fun E ce q9 u9 t9 H locs ht9 hvm9 hp9 hB9 hz9 hk9 hS hce hcv hcl => ?_) (fun r u9 t9 H locs ht9 hvm9 hw hB9 hz9 hk9 hS => ?_)
  · obtain ⟨hP9, rfl, hcr⟩ := hB9
    refine vx_catch (own := RL) (name := g_IA) hown [] ⟨0, 10, 13, 13⟩ [] (htab.trans rfl) (fun z hz => absurd hz List.not_mem_nil) rfl (by decide) (hts (.classLink RL 13 g_IA) (by decide +kernel)) (va_Nw.use rfl hE.2.2.2.2.2.1.1) hce hcv hcl ?_
    refine lv_astore (lv' := [(4, .ref q9), (0, .ref ((ad 0 0))), (1, .int y0), (2, .int y1), (3, .ref o)]) hx hb dL_point_13 hl (by decide) rfl (fun ls hl => ?_)
    refine lv_iconst (v := 1) hx hb dL_point_15 (by decide) ?_
    have hP : gw_P D vwCl (fun q => A q ∧ q ≠ o) (cDm κ) (cEn cI cZ cB cS κ σ sc ad) ad H := by rw [← ht9]; exact hP9
    have hat : va_at D vwCl (o, oRow cL f) H := hat.kept (hk9 o hol (fun z => z.2 rfl))
    exact W.iret (v := 1) hx hb hr (fun t ht hW => ⟨⟨1, (ad, sc, f), rfl, ⟨by rw [hcr]; rfl, fun z => absurd (hcr.symm.trans z) (by decide), rfl⟩, ⟨by rw [if_neg (show ¬ cOne 10 y0 = 0 by rw [hcr]; decide)]; rw [← ht] at hP; exact hP, by rw [ht]; exact hat⟩⟩, hS.F ht⟩) hS.2.2 dL_point_16
  · obtain ⟨hcr, hrv⟩ := hw
    have hP : gw_P D vwCl (fun q => A q ∧ q ≠ o) (cDm κ) (cEn cI cZ cB cS κ ((wr σ 20 y0.toNatClampNeg y1)) sc ad) ad H := by rw [← ht9]; exact hB9
    have hat : va_at D vwCl (o, oRow cL f) H := hat.kept (hk9 o hol (fun z => z.2 rfl))
    refine lv_i2l (v := r.toInt64) hx hb dL_point_8 rfl ?_
    refine gl_last (f := f) (o := o) hx hb hKL hat hS ho (v := r.toInt64) dL_point_9 (fun H locs1 hat oq hS => ?_)
    have hP : gw_P D vwCl (fun q => A q ∧ q ≠ o) (cDm κ) (cEn cI cZ cB cS κ ((wr σ 20 y0.toNatClampNeg y1)) sc ad) ad H := hP.kept (fun t i hi => oq _ (hP.2.1 t i hi).2)
    refine lv_goto (tgt := 17) hx hb dL_point_10 (by decide) ?_
    refine lv_iconst (v := 0) hx hb dL_point_17 (by decide) ?_
    exact W.iret (v := 0) hx hb hr (fun t ht hW => ⟨⟨0, (ad, sc, vp_updL f 0 r.toInt64), rfl, ⟨by rw [hcr]; rfl, fun _ => (row_0 (congrArg Int32.toInt64 hrv)), rfl⟩, ⟨by rw [if_pos hcr]; rw [← ht] at hP; exact hP, by rw [ht]; exact hat⟩⟩, hS.F ht⟩) hS.2.2 dL_point_18

set_option maxHeartbeats 4000000 in
set_option maxRecDepth 100000 in
theorem k_L_hand {l : Launch} {D : va_G} {cI cZ cB cS : ClassId} {A : Nat → Prop} {cL : ClassId} (κ : Nat → Nat) (σ sc : Nat → Nat → Int32) (ad : Nat → Nat → Nat) (o : Nat) (f : Nat → Int64) (hst : l.stackTraces = false) (hn : κ 0 ≤ 40) (h7 : ∀ i, i < κ 0 → narrow .boolean (.int (σ 7 i)) = .int (σ 7 i)) (y0 y1 y2 : Int32) (hz1 : narrow .boolean (.int y1) = .int y1) (hf1 : fits .boolean (.int y1) = true) : Met l yL_hand wsL_hand ({ frames := 8, cells := 1, slots := 6, locals := 136 } : Room) (lPc D cI cZ cB cS cL A (cDm κ) (cEn cI cZ cB cS κ σ sc ad) ad o f [.ref ((ad 0 0)), .int y0, .int y1, .int y2, .ref o]) (lQ D cI cZ cB cS cL A o (cOne (κ 0) y0) ((if σ 7 y0.toNatClampNeg = 0 then (0 : Int64) else 1)) κ ((if cOne (κ 0) y0 = 0 then (wr (wr σ 7 y0.toNatClampNeg y1) 8 y0.toNatClampNeg y2) else σ)) (ad 0 0)) 1 6 A := by
  refine Met.ofWX (cc := cL_hand) (maxL := 6) (ret := (some .int)) (by decide) rfl ?_
  intro p e s m args below meth c s₁ B hml htab hv
  obtain ⟨rfl, hP, hat, ho, ⟨hE, hKL, hNc⟩, hA⟩ := hv
  have hx := B.exec
  have hb := B.bytes
  have hr := B.returns
  have hts := atoms_spec (ws := wsL_hand) B.pre
  have hown : s.vm.findClass RL = some m.cls := findClass_of_methodNamed B.named
  have hK := hE.1
  have hS : va_S A s.heap s.heap [] := va_S.rf
  have hol : o < s.heap.size := hat.lt
  have hA1 : ∀ q : Nat, s.heap.size ≤ q → A q ∧ q ≠ o := fun q hq => ⟨hA q hq, by omega⟩
  have hl := lv_entry ([.ref ((ad 0 0)), .int y0, .int y1, .int y2, .ref o]) (n := 6) (Nat.le_of_ble_eq_true rfl)
  rw [lg_entry_eq]
  generalize (lg_sl ([.ref ((ad 0 0)), .int y0, .int y1, .int y2, .ref o]) ++ List.replicate (6 - (lg_sl ([.ref ((ad 0 0)), .int y0, .int y1, .int y2, .ref o])).length) Slot.unset).toArray = ls at hl ⊢
  have hl : lv_has ls 6 [(0, .ref ((ad 0 0))), (1, .int y0), (2, .int y1), (3, .int y2), (4, .ref o)] := hl
  refine lv_aload hx hb dL_hand_0 (lv_at hl 4 rfl) ?_
  refine lv_iconst (v := 0) hx hb dL_hand_2 (by decide) ?_
  refine lv_aload_n hx hb dL_hand_3 rfl (lv_at hl 0 rfl) ?_
  refine lv_iload_n hx hb dL_hand_4 rfl (lv_at hl 1 rfl) ?_
  refine lv_iload_n hx hb dL_hand_5 rfl (lv_at hl 2 rfl) ?_
  refine lv_iload_n hx hb dL_hand_6 rfl (lv_at hl 3 rfl) ?_
  refine vx_calli (vx_runV (As := [.int y0, .int y1, .int y2]) (rest := [.int 0, .ref o]) ⟨hx, hb, hml, hown, hts⟩ (k_X3_hand (l := l) (D := D) (cI := cI) (cZ := cZ) (cB := cB) (cS := cS) (A := (fun q => A q ∧ q ≠ o)) κ σ sc ad hst hn h7 y0 y1 y2 hz1 hf1) (cwV 3 hts gL_hand_X3_hand rfl rfl rfl (by decide +kernel) ⟨(Nat.le_of_ble_eq_true rfl), (Nat.le_of_ble_eq_true rfl)⟩) (lPreV (hE.narrow (fun q h => h.1)) (Nat.le_refl _) (fun _ _ _ => rfl) hA1 hP (gw_recv hK hP 0 0 (cDf (by decide)) rfl rfl)) rfl rfl hl.1 rfl (lv_room (Nat.le_of_ble_eq_true rfl)) dL_hand_7 ⟨(Nat.le_of_ble_eq_true rfl), (Nat.le_of_ble_eq_true rfl)⟩) hS (fun q _ h9 => h9.1) (fun q h9 => h9.1) (fun q _ h9 => h9.1) (fun E ce q9 u9 t9 H locs ht9 hvm9 hp9 hB9 hz9 hk9 hS hce hcv hcl => ?_) (fun r u9 t9 H locs ht9 hvm9 hw hB9 hz9 hk9 hS => ?_)
  · obtain ⟨hP9, rfl, hcr⟩ := hB9
    refine vx_catch (own := RL) (name := g_IA) hown [] ⟨0, 19, 22, 13⟩ [] (htab.trans rfl) (fun z hz => absurd hz List.not_mem_nil) rfl (by decide) (hts (.classLink RL 13 g_IA) (by decide +kernel)) (va_Nw.use rfl hE.2.2.2.2.2.1.1) hce hcv hcl ?_
    refine lv_astore (lv' := [(5, .ref q9), (0, .ref ((ad 0 0))), (1, .int y0), (2, .int y1), (3, .int y2), (4, .ref o)]) hx hb dL_hand_22 hl (by decide) rfl (fun ls hl => ?_)
    refine lv_iconst (v := 1) hx hb dL_hand_24 (by decide) ?_
    have hP : gw_P D vwCl (fun q => A q ∧ q ≠ o) (cDm κ) (cEn cI cZ cB cS κ σ sc ad) ad H := by rw [← ht9]; exact hP9
    have hat : va_at D vwCl (o, oRow cL f) H := hat.kept (hk9 o hol (fun z => z.2 rfl))
    exact W.iret (v := 1) hx hb hr (fun t ht hW => ⟨⟨1, (ad, sc, f), rfl, ⟨by rw [hcr]; rfl, fun z => absurd (hcr.symm.trans z) (by decide), rfl⟩, ⟨by rw [if_neg (show ¬ cOne (κ 0) y0 = 0 by rw [hcr]; decide)]; rw [← ht] at hP; exact hP, by rw [ht]; exact hat⟩⟩, hS.F ht⟩) hS.2.2 dL_hand_25
  · obtain ⟨hcr, hrv⟩ := hw
    have hP : gw_P D vwCl (fun q => A q ∧ q ≠ o) (cDm κ) (cEn cI cZ cB cS κ ((wr (wr σ 7 y0.toNatClampNeg y1) 8 y0.toNatClampNeg y2)) sc ad) ad H := by rw [← ht9]; exact hB9
    have hat : va_at D vwCl (o, oRow cL f) H := hat.kept (hk9 o hol (fun z => z.2 rfl))
    refine lv_if_eq (tgt := 17) hx hb dL_hand_10 (by decide) (fun c_1 => ?_) (fun c_1 => ?_)
    · refine lv_lconst (v := 0) hx hb dL_hand_17 (by decide) ?_
      refine gl_last (f := f) (o := o) hx hb hKL hat hS ho (v := 0) dL_hand_18 (fun H locs1 hat oq hS => ?_)
      have hP : gw_P D vwCl (fun q => A q ∧ q ≠ o) (cDm κ) (cEn cI cZ cB cS κ ((wr (wr σ 7 y0.toNatClampNeg y1) 8 y0.toNatClampNeg y2)) sc ad) ad H := hP.kept (fun t i hi => oq _ (hP.2.1 t i hi).2)
      refine lv_goto (tgt := 26) hx hb dL_hand_19 (by decide) ?_
      refine lv_iconst (v := 0) hx hb dL_hand_26 (by decide) ?_
      exact W.iret (v := 0) hx hb hr (fun t ht hW => ⟨⟨0, (ad, sc, vp_updL f 0 0), rfl, ⟨by rw [hcr]; rfl, fun _ => (row_0 (if_pos (by rw [← hrv]; exact c_1)).symm), rfl⟩, ⟨by rw [if_pos hcr]; rw [← ht] at hP; exact hP, by rw [ht]; exact hat⟩⟩, hS.F ht⟩) hS.2.2 dL_hand_27
    · refine lv_lconst (v := 1) hx hb dL_hand_13 (by decide) ?_
      refine lv_goto (tgt := 18) hx hb dL_hand_14 (by decide) ?_
      refine gl_last (f := f) (o := o) hx hb hKL hat hS ho (v := 1) dL_hand_18 (fun H locs1 hat oq hS => ?_)
      have hP : gw_P D vwCl (fun q => A q ∧ q ≠ o) (cDm κ) (cEn cI cZ cB cS κ ((wr (wr σ 7 y0.toNatClampNeg y1) 8 y0.toNatClampNeg y2)) sc ad) ad H := hP.kept (fun t i hi => oq _ (hP.2.1 t i hi).2)
      refine lv_goto (tgt := 26) hx hb dL_hand_19 (by decide) ?_
      refine lv_iconst (v := 0) hx hb dL_hand_26 (by decide) ?_
      exact W.iret (v := 0) hx hb hr (fun t ht hW => ⟨⟨0, (ad, sc, vp_updL f 0 1), rfl, ⟨by rw [hcr]; rfl, fun _ => (row_0 (if_neg (by rw [← hrv]; exact c_1)).symm), rfl⟩, ⟨by rw [if_pos hcr]; rw [← ht] at hP; exact hP, by rw [ht]; exact hat⟩⟩, hS.F ht⟩) hS.2.2 dL_hand_27

set_option maxHeartbeats 4000000 in
set_option maxRecDepth 100000 in
theorem k_L_at {l : Launch} {D : va_G} {cI cZ cB cS : ClassId} {A : Nat → Prop} {cL : ClassId} (κ : Nat → Nat) (σ sc : Nat → Nat → Int32) (ad : Nat → Nat → Nat) (o : Nat) (f : Nat → Int64) (hst : l.stackTraces = false) (hn : κ 0 ≤ 40) (hk : kok (κ 0) σ) (y0 : Int32) : Met l yL_at wsL_at ({ frames := 7, cells := 1, slots := 6, locals := 111 } : Room) (lPc D cI cZ cB cS cL A (cDm κ) (cEn cI cZ cB cS κ σ sc ad) ad o f [.ref ((ad 0 0)), .int y0, .ref o]) (lQ D cI cZ cB cS cL A o (cOne (κ 0) y0) ((nI (lineF (κ 0) σ y0.toNatClampNeg)).toInt64) κ σ (ad 0 0)) 1 6 A := by
  refine Met.ofWX (cc := cL_at) (maxL := 4) (ret := (some .int)) (by decide) rfl ?_
  intro p e s m args below meth c s₁ B hml htab hv
  obtain ⟨rfl, hP, hat, ho, ⟨hE, hKL, hNc⟩, hA⟩ := hv
  have hx := B.exec
  have hb := B.bytes
  have hr := B.returns
  have hts := atoms_spec (ws := wsL_at) B.pre
  have hown : s.vm.findClass RL = some m.cls := findClass_of_methodNamed B.named
  have hK := hE.1
  have hS : va_S A s.heap s.heap [] := va_S.rf
  have hol : o < s.heap.size := hat.lt
  have hA1 : ∀ q : Nat, s.heap.size ≤ q → A q ∧ q ≠ o := fun q hq => ⟨hA q hq, by omega⟩
  have hl := lv_entry ([.ref ((ad 0 0)), .int y0, .ref o]) (n := 4) (Nat.le_of_ble_eq_true rfl)
  rw [lg_entry_eq]
  generalize (lg_sl ([.ref ((ad 0 0)), .int y0, .ref o]) ++ List.replicate (4 - (lg_sl ([.ref ((ad 0 0)), .int y0, .ref o])).length) Slot.unset).toArray = ls at hl ⊢
  have hl : lv_has ls 4 [(0, .ref ((ad 0 0))), (1, .int y0), (2, .ref o)] := hl
  refine lv_aload_n hx hb dL_at_0 rfl (lv_at hl 2 rfl) ?_
  refine lv_iconst (v := 0) hx hb dL_at_1 (by decide) ?_
  refine lv_aload_n hx hb dL_at_2 rfl (lv_at hl 0 rfl) ?_
  refine lv_iload_n hx hb dL_at_3 rfl (lv_at hl 1 rfl) ?_
  refine vx_calli (vx_runV (As := [.int y0]) (rest := [.int 0, .ref o]) ⟨hx, hb, hml, hown, hts⟩ (k_X3_at (l := l) (D := D) (cI := cI) (cZ := cZ) (cB := cB) (cS := cS) (A := (fun q => A q ∧ q ≠ o)) κ σ sc ad hst hn hk y0) (cwV 1 hts gL_at_X3_at rfl rfl rfl (by decide +kernel) ⟨(Nat.le_of_ble_eq_true rfl), (Nat.le_of_ble_eq_true rfl)⟩) (lPreV (hE.narrow (fun q h => h.1)) (Nat.le_refl _) (fun _ _ _ => rfl) hA1 hP (gw_recv hK hP 0 0 (cDf (by decide)) rfl rfl)) rfl rfl hl.1 rfl (lv_room (Nat.le_of_ble_eq_true rfl)) dL_at_4 ⟨(Nat.le_of_ble_eq_true rfl), (Nat.le_of_ble_eq_true rfl)⟩) hS (fun q _ h9 => h9.1) (fun q h9 => h9.1) (fun q _ h9 => h9.1) (fun E ce q9 u9 t9 H locs ht9 hvm9 hp9 hB9 hz9 hk9 hS hce hcv hcl => ?_) (fun r u9 t9 H locs ht9 hvm9 hw hB9 hz9 hk9 hS => ?_)
  · obtain ⟨hP9, rfl, hcr⟩ := hB9
    refine vx_catch (own := RL) (name := g_IA) hown [] ⟨0, 9, 12, 13⟩ [] (htab.trans rfl) (fun z hz => absurd hz List.not_mem_nil) rfl (by decide) (hts (.classLink RL 13 g_IA) (by decide +kernel)) (va_Nw.use rfl hE.2.2.2.2.2.1.1) hce hcv hcl ?_
    refine lv_astore_n (lv' := [(3, .ref q9), (0, .ref ((ad 0 0))), (1, .int y0), (2, .ref o)]) hx hb dL_at_12 rfl hl (by decide) rfl (fun ls hl => ?_)
    refine lv_iconst (v := 1) hx hb dL_at_13 (by decide) ?_
    have hP : gw_P D vwCl (fun q => A q ∧ q ≠ o) (cDm κ) (cEn cI cZ cB cS κ σ u9 ad) ad H := by rw [← ht9]; exact hP9
    have hat : va_at D vwCl (o, oRow cL f) H := hat.kept (hk9 o hol (fun z => z.2 rfl))
    exact W.iret (v := 1) hx hb hr (fun t ht hW => ⟨⟨1, (ad, u9, f), rfl, ⟨by rw [hcr]; rfl, fun z => absurd (hcr.symm.trans z) (by decide), rfl⟩, ⟨by rw [← ht] at hP; exact hP, by rw [ht]; exact hat⟩⟩, hS.F ht⟩) hS.2.2 dL_at_14
  · obtain ⟨hcr, hrv⟩ := hw
    have hP : gw_P D vwCl (fun q => A q ∧ q ≠ o) (cDm κ) (cEn cI cZ cB cS κ σ u9 ad) ad H := by rw [← ht9]; exact hB9
    have hat : va_at D vwCl (o, oRow cL f) H := hat.kept (hk9 o hol (fun z => z.2 rfl))
    refine lv_i2l (v := r.toInt64) hx hb dL_at_7 rfl ?_
    refine gl_last (f := f) (o := o) hx hb hKL hat hS ho (v := r.toInt64) dL_at_8 (fun H locs1 hat oq hS => ?_)
    have hP : gw_P D vwCl (fun q => A q ∧ q ≠ o) (cDm κ) (cEn cI cZ cB cS κ σ u9 ad) ad H := hP.kept (fun t i hi => oq _ (hP.2.1 t i hi).2)
    refine lv_goto (tgt := 15) hx hb dL_at_9 (by decide) ?_
    refine lv_iconst (v := 0) hx hb dL_at_15 (by decide) ?_
    exact W.iret (v := 0) hx hb hr (fun t ht hW => ⟨⟨0, (ad, u9, vp_updL f 0 r.toInt64), rfl, ⟨by rw [hcr]; rfl, fun _ => (row_0 (congrArg Int32.toInt64 hrv)), rfl⟩, ⟨by rw [← ht] at hP; exact hP, by rw [ht]; exact hat⟩⟩, hS.F ht⟩) hS.2.2 dL_at_16

set_option maxHeartbeats 4000000 in
set_option maxRecDepth 100000 in
theorem k_L_run {l : Launch} {D : va_G} {cI cZ cB cS : ClassId} {A : Nat → Prop} {cL : ClassId} (κ : Nat → Nat) (σ sc : Nat → Nat → Int32) (ad : Nat → Nat → Nat) (o : Nat) (f : Nat → Int64) (hst : l.stackTraces = false) (hn : κ 0 ≤ 40) (h3 : κ 3 ≤ 3000) (hk : kok (κ 0) σ) (y0 : Int32) : Met l yL_run wsL_run ({ frames := 7, cells := 1, slots := 6, locals := 135 } : Room) (lPc D cI cZ cB cS cL A (cDm κ) (cEn cI cZ cB cS κ σ sc ad) ad o f [.ref ((ad 0 0)), .int y0, .ref o]) (lQ D cI cZ cB cS cL A o (cRun κ σ y0) ((nI (κ 3 + y0.toNatClampNeg)).toInt64) ((runR κ σ y0).1) ((runR κ σ y0).2) (ad 0 0)) 1 6 A := by
  refine Met.ofWX (cc := cL_run) (maxL := 4) (ret := (some .int)) (by decide) rfl ?_
  intro p e s m args below meth c s₁ B hml htab hv
  obtain ⟨rfl, hP, hat, ho, ⟨hE, hKL, hNc⟩, hA⟩ := hv
  have hx := B.exec
  have hb := B.bytes
  have hr := B.returns
  have hts := atoms_spec (ws := wsL_run) B.pre
  have hown : s.vm.findClass RL = some m.cls := findClass_of_methodNamed B.named
  have hK := hE.1
  have hS : va_S A s.heap s.heap [] := va_S.rf
  have hol : o < s.heap.size := hat.lt
  have hA1 : ∀ q : Nat, s.heap.size ≤ q → A q ∧ q ≠ o := fun q hq => ⟨hA q hq, by omega⟩
  have hl := lv_entry ([.ref ((ad 0 0)), .int y0, .ref o]) (n := 4) (Nat.le_of_ble_eq_true rfl)
  rw [lg_entry_eq]
  generalize (lg_sl ([.ref ((ad 0 0)), .int y0, .ref o]) ++ List.replicate (4 - (lg_sl ([.ref ((ad 0 0)), .int y0, .ref o])).length) Slot.unset).toArray = ls at hl ⊢
  have hl : lv_has ls 4 [(0, .ref ((ad 0 0))), (1, .int y0), (2, .ref o)] := hl
  refine lv_aload_n hx hb dL_run_0 rfl (lv_at hl 2 rfl) ?_
  refine lv_iconst (v := 0) hx hb dL_run_1 (by decide) ?_
  refine lv_aload_n hx hb dL_run_2 rfl (lv_at hl 0 rfl) ?_
  refine lv_iload_n hx hb dL_run_3 rfl (lv_at hl 1 rfl) ?_
  refine vx_calli (vx_runV (As := [.int y0]) (rest := [.int 0, .ref o]) ⟨hx, hb, hml, hown, hts⟩ (k_X3_run (l := l) (D := D) (cI := cI) (cZ := cZ) (cB := cB) (cS := cS) (A := (fun q => A q ∧ q ≠ o)) κ σ sc ad hst hn h3 hk y0) (cwV 1 hts gL_run_X3_run rfl rfl rfl (by decide +kernel) ⟨(Nat.le_of_ble_eq_true rfl), (Nat.le_of_ble_eq_true rfl)⟩) (lPreV (hE.narrow (fun q h => h.1)) (Nat.le_refl _) (fun _ _ _ => rfl) hA1 hP (gw_recv hK hP 0 0 (cDf (by decide)) rfl rfl)) rfl rfl hl.1 rfl (lv_room (Nat.le_of_ble_eq_true rfl)) dL_run_4 ⟨(Nat.le_of_ble_eq_true rfl), (Nat.le_of_ble_eq_true rfl)⟩) hS (fun q _ h9 => h9.1) (fun q h9 => h9.1) (fun q _ h9 => h9.1) (fun E ce q9 u9 t9 H locs ht9 hvm9 hp9 hB9 hz9 hk9 hS hce hcv hcl => ?_) (fun r u9 t9 H locs ht9 hvm9 hw hB9 hz9 hk9 hS => ?_)
  · obtain ⟨hP9, ⟨rfl, hcr⟩ | ⟨rfl, hcr⟩⟩ := hB9
    · refine vx_catch (own := RL) (name := g_IA) hown [] ⟨0, 9, 12, 13⟩ [⟨0, 9, 15, 15⟩] (htab.trans rfl) (fun z hz => absurd hz List.not_mem_nil) rfl (by decide) (hts (.classLink RL 13 g_IA) (by decide +kernel)) (va_Nw.use rfl hE.2.2.2.2.2.1.1) hce hcv hcl ?_
      refine lv_astore_n (lv' := [(3, .ref q9), (0, .ref ((ad 0 0))), (1, .int y0), (2, .ref o)]) hx hb dL_run_12 rfl hl (by decide) rfl (fun ls hl => ?_)
      refine lv_iconst (v := 1) hx hb dL_run_13 (by decide) ?_
      have hP : gw_P D vwCl (fun q => A q ∧ q ≠ o) (cDm κ) (cEn cI cZ cB cS κ σ u9 ad) ad H := by rw [← ht9]; exact hP9
      have hat : va_at D vwCl (o, oRow cL f) H := hat.kept (hk9 o hol (fun z => z.2 rfl))
      have eR : runR κ σ y0 = (κ, σ) := if_neg (by rw [hcr]; decide)
      exact W.iret (v := 1) hx hb hr (fun t ht hW => ⟨⟨1, (ad, u9, f), rfl, ⟨by rw [hcr]; rfl, fun z => absurd (hcr.symm.trans z) (by decide), rfl⟩, ⟨by rw [eR]; rw [← ht] at hP; exact hP, by rw [ht]; exact hat⟩⟩, hS.F ht⟩) hS.2.2 dL_run_14
    · refine vx_catch (own := RL) (name := g_IS) hown [⟨0, 9, 12, 13⟩] ⟨0, 9, 15, 15⟩ [] (htab.trans rfl) (fun z hz => by rw [List.mem_singleton] at hz; subst hz; exact Or.inr ⟨by decide, g_IA, hts (.classLink RL 13 g_IA) (by decide +kernel), hNc⟩) rfl (by decide) (hts (.classLink RL 15 g_IS) (by decide +kernel)) (va_Nw.use rfl hE.2.2.2.2.2.1.2) hce hcv hcl ?_
      refine lv_astore_n (lv' := [(3, .ref q9), (0, .ref ((ad 0 0))), (1, .int y0), (2, .ref o)]) hx hb dL_run_15 rfl hl (by decide) rfl (fun ls hl => ?_)
      refine lv_iconst (v := 2) hx hb dL_run_16 (by decide) ?_
      have hP : gw_P D vwCl (fun q => A q ∧ q ≠ o) (cDm κ) (cEn cI cZ cB cS κ σ u9 ad) ad H := by rw [← ht9]; exact hP9
      have hat : va_at D vwCl (o, oRow cL f) H := hat.kept (hk9 o hol (fun z => z.2 rfl))
      have eR : runR κ σ y0 = (κ, σ) := if_neg (by rw [hcr]; decide)
      exact W.iret (v := 2) hx hb hr (fun t ht hW => ⟨⟨2, (ad, u9, f), rfl, ⟨by rw [hcr]; rfl, fun z => absurd (hcr.symm.trans z) (by decide), rfl⟩, ⟨by rw [eR]; rw [← ht] at hP; exact hP, by rw [ht]; exact hat⟩⟩, hS.F ht⟩) hS.2.2 dL_run_17
  · obtain ⟨hcr, hrv⟩ := hw
    have hP : gw_P D vwCl (fun q => A q ∧ q ≠ o) (cDm ((runM (κ 0) (lineF (κ 0) σ) y0.toNatClampNeg (κ, σ)).1)) (cEn cI cZ cB cS ((runM (κ 0) (lineF (κ 0) σ) y0.toNatClampNeg (κ, σ)).1) ((runM (κ 0) (lineF (κ 0) σ) y0.toNatClampNeg (κ, σ)).2) u9 ad) ad H := by rw [← ht9]; exact hB9
    have hat : va_at D vwCl (o, oRow cL f) H := hat.kept (hk9 o hol (fun z => z.2 rfl))
    refine lv_i2l (v := r.toInt64) hx hb dL_run_7 rfl ?_
    refine gl_last (f := f) (o := o) hx hb hKL hat hS ho (v := r.toInt64) dL_run_8 (fun H locs1 hat oq hS => ?_)
    have hP : gw_P D vwCl (fun q => A q ∧ q ≠ o) (cDm ((runM (κ 0) (lineF (κ 0) σ) y0.toNatClampNeg (κ, σ)).1)) (cEn cI cZ cB cS ((runM (κ 0) (lineF (κ 0) σ) y0.toNatClampNeg (κ, σ)).1) ((runM (κ 0) (lineF (κ 0) σ) y0.toNatClampNeg (κ, σ)).2) u9 ad) ad H := hP.kept (fun t i hi => oq _ (hP.2.1 t i hi).2)
    refine lv_goto (tgt := 18) hx hb dL_run_9 (by decide) ?_
    refine lv_iconst (v := 0) hx hb dL_run_18 (by decide) ?_
    have eR : runR κ σ y0 = (runM (κ 0) (lineF (κ 0) σ) y0.toNatClampNeg (κ, σ)) := if_pos hcr
    exact W.iret (v := 0) hx hb hr (fun t ht hW => ⟨⟨0, (ad, u9, vp_updL f 0 r.toInt64), rfl, ⟨by rw [hcr]; rfl, fun _ => (row_0 (congrArg Int32.toInt64 hrv)), rfl⟩, ⟨by rw [eR]; rw [← ht] at hP; exact hP, by rw [ht]; exact hat⟩⟩, hS.F ht⟩) hS.2.2 dL_run_19

set_option maxHeartbeats 4000000 in
set_option maxRecDepth 100000 in
theorem k_L_out {l : Launch} {D : va_G} {cI cZ cB cS : ClassId} {A : Nat → Prop} {cL : ClassId} (κ : Nat → Nat) (σ sc : Nat → Nat → Int32) (ad : Nat → Nat → Nat) (o : Nat) (f : Nat → Int64) (hst : l.stackTraces = false) (hn : κ 0 ≤ 40) (y0 : Int32) : Met l yL_out wsL_out ({ frames := 8, cells := 1, slots := 6, locals := 132 } : Room) (lPc D cI cZ cB cS cL A (cDm κ) (cEn cI cZ cB cS κ σ sc ad) ad o f [.ref ((ad 0 0)), .int y0, .ref o]) (lQ D cI cZ cB cS cL A o (cOne (κ 0) y0) ((σ 4 y0.toNatClampNeg).toInt64) κ σ (ad 0 0)) 1 6 A := by
  refine Met.ofWX (cc := cL_out) (maxL := 4) (ret := (some .int)) (by decide) rfl ?_
  intro p e s m args below meth c s₁ B hml htab hv
  obtain ⟨rfl, hP, hat, ho, ⟨hE, hKL, hNc⟩, hA⟩ := hv
  have hx := B.exec
  have hb := B.bytes
  have hr := B.returns
  have hts := atoms_spec (ws := wsL_out) B.pre
  have hown : s.vm.findClass RL = some m.cls := findClass_of_methodNamed B.named
  have hK := hE.1
  have hS : va_S A s.heap s.heap [] := va_S.rf
  have hol : o < s.heap.size := hat.lt
  have hA1 : ∀ q : Nat, s.heap.size ≤ q → A q ∧ q ≠ o := fun q hq => ⟨hA q hq, by omega⟩
  have hl := lv_entry ([.ref ((ad 0 0)), .int y0, .ref o]) (n := 4) (Nat.le_of_ble_eq_true rfl)
  rw [lg_entry_eq]
  generalize (lg_sl ([.ref ((ad 0 0)), .int y0, .ref o]) ++ List.replicate (4 - (lg_sl ([.ref ((ad 0 0)), .int y0, .ref o])).length) Slot.unset).toArray = ls at hl ⊢
  have hl : lv_has ls 4 [(0, .ref ((ad 0 0))), (1, .int y0), (2, .ref o)] := hl
  refine lv_aload_n hx hb dL_out_0 rfl (lv_at hl 2 rfl) ?_
  refine lv_iconst (v := 0) hx hb dL_out_1 (by decide) ?_
  refine lv_aload_n hx hb dL_out_2 rfl (lv_at hl 0 rfl) ?_
  refine lv_iload_n hx hb dL_out_3 rfl (lv_at hl 1 rfl) ?_
  refine vx_calli (vx_runV (As := [.int y0]) (rest := [.int 0, .ref o]) ⟨hx, hb, hml, hown, hts⟩ (k_X3_out (l := l) (D := D) (cI := cI) (cZ := cZ) (cB := cB) (cS := cS) (A := (fun q => A q ∧ q ≠ o)) κ σ sc ad hst hn y0) (cwV 1 hts gL_out_X3_out rfl rfl rfl (by decide +kernel) ⟨(Nat.le_of_ble_eq_true rfl), (Nat.le_of_ble_eq_true rfl)⟩) (lPreV (hE.narrow (fun q h => h.1)) (Nat.le_refl _) (fun _ _ _ => rfl) hA1 hP (gw_recv hK hP 0 0 (cDf (by decide)) rfl rfl)) rfl rfl hl.1 rfl (lv_room (Nat.le_of_ble_eq_true rfl)) dL_out_4 ⟨(Nat.le_of_ble_eq_true rfl), (Nat.le_of_ble_eq_true rfl)⟩) hS (fun q _ h9 => h9.1) (fun q h9 => h9.1) (fun q _ h9 => h9.1) (fun E ce q9 u9 t9 H locs ht9 hvm9 hp9 hB9 hz9 hk9 hS hce hcv hcl => ?_) (fun r u9 t9 H locs ht9 hvm9 hw hB9 hz9 hk9 hS => ?_)
  · obtain ⟨hP9, rfl, hcr⟩ := hB9
    refine vx_catch (own := RL) (name := g_IA) hown [] ⟨0, 9, 12, 13⟩ [] (htab.trans rfl) (fun z hz => absurd hz List.not_mem_nil) rfl (by decide) (hts (.classLink RL 13 g_IA) (by decide +kernel)) (va_Nw.use rfl hE.2.2.2.2.2.1.1) hce hcv hcl ?_
    refine lv_astore_n (lv' := [(3, .ref q9), (0, .ref ((ad 0 0))), (1, .int y0), (2, .ref o)]) hx hb dL_out_12 rfl hl (by decide) rfl (fun ls hl => ?_)
    refine lv_iconst (v := 1) hx hb dL_out_13 (by decide) ?_
    have hP : gw_P D vwCl (fun q => A q ∧ q ≠ o) (cDm κ) (cEn cI cZ cB cS κ σ sc ad) ad H := by rw [← ht9]; exact hP9
    have hat : va_at D vwCl (o, oRow cL f) H := hat.kept (hk9 o hol (fun z => z.2 rfl))
    exact W.iret (v := 1) hx hb hr (fun t ht hW => ⟨⟨1, (ad, sc, f), rfl, ⟨by rw [hcr]; rfl, fun z => absurd (hcr.symm.trans z) (by decide), rfl⟩, ⟨by rw [← ht] at hP; exact hP, by rw [ht]; exact hat⟩⟩, hS.F ht⟩) hS.2.2 dL_out_14
  · obtain ⟨hcr, hrv⟩ := hw
    have hP : gw_P D vwCl (fun q => A q ∧ q ≠ o) (cDm κ) (cEn cI cZ cB cS κ σ sc ad) ad H := by rw [← ht9]; exact hB9
    have hat : va_at D vwCl (o, oRow cL f) H := hat.kept (hk9 o hol (fun z => z.2 rfl))
    refine lv_i2l (v := r.toInt64) hx hb dL_out_7 rfl ?_
    refine gl_last (f := f) (o := o) hx hb hKL hat hS ho (v := r.toInt64) dL_out_8 (fun H locs1 hat oq hS => ?_)
    have hP : gw_P D vwCl (fun q => A q ∧ q ≠ o) (cDm κ) (cEn cI cZ cB cS κ σ sc ad) ad H := hP.kept (fun t i hi => oq _ (hP.2.1 t i hi).2)
    refine lv_goto (tgt := 15) hx hb dL_out_9 (by decide) ?_
    refine lv_iconst (v := 0) hx hb dL_out_15 (by decide) ?_
    exact W.iret (v := 0) hx hb hr (fun t ht hW => ⟨⟨0, (ad, sc, vp_updL f 0 r.toInt64), rfl, ⟨by rw [hcr]; rfl, fun _ => (row_0 (congrArg Int32.toInt64 hrv)), rfl⟩, ⟨by rw [← ht] at hP; exact hP, by rw [ht]; exact hat⟩⟩, hS.F ht⟩) hS.2.2 dL_out_16

set_option maxHeartbeats 4000000 in
set_option maxRecDepth 100000 in
theorem k_L_state {l : Launch} {D : va_G} {cI cZ cB cS : ClassId} {A : Nat → Prop} {cL : ClassId} (κ : Nat → Nat) (σ sc : Nat → Nat → Int32) (ad : Nat → Nat → Nat) (o : Nat) (f : Nat → Int64) (hst : l.stackTraces = false) (hn : κ 0 ≤ 40) (y0 y1 : Int32) : Met l yL_state wsL_state ({ frames := 8, cells := 2, slots := 12, locals := 134 } : Room) (lPc D cI cZ cB cS cL A (cDm κ) (cEn cI cZ cB cS κ σ sc ad) ad o f [.ref ((ad 0 0)), .int y0, .int y1, .ref o]) (lQ D cI cZ cB cS cL A o (cTwo (κ 0) 2 y0 y1) ((if y1 = 0 then σ 5 y0.toNatClampNeg else σ 6 y0.toNatClampNeg).toInt64) κ σ (ad 0 0)) 2 12 A := by
  refine Met.ofWX (cc := cL_state) (maxL := 5) (ret := (some .int)) (by decide) rfl ?_
  intro p e s m args below meth c s₁ B hml htab hv
  obtain ⟨rfl, hP, hat, ho, ⟨hE, hKL, hNc⟩, hA⟩ := hv
  have hx := B.exec
  have hb := B.bytes
  have hr := B.returns
  have hts := atoms_spec (ws := wsL_state) B.pre
  have hown : s.vm.findClass RL = some m.cls := findClass_of_methodNamed B.named
  have hK := hE.1
  have hS : va_S A s.heap s.heap [] := va_S.rf
  have hol : o < s.heap.size := hat.lt
  have hA1 : ∀ q : Nat, s.heap.size ≤ q → A q ∧ q ≠ o := fun q hq => ⟨hA q hq, by omega⟩
  have hl := lv_entry ([.ref ((ad 0 0)), .int y0, .int y1, .ref o]) (n := 5) (Nat.le_of_ble_eq_true rfl)
  rw [lg_entry_eq]
  generalize (lg_sl ([.ref ((ad 0 0)), .int y0, .int y1, .ref o]) ++ List.replicate (5 - (lg_sl ([.ref ((ad 0 0)), .int y0, .int y1, .ref o])).length) Slot.unset).toArray = ls at hl ⊢
  have hl : lv_has ls 5 [(0, .ref ((ad 0 0))), (1, .int y0), (2, .int y1), (3, .ref o)] := hl
  refine lv_aload_n hx hb dL_state_0 rfl (lv_at hl 3 rfl) ?_
  refine lv_iconst (v := 0) hx hb dL_state_1 (by decide) ?_
  refine lv_aload_n hx hb dL_state_2 rfl (lv_at hl 0 rfl) ?_
  refine lv_iload_n hx hb dL_state_3 rfl (lv_at hl 1 rfl) ?_
  refine lv_iload_n hx hb dL_state_4 rfl (lv_at hl 2 rfl) ?_
  refine vx_calli (vx_runV (As := [.int y0, .int y1]) (rest := [.int 0, .ref o]) ⟨hx, hb, hml, hown, hts⟩ (k_X3_state (l := l) (D := D) (cI := cI) (cZ := cZ) (cB := cB) (cS := cS) (A := (fun q => A q ∧ q ≠ o)) κ σ sc ad hst hn y0 y1) (cwV 2 hts gL_state_X3_state rfl rfl rfl (by decide +kernel) ⟨(Nat.le_of_ble_eq_true rfl), (Nat.le_of_ble_eq_true rfl)⟩) (lPreV (hE.narrow (fun q h => h.1)) (Nat.le_refl _) (fun _ _ _ => rfl) hA1 hP (gw_recv hK hP 0 0 (cDf (by decide)) rfl rfl)) rfl rfl hl.1 rfl (lv_room (Nat.le_of_ble_eq_true rfl)) dL_state_5 ⟨(Nat.le_of_ble_eq_true rfl), (Nat.le_of_ble_eq_true rfl)⟩) hS (fun q _ h9 => h9.1) (fun q h9 => h9.1) (fun q _ h9 => h9.1) (fun E ce q9 u9 t9 H locs ht9 hvm9 hp9 hB9 hz9 hk9 hS hce hcv hcl => ?_) (fun r u9 t9 H locs ht9 hvm9 hw hB9 hz9 hk9 hS => ?_)
  · obtain ⟨hP9, rfl, hcr⟩ := hB9
    refine vx_catch (own := RL) (name := g_IA) hown [] ⟨0, 10, 13, 13⟩ [] (htab.trans rfl) (fun z hz => absurd hz List.not_mem_nil) rfl (by decide) (hts (.classLink RL 13 g_IA) (by decide +kernel)) (va_Nw.use rfl hE.2.2.2.2.2.1.1) hce hcv hcl ?_
    refine lv_astore (lv' := [(4, .ref q9), (0, .ref ((ad 0 0))), (1, .int y0), (2, .int y1), (3, .ref o)]) hx hb dL_state_13 hl (by decide) rfl (fun ls hl => ?_)
    refine lv_iconst (v := 1) hx hb dL_state_15 (by decide) ?_
    have hP : gw_P D vwCl (fun q => A q ∧ q ≠ o) (cDm κ) (cEn cI cZ cB cS κ σ sc ad) ad H := by rw [← ht9]; exact hP9
    have hat : va_at D vwCl (o, oRow cL f) H := hat.kept (hk9 o hol (fun z => z.2 rfl))
    exact W.iret (v := 1) hx hb hr (fun t ht hW => ⟨⟨1, (ad, sc, f), rfl, ⟨by rw [hcr]; rfl, fun z => absurd (hcr.symm.trans z) (by decide), rfl⟩, ⟨by rw [← ht] at hP; exact hP, by rw [ht]; exact hat⟩⟩, hS.F ht⟩) hS.2.2 dL_state_16
  · obtain ⟨hcr, hrv⟩ := hw
    have hP : gw_P D vwCl (fun q => A q ∧ q ≠ o) (cDm κ) (cEn cI cZ cB cS κ σ sc ad) ad H := by rw [← ht9]; exact hB9
    have hat : va_at D vwCl (o, oRow cL f) H := hat.kept (hk9 o hol (fun z => z.2 rfl))
    refine lv_i2l (v := r.toInt64) hx hb dL_state_8 rfl ?_
    refine gl_last (f := f) (o := o) hx hb hKL hat hS ho (v := r.toInt64) dL_state_9 (fun H locs1 hat oq hS => ?_)
    have hP : gw_P D vwCl (fun q => A q ∧ q ≠ o) (cDm κ) (cEn cI cZ cB cS κ σ sc ad) ad H := hP.kept (fun t i hi => oq _ (hP.2.1 t i hi).2)
    refine lv_goto (tgt := 17) hx hb dL_state_10 (by decide) ?_
    refine lv_iconst (v := 0) hx hb dL_state_17 (by decide) ?_
    exact W.iret (v := 0) hx hb hr (fun t ht hW => ⟨⟨0, (ad, sc, vp_updL f 0 r.toInt64), rfl, ⟨by rw [hcr]; rfl, fun _ => (row_0 (congrArg Int32.toInt64 hrv)), rfl⟩, ⟨by rw [← ht] at hP; exact hP, by rw [ht]; exact hat⟩⟩, hS.F ht⟩) hS.2.2 dL_state_18

set_option maxHeartbeats 4000000 in
set_option maxRecDepth 100000 in
theorem k_L_failed {l : Launch} {D : va_G} {cI cZ cB cS : ClassId} {A : Nat → Prop} {cL : ClassId} (κ : Nat → Nat) (σ sc : Nat → Nat → Int32) (ad : Nat → Nat → Nat) (o : Nat) (f : Nat → Int64) (hst : l.stackTraces = false)  (y0 : Int32) : Met l yL_failed wsL_failed ({ frames := 7, cells := 1, slots := 6, locals := 111 } : Room) (lPc D cI cZ cB cS cL A (cDm κ) (cEn cI cZ cB cS κ σ sc ad) ad o f [.ref ((ad 0 0)), .int y0, .ref o]) (lQ D cI cZ cB cS cL A o (cOne 4 y0) ((σ 22 y0.toNatClampNeg).toInt64) κ σ (ad 0 0)) 1 6 A := by
  refine Met.ofWX (cc := cL_failed) (maxL := 4) (ret := (some .int)) (by decide) rfl ?_
  intro p e s m args below meth c s₁ B hml htab hv
  obtain ⟨rfl, hP, hat, ho, ⟨hE, hKL, hNc⟩, hA⟩ := hv
  have hx := B.exec
  have hb := B.bytes
  have hr := B.returns
  have hts := atoms_spec (ws := wsL_failed) B.pre
  have hown : s.vm.findClass RL = some m.cls := findClass_of_methodNamed B.named
  have hK := hE.1
  have hS : va_S A s.heap s.heap [] := va_S.rf
  have hol : o < s.heap.size := hat.lt
  have hA1 : ∀ q : Nat, s.heap.size ≤ q → A q ∧ q ≠ o := fun q hq => ⟨hA q hq, by omega⟩
  have hl := lv_entry ([.ref ((ad 0 0)), .int y0, .ref o]) (n := 4) (Nat.le_of_ble_eq_true rfl)
  rw [lg_entry_eq]
  generalize (lg_sl ([.ref ((ad 0 0)), .int y0, .ref o]) ++ List.replicate (4 - (lg_sl ([.ref ((ad 0 0)), .int y0, .ref o])).length) Slot.unset).toArray = ls at hl ⊢
  have hl : lv_has ls 4 [(0, .ref ((ad 0 0))), (1, .int y0), (2, .ref o)] := hl
  refine lv_aload_n hx hb dL_failed_0 rfl (lv_at hl 2 rfl) ?_
  refine lv_iconst (v := 0) hx hb dL_failed_1 (by decide) ?_
  refine lv_aload_n hx hb dL_failed_2 rfl (lv_at hl 0 rfl) ?_
  refine lv_iload_n hx hb dL_failed_3 rfl (lv_at hl 1 rfl) ?_
  refine vx_calli (vx_runV (As := [.int y0]) (rest := [.int 0, .ref o]) ⟨hx, hb, hml, hown, hts⟩ (k_X3_failed (l := l) (D := D) (cI := cI) (cZ := cZ) (cB := cB) (cS := cS) (A := (fun q => A q ∧ q ≠ o)) κ σ sc ad hst  y0) (cwV 1 hts gL_failed_X3_failed rfl rfl rfl (by decide +kernel) ⟨(Nat.le_of_ble_eq_true rfl), (Nat.le_of_ble_eq_true rfl)⟩) (lPreV (hE.narrow (fun q h => h.1)) (Nat.le_refl _) (fun _ _ _ => rfl) hA1 hP (gw_recv hK hP 0 0 (cDf (by decide)) rfl rfl)) rfl rfl hl.1 rfl (lv_room (Nat.le_of_ble_eq_true rfl)) dL_failed_4 ⟨(Nat.le_of_ble_eq_true rfl), (Nat.le_of_ble_eq_true rfl)⟩) hS (fun q _ h9 => h9.1) (fun q h9 => h9.1) (fun q _ h9 => h9.1) (fun E ce q9 u9 t9 H locs ht9 hvm9 hp9 hB9 hz9 hk9 hS hce hcv hcl => ?_) (fun r u9 t9 H locs ht9 hvm9 hw hB9 hz9 hk9 hS => ?_)
  · obtain ⟨hP9, rfl, hcr⟩ := hB9
    refine vx_catch (own := RL) (name := g_IA) hown [] ⟨0, 9, 12, 13⟩ [] (htab.trans rfl) (fun z hz => absurd hz List.not_mem_nil) rfl (by decide) (hts (.classLink RL 13 g_IA) (by decide +kernel)) (va_Nw.use rfl hE.2.2.2.2.2.1.1) hce hcv hcl ?_
    refine lv_astore_n (lv' := [(3, .ref q9), (0, .ref ((ad 0 0))), (1, .int y0), (2, .ref o)]) hx hb dL_failed_12 rfl hl (by decide) rfl (fun ls hl => ?_)
    refine lv_iconst (v := 1) hx hb dL_failed_13 (by decide) ?_
    have hP : gw_P D vwCl (fun q => A q ∧ q ≠ o) (cDm κ) (cEn cI cZ cB cS κ σ sc ad) ad H := by rw [← ht9]; exact hP9
    have hat : va_at D vwCl (o, oRow cL f) H := hat.kept (hk9 o hol (fun z => z.2 rfl))
    exact W.iret (v := 1) hx hb hr (fun t ht hW => ⟨⟨1, (ad, sc, f), rfl, ⟨by rw [hcr]; rfl, fun z => absurd (hcr.symm.trans z) (by decide), rfl⟩, ⟨by rw [← ht] at hP; exact hP, by rw [ht]; exact hat⟩⟩, hS.F ht⟩) hS.2.2 dL_failed_14
  · obtain ⟨hcr, hrv⟩ := hw
    have hP : gw_P D vwCl (fun q => A q ∧ q ≠ o) (cDm κ) (cEn cI cZ cB cS κ σ sc ad) ad H := by rw [← ht9]; exact hB9
    have hat : va_at D vwCl (o, oRow cL f) H := hat.kept (hk9 o hol (fun z => z.2 rfl))
    refine lv_i2l (v := r.toInt64) hx hb dL_failed_7 rfl ?_
    refine gl_last (f := f) (o := o) hx hb hKL hat hS ho (v := r.toInt64) dL_failed_8 (fun H locs1 hat oq hS => ?_)
    have hP : gw_P D vwCl (fun q => A q ∧ q ≠ o) (cDm κ) (cEn cI cZ cB cS κ σ sc ad) ad H := hP.kept (fun t i hi => oq _ (hP.2.1 t i hi).2)
    refine lv_goto (tgt := 15) hx hb dL_failed_9 (by decide) ?_
    refine lv_iconst (v := 0) hx hb dL_failed_15 (by decide) ?_
    exact W.iret (v := 0) hx hb hr (fun t ht hW => ⟨⟨0, (ad, sc, vp_updL f 0 r.toInt64), rfl, ⟨by rw [hcr]; rfl, fun _ => (row_0 (congrArg Int32.toInt64 hrv)), rfl⟩, ⟨by rw [← ht] at hP; exact hP, by rw [ht]; exact hat⟩⟩, hS.F ht⟩) hS.2.2 dL_failed_16

set_option maxHeartbeats 4000000 in
set_option maxRecDepth 100000 in
theorem k_L_failure {l : Launch} {D : va_G} {cI cZ cB cS : ClassId} {A : Nat → Prop} {cL : ClassId} (κ : Nat → Nat) (σ sc : Nat → Nat → Int32) (ad : Nat → Nat → Nat) (o : Nat) (f : Nat → Int64) (hst : l.stackTraces = false) (h2 : κ 2 < 2 ^ 31) (eF : σ 22 0 = nI (κ 2)) (y0 y1 : Int32) : Met l yL_failure wsL_failure ({ frames := 7, cells := 1, slots := 6, locals := 112 } : Room) (lPc D cI cZ cB cS cL A (cDm κ) (cEn cI cZ cB cS κ σ sc ad) ad o f [.ref ((ad 0 0)), .int y0, .int y1, .ref o]) (lQ D cI cZ cB cS cL A o (cFact κ y0 y1) ((σ (23 + y1.toNatClampNeg) (slotF κ y0.toNatClampNeg)).toInt64) κ σ (ad 0 0)) 1 6 A := by
  refine Met.ofWX (cc := cL_failure) (maxL := 5) (ret := (some .int)) (by decide) rfl ?_
  intro p e s m args below meth c s₁ B hml htab hv
  obtain ⟨rfl, hP, hat, ho, ⟨hE, hKL, hNc⟩, hA⟩ := hv
  have hx := B.exec
  have hb := B.bytes
  have hr := B.returns
  have hts := atoms_spec (ws := wsL_failure) B.pre
  have hown : s.vm.findClass RL = some m.cls := findClass_of_methodNamed B.named
  have hK := hE.1
  have hS : va_S A s.heap s.heap [] := va_S.rf
  have hol : o < s.heap.size := hat.lt
  have hA1 : ∀ q : Nat, s.heap.size ≤ q → A q ∧ q ≠ o := fun q hq => ⟨hA q hq, by omega⟩
  have hl := lv_entry ([.ref ((ad 0 0)), .int y0, .int y1, .ref o]) (n := 5) (Nat.le_of_ble_eq_true rfl)
  rw [lg_entry_eq]
  generalize (lg_sl ([.ref ((ad 0 0)), .int y0, .int y1, .ref o]) ++ List.replicate (5 - (lg_sl ([.ref ((ad 0 0)), .int y0, .int y1, .ref o])).length) Slot.unset).toArray = ls at hl ⊢
  have hl : lv_has ls 5 [(0, .ref ((ad 0 0))), (1, .int y0), (2, .int y1), (3, .ref o)] := hl
  refine lv_aload_n hx hb dL_failure_0 rfl (lv_at hl 3 rfl) ?_
  refine lv_iconst (v := 0) hx hb dL_failure_1 (by decide) ?_
  refine lv_aload_n hx hb dL_failure_2 rfl (lv_at hl 0 rfl) ?_
  refine lv_iload_n hx hb dL_failure_3 rfl (lv_at hl 1 rfl) ?_
  refine lv_iload_n hx hb dL_failure_4 rfl (lv_at hl 2 rfl) ?_
  refine vx_calli (vx_runV (As := [.int y0, .int y1]) (rest := [.int 0, .ref o]) ⟨hx, hb, hml, hown, hts⟩ (k_X3_failure (l := l) (D := D) (cI := cI) (cZ := cZ) (cB := cB) (cS := cS) (A := (fun q => A q ∧ q ≠ o)) κ σ sc ad hst h2 eF y0 y1) (cwV 2 hts gL_failure_X3_failure rfl rfl rfl (by decide +kernel) ⟨(Nat.le_of_ble_eq_true rfl), (Nat.le_of_ble_eq_true rfl)⟩) (lPreV (hE.narrow (fun q h => h.1)) (Nat.le_refl _) (fun _ _ _ => rfl) hA1 hP (gw_recv hK hP 0 0 (cDf (by decide)) rfl rfl)) rfl rfl hl.1 rfl (lv_room (Nat.le_of_ble_eq_true rfl)) dL_failure_5 ⟨(Nat.le_of_ble_eq_true rfl), (Nat.le_of_ble_eq_true rfl)⟩) hS (fun q _ h9 => h9.1) (fun q h9 => h9.1) (fun q _ h9 => h9.1) (fun E ce q9 u9 t9 H locs ht9 hvm9 hp9 hB9 hz9 hk9 hS hce hcv hcl => ?_) (fun r u9 t9 H locs ht9 hvm9 hw hB9 hz9 hk9 hS => ?_)
  · obtain ⟨hP9, rfl, hcr⟩ := hB9
    refine vx_catch (own := RL) (name := g_IA) hown [] ⟨0, 10, 13, 13⟩ [] (htab.trans rfl) (fun z hz => absurd hz List.not_mem_nil) rfl (by decide) (hts (.classLink RL 13 g_IA) (by decide +kernel)) (va_Nw.use rfl hE.2.2.2.2.2.1.1) hce hcv hcl ?_
    refine lv_astore (lv' := [(4, .ref q9), (0, .ref ((ad 0 0))), (1, .int y0), (2, .int y1), (3, .ref o)]) hx hb dL_failure_13 hl (by decide) rfl (fun ls hl => ?_)
    refine lv_iconst (v := 1) hx hb dL_failure_15 (by decide) ?_
    have hP : gw_P D vwCl (fun q => A q ∧ q ≠ o) (cDm κ) (cEn cI cZ cB cS κ σ sc ad) ad H := by rw [← ht9]; exact hP9
    have hat : va_at D vwCl (o, oRow cL f) H := hat.kept (hk9 o hol (fun z => z.2 rfl))
    exact W.iret (v := 1) hx hb hr (fun t ht hW => ⟨⟨1, (ad, sc, f), rfl, ⟨by rw [hcr]; rfl, fun z => absurd (hcr.symm.trans z) (by decide), rfl⟩, ⟨by rw [← ht] at hP; exact hP, by rw [ht]; exact hat⟩⟩, hS.F ht⟩) hS.2.2 dL_failure_16
  · obtain ⟨hcr, hrv⟩ := hw
    have hP : gw_P D vwCl (fun q => A q ∧ q ≠ o) (cDm κ) (cEn cI cZ cB cS κ σ sc ad) ad H := by rw [← ht9]; exact hB9
    have hat : va_at D vwCl (o, oRow cL f) H := hat.kept (hk9 o hol (fun z => z.2 rfl))
    refine lv_i2l (v := r.toInt64) hx hb dL_failure_8 rfl ?_
    refine gl_last (f := f) (o := o) hx hb hKL hat hS ho (v := r.toInt64) dL_failure_9 (fun H locs1 hat oq hS => ?_)
    have hP : gw_P D vwCl (fun q => A q ∧ q ≠ o) (cDm κ) (cEn cI cZ cB cS κ σ sc ad) ad H := hP.kept (fun t i hi => oq _ (hP.2.1 t i hi).2)
    refine lv_goto (tgt := 17) hx hb dL_failure_10 (by decide) ?_
    refine lv_iconst (v := 0) hx hb dL_failure_17 (by decide) ?_
    exact W.iret (v := 0) hx hb hr (fun t ht hW => ⟨⟨0, (ad, sc, vp_updL f 0 r.toInt64), rfl, ⟨by rw [hcr]; rfl, fun _ => (row_0 (congrArg Int32.toInt64 hrv)), rfl⟩, ⟨by rw [← ht] at hP; exact hP, by rw [ht]; exact hat⟩⟩, hS.F ht⟩) hS.2.2 dL_failure_18

set_option maxHeartbeats 4000000 in
set_option maxRecDepth 100000 in
theorem k_L_save {l : Launch} {D : va_G} {cI cZ cB cS : ClassId} {A : Nat → Prop} {cL : ClassId} (κ : Nat → Nat) (σ sc : Nat → Nat → Int32) (ad : Nat → Nat → Nat) (o : Nat) (f : Nat → Int64) (hst : l.stackTraces = false) (hn : κ 0 ≤ 40) (h1 : κ 1 ≤ 5) (hz : ∀ f k, 30 ≤ f → f < 34 → k < 40 → σ f (40 * κ 1 + k) = 0) (hz0 : κ (10 + κ 1) = 0) : Met l yL_save wsL_save ({ frames := 7, cells := 5, slots := 165, locals := 112 } : Room) (lPc D cI cZ cB cS cL A (cDm κ) (cEn cI cZ cB cS κ σ sc ad) ad o f [.ref ((ad 0 0)), .ref o]) (lQ D cI cZ cB cS cL A o (cSave κ) ((nI (κ 1)).toInt64) ((if cSave κ = 0 then (svK κ (κ 0)) else κ)) ((if cSave κ = 0 then (svS σ (κ 1) (κ 0)) else σ)) (ad 0 0)) 5 165 A := by
  refine Met.ofWX (cc := cL_save) (maxL := 3) (ret := (some .int)) (by decide) rfl ?_
  intro p e s m args below meth c s₁ B hml htab hv
  obtain ⟨rfl, hP, hat, ho, ⟨hE, hKL, hNc⟩, hA⟩ := hv
  have hx := B.exec
  have hb := B.bytes
  have hr := B.returns
  have hts := atoms_spec (ws := wsL_save) B.pre
  have hown : s.vm.findClass RL = some m.cls := findClass_of_methodNamed B.named
  have hK := hE.1
  have hS : va_S A s.heap s.heap [] := va_S.rf
  have hol : o < s.heap.size := hat.lt
  have hA1 : ∀ q : Nat, s.heap.size ≤ q → A q ∧ q ≠ o := fun q hq => ⟨hA q hq, by omega⟩
  have hl := lv_entry ([.ref ((ad 0 0)), .ref o]) (n := 3) (Nat.le_of_ble_eq_true rfl)
  rw [lg_entry_eq]
  generalize (lg_sl ([.ref ((ad 0 0)), .ref o]) ++ List.replicate (3 - (lg_sl ([.ref ((ad 0 0)), .ref o])).length) Slot.unset).toArray = ls at hl ⊢
  have hl : lv_has ls 3 [(0, .ref ((ad 0 0))), (1, .ref o)] := hl
  refine lv_aload_n hx hb dL_save_0 rfl (lv_at hl 1 rfl) ?_
  refine lv_iconst (v := 0) hx hb dL_save_1 (by decide) ?_
  refine lv_aload_n hx hb dL_save_2 rfl (lv_at hl 0 rfl) ?_
  refine vx_calli (vx_runV (As := []) (rest := [.int 0, .ref o]) ⟨hx, hb, hml, hown, hts⟩ (k_X3_save (l := l) (D := D) (cI := cI) (cZ := cZ) (cB := cB) (cS := cS) (A := (fun q => A q ∧ q ≠ o)) κ σ sc ad hst hn h1 hz hz0 ) (cwV 0 hts gL_save_X3_save rfl rfl rfl (by decide +kernel) ⟨(Nat.le_of_ble_eq_true rfl), (Nat.le_of_ble_eq_true rfl)⟩) (lPreV (hE.narrow (fun q h => h.1)) (Nat.le_refl _) (fun _ _ _ => rfl) hA1 hP (gw_recv hK hP 0 0 (cDf (by decide)) rfl rfl)) rfl rfl hl.1 rfl (lv_room (Nat.le_of_ble_eq_true rfl)) dL_save_3 ⟨(Nat.le_of_ble_eq_true rfl), (Nat.le_of_ble_eq_true rfl)⟩) hS (fun q _ h9 => h9.1) (fun q h9 => h9.1) (fun q _ h9 => h9.1) (fun E ce q9 u9 t9 H locs ht9 hvm9 hp9 hB9 hz9 hk9 hS hce hcv hcl => ?_) (fun r u9 t9 H locs ht9 hvm9 hw hB9 hz9 hk9 hS => ?_)
  · obtain ⟨hP9, rfl, hcr⟩ := hB9
    refine vx_catch (own := RL) (name := g_IS) hown [] ⟨0, 8, 11, 15⟩ [] (htab.trans rfl) (fun z hz => absurd hz List.not_mem_nil) rfl (by decide) (hts (.classLink RL 15 g_IS) (by decide +kernel)) (va_Nw.use rfl hE.2.2.2.2.2.1.2) hce hcv hcl ?_
    refine lv_astore_n (lv' := [(2, .ref q9), (0, .ref ((ad 0 0))), (1, .ref o)]) hx hb dL_save_11 rfl hl (by decide) rfl (fun ls hl => ?_)
    refine lv_iconst (v := 1) hx hb dL_save_12 (by decide) ?_
    have hP : gw_P D vwCl (fun q => A q ∧ q ≠ o) (cDm κ) (cEn cI cZ cB cS κ σ sc ad) ad H := by rw [← ht9]; exact hP9
    have hat : va_at D vwCl (o, oRow cL f) H := hat.kept (hk9 o hol (fun z => z.2 rfl))
    exact W.iret (v := 1) hx hb hr (fun t ht hW => ⟨⟨1, (ad, sc, f), rfl, ⟨by rw [hcr]; rfl, fun z => absurd (hcr.symm.trans z) (by decide), rfl⟩, ⟨by rw [if_neg (show ¬ cSave κ = 0 by rw [hcr]; decide), if_neg (show ¬ cSave κ = 0 by rw [hcr]; decide)]; rw [← ht] at hP; exact hP, by rw [ht]; exact hat⟩⟩, hS.F ht⟩) hS.2.2 dL_save_13
  · obtain ⟨hcr, hrv, had⟩ := hw
    have hP : gw_P D vwCl (fun q => A q ∧ q ≠ o) (cDm ((svK κ (κ 0)))) (cEn cI cZ cB cS ((svK κ (κ 0))) ((svS σ (κ 1) (κ 0))) sc u9) u9 H := by rw [← ht9]; exact hB9
    have hat : va_at D vwCl (o, oRow cL f) H := hat.kept (hk9 o hol (fun z => z.2 rfl))
    refine lv_i2l (v := r.toInt64) hx hb dL_save_6 rfl ?_
    refine gl_last (f := f) (o := o) hx hb hKL hat hS ho (v := r.toInt64) dL_save_7 (fun H locs1 hat oq hS => ?_)
    have hP : gw_P D vwCl (fun q => A q ∧ q ≠ o) (cDm ((svK κ (κ 0)))) (cEn cI cZ cB cS ((svK κ (κ 0))) ((svS σ (κ 1) (κ 0))) sc u9) u9 H := hP.kept (fun t i hi => oq _ (hP.2.1 t i hi).2)
    refine lv_goto (tgt := 14) hx hb dL_save_8 (by decide) ?_
    refine lv_iconst (v := 0) hx hb dL_save_14 (by decide) ?_
    exact W.iret (v := 0) hx hb hr (fun t ht hW => ⟨⟨0, (u9, sc, vp_updL f 0 r.toInt64), rfl, ⟨by rw [hcr]; rfl, fun _ => (row_0 (congrArg Int32.toInt64 hrv)), had⟩, ⟨by rw [if_pos hcr, if_pos hcr]; rw [← ht] at hP; exact hP, by rw [ht]; exact hat⟩⟩, hS.F ht⟩) hS.2.2 dL_save_15

set_option maxHeartbeats 4000000 in
set_option maxRecDepth 100000 in
theorem k_L_back {l : Launch} {D : va_G} {cI cZ cB cS : ClassId} {A : Nat → Prop} {cL : ClassId} (κ : Nat → Nat) (σ sc : Nat → Nat → Int32) (ad : Nat → Nat → Nat) (o : Nat) (f : Nat → Int64) (hst : l.stackTraces = false) (hn : κ 0 ≤ 40) (h1 : κ 1 ≤ 5) (hs : ∀ j, j < κ 1 → κ (10 + j) ≤ 40) (y0 : Int32) : Met l yL_back wsL_back ({ frames := 7, cells := 1, slots := 6, locals := 114 } : Room) (lPc D cI cZ cB cS cL A (cDm κ) (cEn cI cZ cB cS κ σ sc ad) ad o f [.ref ((ad 0 0)), .int y0, .ref o]) (lQ D cI cZ cB cS cL A o (cOne (κ 1) y0) ((nI (backI κ σ y0.toNatClampNeg (κ 0)).2).toInt64) κ ((if cOne (κ 1) y0 = 0 then (backI κ σ y0.toNatClampNeg (κ 0)).1 else σ)) (ad 0 0)) 1 6 A := by
  refine Met.ofWX (cc := cL_back) (maxL := 4) (ret := (some .int)) (by decide) rfl ?_
  intro p e s m args below meth c s₁ B hml htab hv
  obtain ⟨rfl, hP, hat, ho, ⟨hE, hKL, hNc⟩, hA⟩ := hv
  have hx := B.exec
  have hb := B.bytes
  have hr := B.returns
  have hts := atoms_spec (ws := wsL_back) B.pre
  have hown : s.vm.findClass RL = some m.cls := findClass_of_methodNamed B.named
  have hK := hE.1
  have hS : va_S A s.heap s.heap [] := va_S.rf
  have hol : o < s.heap.size := hat.lt
  have hA1 : ∀ q : Nat, s.heap.size ≤ q → A q ∧ q ≠ o := fun q hq => ⟨hA q hq, by omega⟩
  have hl := lv_entry ([.ref ((ad 0 0)), .int y0, .ref o]) (n := 4) (Nat.le_of_ble_eq_true rfl)
  rw [lg_entry_eq]
  generalize (lg_sl ([.ref ((ad 0 0)), .int y0, .ref o]) ++ List.replicate (4 - (lg_sl ([.ref ((ad 0 0)), .int y0, .ref o])).length) Slot.unset).toArray = ls at hl ⊢
  have hl : lv_has ls 4 [(0, .ref ((ad 0 0))), (1, .int y0), (2, .ref o)] := hl
  refine lv_aload_n hx hb dL_back_0 rfl (lv_at hl 2 rfl) ?_
  refine lv_iconst (v := 0) hx hb dL_back_1 (by decide) ?_
  refine lv_aload_n hx hb dL_back_2 rfl (lv_at hl 0 rfl) ?_
  refine lv_iload_n hx hb dL_back_3 rfl (lv_at hl 1 rfl) ?_
  refine vx_calli (vx_runV (As := [.int y0]) (rest := [.int 0, .ref o]) ⟨hx, hb, hml, hown, hts⟩ (k_X3_back (l := l) (D := D) (cI := cI) (cZ := cZ) (cB := cB) (cS := cS) (A := (fun q => A q ∧ q ≠ o)) κ σ sc ad hst hn h1 hs y0) (cwV 1 hts gL_back_X3_back rfl rfl rfl (by decide +kernel) ⟨(Nat.le_of_ble_eq_true rfl), (Nat.le_of_ble_eq_true rfl)⟩) (lPreV (hE.narrow (fun q h => h.1)) (Nat.le_refl _) (fun _ _ _ => rfl) hA1 hP (gw_recv hK hP 0 0 (cDf (by decide)) rfl rfl)) rfl rfl hl.1 rfl (lv_room (Nat.le_of_ble_eq_true rfl)) dL_back_4 ⟨(Nat.le_of_ble_eq_true rfl), (Nat.le_of_ble_eq_true rfl)⟩) hS (fun q _ h9 => h9.1) (fun q h9 => h9.1) (fun q _ h9 => h9.1) (fun E ce q9 u9 t9 H locs ht9 hvm9 hp9 hB9 hz9 hk9 hS hce hcv hcl => ?_) (fun r u9 t9 H locs ht9 hvm9 hw hB9 hz9 hk9 hS => ?_)
  · obtain ⟨hP9, rfl, hcr⟩ := hB9
    refine vx_catch (own := RL) (name := g_IA) hown [] ⟨0, 9, 12, 13⟩ [] (htab.trans rfl) (fun z hz => absurd hz List.not_mem_nil) rfl (by decide) (hts (.classLink RL 13 g_IA) (by decide +kernel)) (va_Nw.use rfl hE.2.2.2.2.2.1.1) hce hcv hcl ?_
    refine lv_astore_n (lv' := [(3, .ref q9), (0, .ref ((ad 0 0))), (1, .int y0), (2, .ref o)]) hx hb dL_back_12 rfl hl (by decide) rfl (fun ls hl => ?_)
    refine lv_iconst (v := 1) hx hb dL_back_13 (by decide) ?_
    have hP : gw_P D vwCl (fun q => A q ∧ q ≠ o) (cDm κ) (cEn cI cZ cB cS κ σ sc ad) ad H := by rw [← ht9]; exact hP9
    have hat : va_at D vwCl (o, oRow cL f) H := hat.kept (hk9 o hol (fun z => z.2 rfl))
    exact W.iret (v := 1) hx hb hr (fun t ht hW => ⟨⟨1, (ad, sc, f), rfl, ⟨by rw [hcr]; rfl, fun z => absurd (hcr.symm.trans z) (by decide), rfl⟩, ⟨by rw [if_neg (show ¬ cOne (κ 1) y0 = 0 by rw [hcr]; decide)]; rw [← ht] at hP; exact hP, by rw [ht]; exact hat⟩⟩, hS.F ht⟩) hS.2.2 dL_back_14
  · obtain ⟨hcr, hrv⟩ := hw
    have hP : gw_P D vwCl (fun q => A q ∧ q ≠ o) (cDm κ) (cEn cI cZ cB cS κ ((backI κ σ y0.toNatClampNeg (κ 0)).1) sc ad) ad H := by rw [← ht9]; exact hB9
    have hat : va_at D vwCl (o, oRow cL f) H := hat.kept (hk9 o hol (fun z => z.2 rfl))
    refine lv_i2l (v := r.toInt64) hx hb dL_back_7 rfl ?_
    refine gl_last (f := f) (o := o) hx hb hKL hat hS ho (v := r.toInt64) dL_back_8 (fun H locs1 hat oq hS => ?_)
    have hP : gw_P D vwCl (fun q => A q ∧ q ≠ o) (cDm κ) (cEn cI cZ cB cS κ ((backI κ σ y0.toNatClampNeg (κ 0)).1) sc ad) ad H := hP.kept (fun t i hi => oq _ (hP.2.1 t i hi).2)
    refine lv_goto (tgt := 15) hx hb dL_back_9 (by decide) ?_
    refine lv_iconst (v := 0) hx hb dL_back_15 (by decide) ?_
    exact W.iret (v := 0) hx hb hr (fun t ht hW => ⟨⟨0, (ad, sc, vp_updL f 0 r.toInt64), rfl, ⟨by rw [hcr]; rfl, fun _ => (row_0 (congrArg Int32.toInt64 hrv)), rfl⟩, ⟨by rw [if_pos hcr]; rw [← ht] at hP; exact hP, by rw [ht]; exact hat⟩⟩, hS.F ht⟩) hS.2.2 dL_back_16

set_option maxHeartbeats 4000000 in
set_option maxRecDepth 100000 in
theorem k_L_become {l : Launch} {D : va_G} {cI cZ cB cS : ClassId} {A : Nat → Prop} {cL : ClassId} (κ : Nat → Nat) (σ sc : Nat → Nat → Int32) (ad : Nat → Nat → Nat) (o : Nat) (f : Nat → Int64) (hst : l.stackTraces = false) (hn : κ 0 ≤ 40) (y0 y1 : Int32) : Met l yL_become wsL_become ({ frames := 8, cells := 2, slots := 12, locals := 135 } : Room) (lPc D cI cZ cB cS cL A (cDm κ) (cEn cI cZ cB cS κ σ sc ad) ad o f [.ref ((ad 0 0)), .int y0, .int y1, .ref o]) (lQ D cI cZ cB cS cL A o (cTwo (κ 0) 26 y0 y1) ((σ 0 y0.toNatClampNeg).toInt64) κ ((if cTwo (κ 0) 26 y0 y1 = 0 then (becS σ y0.toNatClampNeg y1) else σ)) (ad 0 0)) 2 12 A := by
  refine Met.ofWX (cc := cL_become) (maxL := 5) (ret := (some .int)) (by decide) rfl ?_
  intro p e s m args below meth c s₁ B hml htab hv
  obtain ⟨rfl, hP, hat, ho, ⟨hE, hKL, hNc⟩, hA⟩ := hv
  have hx := B.exec
  have hb := B.bytes
  have hr := B.returns
  have hts := atoms_spec (ws := wsL_become) B.pre
  have hown : s.vm.findClass RL = some m.cls := findClass_of_methodNamed B.named
  have hK := hE.1
  have hS : va_S A s.heap s.heap [] := va_S.rf
  have hol : o < s.heap.size := hat.lt
  have hA1 : ∀ q : Nat, s.heap.size ≤ q → A q ∧ q ≠ o := fun q hq => ⟨hA q hq, by omega⟩
  have hl := lv_entry ([.ref ((ad 0 0)), .int y0, .int y1, .ref o]) (n := 5) (Nat.le_of_ble_eq_true rfl)
  rw [lg_entry_eq]
  generalize (lg_sl ([.ref ((ad 0 0)), .int y0, .int y1, .ref o]) ++ List.replicate (5 - (lg_sl ([.ref ((ad 0 0)), .int y0, .int y1, .ref o])).length) Slot.unset).toArray = ls at hl ⊢
  have hl : lv_has ls 5 [(0, .ref ((ad 0 0))), (1, .int y0), (2, .int y1), (3, .ref o)] := hl
  refine lv_aload_n hx hb dL_become_0 rfl (lv_at hl 3 rfl) ?_
  refine lv_iconst (v := 0) hx hb dL_become_1 (by decide) ?_
  refine lv_aload_n hx hb dL_become_2 rfl (lv_at hl 0 rfl) ?_
  refine lv_iload_n hx hb dL_become_3 rfl (lv_at hl 1 rfl) ?_
  refine lv_iload_n hx hb dL_become_4 rfl (lv_at hl 2 rfl) ?_
  refine vx_calli (vx_runV (As := [.int y0, .int y1]) (rest := [.int 0, .ref o]) ⟨hx, hb, hml, hown, hts⟩ (k_X3_become (l := l) (D := D) (cI := cI) (cZ := cZ) (cB := cB) (cS := cS) (A := (fun q => A q ∧ q ≠ o)) κ σ sc ad hst hn y0 y1) (cwV 2 hts gL_become_X3_become rfl rfl rfl (by decide +kernel) ⟨(Nat.le_of_ble_eq_true rfl), (Nat.le_of_ble_eq_true rfl)⟩) (lPreV (hE.narrow (fun q h => h.1)) (Nat.le_refl _) (fun _ _ _ => rfl) hA1 hP (gw_recv hK hP 0 0 (cDf (by decide)) rfl rfl)) rfl rfl hl.1 rfl (lv_room (Nat.le_of_ble_eq_true rfl)) dL_become_5 ⟨(Nat.le_of_ble_eq_true rfl), (Nat.le_of_ble_eq_true rfl)⟩) hS (fun q _ h9 => h9.1) (fun q h9 => h9.1) (fun q _ h9 => h9.1) (fun E ce q9 u9 t9 H locs ht9 hvm9 hp9 hB9 hz9 hk9 hS hce hcv hcl => ?_) (fun r u9 t9 H locs ht9 hvm9 hw hB9 hz9 hk9 hS => ?_)
  · obtain ⟨hP9, rfl, hcr⟩ := hB9
    refine vx_catch (own := RL) (name := g_IA) hown [] ⟨0, 10, 13, 13⟩ [] (htab.trans rfl) (fun z hz => absurd hz List.not_mem_nil) rfl (by decide) (hts (.classLink RL 13 g_IA) (by decide +kernel)) (va_Nw.use rfl hE.2.2.2.2.2.1.1) hce hcv hcl ?_
    refine lv_astore (lv' := [(4, .ref q9), (0, .ref ((ad 0 0))), (1, .int y0), (2, .int y1), (3, .ref o)]) hx hb dL_become_13 hl (by decide) rfl (fun ls hl => ?_)
    refine lv_iconst (v := 1) hx hb dL_become_15 (by decide) ?_
    have hP : gw_P D vwCl (fun q => A q ∧ q ≠ o) (cDm κ) (cEn cI cZ cB cS κ σ sc ad) ad H := by rw [← ht9]; exact hP9
    have hat : va_at D vwCl (o, oRow cL f) H := hat.kept (hk9 o hol (fun z => z.2 rfl))
    exact W.iret (v := 1) hx hb hr (fun t ht hW => ⟨⟨1, (ad, sc, f), rfl, ⟨by rw [hcr]; rfl, fun z => absurd (hcr.symm.trans z) (by decide), rfl⟩, ⟨by rw [if_neg (show ¬ cTwo (κ 0) 26 y0 y1 = 0 by rw [hcr]; decide)]; rw [← ht] at hP; exact hP, by rw [ht]; exact hat⟩⟩, hS.F ht⟩) hS.2.2 dL_become_16
  · obtain ⟨hcr, hrv⟩ := hw
    have hP : gw_P D vwCl (fun q => A q ∧ q ≠ o) (cDm κ) (cEn cI cZ cB cS κ ((becS σ y0.toNatClampNeg y1)) sc ad) ad H := by rw [← ht9]; exact hB9
    have hat : va_at D vwCl (o, oRow cL f) H := hat.kept (hk9 o hol (fun z => z.2 rfl))
    refine lv_i2l (v := r.toInt64) hx hb dL_become_8 rfl ?_
    refine gl_last (f := f) (o := o) hx hb hKL hat hS ho (v := r.toInt64) dL_become_9 (fun H locs1 hat oq hS => ?_)
    have hP : gw_P D vwCl (fun q => A q ∧ q ≠ o) (cDm κ) (cEn cI cZ cB cS κ ((becS σ y0.toNatClampNeg y1)) sc ad) ad H := hP.kept (fun t i hi => oq _ (hP.2.1 t i hi).2)
    refine lv_goto (tgt := 17) hx hb dL_become_10 (by decide) ?_
    refine lv_iconst (v := 0) hx hb dL_become_17 (by decide) ?_
    exact W.iret (v := 0) hx hb hr (fun t ht hW => ⟨⟨0, (ad, sc, vp_updL f 0 r.toInt64), rfl, ⟨by rw [hcr]; rfl, fun _ => (row_0 (congrArg Int32.toInt64 hrv)), rfl⟩, ⟨by rw [if_pos hcr]; rw [← ht] at hP; exact hP, by rw [ht]; exact hat⟩⟩, hS.F ht⟩) hS.2.2 dL_become_18

