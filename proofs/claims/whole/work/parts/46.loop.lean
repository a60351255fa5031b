/-! The law's loop: both sides picture one memory. -/
theorem li_go {i L : Nat} (hi : i < 2 ^ 30) (hL : L < 2 ^ 30) (h : ¬ nI i > nI L - 4) : i + 4 ≤ L := by
  have h : ¬ nI L - nI 4 < nI i := h
  rw [Int32.lt_iff_toInt_lt, pk_sub_toInt hL (by decide), nI_toInt (by omega)] at h
  omega
set_option maxHeartbeats 4000000 in
set_option maxRecDepth 100000 in
theorem law_loop {p : Program} {l : Launch} {e : Env} {s : State} {m : MethodId} {below : List Frame} {meth : Method} {c : Code} {D : va_G} {cI cZ cB cS cL : ClassId} {b L o : Nat} {xs : Nat → Int32} {rad : Nat → Nat → Nat} (hst : l.stackTraces = false) (hL : L ≤ 2048) (C0 : lw_At p s m meth c b L xs) (hC : LC D cI cZ cB cS cL s o rad) (x0 : Nat) : ∀ (n j : Nat), 4 * j ≤ L → L < 4 * j + 4 * n → ∀ (κ : Nat → Nat) (σ sc u : Nat → Nat → Int32) (ad : Nat → Nat → Nat) (f : Nat → Int64) (H : Heap) (locs : List Loc) (ls : Array Slot), gInv κ σ → LW D cI cZ cB cS cL s o rad κ σ κ σ sc u ad f H locs → ad 0 0 = x0 → lv_has ls 7 [(0, .ref b), (1, .ref x0), (2, .ref (rad 0 0)), (3, .ref o), (4, .int (nI (4 * j)))] → W p l e room_1 s m #[Value.ref b] below meth c H locs (100 + 5 * j) (3000 + 165 * j) (lw_Z below #[Value.ref b] s) (F0 m 23 ls []) := by
  obtain ⟨hx, hb, hr, hml, hown9, hts0, hX, hbl, hlocks, hgv⟩ := id C0
  have hbA : ¬ lA0 s b := Nat.not_le.mpr hbl
  intro n
  induction n with
  | zero =>
    intro j h1 h2
    exact absurd h2 (by omega)
  | succ n ih =>
    intro j hj hn κ σ sc u ad f H locs ls hI hW h0 hl
    have hS := hW.2.2.2
    refine lv_iload hx hb dL_law_23 (lv_at hl 4 rfl) ?_
    refine lv_aload_n hx hb dL_law_25 rfl (lv_at hl 0 rfl) ?_
    refine va_slen hx hb hX hbl hbA hS dL_law_26 ?_
    refine lv_iconst (v := 4) hx hb dL_law_27 (by decide) ?_
    refine lv_isub hx hb dL_law_28 ?_
    refine lv_icmp_gt (tgt := 1182) hx hb dL_law_29 (by decide) (fun c_1 => ?_) (fun c_1 => ?_)
    · refine lv_iconst (v := 1) hx hb dL_law_1182 (by decide) ?_
      refine va_forget (fun q hq => hS.2.2 q hq) ?_
      refine W.widen (k := 601024) (n := 7293034) (by omega) (by omega) ?_
      exact lw_ret hx hb hr hlocks dL_law_1183
    · have hi : 4 * j + 4 ≤ L := li_go (by omega) (by omega) c_1
      have tail : ∀ (κ : Nat → Nat) (σ sc u : Nat → Nat → Int32) (ad : Nat → Nat → Nat) (f : Nat → Int64) (H : Heap) (locs : List Loc) (ls : Array Slot), gInv κ σ → LW D cI cZ cB cS cL s o rad κ σ κ σ sc u ad f H locs → ad 0 0 = x0 → lv_has ls 7 [(0, .ref b), (1, .ref x0), (2, .ref (rad 0 0)), (3, .ref o), (4, .int (nI (4 * j)))] → W p l e room_1 s m #[Value.ref b] below meth c H locs (100 + 5 * j + 5) (3000 + 165 * j + 165) (lw_Z below #[Value.ref b] s) (F0 m 1176 ls []) := by
        intro κ σ sc u ad f H locs ls hI hW h0 hl
        refine lv_iinc (v := nI (4 * j + 4)) (lv' := [(4, .int (nI (4 * j + 4))), (0, .ref b), (1, .ref x0), (2, .ref (rad 0 0)), (3, .ref o)]) hx hb dL_law_1176 hl (k := 4) rfl (nI_add (4 * j) 4) (by decide) rfl (fun ls hl => ?_)
        refine lv_goto (tgt := 23) hx hb dL_law_1179 (by decide) ?_
        exact ih (j + 1) (by omega) (by omega) κ σ sc u ad f H locs ls hI hW h0 (lv_sub hl [1, 2, 3, 4, 0] rfl)
      refine lv_aload_n hx hb dL_law_32 rfl (lv_at hl 0 rfl) ?_
      refine lv_iload hx hb dL_law_33 (lv_at hl 4 rfl) ?_
      refine va_sld hx hb hX hbl hbA hS (vp_in_nI (show 4 * j < L by omega) (by omega)) dL_law_35 ?_
      refine lv_bipush (v := 31) hx hb dL_law_36 (by decide) ?_
      refine lv_iand hx hb dL_law_38 ?_
      obtain ⟨t, ht, et⟩ := pk_andE (xs (nI (4 * j)).toNatClampNeg) (m := 31) 5 (by decide)
      refine lv_toq (nI t) et ?_
      by_cases h17 : 17 ≤ t
      · refine lv_tableOut (tgt := 1176) hx hb dL_law_39 (Or.inr (by rw [nI_toInt (by omega)]; omega)) (by decide) ?_
        refine W.widen (k := 100 + 5 * j + 5) (n := 3000 + 165 * j + 165) (by omega) (by omega) ?_
        exact tail κ σ sc u ad f H locs ls hI hW h0 hl
      · rcases (show t = 0 ∨ t = 1 ∨ t = 2 ∨ t = 3 ∨ t = 4 ∨ t = 5 ∨ t = 6 ∨ t = 7 ∨ t = 8 ∨ t = 9 ∨ t = 10 ∨ t = 11 ∨ t = 12 ∨ t = 13 ∨ t = 14 ∨ t = 15 ∨ t = 16 by omega) with rfl | rfl | rfl | rfl | rfl | rfl | rfl | rfl | rfl | rfl | rfl | rfl | rfl | rfl | rfl | rfl | rfl
        · refine lv_tableIn (off := 81) (tgt := 120) hx hb dL_law_39 (by decide) (by decide) (by decide) (by decide) ?_
          exact seg_block hst hL C0 hC x0 (4 * j) hi (by omega) (by omega) hI hW h0 hl tail
        · refine lv_tableIn (off := 137) (tgt := 176) hx hb dL_law_39 (by decide) (by decide) (by decide) (by decide) ?_
          exact seg_wire hst hL C0 hC x0 (4 * j) hi (by omega) (by omega) hI hW h0 hl tail
        · refine lv_tableIn (off := 217) (tgt := 256) hx hb dL_law_39 (by decide) (by decide) (by decide) (by decide) ?_
          exact seg_numbers hst hL C0 hC x0 (4 * j) hi (by omega) (by omega) hI hW h0 hl tail
        · refine lv_tableIn (off := 277) (tgt := 316) hx hb dL_law_39 (by decide) (by decide) (by decide) (by decide) ?_
          exact seg_row hst hL C0 hC x0 (4 * j) hi (by omega) (by omega) hI hW h0 hl tail
        · refine lv_tableIn (off := 357) (tgt := 396) hx hb dL_law_39 (by decide) (by decide) (by decide) (by decide) ?_
          exact seg_safe hst hL C0 hC x0 (4 * j) hi (by omega) (by omega) hI hW h0 hl tail
        · refine lv_tableIn (off := 425) (tgt := 464) hx hb dL_law_39 (by decide) (by decide) (by decide) (by decide) ?_
          exact seg_point hst hL C0 hC x0 (4 * j) hi (by omega) (by omega) hI hW h0 hl tail
        · refine lv_tableIn (off := 493) (tgt := 532) hx hb dL_law_39 (by decide) (by decide) (by decide) (by decide) ?_
          exact seg_hand hst hL C0 hC x0 (4 * j) hi (by omega) (by omega) hI hW h0 hl tail
        · refine lv_tableIn (off := 596) (tgt := 635) hx hb dL_law_39 (by decide) (by decide) (by decide) (by decide) ?_
          exact seg_order hst hL C0 hC x0 (4 * j) hi (by omega) (by omega) hI hW h0 hl tail
        · refine lv_tableIn (off := 609) (tgt := 648) hx hb dL_law_39 (by decide) (by decide) (by decide) (by decide) ?_
          exact seg_at hst hL C0 hC x0 (4 * j) hi (by omega) (by omega) hI hW h0 hl tail
        · refine lv_tableIn (off := 665) (tgt := 704) hx hb dL_law_39 (by decide) (by decide) (by decide) (by decide) ?_
          exact seg_run hst hL C0 hC x0 (4 * j) hi (by omega) (by omega) hI hW h0 hl tail
        · refine lv_tableIn (off := 721) (tgt := 760) hx hb dL_law_39 (by decide) (by decide) (by decide) (by decide) ?_
          exact seg_out hst hL C0 hC x0 (4 * j) hi (by omega) (by omega) hI hW h0 hl tail
        · refine lv_tableIn (off := 777) (tgt := 816) hx hb dL_law_39 (by decide) (by decide) (by decide) (by decide) ?_
          exact seg_state hst hL C0 hC x0 (4 * j) hi (by omega) (by omega) hI hW h0 hl tail
        · refine lv_tableIn (off := 845) (tgt := 884) hx hb dL_law_39 (by decide) (by decide) (by decide) (by decide) ?_
          exact seg_failed hst hL C0 hC x0 (4 * j) hi (by omega) (by omega) hI hW h0 hl tail
        · refine lv_tableIn (off := 901) (tgt := 940) hx hb dL_law_39 (by decide) (by decide) (by decide) (by decide) ?_
          exact seg_failure hst hL C0 hC x0 (4 * j) hi (by omega) (by omega) hI hW h0 hl tail
        · refine lv_tableIn (off := 969) (tgt := 1008) hx hb dL_law_39 (by decide) (by decide) (by decide) (by decide) ?_
          exact seg_save hst hL C0 hC x0 (4 * j) hi (by omega) (by omega) hI hW h0 hl tail
        · refine lv_tableIn (off := 1013) (tgt := 1052) hx hb dL_law_39 (by decide) (by decide) (by decide) (by decide) ?_
          exact seg_back hst hL C0 hC x0 (4 * j) hi (by omega) (by omega) hI hW h0 hl tail
        · refine lv_tableIn (off := 1069) (tgt := 1108) hx hb dL_law_39 (by decide) (by decide) (by decide) (by decide) ?_
          exact seg_become hst hL C0 hC x0 (4 * j) hi (by omega) (by omega) hI hW h0 hl tail
