set_option maxHeartbeats 4000000 in
set_option maxRecDepth 100000 in
theorem seg_block {p : Program} {l : Launch} {e : Env} {s : State} {m : MethodId} {below : List Frame} {meth : Method} {c : Code} {Q : State → Prop} {D : va_G} {cI cZ cB cS cL : ClassId} {b L o : Nat} {xs : Nat → Int32} {rad : Nat → Nat → Nat} (hst : l.stackTraces = false) (hL : L ≤ 2048) (C0 : lw_At p s m meth c b L xs) (hC : LC D cI cZ cB cS cL s o rad) (x0 i : Nat) (hi : i + 4 ≤ L) {cells slots : Nat} (hc5 : cells + 5 ≤ 601024) (hs5 : slots + 165 ≤ 7293034) {κ : Nat → Nat} {σ sc u : Nat → Nat → Int32} {ad : Nat → Nat → Nat} {f : Nat → Int64} {H : Heap} {locs : List Loc} {ls : Array Slot} (hI : gInv κ σ) (hW : LW D cI cZ cB cS cL s o rad κ σ κ σ sc u ad f H locs) (h0 : ad 0 0 = x0) (hl : lv_has ls 7 [(0, .ref b), (1, .ref x0), (2, .ref (rad 0 0)), (3, .ref o), (4, .int (nI i))]) (kk : ∀ (κ : Nat → Nat) (σ sc u : Nat → Nat → Int32) (ad : Nat → Nat → Nat) (f : Nat → Int64) (H : Heap) (locs : List Loc) (ls : Array Slot), gInv κ σ → LW D cI cZ cB cS cL s o rad κ σ κ σ sc u ad f H locs → ad 0 0 = x0 → lv_has ls 7 [(0, .ref b), (1, .ref x0), (2, .ref (rad 0 0)), (3, .ref o), (4, .int (nI i))] → W p l e room_1 s m #[Value.ref b] below meth c H locs (cells + 5) (slots + 165) Q (F0 m 1176 ls [])) : W p l e room_1 s m #[Value.ref b] below meth c H locs cells slots Q (F0 m 120 ls []) := by
  obtain ⟨hx, hb, hr, hml, hown9, hts0, hX, hbl, hlocks, hgv⟩ := C0
  have hown : s.vm.findClass RL = some m.cls := hown9
  have hts : ∀ w ∈ wsL_law, w.before #[Value.ref b] s = true := fun w h => hts0 w (wsL_law_in w h)
  have hbA : ¬ lA0 s b := Nat.not_le.mpr hbl
  have hKL := hC.1.2.1
  obtain ⟨a0, a1, a3, a2, ak, a22, a7, a9, a18, a10, a30, ac, as⟩ := id hI
  subst h0
  have hS := hW.2.2.2
  obtain ⟨y0, ey0⟩ : ∃ z : Int32, z = xs (i + 1) := ⟨_, rfl⟩
  refine lv_aload_n hx hb dL_law_120 rfl (lv_at hl 1 rfl) ?_
  refine lv_aload_n hx hb dL_law_121 rfl (lv_at hl 0 rfl) ?_
  refine lv_iload hx hb dL_law_122 (lv_at hl 4 rfl) ?_
  refine lv_iconst (v := 1) hx hb dL_law_124 (by decide) ?_
  refine lv_iadd hx hb dL_law_125 ?_
  refine lv_toq (nI (i + 1)) (nI_add i 1) ?_
  refine va_sld hx hb hX hbl hbA hS (vp_in_nI (show i + 1 < L by omega) (by omega)) dL_law_126 ?_
  refine lv_toq y0 (by rw [nI_clamp (show i + 1 < 2 ^ 31 by omega), ey0]) ?_
  refine lv_aload_n hx hb dL_law_127 rfl (lv_at hl 3 rfl) ?_
  refine va_calli (vx_runSW (As := [.ref ((ad 0 0)), .int y0, .ref o]) (rest := []) ⟨hx, hb, hml, hown, hts⟩ (k_L_block (l := l) (D := D) (cI := cI) (cZ := cZ) (cB := cB) (cS := cS) (cL := cL) (A := lA s rad) κ σ sc ad o f hst a0 (fun f h1 h2 => a18 f (κ 0) h1 h2 (Nat.le_refl _)) (fun k hk => a10 _ (Nat.le_add_right _ _)) y0) (vx_cwSW 3 hts gL_law_L_block rfl rfl rfl (by decide +kernel) ⟨(Nat.le_of_ble_eq_true rfl), (Nat.le_of_ble_eq_true rfl)⟩) (lPreS hC hW) rfl rfl hl.1 rfl (lv_room (Nat.le_of_ble_eq_true rfl)) dL_law_128 ⟨(show cells + 4 ≤ 601024 by omega), (show slots + 28 ≤ 7293034 by omega)⟩) hS (fun q _ h9 => h9.1) (fun q h9 => h9.1) (fun r9 u9 t9 H locs ht9 hvm9 hw9 hB9 hz9 hk9 hS => ?_)
  have hW : LW D cI cZ cB cS cL s o rad ((if cBlock κ y0 = 0 then (va_up κ 0 (κ 0 + 1)) else κ)) ((if cBlock κ y0 = 0 then (sBlock κ σ y0) else σ)) κ σ u9.2.1 u u9.1 u9.2.2 H locs := hW.h (by rw [← ht9]; exact hB9) hk9 hS
  refine lv_toq (nI (cBlock κ y0)) hw9.1 ?_
  refine lv_istore (lv' := [(5, .int (nI ((cBlock κ y0)))), (0, .ref b), (1, .ref ((ad 0 0))), (2, .ref ((rad 0 0))), (3, .ref o), (4, .int (nI i))]) hx hb dL_law_131 hl (by decide) rfl (fun ls hl => ?_)
  refine lv_aload_n hx hb dL_law_133 rfl (lv_at hl 3 rfl) ?_
  refine lv_aload_n hx hb dL_law_134 rfl (lv_at hl 1 rfl) ?_
  refine lv_iload hx hb dL_law_135 (lv_at hl 5 rfl) ?_
  refine lv_iconst (v := 1) hx hb dL_law_137 (by decide) ?_
  refine lv_iadd hx hb dL_law_138 ?_
  refine lv_toq (nI (i + 1)) (nI_add i 1) ?_
  refine va_sld hx hb hX hbl hbA hS (vp_in_nI (show i + 1 < L by omega) (by omega)) dL_law_139 ?_
  refine lv_toq y0 (by rw [nI_clamp (show i + 1 < 2 ^ 31 by omega), ey0]) ?_
  refine va_calli (va_runV (As := [.int y0]) (rest := []) ⟨hx, hb, hml, hown, hts⟩ (k_X4_block (l := l) (D := D) (cI := cI) (cZ := cZ) (cB := cB) (cS := cS) (A := lR rad H.size) κ σ u rad a0 y0) (cwV 1 hts gL_law_X4_block rfl rfl rfl (by decide +kernel) ⟨(Nat.le_of_ble_eq_true rfl), (Nat.le_of_ble_eq_true rfl)⟩) (lPreM hC hW) rfl rfl hl.1 rfl (lv_room (Nat.le_of_ble_eq_true rfl)) dL_law_140 ⟨(show cells + 4 + 0 ≤ 601024 by omega), (show slots + 28 + 0 ≤ 7293034 by omega)⟩) hS (fun q _ h9 => hW.r0 q h9) (fun q h9 => hW.r0 q h9) (fun r8 u8 t8 H locs ht8 hvm8 hw8 hB8 hz8 hk8 hS => ?_)
  have hW : LW D cI cZ cB cS cL s o rad ((if cBlock κ y0 = 0 then (va_up κ 0 (κ 0 + 1)) else κ)) ((if cBlock κ y0 = 0 then (sBlock κ σ y0) else σ)) ((if cBlock κ y0 = 0 then (va_up κ 0 (κ 0 + 1)) else κ)) ((if cBlock κ y0 = 0 then (sBlock κ σ y0) else σ)) u9.2.1 u8 u9.1 u9.2.2 H locs := hW.m hC (by rw [← ht8]; exact hB8) hk8 hS
  refine lv_istore (lv' := [(6, .int r8), (5, .int (nI ((cBlock κ y0)))), (0, .ref b), (1, .ref ((ad 0 0))), (2, .ref ((rad 0 0))), (3, .ref o), (4, .int (nI i))]) hx hb dL_law_143 hl (by decide) rfl (fun ls hl => ?_)
  refine lv_aload_n hx hb dL_law_145 rfl (lv_at hl 4 rfl) ?_
  refine va_calli (va_runV (As := []) (rest := []) ⟨hx, hb, hml, hown, hts⟩ (k_X4_thrown (l := l) (D := D) (cI := cI) (cZ := cZ) (cB := cB) (cS := cS) (A := lR rad H.size) ((if cBlock κ y0 = 0 then (va_up κ 0 (κ 0 + 1)) else κ)) ((if cBlock κ y0 = 0 then (sBlock κ σ y0) else σ)) u8 rad) (cwV 0 hts gL_law_X4_thrown rfl rfl rfl (by decide +kernel) ⟨(Nat.le_of_ble_eq_true rfl), (Nat.le_of_ble_eq_true rfl)⟩) (lPreM hC hW) rfl rfl hl.1 rfl (lv_room (Nat.le_of_ble_eq_true rfl)) dL_law_146 ⟨(show cells + 4 + 0 + 0 ≤ 601024 by omega), (show slots + 28 + 0 + 0 ≤ 7293034 by omega)⟩) hS (fun q _ h9 => hW.r0 q h9) (fun q h9 => hW.r0 q h9) (fun r7 u7 t7 H locs ht7 hvm7 hw7 hB7 hz7 hk7 hS => ?_)
  have hW : LW D cI cZ cB cS cL s o rad ((if cBlock κ y0 = 0 then (va_up κ 0 (κ 0 + 1)) else κ)) ((if cBlock κ y0 = 0 then (sBlock κ σ y0) else σ)) ((if cBlock κ y0 = 0 then (va_up κ 0 (κ 0 + 1)) else κ)) ((if cBlock κ y0 = 0 then (sBlock κ σ y0) else σ)) u9.2.1 u8 u9.1 u9.2.2 H locs := hW.m hC (by rw [← ht7]; exact hB7) hk7 hS
  refine lv_toq (nI (cBlock κ y0)) (hw7.trans hw8.1) ?_
  refine lv_iload hx hb dL_law_149 (lv_at hl 1 rfl) ?_
  refine lv_icmp_eq (tgt := 156) hx hb dL_law_151 (by decide) (fun _ => ?_) (fun z => absurd rfl z)
  refine lv_iload hx hb dL_law_156 (lv_at hl 1 rfl) ?_
  refine lv_if_ne (tgt := 173) hx hb dL_law_158 (by decide) (fun c_1 => ?_) (fun c_1 => ?_)
  · refine lv_goto (tgt := 1176) hx hb dL_law_173 (by decide) ?_
    refine W.widen (k := cells + 5) (n := slots + 165) (by omega) (by omega) ?_
    exact kk ((if cBlock κ y0 = 0 then (va_up κ 0 (κ 0 + 1)) else κ)) ((if cBlock κ y0 = 0 then (sBlock κ σ y0) else σ)) u9.2.1 u8 u9.1 u9.2.2 H locs ls (hI.oBlock y0) hW hw9.2.2 (lv_sub hl [2, 3, 4, 5, 6] rfl)
  · have hcz : cBlock κ y0 = 0 := nI_z (cBlock_le _ _) c_1
    have hv8 := hw8.2 hcz
    have hv9 := hw9.2.1 hcz
    refine lv_aload_n hx hb dL_law_161 rfl (lv_at hl 5 rfl) ?_
    refine lv_iconst (v := 0) hx hb dL_law_162 (by decide) ?_
    refine gl_lald hx hb hKL hW.2.2.1 dL_law_163 ?_
    refine lv_iload hx hb dL_law_164 (lv_at hl 0 rfl) ?_
    refine lv_i2l (v := (r8).toInt64) hx hb dL_law_166 rfl ?_
    refine W.lcmp hx hb dL_law_167 ?_
    refine lv_if_eq (tgt := 173) hx hb dL_law_168 (by decide) (fun _ => ?_) (fun z => absurd (lcmp_0 (hv9.trans (congrArg Int32.toInt64 hv8.symm))) z)
    refine lv_goto (tgt := 1176) hx hb dL_law_173 (by decide) ?_
    refine W.widen (k := cells + 5) (n := slots + 165) (by omega) (by omega) ?_
    exact kk ((if cBlock κ y0 = 0 then (va_up κ 0 (κ 0 + 1)) else κ)) ((if cBlock κ y0 = 0 then (sBlock κ σ y0) else σ)) u9.2.1 u8 u9.1 u9.2.2 H locs ls (hI.oBlock y0) hW hw9.2.2 (lv_sub hl [2, 3, 4, 5, 6] rfl)

set_option maxHeartbeats 4000000 in
set_option maxRecDepth 100000 in
theorem seg_wire {p : Program} {l : Launch} {e : Env} {s : State} {m : MethodId} {below : List Frame} {meth : Method} {c : Code} {Q : State → Prop} {D : va_G} {cI cZ cB cS cL : ClassId} {b L o : Nat} {xs : Nat → Int32} {rad : Nat → Nat → Nat} (hst : l.stackTraces = false) (hL : L ≤ 2048) (C0 : lw_At p s m meth c b L xs) (hC : LC D cI cZ cB cS cL s o rad) (x0 i : Nat) (hi : i + 4 ≤ L) {cells slots : Nat} (hc5 : cells + 5 ≤ 601024) (hs5 : slots + 165 ≤ 7293034) {κ : Nat → Nat} {σ sc u : Nat → Nat → Int32} {ad : Nat → Nat → Nat} {f : Nat → Int64} {H : Heap} {locs : List Loc} {ls : Array Slot} (hI : gInv κ σ) (hW : LW D cI cZ cB cS cL s o rad κ σ κ σ sc u ad f H locs) (h0 : ad 0 0 = x0) (hl : lv_has ls 7 [(0, .ref b), (1, .ref x0), (2, .ref (rad 0 0)), (3, .ref o), (4, .int (nI i))]) (kk : ∀ (κ : Nat → Nat) (σ sc u : Nat → Nat → Int32) (ad : Nat → Nat → Nat) (f : Nat → Int64) (H : Heap) (locs : List Loc) (ls : Array Slot), gInv κ σ → LW D cI cZ cB cS cL s o rad κ σ κ σ sc u ad f H locs → ad 0 0 = x0 → lv_has ls 7 [(0, .ref b), (1, .ref x0), (2, .ref (rad 0 0)), (3, .ref o), (4, .int (nI i))] → W p l e room_1 s m #[Value.ref b] below meth c H locs (cells + 5) (slots + 165) Q (F0 m 1176 ls [])) : W p l e room_1 s m #[Value.ref b] below meth c H locs cells slots Q (F0 m 176 ls []) := by
  obtain ⟨hx, hb, hr, hml, hown9, hts0, hX, hbl, hlocks, hgv⟩ := C0
  have hown : s.vm.findClass RL = some m.cls := hown9
  have hts : ∀ w ∈ wsL_law, w.before #[Value.ref b] s = true := fun w h => hts0 w (wsL_law_in w h)
  have hbA : ¬ lA0 s b := Nat.not_le.mpr hbl
  have hKL := hC.1.2.1
  obtain ⟨a0, a1, a3, a2, ak, a22, a7, a9, a18, a10, a30, ac, as⟩ := id hI
  subst h0
  have hS := hW.2.2.2
  obtain ⟨y0, ey0⟩ : ∃ z : Int32, z = xs (i + 1) := ⟨_, rfl⟩
  obtain ⟨y1, ey1⟩ : ∃ z : Int32, z = xs (i + 2) := ⟨_, rfl⟩
  obtain ⟨y2, ey2⟩ : ∃ z : Int32, z = xs (i + 3) := ⟨_, rfl⟩
  refine lv_aload_n hx hb dL_law_176 rfl (lv_at hl 1 rfl) ?_
  refine lv_aload_n hx hb dL_law_177 rfl (lv_at hl 0 rfl) ?_
  refine lv_iload hx hb dL_law_178 (lv_at hl 4 rfl) ?_
  refine lv_iconst (v := 1) hx hb dL_law_180 (by decide) ?_
  refine lv_iadd hx hb dL_law_181 ?_
  refine lv_toq (nI (i + 1)) (nI_add i 1) ?_
  refine va_sld hx hb hX hbl hbA hS (vp_in_nI (show i + 1 < L by omega) (by omega)) dL_law_182 ?_
  refine lv_toq y0 (by rw [nI_clamp (show i + 1 < 2 ^ 31 by omega), ey0]) ?_
  refine lv_aload_n hx hb dL_law_183 rfl (lv_at hl 0 rfl) ?_
  refine lv_iload hx hb dL_law_184 (lv_at hl 4 rfl) ?_
  refine lv_iconst (v := 2) hx hb dL_law_186 (by decide) ?_
  refine lv_iadd hx hb dL_law_187 ?_
  refine lv_toq (nI (i + 2)) (nI_add i 2) ?_
  refine va_sld hx hb hX hbl hbA hS (vp_in_nI (show i + 2 < L by omega) (by omega)) dL_law_188 ?_
  refine lv_toq y1 (by rw [nI_clamp (show i + 2 < 2 ^ 31 by omega), ey1]) ?_
  refine lv_aload_n hx hb dL_law_189 rfl (lv_at hl 0 rfl) ?_
  refine lv_iload hx hb dL_law_190 (lv_at hl 4 rfl) ?_
  refine lv_iconst (v := 3) hx hb dL_law_192 (by decide) ?_
  refine lv_iadd hx hb dL_law_193 ?_
  refine lv_toq (nI (i + 3)) (nI_add i 3) ?_
  refine va_sld hx hb hX hbl hbA hS (vp_in_nI (show i + 3 < L by omega) (by omega)) dL_law_194 ?_
  refine lv_toq y2 (by rw [nI_clamp (show i + 3 < 2 ^ 31 by omega), ey2]) ?_
  refine lv_aload_n hx hb dL_law_195 rfl (lv_at hl 3 rfl) ?_
  refine va_calli (vx_runSW (As := [.ref ((ad 0 0)), .int y0, .int y1, .int y2, .ref o]) (rest := []) ⟨hx, hb, hml, hown, hts⟩ (k_L_wire (l := l) (D := D) (cI := cI) (cZ := cZ) (cB := cB) (cS := cS) (cL := cL) (A := lA s rad) κ σ sc ad o f hst a0 y0 y1 y2) (vx_cwSW 5 hts gL_law_L_wire rfl rfl rfl (by decide +kernel) ⟨(Nat.le_of_ble_eq_true rfl), (Nat.le_of_ble_eq_true rfl)⟩) (lPreS hC hW) rfl rfl hl.1 rfl (lv_room (Nat.le_of_ble_eq_true rfl)) dL_law_196 ⟨(show cells + 3 ≤ 601024 by omega), (show slots + 18 ≤ 7293034 by omega)⟩) hS (fun q _ h9 => h9.1) (fun q h9 => h9.1) (fun r9 u9 t9 H locs ht9 hvm9 hw9 hB9 hz9 hk9 hS => ?_)
  have hW : LW D cI cZ cB cS cL s o rad κ ((if cWire κ y0 y1 y2 = 0 then (wr σ 9 (3 * y0.toNatClampNeg + y1.toNatClampNeg) y2) else σ)) κ σ u9.2.1 u u9.1 u9.2.2 H locs := hW.h (by rw [← ht9]; exact hB9) hk9 hS
  refine lv_toq (nI (cWire κ y0 y1 y2)) hw9.1 ?_
  refine lv_istore (lv' := [(5, .int (nI ((cWire κ y0 y1 y2)))), (0, .ref b), (1, .ref ((ad 0 0))), (2, .ref ((rad 0 0))), (3, .ref o), (4, .int (nI i))]) hx hb dL_law_199 hl (by decide) rfl (fun ls hl => ?_)
  refine lv_aload_n hx hb dL_law_201 rfl (lv_at hl 3 rfl) ?_
  refine lv_aload_n hx hb dL_law_202 rfl (lv_at hl 1 rfl) ?_
  refine lv_iload hx hb dL_law_203 (lv_at hl 5 rfl) ?_
  refine lv_iconst (v := 1) hx hb dL_law_205 (by decide) ?_
  refine lv_iadd hx hb dL_law_206 ?_
  refine lv_toq (nI (i + 1)) (nI_add i 1) ?_
  refine va_sld hx hb hX hbl hbA hS (vp_in_nI (show i + 1 < L by omega) (by omega)) dL_law_207 ?_
  refine lv_toq y0 (by rw [nI_clamp (show i + 1 < 2 ^ 31 by omega), ey0]) ?_
  refine lv_aload_n hx hb dL_law_208 rfl (lv_at hl 1 rfl) ?_
  refine lv_iload hx hb dL_law_209 (lv_at hl 5 rfl) ?_
  refine lv_iconst (v := 2) hx hb dL_law_211 (by decide) ?_
  refine lv_iadd hx hb dL_law_212 ?_
  refine lv_toq (nI (i + 2)) (nI_add i 2) ?_
  refine va_sld hx hb hX hbl hbA hS (vp_in_nI (show i + 2 < L by omega) (by omega)) dL_law_213 ?_
  refine lv_toq y1 (by rw [nI_clamp (show i + 2 < 2 ^ 31 by omega), ey1]) ?_
  refine lv_aload_n hx hb dL_law_214 rfl (lv_at hl 1 rfl) ?_
  refine lv_iload hx hb dL_law_215 (lv_at hl 5 rfl) ?_
  refine lv_iconst (v := 3) hx hb dL_law_217 (by decide) ?_
  refine lv_iadd hx hb dL_law_218 ?_
  refine lv_toq (nI (i + 3)) (nI_add i 3) ?_
  refine va_sld hx hb hX hbl hbA hS (vp_in_nI (show i + 3 < L by omega) (by omega)) dL_law_219 ?_
  refine lv_toq y2 (by rw [nI_clamp (show i + 3 < 2 ^ 31 by omega), ey2]) ?_
  refine va_calli (va_runV (As := [.int y0, .int y1, .int y2]) (rest := []) ⟨hx, hb, hml, hown, hts⟩ (k_X4_wire (l := l) (D := D) (cI := cI) (cZ := cZ) (cB := cB) (cS := cS) (A := lR rad H.size) κ σ u rad a0 y0 y1 y2) (cwV 3 hts gL_law_X4_wire rfl rfl rfl (by decide +kernel) ⟨(Nat.le_of_ble_eq_true rfl), (Nat.le_of_ble_eq_true rfl)⟩) (lPreM hC hW) rfl rfl hl.1 rfl (lv_room (Nat.le_of_ble_eq_true rfl)) dL_law_220 ⟨(show cells + 3 + 0 ≤ 601024 by omega), (show slots + 18 + 0 ≤ 7293034 by omega)⟩) hS (fun q _ h9 => hW.r0 q h9) (fun q h9 => hW.r0 q h9) (fun r8 u8 t8 H locs ht8 hvm8 hw8 hB8 hz8 hk8 hS => ?_)
  have hW : LW D cI cZ cB cS cL s o rad κ ((if cWire κ y0 y1 y2 = 0 then (wr σ 9 (3 * y0.toNatClampNeg + y1.toNatClampNeg) y2) else σ)) κ ((if cWire κ y0 y1 y2 = 0 then (wr σ 9 (3 * y0.toNatClampNeg + y1.toNatClampNeg) y2) else σ)) u9.2.1 u8 u9.1 u9.2.2 H locs := hW.m hC (by rw [← ht8]; exact hB8) hk8 hS
  refine lv_istore (lv' := [(6, .int r8), (5, .int (nI ((cWire κ y0 y1 y2)))), (0, .ref b), (1, .ref ((ad 0 0))), (2, .ref ((rad 0 0))), (3, .ref o), (4, .int (nI i))]) hx hb dL_law_223 hl (by decide) rfl (fun ls hl => ?_)
  refine lv_aload_n hx hb dL_law_225 rfl (lv_at hl 4 rfl) ?_
  refine va_calli (va_runV (As := []) (rest := []) ⟨hx, hb, hml, hown, hts⟩ (k_X4_thrown (l := l) (D := D) (cI := cI) (cZ := cZ) (cB := cB) (cS := cS) (A := lR rad H.size) κ ((if cWire κ y0 y1 y2 = 0 then (wr σ 9 (3 * y0.toNatClampNeg + y1.toNatClampNeg) y2) else σ)) u8 rad) (cwV 0 hts gL_law_X4_thrown rfl rfl rfl (by decide +kernel) ⟨(Nat.le_of_ble_eq_true rfl), (Nat.le_of_ble_eq_true rfl)⟩) (lPreM hC hW) rfl rfl hl.1 rfl (lv_room (Nat.le_of_ble_eq_true rfl)) dL_law_226 ⟨(show cells + 3 + 0 + 0 ≤ 601024 by omega), (show slots + 18 + 0 + 0 ≤ 7293034 by omega)⟩) hS (fun q _ h9 => hW.r0 q h9) (fun q h9 => hW.r0 q h9) (fun r7 u7 t7 H locs ht7 hvm7 hw7 hB7 hz7 hk7 hS => ?_)
  have hW : LW D cI cZ cB cS cL s o rad κ ((if cWire κ y0 y1 y2 = 0 then (wr σ 9 (3 * y0.toNatClampNeg + y1.toNatClampNeg) y2) else σ)) κ ((if cWire κ y0 y1 y2 = 0 then (wr σ 9 (3 * y0.toNatClampNeg + y1.toNatClampNeg) y2) else σ)) u9.2.1 u8 u9.1 u9.2.2 H locs := hW.m hC (by rw [← ht7]; exact hB7) hk7 hS
  refine lv_toq (nI (cWire κ y0 y1 y2)) (hw7.trans hw8.1) ?_
  refine lv_iload hx hb dL_law_229 (lv_at hl 1 rfl) ?_
  refine lv_icmp_eq (tgt := 236) hx hb dL_law_231 (by decide) (fun _ => ?_) (fun z => absurd rfl z)
  refine lv_iload hx hb dL_law_236 (lv_at hl 1 rfl) ?_
  refine lv_if_ne (tgt := 253) hx hb dL_law_238 (by decide) (fun c_1 => ?_) (fun c_1 => ?_)
  · refine lv_goto (tgt := 1176) hx hb dL_law_253 (by decide) ?_
    refine W.widen (k := cells + 5) (n := slots + 165) (by omega) (by omega) ?_
    exact kk κ ((if cWire κ y0 y1 y2 = 0 then (wr σ 9 (3 * y0.toNatClampNeg + y1.toNatClampNeg) y2) else σ)) u9.2.1 u8 u9.1 u9.2.2 H locs ls (hI.oWire y0 y1 y2) hW hw9.2.2 (lv_sub hl [2, 3, 4, 5, 6] rfl)
  · have hcz : cWire κ y0 y1 y2 = 0 := nI_z (cWire_le _ _ _ _) c_1
    have hv8 := hw8.2 hcz
    have hv9 := hw9.2.1 hcz
    refine lv_aload_n hx hb dL_law_241 rfl (lv_at hl 5 rfl) ?_
    refine lv_iconst (v := 0) hx hb dL_law_242 (by decide) ?_
    refine gl_lald hx hb hKL hW.2.2.1 dL_law_243 ?_
    refine lv_iload hx hb dL_law_244 (lv_at hl 0 rfl) ?_
    refine lv_i2l (v := (r8).toInt64) hx hb dL_law_246 rfl ?_
    refine W.lcmp hx hb dL_law_247 ?_
    refine lv_if_eq (tgt := 253) hx hb dL_law_248 (by decide) (fun _ => ?_) (fun z => absurd (lcmp_0 (hv9.trans (congrArg Int32.toInt64 hv8.symm))) z)
    refine lv_goto (tgt := 1176) hx hb dL_law_253 (by decide) ?_
    refine W.widen (k := cells + 5) (n := slots + 165) (by omega) (by omega) ?_
    exact kk κ ((if cWire κ y0 y1 y2 = 0 then (wr σ 9 (3 * y0.toNatClampNeg + y1.toNatClampNeg) y2) else σ)) u9.2.1 u8 u9.1 u9.2.2 H locs ls (hI.oWire y0 y1 y2) hW hw9.2.2 (lv_sub hl [2, 3, 4, 5, 6] rfl)

set_option maxHeartbeats 4000000 in
set_option maxRecDepth 100000 in
theorem seg_numbers {p : Program} {l : Launch} {e : Env} {s : State} {m : MethodId} {below : List Frame} {meth : Method} {c : Code} {Q : State → Prop} {D : va_G} {cI cZ cB cS cL : ClassId} {b L o : Nat} {xs : Nat → Int32} {rad : Nat → Nat → Nat} (hst : l.stackTraces = false) (hL : L ≤ 2048) (C0 : lw_At p s m meth c b L xs) (hC : LC D cI cZ cB cS cL s o rad) (x0 i : Nat) (hi : i + 4 ≤ L) {cells slots : Nat} (hc5 : cells + 5 ≤ 601024) (hs5 : slots + 165 ≤ 7293034) {κ : Nat → Nat} {σ sc u : Nat → Nat → Int32} {ad : Nat → Nat → Nat} {f : Nat → Int64} {H : Heap} {locs : List Loc} {ls : Array Slot} (hI : gInv κ σ) (hW : LW D cI cZ cB cS cL s o rad κ σ κ σ sc u ad f H locs) (h0 : ad 0 0 = x0) (hl : lv_has ls 7 [(0, .ref b), (1, .ref x0), (2, .ref (rad 0 0)), (3, .ref o), (4, .int (nI i))]) (kk : ∀ (κ : Nat → Nat) (σ sc u : Nat → Nat → Int32) (ad : Nat → Nat → Nat) (f : Nat → Int64) (H : Heap) (locs : List Loc) (ls : Array Slot), gInv κ σ → LW D cI cZ cB cS cL s o rad κ σ κ σ sc u ad f H locs → ad 0 0 = x0 → lv_has ls 7 [(0, .ref b), (1, .ref x0), (2, .ref (rad 0 0)), (3, .ref o), (4, .int (nI i))] → W p l e room_1 s m #[Value.ref b] below meth c H locs (cells + 5) (slots + 165) Q (F0 m 1176 ls [])) : W p l e room_1 s m #[Value.ref b] below meth c H locs cells slots Q (F0 m 256 ls []) := by
  obtain ⟨hx, hb, hr, hml, hown9, hts0, hX, hbl, hlocks, hgv⟩ := C0
  have hown : s.vm.findClass RL = some m.cls := hown9
  have hts : ∀ w ∈ wsL_law, w.before #[Value.ref b] s = true := fun w h => hts0 w (wsL_law_in w h)
  have hbA : ¬ lA0 s b := Nat.not_le.mpr hbl
  have hKL := hC.1.2.1
  obtain ⟨a0, a1, a3, a2, ak, a22, a7, a9, a18, a10, a30, ac, as⟩ := id hI
  subst h0
  have hS := hW.2.2.2
  obtain ⟨y0, ey0⟩ : ∃ z : Int32, z = xs (i + 1) := ⟨_, rfl⟩
  obtain ⟨y1, ey1⟩ : ∃ z : Int32, z = xs (i + 2) := ⟨_, rfl⟩
  obtain ⟨y2, ey2⟩ : ∃ z : Int32, z = xs (i + 3) := ⟨_, rfl⟩
  refine lv_aload_n hx hb dL_law_256 rfl (lv_at hl 1 rfl) ?_
  refine lv_aload_n hx hb dL_law_257 rfl (lv_at hl 0 rfl) ?_
  refine lv_iload hx hb dL_law_258 (lv_at hl 4 rfl) ?_
  refine lv_iconst (v := 1) hx hb dL_law_260 (by decide) ?_
  refine lv_iadd hx hb dL_law_261 ?_
  refine lv_toq (nI (i + 1)) (nI_add i 1) ?_
  refine va_sld hx hb hX hbl hbA hS (vp_in_nI (show i + 1 < L by omega) (by omega)) dL_law_262 ?_
  refine lv_toq y0 (by rw [nI_clamp (show i + 1 < 2 ^ 31 by omega), ey0]) ?_
  refine lv_aload_n hx hb dL_law_263 rfl (lv_at hl 0 rfl) ?_
  refine lv_iload hx hb dL_law_264 (lv_at hl 4 rfl) ?_
  refine lv_iconst (v := 2) hx hb dL_law_266 (by decide) ?_
  refine lv_iadd hx hb dL_law_267 ?_
  refine lv_toq (nI (i + 2)) (nI_add i 2) ?_
  refine va_sld hx hb hX hbl hbA hS (vp_in_nI (show i + 2 < L by omega) (by omega)) dL_law_268 ?_
  refine lv_toq y1 (by rw [nI_clamp (show i + 2 < 2 ^ 31 by omega), ey1]) ?_
  refine lv_aload_n hx hb dL_law_269 rfl (lv_at hl 0 rfl) ?_
  refine lv_iload hx hb dL_law_270 (lv_at hl 4 rfl) ?_
  refine lv_iconst (v := 3) hx hb dL_law_272 (by decide) ?_
  refine lv_iadd hx hb dL_law_273 ?_
  refine lv_toq (nI (i + 3)) (nI_add i 3) ?_
  refine va_sld hx hb hX hbl hbA hS (vp_in_nI (show i + 3 < L by omega) (by omega)) dL_law_274 ?_
  refine lv_toq y2 (by rw [nI_clamp (show i + 3 < 2 ^ 31 by omega), ey2]) ?_
  refine va_calli (vx_runSW (As := [.ref ((ad 0 0)), .int y0, .int y1, .int y2]) (rest := []) ⟨hx, hb, hml, hown, hts⟩ (k_L_numbers (l := l) (D := D) (cI := cI) (cZ := cZ) (cB := cB) (cS := cS) (cL := cL) (A := lA s rad) κ σ sc ad o f hst a0 y0 y1 y2) (vx_cwSW 4 hts gL_law_L_numbers rfl rfl rfl (by decide +kernel) ⟨(Nat.le_of_ble_eq_true rfl), (Nat.le_of_ble_eq_true rfl)⟩) (lPreS hC hW) rfl rfl hl.1 rfl (lv_room (Nat.le_of_ble_eq_true rfl)) dL_law_275 ⟨(show cells + 1 ≤ 601024 by omega), (show slots + 6 ≤ 7293034 by omega)⟩) hS (fun q _ h9 => h9.1) (fun q h9 => h9.1) (fun r9 u9 t9 H locs ht9 hvm9 hw9 hB9 hz9 hk9 hS => ?_)
  have hW : LW D cI cZ cB cS cL s o rad κ ((if cOne (κ 0) y0 = 0 then (wr (wr σ 1 y0.toNatClampNeg y1) 2 y0.toNatClampNeg y2) else σ)) κ σ u9.2.1 u u9.1 u9.2.2 H locs := hW.h (by rw [← ht9]; exact hB9) hk9 hS
  refine lv_toq (nI (cOne (κ 0) y0)) hw9.1 ?_
  refine lv_istore (lv' := [(5, .int (nI ((cOne (κ 0) y0)))), (0, .ref b), (1, .ref ((ad 0 0))), (2, .ref ((rad 0 0))), (3, .ref o), (4, .int (nI i))]) hx hb dL_law_278 hl (by decide) rfl (fun ls hl => ?_)
  refine lv_aload_n hx hb dL_law_280 rfl (lv_at hl 3 rfl) ?_
  refine lv_aload_n hx hb dL_law_281 rfl (lv_at hl 1 rfl) ?_
  refine lv_iload hx hb dL_law_282 (lv_at hl 5 rfl) ?_
  refine lv_iconst (v := 1) hx hb dL_law_284 (by decide) ?_
  refine lv_iadd hx hb dL_law_285 ?_
  refine lv_toq (nI (i + 1)) (nI_add i 1) ?_
  refine va_sld hx hb hX hbl hbA hS (vp_in_nI (show i + 1 < L by omega) (by omega)) dL_law_286 ?_
  refine lv_toq y0 (by rw [nI_clamp (show i + 1 < 2 ^ 31 by omega), ey0]) ?_
  refine lv_aload_n hx hb dL_law_287 rfl (lv_at hl 1 rfl) ?_
  refine lv_iload hx hb dL_law_288 (lv_at hl 5 rfl) ?_
  refine lv_iconst (v := 2) hx hb dL_law_290 (by decide) ?_
  refine lv_iadd hx hb dL_law_291 ?_
  refine lv_toq (nI (i + 2)) (nI_add i 2) ?_
  refine va_sld hx hb hX hbl hbA hS (vp_in_nI (show i + 2 < L by omega) (by omega)) dL_law_292 ?_
  refine lv_toq y1 (by rw [nI_clamp (show i + 2 < 2 ^ 31 by omega), ey1]) ?_
  refine lv_aload_n hx hb dL_law_293 rfl (lv_at hl 1 rfl) ?_
  refine lv_iload hx hb dL_law_294 (lv_at hl 5 rfl) ?_
  refine lv_iconst (v := 3) hx hb dL_law_296 (by decide) ?_
  refine lv_iadd hx hb dL_law_297 ?_
  refine lv_toq (nI (i + 3)) (nI_add i 3) ?_
  refine va_sld hx hb hX hbl hbA hS (vp_in_nI (show i + 3 < L by omega) (by omega)) dL_law_298 ?_
  refine lv_toq y2 (by rw [nI_clamp (show i + 3 < 2 ^ 31 by omega), ey2]) ?_
  refine va_callv (va_runV (As := [.int y0, .int y1, .int y2]) (rest := []) ⟨hx, hb, hml, hown, hts⟩ (k_X4_numbers (l := l) (D := D) (cI := cI) (cZ := cZ) (cB := cB) (cS := cS) (A := lR rad H.size) κ σ u rad a0 y0 y1 y2) (cwV 3 hts gL_law_X4_numbers rfl rfl rfl (by decide +kernel) ⟨(Nat.le_of_ble_eq_true rfl), (Nat.le_of_ble_eq_true rfl)⟩) (lPreM hC hW) rfl rfl hl.1 rfl (lv_room (Nat.le_of_ble_eq_true rfl)) dL_law_299 ⟨(show cells + 1 + 0 ≤ 601024 by omega), (show slots + 6 + 0 ≤ 7293034 by omega)⟩) hS (fun q _ h9 => hW.r0 q h9) (fun q h9 => hW.r0 q h9) (fun u8 t8 H locs ht8 hvm8 hw8 hB8 hz8 hk8 hS => ?_)
  have hW : LW D cI cZ cB cS cL s o rad κ ((if cOne (κ 0) y0 = 0 then (wr (wr σ 1 y0.toNatClampNeg y1) 2 y0.toNatClampNeg y2) else σ)) κ ((if cOne (κ 0) y0 = 0 then (wr (wr σ 1 y0.toNatClampNeg y1) 2 y0.toNatClampNeg y2) else σ)) u9.2.1 u8 u9.1 u9.2.2 H locs := hW.m hC (by rw [← ht8]; exact hB8) hk8 hS
  refine lv_aload_n hx hb dL_law_302 rfl (lv_at hl 3 rfl) ?_
  refine va_calli (va_runV (As := []) (rest := []) ⟨hx, hb, hml, hown, hts⟩ (k_X4_thrown (l := l) (D := D) (cI := cI) (cZ := cZ) (cB := cB) (cS := cS) (A := lR rad H.size) κ ((if cOne (κ 0) y0 = 0 then (wr (wr σ 1 y0.toNatClampNeg y1) 2 y0.toNatClampNeg y2) else σ)) u8 rad) (cwV 0 hts gL_law_X4_thrown rfl rfl rfl (by decide +kernel) ⟨(Nat.le_of_ble_eq_true rfl), (Nat.le_of_ble_eq_true rfl)⟩) (lPreM hC hW) rfl rfl hl.1 rfl (lv_room (Nat.le_of_ble_eq_true rfl)) dL_law_303 ⟨(show cells + 1 + 0 + 0 ≤ 601024 by omega), (show slots + 6 + 0 + 0 ≤ 7293034 by omega)⟩) hS (fun q _ h9 => hW.r0 q h9) (fun q h9 => hW.r0 q h9) (fun r7 u7 t7 H locs ht7 hvm7 hw7 hB7 hz7 hk7 hS => ?_)
  have hW : LW D cI cZ cB cS cL s o rad κ ((if cOne (κ 0) y0 = 0 then (wr (wr σ 1 y0.toNatClampNeg y1) 2 y0.toNatClampNeg y2) else σ)) κ ((if cOne (κ 0) y0 = 0 then (wr (wr σ 1 y0.toNatClampNeg y1) 2 y0.toNatClampNeg y2) else σ)) u9.2.1 u8 u9.1 u9.2.2 H locs := hW.m hC (by rw [← ht7]; exact hB7) hk7 hS
  refine lv_toq (nI (cOne (κ 0) y0)) (hw7.trans hw8) ?_
  refine lv_iload hx hb dL_law_306 (lv_at hl 0 rfl) ?_
  refine lv_icmp_eq (tgt := 313) hx hb dL_law_308 (by decide) (fun _ => ?_) (fun z => absurd rfl z)
  refine lv_goto (tgt := 1176) hx hb dL_law_313 (by decide) ?_
  refine W.widen (k := cells + 5) (n := slots + 165) (by omega) (by omega) ?_
  exact kk κ ((if cOne (κ 0) y0 = 0 then (wr (wr σ 1 y0.toNatClampNeg y1) 2 y0.toNatClampNeg y2) else σ)) u9.2.1 u8 u9.1 u9.2.2 H locs ls (hI.oNumbers y0 y1 y2) hW hw9.2.2 (lv_sub hl [1, 2, 3, 4, 5] rfl)

set_option maxHeartbeats 4000000 in
set_option maxRecDepth 100000 in
theorem seg_row {p : Program} {l : Launch} {e : Env} {s : State} {m : MethodId} {below : List Frame} {meth : Method} {c : Code} {Q : State → Prop} {D : va_G} {cI cZ cB cS cL : ClassId} {b L o : Nat} {xs : Nat → Int32} {rad : Nat → Nat → Nat} (hst : l.stackTraces = false) (hL : L ≤ 2048) (C0 : lw_At p s m meth c b L xs) (hC : LC D cI cZ cB cS cL s o rad) (x0 i : Nat) (hi : i + 4 ≤ L) {cells slots : Nat} (hc5 : cells + 5 ≤ 601024) (hs5 : slots + 165 ≤ 7293034) {κ : Nat → Nat} {σ sc u : Nat → Nat → Int32} {ad : Nat → Nat → Nat} {f : Nat → Int64} {H : Heap} {locs : List Loc} {ls : Array Slot} (hI : gInv κ σ) (hW : LW D cI cZ cB cS cL s o rad κ σ κ σ sc u ad f H locs) (h0 : ad 0 0 = x0) (hl : lv_has ls 7 [(0, .ref b), (1, .ref x0), (2, .ref (rad 0 0)), (3, .ref o), (4, .int (nI i))]) (kk : ∀ (κ : Nat → Nat) (σ sc u : Nat → Nat → Int32) (ad : Nat → Nat → Nat) (f : Nat → Int64) (H : Heap) (locs : List Loc) (ls : Array Slot), gInv κ σ → LW D cI cZ cB cS cL s o rad κ σ κ σ sc u ad f H locs → ad 0 0 = x0 → lv_has ls 7 [(0, .ref b), (1, .ref x0), (2, .ref (rad 0 0)), (3, .ref o), (4, .int (nI i))] → W p l e room_1 s m #[Value.ref b] below meth c H locs (cells + 5) (slots + 165) Q (F0 m 1176 ls [])) : W p l e room_1 s m #[Value.ref b] below meth c H locs cells slots Q (F0 m 316 ls []) := by
  obtain ⟨hx, hb, hr, hml, hown9, hts0, hX, hbl, hlocks, hgv⟩ := C0
  have hown : s.vm.findClass RL = some m.cls := hown9
  have hts : ∀ w ∈ wsL_law, w.before #[Value.ref b] s = true := fun w h => hts0 w (wsL_law_in w h)
  have hbA : ¬ lA0 s b := Nat.not_le.mpr hbl
  have hKL := hC.1.2.1
  obtain ⟨a0, a1, a3, a2, ak, a22, a7, a9, a18, a10, a30, ac, as⟩ := id hI
  subst h0
  have hS := hW.2.2.2
  obtain ⟨y0, ey0⟩ : ∃ z : Int32, z = xs (i + 1) := ⟨_, rfl⟩
  obtain ⟨y1, ey1⟩ : ∃ z : Int32, z = xs (i + 2) := ⟨_, rfl⟩
  obtain ⟨y2, ey2⟩ : ∃ z : Int32, z = xs (i + 3) := ⟨_, rfl⟩
  refine lv_aload_n hx hb dL_law_316 rfl (lv_at hl 1 rfl) ?_
  refine lv_aload_n hx hb dL_law_317 rfl (lv_at hl 0 rfl) ?_
  refine lv_iload hx hb dL_law_318 (lv_at hl 4 rfl) ?_
  refine lv_iconst (v := 1) hx hb dL_law_320 (by decide) ?_
  refine lv_iadd hx hb dL_law_321 ?_
  refine lv_toq (nI (i + 1)) (nI_add i 1) ?_
  refine va_sld hx hb hX hbl hbA hS (vp_in_nI (show i + 1 < L by omega) (by omega)) dL_law_322 ?_
  refine lv_toq y0 (by rw [nI_clamp (show i + 1 < 2 ^ 31 by omega), ey0]) ?_
  refine lv_aload_n hx hb dL_law_323 rfl (lv_at hl 0 rfl) ?_
  refine lv_iload hx hb dL_law_324 (lv_at hl 4 rfl) ?_
  refine lv_iconst (v := 2) hx hb dL_law_326 (by decide) ?_
  refine lv_iadd hx hb dL_law_327 ?_
  refine lv_toq (nI (i + 2)) (nI_add i 2) ?_
  refine va_sld hx hb hX hbl hbA hS (vp_in_nI (show i + 2 < L by omega) (by omega)) dL_law_328 ?_
  refine lv_toq y1 (by rw [nI_clamp (show i + 2 < 2 ^ 31 by omega), ey1]) ?_
  refine lv_aload_n hx hb dL_law_329 rfl (lv_at hl 0 rfl) ?_
  refine lv_iload hx hb dL_law_330 (lv_at hl 4 rfl) ?_
  refine lv_iconst (v := 3) hx hb dL_law_332 (by decide) ?_
  refine lv_iadd hx hb dL_law_333 ?_
  refine lv_toq (nI (i + 3)) (nI_add i 3) ?_
  refine va_sld hx hb hX hbl hbA hS (vp_in_nI (show i + 3 < L by omega) (by omega)) dL_law_334 ?_
  refine lv_toq y2 (by rw [nI_clamp (show i + 3 < 2 ^ 31 by omega), ey2]) ?_
  refine lv_aload_n hx hb dL_law_335 rfl (lv_at hl 3 rfl) ?_
  refine va_calli (vx_runSW (As := [.ref ((ad 0 0)), .int y0, .int y1, .int y2, .ref o]) (rest := []) ⟨hx, hb, hml, hown, hts⟩ (k_L_row (l := l) (D := D) (cI := cI) (cZ := cZ) (cB := cB) (cS := cS) (cL := cL) (A := lA s rad) κ σ sc ad o f hst a0 y0 y1 y2) (vx_cwSW 5 hts gL_law_L_row rfl rfl rfl (by decide +kernel) ⟨(Nat.le_of_ble_eq_true rfl), (Nat.le_of_ble_eq_true rfl)⟩) (lPreS hC hW) rfl rfl hl.1 rfl (lv_room (Nat.le_of_ble_eq_true rfl)) dL_law_336 ⟨(show cells + 3 ≤ 601024 by omega), (show slots + 18 ≤ 7293034 by omega)⟩) hS (fun q _ h9 => h9.1) (fun q h9 => h9.1) (fun r9 u9 t9 H locs ht9 hvm9 hw9 hB9 hz9 hk9 hS => ?_)
  have hW : LW D cI cZ cB cS cL s o rad κ ((if cRow κ σ y0 y1 = 0 then (wr σ 10 (8 * y0.toNatClampNeg + y1.toNatClampNeg) y2) else σ)) κ σ u9.2.1 u u9.1 u9.2.2 H locs := hW.h (by rw [← ht9]; exact hB9) hk9 hS
  refine lv_toq (nI (cRow κ σ y0 y1)) hw9.1 ?_
  refine lv_istore (lv' := [(5, .int (nI ((cRow κ σ y0 y1)))), (0, .ref b), (1, .ref ((ad 0 0))), (2, .ref ((rad 0 0))), (3, .ref o), (4, .int (nI i))]) hx hb dL_law_339 hl (by decide) rfl (fun ls hl => ?_)
  refine lv_aload_n hx hb dL_law_341 rfl (lv_at hl 3 rfl) ?_
  refine lv_aload_n hx hb dL_law_342 rfl (lv_at hl 1 rfl) ?_
  refine lv_iload hx hb dL_law_343 (lv_at hl 5 rfl) ?_
  refine lv_iconst (v := 1) hx hb dL_law_345 (by decide) ?_
  refine lv_iadd hx hb dL_law_346 ?_
  refine lv_toq (nI (i + 1)) (nI_add i 1) ?_
  refine va_sld hx hb hX hbl hbA hS (vp_in_nI (show i + 1 < L by omega) (by omega)) dL_law_347 ?_
  refine lv_toq y0 (by rw [nI_clamp (show i + 1 < 2 ^ 31 by omega), ey0]) ?_
  refine lv_aload_n hx hb dL_law_348 rfl (lv_at hl 1 rfl) ?_
  refine lv_iload hx hb dL_law_349 (lv_at hl 5 rfl) ?_
  refine lv_iconst (v := 2) hx hb dL_law_351 (by decide) ?_
  refine lv_iadd hx hb dL_law_352 ?_
  refine lv_toq (nI (i + 2)) (nI_add i 2) ?_
  refine va_sld hx hb hX hbl hbA hS (vp_in_nI (show i + 2 < L by omega) (by omega)) dL_law_353 ?_
  refine lv_toq y1 (by rw [nI_clamp (show i + 2 < 2 ^ 31 by omega), ey1]) ?_
  refine lv_aload_n hx hb dL_law_354 rfl (lv_at hl 1 rfl) ?_
  refine lv_iload hx hb dL_law_355 (lv_at hl 5 rfl) ?_
  refine lv_iconst (v := 3) hx hb dL_law_357 (by decide) ?_
  refine lv_iadd hx hb dL_law_358 ?_
  refine lv_toq (nI (i + 3)) (nI_add i 3) ?_
  refine va_sld hx hb hX hbl hbA hS (vp_in_nI (show i + 3 < L by omega) (by omega)) dL_law_359 ?_
  refine lv_toq y2 (by rw [nI_clamp (show i + 3 < 2 ^ 31 by omega), ey2]) ?_
  refine va_calli (va_runV (As := [.int y0, .int y1, .int y2]) (rest := []) ⟨hx, hb, hml, hown, hts⟩ (k_X4_row (l := l) (D := D) (cI := cI) (cZ := cZ) (cB := cB) (cS := cS) (A := lR rad H.size) κ σ u rad a0 y0 y1 y2) (cwV 3 hts gL_law_X4_row rfl rfl rfl (by decide +kernel) ⟨(Nat.le_of_ble_eq_true rfl), (Nat.le_of_ble_eq_true rfl)⟩) (lPreM hC hW) rfl rfl hl.1 rfl (lv_room (Nat.le_of_ble_eq_true rfl)) dL_law_360 ⟨(show cells + 3 + 0 ≤ 601024 by omega), (show slots + 18 + 0 ≤ 7293034 by omega)⟩) hS (fun q _ h9 => hW.r0 q h9) (fun q h9 => hW.r0 q h9) (fun r8 u8 t8 H locs ht8 hvm8 hw8 hB8 hz8 hk8 hS => ?_)
  have hW : LW D cI cZ cB cS cL s o rad κ ((if cRow κ σ y0 y1 = 0 then (wr σ 10 (8 * y0.toNatClampNeg + y1.toNatClampNeg) y2) else σ)) κ ((if cRow κ σ y0 y1 = 0 then (wr σ 10 (8 * y0.toNatClampNeg + y1.toNatClampNeg) y2) else σ)) u9.2.1 u8 u9.1 u9.2.2 H locs := hW.m hC (by rw [← ht8]; exact hB8) hk8 hS
  refine lv_istore (lv' := [(6, .int r8), (5, .int (nI ((cRow κ σ y0 y1)))), (0, .ref b), (1, .ref ((ad 0 0))), (2, .ref ((rad 0 0))), (3, .ref o), (4, .int (nI i))]) hx hb dL_law_363 hl (by decide) rfl (fun ls hl => ?_)
  refine lv_aload_n hx hb dL_law_365 rfl (lv_at hl 4 rfl) ?_
  refine va_calli (va_runV (As := []) (rest := []) ⟨hx, hb, hml, hown, hts⟩ (k_X4_thrown (l := l) (D := D) (cI := cI) (cZ := cZ) (cB := cB) (cS := cS) (A := lR rad H.size) κ ((if cRow κ σ y0 y1 = 0 then (wr σ 10 (8 * y0.toNatClampNeg + y1.toNatClampNeg) y2) else σ)) u8 rad) (cwV 0 hts gL_law_X4_thrown rfl rfl rfl (by decide +kernel) ⟨(Nat.le_of_ble_eq_true rfl), (Nat.le_of_ble_eq_true rfl)⟩) (lPreM hC hW) rfl rfl hl.1 rfl (lv_room (Nat.le_of_ble_eq_true rfl)) dL_law_366 ⟨(show cells + 3 + 0 + 0 ≤ 601024 by omega), (show slots + 18 + 0 + 0 ≤ 7293034 by omega)⟩) hS (fun q _ h9 => hW.r0 q h9) (fun q h9 => hW.r0 q h9) (fun r7 u7 t7 H locs ht7 hvm7 hw7 hB7 hz7 hk7 hS => ?_)
  have hW : LW D cI cZ cB cS cL s o rad κ ((if cRow κ σ y0 y1 = 0 then (wr σ 10 (8 * y0.toNatClampNeg + y1.toNatClampNeg) y2) else σ)) κ ((if cRow κ σ y0 y1 = 0 then (wr σ 10 (8 * y0.toNatClampNeg + y1.toNatClampNeg) y2) else σ)) u9.2.1 u8 u9.1 u9.2.2 H locs := hW.m hC (by rw [← ht7]; exact hB7) hk7 hS
  refine lv_toq (nI (cRow κ σ y0 y1)) (hw7.trans hw8.1) ?_
  refine lv_iload hx hb dL_law_369 (lv_at hl 1 rfl) ?_
  refine lv_icmp_eq (tgt := 376) hx hb dL_law_371 (by decide) (fun _ => ?_) (fun z => absurd rfl z)
  refine lv_iload hx hb dL_law_376 (lv_at hl 1 rfl) ?_
  refine lv_if_ne (tgt := 393) hx hb dL_law_378 (by decide) (fun c_1 => ?_) (fun c_1 => ?_)
  · refine lv_goto (tgt := 1176) hx hb dL_law_393 (by decide) ?_
    refine W.widen (k := cells + 5) (n := slots + 165) (by omega) (by omega) ?_
    exact kk κ ((if cRow κ σ y0 y1 = 0 then (wr σ 10 (8 * y0.toNatClampNeg + y1.toNatClampNeg) y2) else σ)) u9.2.1 u8 u9.1 u9.2.2 H locs ls (hI.oRow y0 y1 y2) hW hw9.2.2 (lv_sub hl [2, 3, 4, 5, 6] rfl)
  · have hcz : cRow κ σ y0 y1 = 0 := nI_z (cRow_le _ _ _ _) c_1
    have hv8 := hw8.2 hcz
    have hv9 := hw9.2.1 hcz
    refine lv_aload_n hx hb dL_law_381 rfl (lv_at hl 5 rfl) ?_
    refine lv_iconst (v := 0) hx hb dL_law_382 (by decide) ?_
    refine gl_lald hx hb hKL hW.2.2.1 dL_law_383 ?_
    refine lv_iload hx hb dL_law_384 (lv_at hl 0 rfl) ?_
    refine lv_i2l (v := (r8).toInt64) hx hb dL_law_386 rfl ?_
    refine W.lcmp hx hb dL_law_387 ?_
    refine lv_if_eq (tgt := 393) hx hb dL_law_388 (by decide) (fun _ => ?_) (fun z => absurd (lcmp_0 (hv9.trans (congrArg Int32.toInt64 hv8.symm))) z)
    refine lv_goto (tgt := 1176) hx hb dL_law_393 (by decide) ?_
    refine W.widen (k := cells + 5) (n := slots + 165) (by omega) (by omega) ?_
    exact kk κ ((if cRow κ σ y0 y1 = 0 then (wr σ 10 (8 * y0.toNatClampNeg + y1.toNatClampNeg) y2) else σ)) u9.2.1 u8 u9.1 u9.2.2 H locs ls (hI.oRow y0 y1 y2) hW hw9.2.2 (lv_sub hl [2, 3, 4, 5, 6] rfl)

set_option maxHeartbeats 4000000 in
set_option maxRecDepth 100000 in
theorem seg_safe {p : Program} {l : Launch} {e : Env} {s : State} {m : MethodId} {below : List Frame} {meth : Method} {c : Code} {Q : State → Prop} {D : va_G} {cI cZ cB cS cL : ClassId} {b L o : Nat} {xs : Nat → Int32} {rad : Nat → Nat → Nat} (hst : l.stackTraces = false) (hL : L ≤ 2048) (C0 : lw_At p s m meth c b L xs) (hC : LC D cI cZ cB cS cL s o rad) (x0 i : Nat) (hi : i + 4 ≤ L) {cells slots : Nat} (hc5 : cells + 5 ≤ 601024) (hs5 : slots + 165 ≤ 7293034) {κ : Nat → Nat} {σ sc u : Nat → Nat → Int32} {ad : Nat → Nat → Nat} {f : Nat → Int64} {H : Heap} {locs : List Loc} {ls : Array Slot} (hI : gInv κ σ) (hW : LW D cI cZ cB cS cL s o rad κ σ κ σ sc u ad f H locs) (h0 : ad 0 0 = x0) (hl : lv_has ls 7 [(0, .ref b), (1, .ref x0), (2, .ref (rad 0 0)), (3, .ref o), (4, .int (nI i))]) (kk : ∀ (κ : Nat → Nat) (σ sc u : Nat → Nat → Int32) (ad : Nat → Nat → Nat) (f : Nat → Int64) (H : Heap) (locs : List Loc) (ls : Array Slot), gInv κ σ → LW D cI cZ cB cS cL s o rad κ σ κ σ sc u ad f H locs → ad 0 0 = x0 → lv_has ls 7 [(0, .ref b), (1, .ref x0), (2, .ref (rad 0 0)), (3, .ref o), (4, .int (nI i))] → W p l e room_1 s m #[Value.ref b] below meth c H locs (cells + 5) (slots + 165) Q (F0 m 1176 ls [])) : W p l e room_1 s m #[Value.ref b] below meth c H locs cells slots Q (F0 m 396 ls []) := by
  obtain ⟨hx, hb, hr, hml, hown9, hts0, hX, hbl, hlocks, hgv⟩ := C0
  have hown : s.vm.findClass RL = some m.cls := hown9
  have hts : ∀ w ∈ wsL_law, w.before #[Value.ref b] s = true := fun w h => hts0 w (wsL_law_in w h)
  have hbA : ¬ lA0 s b := Nat.not_le.mpr hbl
  have hKL := hC.1.2.1
  obtain ⟨a0, a1, a3, a2, ak, a22, a7, a9, a18, a10, a30, ac, as⟩ := id hI
  subst h0
  have hS := hW.2.2.2
  obtain ⟨y0, ey0⟩ : ∃ z : Int32, z = xs (i + 1) := ⟨_, rfl⟩
  obtain ⟨y1, ey1⟩ : ∃ z : Int32, z = xs (i + 2) := ⟨_, rfl⟩
  refine lv_aload_n hx hb dL_law_396 rfl (lv_at hl 1 rfl) ?_
  refine lv_aload_n hx hb dL_law_397 rfl (lv_at hl 0 rfl) ?_
  refine lv_iload hx hb dL_law_398 (lv_at hl 4 rfl) ?_
  refine lv_iconst (v := 1) hx hb dL_law_400 (by decide) ?_
  refine lv_iadd hx hb dL_law_401 ?_
  refine lv_toq (nI (i + 1)) (nI_add i 1) ?_
  refine va_sld hx hb hX hbl hbA hS (vp_in_nI (show i + 1 < L by omega) (by omega)) dL_law_402 ?_
  refine lv_toq y0 (by rw [nI_clamp (show i + 1 < 2 ^ 31 by omega), ey0]) ?_
  refine lv_aload_n hx hb dL_law_403 rfl (lv_at hl 0 rfl) ?_
  refine lv_iload hx hb dL_law_404 (lv_at hl 4 rfl) ?_
  refine lv_iconst (v := 2) hx hb dL_law_406 (by decide) ?_
  refine lv_iadd hx hb dL_law_407 ?_
  refine lv_toq (nI (i + 2)) (nI_add i 2) ?_
  refine va_sld hx hb hX hbl hbA hS (vp_in_nI (show i + 2 < L by omega) (by omega)) dL_law_408 ?_
  refine lv_toq y1 (by rw [nI_clamp (show i + 2 < 2 ^ 31 by omega), ey1]) ?_
  refine lv_aload_n hx hb dL_law_409 rfl (lv_at hl 3 rfl) ?_
  refine va_calli (vx_runSW (As := [.ref ((ad 0 0)), .int y0, .int y1, .ref o]) (rest := []) ⟨hx, hb, hml, hown, hts⟩ (k_L_safe (l := l) (D := D) (cI := cI) (cZ := cZ) (cB := cB) (cS := cS) (cL := cL) (A := lA s rad) κ σ sc ad o f hst a0 y0 y1) (vx_cwSW 4 hts gL_law_L_safe rfl rfl rfl (by decide +kernel) ⟨(Nat.le_of_ble_eq_true rfl), (Nat.le_of_ble_eq_true rfl)⟩) (lPreS hC hW) rfl rfl hl.1 rfl (lv_room (Nat.le_of_ble_eq_true rfl)) dL_law_410 ⟨(show cells + 1 ≤ 601024 by omega), (show slots + 6 ≤ 7293034 by omega)⟩) hS (fun q _ h9 => h9.1) (fun q h9 => h9.1) (fun r9 u9 t9 H locs ht9 hvm9 hw9 hB9 hz9 hk9 hS => ?_)
  have hW : LW D cI cZ cB cS cL s o rad κ ((if cOne (κ 0) y0 = 0 then (wr σ 3 y0.toNatClampNeg y1) else σ)) κ σ u9.2.1 u u9.1 u9.2.2 H locs := hW.h (by rw [← ht9]; exact hB9) hk9 hS
  refine lv_toq (nI (cOne (κ 0) y0)) hw9.1 ?_
  refine lv_istore (lv' := [(5, .int (nI ((cOne (κ 0) y0)))), (0, .ref b), (1, .ref ((ad 0 0))), (2, .ref ((rad 0 0))), (3, .ref o), (4, .int (nI i))]) hx hb dL_law_413 hl (by decide) rfl (fun ls hl => ?_)
  refine lv_aload_n hx hb dL_law_415 rfl (lv_at hl 3 rfl) ?_
  refine lv_aload_n hx hb dL_law_416 rfl (lv_at hl 1 rfl) ?_
  refine lv_iload hx hb dL_law_417 (lv_at hl 5 rfl) ?_
  refine lv_iconst (v := 1) hx hb dL_law_419 (by decide) ?_
  refine lv_iadd hx hb dL_law_420 ?_
  refine lv_toq (nI (i + 1)) (nI_add i 1) ?_
  refine va_sld hx hb hX hbl hbA hS (vp_in_nI (show i + 1 < L by omega) (by omega)) dL_law_421 ?_
  refine lv_toq y0 (by rw [nI_clamp (show i + 1 < 2 ^ 31 by omega), ey0]) ?_
  refine lv_aload_n hx hb dL_law_422 rfl (lv_at hl 1 rfl) ?_
  refine lv_iload hx hb dL_law_423 (lv_at hl 5 rfl) ?_
  refine lv_iconst (v := 2) hx hb dL_law_425 (by decide) ?_
  refine lv_iadd hx hb dL_law_426 ?_
  refine lv_toq (nI (i + 2)) (nI_add i 2) ?_
  refine va_sld hx hb hX hbl hbA hS (vp_in_nI (show i + 2 < L by omega) (by omega)) dL_law_427 ?_
  refine lv_toq y1 (by rw [nI_clamp (show i + 2 < 2 ^ 31 by omega), ey1]) ?_
  refine va_calli (va_runV (As := [.int y0, .int y1]) (rest := []) ⟨hx, hb, hml, hown, hts⟩ (k_X4_safe (l := l) (D := D) (cI := cI) (cZ := cZ) (cB := cB) (cS := cS) (A := lR rad H.size) κ σ u rad a0 y0 y1) (cwV 2 hts gL_law_X4_safe rfl rfl rfl (by decide +kernel) ⟨(Nat.le_of_ble_eq_true rfl), (Nat.le_of_ble_eq_true rfl)⟩) (lPreM hC hW) rfl rfl hl.1 rfl (lv_room (Nat.le_of_ble_eq_true rfl)) dL_law_428 ⟨(show cells + 1 + 0 ≤ 601024 by omega), (show slots + 6 + 0 ≤ 7293034 by omega)⟩) hS (fun q _ h9 => hW.r0 q h9) (fun q h9 => hW.r0 q h9) (fun r8 u8 t8 H locs ht8 hvm8 hw8 hB8 hz8 hk8 hS => ?_)
  have hW : LW D cI cZ cB cS cL s o rad κ ((if cOne (κ 0) y0 = 0 then (wr σ 3 y0.toNatClampNeg y1) else σ)) κ ((if cOne (κ 0) y0 = 0 then (wr σ 3 y0.toNatClampNeg y1) else σ)) u9.2.1 u8 u9.1 u9.2.2 H locs := hW.m hC (by rw [← ht8]; exact hB8) hk8 hS
  refine lv_istore (lv' := [(6, .int r8), (5, .int (nI ((cOne (κ 0) y0)))), (0, .ref b), (1, .ref ((ad 0 0))), (2, .ref ((rad 0 0))), (3, .ref o), (4, .int (nI i))]) hx hb dL_law_431 hl (by decide) rfl (fun ls hl => ?_)
  refine lv_aload_n hx hb dL_law_433 rfl (lv_at hl 4 rfl) ?_
  refine va_calli (va_runV (As := []) (rest := []) ⟨hx, hb, hml, hown, hts⟩ (k_X4_thrown (l := l) (D := D) (cI := cI) (cZ := cZ) (cB := cB) (cS := cS) (A := lR rad H.size) κ ((if cOne (κ 0) y0 = 0 then (wr σ 3 y0.toNatClampNeg y1) else σ)) u8 rad) (cwV 0 hts gL_law_X4_thrown rfl rfl rfl (by decide +kernel) ⟨(Nat.le_of_ble_eq_true rfl), (Nat.le_of_ble_eq_true rfl)⟩) (lPreM hC hW) rfl rfl hl.1 rfl (lv_room (Nat.le_of_ble_eq_true rfl)) dL_law_434 ⟨(show cells + 1 + 0 + 0 ≤ 601024 by omega), (show slots + 6 + 0 + 0 ≤ 7293034 by omega)⟩) hS (fun q _ h9 => hW.r0 q h9) (fun q h9 => hW.r0 q h9) (fun r7 u7 t7 H locs ht7 hvm7 hw7 hB7 hz7 hk7 hS => ?_)
  have hW : LW D cI cZ cB cS cL s o rad κ ((if cOne (κ 0) y0 = 0 then (wr σ 3 y0.toNatClampNeg y1) else σ)) κ ((if cOne (κ 0) y0 = 0 then (wr σ 3 y0.toNatClampNeg y1) else σ)) u9.2.1 u8 u9.1 u9.2.2 H locs := hW.m hC (by rw [← ht7]; exact hB7) hk7 hS
  refine lv_toq (nI (cOne (κ 0) y0)) (hw7.trans hw8.1) ?_
  refine lv_iload hx hb dL_law_437 (lv_at hl 1 rfl) ?_
  refine lv_icmp_eq (tgt := 444) hx hb dL_law_439 (by decide) (fun _ => ?_) (fun z => absurd rfl z)
  refine lv_iload hx hb dL_law_444 (lv_at hl 1 rfl) ?_
  refine lv_if_ne (tgt := 461) hx hb dL_law_446 (by decide) (fun c_1 => ?_) (fun c_1 => ?_)
  · refine lv_goto (tgt := 1176) hx hb dL_law_461 (by decide) ?_
    refine W.widen (k := cells + 5) (n := slots + 165) (by omega) (by omega) ?_
    exact kk κ ((if cOne (κ 0) y0 = 0 then (wr σ 3 y0.toNatClampNeg y1) else σ)) u9.2.1 u8 u9.1 u9.2.2 H locs ls (hI.oSafe y0 y1) hW hw9.2.2 (lv_sub hl [2, 3, 4, 5, 6] rfl)
  · have hcz : cOne (κ 0) y0 = 0 := nI_z (cOne_le _ _) c_1
    have hv8 := hw8.2 hcz
    have hv9 := hw9.2.1 hcz
    refine lv_aload_n hx hb dL_law_449 rfl (lv_at hl 5 rfl) ?_
    refine lv_iconst (v := 0) hx hb dL_law_450 (by decide) ?_
    refine gl_lald hx hb hKL hW.2.2.1 dL_law_451 ?_
    refine lv_iload hx hb dL_law_452 (lv_at hl 0 rfl) ?_
    refine lv_i2l (v := (r8).toInt64) hx hb dL_law_454 rfl ?_
    refine W.lcmp hx hb dL_law_455 ?_
    refine lv_if_eq (tgt := 461) hx hb dL_law_456 (by decide) (fun _ => ?_) (fun z => absurd (lcmp_0 (hv9.trans (congrArg Int32.toInt64 hv8.symm))) z)
    refine lv_goto (tgt := 1176) hx hb dL_law_461 (by decide) ?_
    refine W.widen (k := cells + 5) (n := slots + 165) (by omega) (by omega) ?_
    exact kk κ ((if cOne (κ 0) y0 = 0 then (wr σ 3 y0.toNatClampNeg y1) else σ)) u9.2.1 u8 u9.1 u9.2.2 H locs ls (hI.oSafe y0 y1) hW hw9.2.2 (lv_sub hl [2, 3, 4, 5, 6] rfl)

set_option maxHeartbeats 4000000 in
set_option maxRecDepth 100000 in
theorem seg_point {p : Program} {l : Launch} {e : Env} {s : State} {m : MethodId} {below : List Frame} {meth : Method} {c : Code} {Q : State → Prop} {D : va_G} {cI cZ cB cS cL : ClassId} {b L o : Nat} {xs : Nat → Int32} {rad : Nat → Nat → Nat} (hst : l.stackTraces = false) (hL : L ≤ 2048) (C0 : lw_At p s m meth c b L xs) (hC : LC D cI cZ cB cS cL s o rad) (x0 i : Nat) (hi : i + 4 ≤ L) {cells slots : Nat} (hc5 : cells + 5 ≤ 601024) (hs5 : slots + 165 ≤ 7293034) {κ : Nat → Nat} {σ sc u : Nat → Nat → Int32} {ad : Nat → Nat → Nat} {f : Nat → Int64} {H : Heap} {locs : List Loc} {ls : Array Slot} (hI : gInv κ σ) (hW : LW D cI cZ cB cS cL s o rad κ σ κ σ sc u ad f H locs) (h0 : ad 0 0 = x0) (hl : lv_has ls 7 [(0, .ref b), (1, .ref x0), (2, .ref (rad 0 0)), (3, .ref o), (4, .int (nI i))]) (kk : ∀ (κ : Nat → Nat) (σ sc u : Nat → Nat → Int32) (ad : Nat → Nat → Nat) (f : Nat → Int64) (H : Heap) (locs : List Loc) (ls : Array Slot), gInv κ σ → LW D cI cZ cB cS cL s o rad κ σ κ σ sc u ad f H locs → ad 0 0 = x0 → lv_has ls 7 [(0, .ref b), (1, .ref x0), (2, .ref (rad 0 0)), (3, .ref o), (4, .int (nI i))] → W p l e room_1 s m #[Value.ref b] below meth c H locs (cells + 5) (slots + 165) Q (F0 m 1176 ls [])) : W p l e room_1 s m #[Value.ref b] below meth c H locs cells slots Q (F0 m 464 ls []) := by
  obtain ⟨hx, hb, hr, hml, hown9, hts0, hX, hbl, hlocks, hgv⟩ := C0
  have hown : s.vm.findClass RL = some m.cls := hown9
  have hts : ∀ w ∈ wsL_law, w.before #[Value.ref b] s = true := fun w h => hts0 w (wsL_law_in w h)
  have hbA : ¬ lA0 s b := Nat.not_le.mpr hbl
  have hKL := hC.1.2.1
  obtain ⟨a0, a1, a3, a2, ak, a22, a7, a9, a18, a10, a30, ac, as⟩ := id hI
  subst h0
  have hS := hW.2.2.2
  obtain ⟨y0, ey0⟩ : ∃ z : Int32, z = xs (i + 1) := ⟨_, rfl⟩
  obtain ⟨y1, ey1⟩ : ∃ z : Int32, z = xs (i + 2) := ⟨_, rfl⟩
  refine lv_aload_n hx hb dL_law_464 rfl (lv_at hl 1 rfl) ?_
  refine lv_aload_n hx hb dL_law_465 rfl (lv_at hl 0 rfl) ?_
  refine lv_iload hx hb dL_law_466 (lv_at hl 4 rfl) ?_
  refine lv_iconst (v := 1) hx hb dL_law_468 (by decide) ?_
  refine lv_iadd hx hb dL_law_469 ?_
  refine lv_toq (nI (i + 1)) (nI_add i 1) ?_
  refine va_sld hx hb hX hbl hbA hS (vp_in_nI (show i + 1 < L by omega) (by omega)) dL_law_470 ?_
  refine lv_toq y0 (by rw [nI_clamp (show i + 1 < 2 ^ 31 by omega), ey0]) ?_
  refine lv_aload_n hx hb dL_law_471 rfl (lv_at hl 0 rfl) ?_
  refine lv_iload hx hb dL_law_472 (lv_at hl 4 rfl) ?_
  refine lv_iconst (v := 2) hx hb dL_law_474 (by decide) ?_
  refine lv_iadd hx hb dL_law_475 ?_
  refine lv_toq (nI (i + 2)) (nI_add i 2) ?_
  refine va_sld hx hb hX hbl hbA hS (vp_in_nI (show i + 2 < L by omega) (by omega)) dL_law_476 ?_
  refine lv_toq y1 (by rw [nI_clamp (show i + 2 < 2 ^ 31 by omega), ey1]) ?_
  refine lv_aload_n hx hb dL_law_477 rfl (lv_at hl 3 rfl) ?_
  refine va_calli (vx_runSW (As := [.ref ((ad 0 0)), .int y0, .int y1, .ref o]) (rest := []) ⟨hx, hb, hml, hown, hts⟩ (k_L_point (l := l) (D := D) (cI := cI) (cZ := cZ) (cB := cB) (cS := cS) (cL := cL) (A := lA s rad) κ σ sc ad o f hst  y0 y1) (vx_cwSW 4 hts gL_law_L_point rfl rfl rfl (by decide +kernel) ⟨(Nat.le_of_ble_eq_true rfl), (Nat.le_of_ble_eq_true rfl)⟩) (lPreS hC hW) rfl rfl hl.1 rfl (lv_room (Nat.le_of_ble_eq_true rfl)) dL_law_478 ⟨(show cells + 1 ≤ 601024 by omega), (show slots + 6 ≤ 7293034 by omega)⟩) hS (fun q _ h9 => h9.1) (fun q h9 => h9.1) (fun r9 u9 t9 H locs ht9 hvm9 hw9 hB9 hz9 hk9 hS => ?_)
  have hW : LW D cI cZ cB cS cL s o rad κ ((if cOne 10 y0 = 0 then (wr σ 20 y0.toNatClampNeg y1) else σ)) κ σ u9.2.1 u u9.1 u9.2.2 H locs := hW.h (by rw [← ht9]; exact hB9) hk9 hS
  refine lv_toq (nI (cOne 10 y0)) hw9.1 ?_
  refine lv_istore (lv' := [(5, .int (nI ((cOne 10 y0)))), (0, .ref b), (1, .ref ((ad 0 0))), (2, .ref ((rad 0 0))), (3, .ref o), (4, .int (nI i))]) hx hb dL_law_481 hl (by decide) rfl (fun ls hl => ?_)
  refine lv_aload_n hx hb dL_law_483 rfl (lv_at hl 3 rfl) ?_
  refine lv_aload_n hx hb dL_law_484 rfl (lv_at hl 1 rfl) ?_
  refine lv_iload hx hb dL_law_485 (lv_at hl 5 rfl) ?_
  refine lv_iconst (v := 1) hx hb dL_law_487 (by decide) ?_
  refine lv_iadd hx hb dL_law_488 ?_
  refine lv_toq (nI (i + 1)) (nI_add i 1) ?_
  refine va_sld hx hb hX hbl hbA hS (vp_in_nI (show i + 1 < L by omega) (by omega)) dL_law_489 ?_
  refine lv_toq y0 (by rw [nI_clamp (show i + 1 < 2 ^ 31 by omega), ey0]) ?_
  refine lv_aload_n hx hb dL_law_490 rfl (lv_at hl 1 rfl) ?_
  refine lv_iload hx hb dL_law_491 (lv_at hl 5 rfl) ?_
  refine lv_iconst (v := 2) hx hb dL_law_493 (by decide) ?_
  refine lv_iadd hx hb dL_law_494 ?_
  refine lv_toq (nI (i + 2)) (nI_add i 2) ?_
  refine va_sld hx hb hX hbl hbA hS (vp_in_nI (show i + 2 < L by omega) (by omega)) dL_law_495 ?_
  refine lv_toq y1 (by rw [nI_clamp (show i + 2 < 2 ^ 31 by omega), ey1]) ?_
  refine va_calli (va_runV (As := [.int y0, .int y1]) (rest := []) ⟨hx, hb, hml, hown, hts⟩ (k_X4_point (l := l) (D := D) (cI := cI) (cZ := cZ) (cB := cB) (cS := cS) (A := lR rad H.size) κ σ u rad  y0 y1) (cwV 2 hts gL_law_X4_point rfl rfl rfl (by decide +kernel) ⟨(Nat.le_of_ble_eq_true rfl), (Nat.le_of_ble_eq_true rfl)⟩) (lPreM hC hW) rfl rfl hl.1 rfl (lv_room (Nat.le_of_ble_eq_true rfl)) dL_law_496 ⟨(show cells + 1 + 0 ≤ 601024 by omega), (show slots + 6 + 0 ≤ 7293034 by omega)⟩) hS (fun q _ h9 => hW.r0 q h9) (fun q h9 => hW.r0 q h9) (fun r8 u8 t8 H locs ht8 hvm8 hw8 hB8 hz8 hk8 hS => ?_)
  have hW : LW D cI cZ cB cS cL s o rad κ ((if cOne 10 y0 = 0 then (wr σ 20 y0.toNatClampNeg y1) else σ)) κ ((if cOne 10 y0 = 0 then (wr σ 20 y0.toNatClampNeg y1) else σ)) u9.2.1 u8 u9.1 u9.2.2 H locs := hW.m hC (by rw [← ht8]; exact hB8) hk8 hS
  refine lv_istore (lv' := [(6, .int r8), (5, .int (nI ((cOne 10 y0)))), (0, .ref b), (1, .ref ((ad 0 0))), (2, .ref ((rad 0 0))), (3, .ref o), (4, .int (nI i))]) hx hb dL_law_499 hl (by decide) rfl (fun ls hl => ?_)
  refine lv_aload_n hx hb dL_law_501 rfl (lv_at hl 4 rfl) ?_
  refine va_calli (va_runV (As := []) (rest := []) ⟨hx, hb, hml, hown, hts⟩ (k_X4_thrown (l := l) (D := D) (cI := cI) (cZ := cZ) (cB := cB) (cS := cS) (A := lR rad H.size) κ ((if cOne 10 y0 = 0 then (wr σ 20 y0.toNatClampNeg y1) else σ)) u8 rad) (cwV 0 hts gL_law_X4_thrown rfl rfl rfl (by decide +kernel) ⟨(Nat.le_of_ble_eq_true rfl), (Nat.le_of_ble_eq_true rfl)⟩) (lPreM hC hW) rfl rfl hl.1 rfl (lv_room (Nat.le_of_ble_eq_true rfl)) dL_law_502 ⟨(show cells + 1 + 0 + 0 ≤ 601024 by omega), (show slots + 6 + 0 + 0 ≤ 7293034 by omega)⟩) hS (fun q _ h9 => hW.r0 q h9) (fun q h9 => hW.r0 q h9) (fun r7 u7 t7 H locs ht7 hvm7 hw7 hB7 hz7 hk7 hS => ?_)
  have hW : LW D cI cZ cB cS cL s o rad κ ((if cOne 10 y0 = 0 then (wr σ 20 y0.toNatClampNeg y1) else σ)) κ ((if cOne 10 y0 = 0 then (wr σ 20 y0.toNatClampNeg y1) else σ)) u9.2.1 u8 u9.1 u9.2.2 H locs := hW.m hC (by rw [← ht7]; exact hB7) hk7 hS
  refine lv_toq (nI (cOne 10 y0)) (hw7.trans hw8.1) ?_
  refine lv_iload hx hb dL_law_505 (lv_at hl 1 rfl) ?_
  refine lv_icmp_eq (tgt := 512) hx hb dL_law_507 (by decide) (fun _ => ?_) (fun z => absurd rfl z)
  refine lv_iload hx hb dL_law_512 (lv_at hl 1 rfl) ?_
  refine lv_if_ne (tgt := 529) hx hb dL_law_514 (by decide) (fun c_1 => ?_) (fun c_1 => ?_)
  · refine lv_goto (tgt := 1176) hx hb dL_law_529 (by decide) ?_
    refine W.widen (k := cells + 5) (n := slots + 165) (by omega) (by omega) ?_
    exact kk κ ((if cOne 10 y0 = 0 then (wr σ 20 y0.toNatClampNeg y1) else σ)) u9.2.1 u8 u9.1 u9.2.2 H locs ls (hI.oPoint y0 y1) hW hw9.2.2 (lv_sub hl [2, 3, 4, 5, 6] rfl)
  · have hcz : cOne 10 y0 = 0 := nI_z (cOne_le _ _) c_1
    have hv8 := hw8.2 hcz
    have hv9 := hw9.2.1 hcz
    refine lv_aload_n hx hb dL_law_517 rfl (lv_at hl 5 rfl) ?_
    refine lv_iconst (v := 0) hx hb dL_law_518 (by decide) ?_
    refine gl_lald hx hb hKL hW.2.2.1 dL_law_519 ?_
    refine lv_iload hx hb dL_law_520 (lv_at hl 0 rfl) ?_
    refine lv_i2l (v := (r8).toInt64) hx hb dL_law_522 rfl ?_
    refine W.lcmp hx hb dL_law_523 ?_
    refine lv_if_eq (tgt := 529) hx hb dL_law_524 (by decide) (fun _ => ?_) (fun z => absurd (lcmp_0 (hv9.trans (congrArg Int32.toInt64 hv8.symm))) z)
    refine lv_goto (tgt := 1176) hx hb dL_law_529 (by decide) ?_
    refine W.widen (k := cells + 5) (n := slots + 165) (by omega) (by omega) ?_
    exact kk κ ((if cOne 10 y0 = 0 then (wr σ 20 y0.toNatClampNeg y1) else σ)) u9.2.1 u8 u9.1 u9.2.2 H locs ls (hI.oPoint y0 y1) hW hw9.2.2 (lv_sub hl [2, 3, 4, 5, 6] rfl)

set_option maxHeartbeats 4000000 in
set_option maxRecDepth 100000 in
theorem seg_hand {p : Program} {l : Launch} {e : Env} {s : State} {m : MethodId} {below : List Frame} {meth : Method} {c : Code} {Q : State → Prop} {D : va_G} {cI cZ cB cS cL : ClassId} {b L o : Nat} {xs : Nat → Int32} {rad : Nat → Nat → Nat} (hst : l.stackTraces = false) (hL : L ≤ 2048) (C0 : lw_At p s m meth c b L xs) (hC : LC D cI cZ cB cS cL s o rad) (x0 i : Nat) (hi : i + 4 ≤ L) {cells slots : Nat} (hc5 : cells + 5 ≤ 601024) (hs5 : slots + 165 ≤ 7293034) {κ : Nat → Nat} {σ sc u : Nat → Nat → Int32} {ad : Nat → Nat → Nat} {f : Nat → Int64} {H : Heap} {locs : List Loc} {ls : Array Slot} (hI : gInv κ σ) (hW : LW D cI cZ cB cS cL s o rad κ σ κ σ sc u ad f H locs) (h0 : ad 0 0 = x0) (hl : lv_has ls 7 [(0, .ref b), (1, .ref x0), (2, .ref (rad 0 0)), (3, .ref o), (4, .int (nI i))]) (kk : ∀ (κ : Nat → Nat) (σ sc u : Nat → Nat → Int32) (ad : Nat → Nat → Nat) (f : Nat → Int64) (H : Heap) (locs : List Loc) (ls : Array Slot), gInv κ σ → LW D cI cZ cB cS cL s o rad κ σ κ σ sc u ad f H locs → ad 0 0 = x0 → lv_has ls 7 [(0, .ref b), (1, .ref x0), (2, .ref (rad 0 0)), (3, .ref o), (4, .int (nI i))] → W p l e room_1 s m #[Value.ref b] below meth c H locs (cells + 5) (slots + 165) Q (F0 m 1176 ls [])) : W p l e room_1 s m #[Value.ref b] below meth c H locs cells slots Q (F0 m 532 ls []) := by
  obtain ⟨hx, hb, hr, hml, hown9, hts0, hX, hbl, hlocks, hgv⟩ := C0
  have hown : s.vm.findClass RL = some m.cls := hown9
  have hts : ∀ w ∈ wsL_law, w.before #[Value.ref b] s = true := fun w h => hts0 w (wsL_law_in w h)
  have hbA : ¬ lA0 s b := Nat.not_le.mpr hbl
  have hKL := hC.1.2.1
  obtain ⟨a0, a1, a3, a2, ak, a22, a7, a9, a18, a10, a30, ac, as⟩ := id hI
  subst h0
  have hS := hW.2.2.2
  obtain ⟨y0, ey0⟩ : ∃ z : Int32, z = xs (i + 1) := ⟨_, rfl⟩
  obtain ⟨y1, ey1⟩ : ∃ z : Int32, z = xs (i + 2) := ⟨_, rfl⟩
  obtain ⟨y2, ey2⟩ : ∃ z : Int32, z = xs (i + 3) := ⟨_, rfl⟩
  refine lv_aload_n hx hb dL_law_532 rfl (lv_at hl 1 rfl) ?_
  refine lv_aload_n hx hb dL_law_533 rfl (lv_at hl 0 rfl) ?_
  refine lv_iload hx hb dL_law_534 (lv_at hl 4 rfl) ?_
  refine lv_iconst (v := 1) hx hb dL_law_536 (by decide) ?_
  refine lv_iadd hx hb dL_law_537 ?_
  refine lv_toq (nI (i + 1)) (nI_add i 1) ?_
  refine va_sld hx hb hX hbl hbA hS (vp_in_nI (show i + 1 < L by omega) (by omega)) dL_law_538 ?_
  refine lv_toq y0 (by rw [nI_clamp (show i + 1 < 2 ^ 31 by omega), ey0]) ?_
  refine lv_aload_n hx hb dL_law_539 rfl (lv_at hl 0 rfl) ?_
  refine lv_iload hx hb dL_law_540 (lv_at hl 4 rfl) ?_
  refine lv_iconst (v := 2) hx hb dL_law_542 (by decide) ?_
  refine lv_iadd hx hb dL_law_543 ?_
  refine lv_toq (nI (i + 2)) (nI_add i 2) ?_
  refine va_sld hx hb hX hbl hbA hS (vp_in_nI (show i + 2 < L by omega) (by omega)) dL_law_544 ?_
  refine lv_toq y1 (by rw [nI_clamp (show i + 2 < 2 ^ 31 by omega), ey1]) ?_
  refine lv_if_eq (tgt := 552) hx hb dL_law_545 (by decide) (fun c_1 => ?_) (fun c_1 => ?_)
  · refine lv_iconst (v := 0) hx hb dL_law_552 (by decide) ?_
    refine lv_aload_n hx hb dL_law_553 rfl (lv_at hl 0 rfl) ?_
    refine lv_iload hx hb dL_law_554 (lv_at hl 4 rfl) ?_
    refine lv_iconst (v := 3) hx hb dL_law_556 (by decide) ?_
    refine lv_iadd hx hb dL_law_557 ?_
    refine lv_toq (nI (i + 3)) (nI_add i 3) ?_
    refine va_sld hx hb hX hbl hbA hS (vp_in_nI (show i + 3 < L by omega) (by omega)) dL_law_558 ?_
    refine lv_toq y2 (by rw [nI_clamp (show i + 3 < 2 ^ 31 by omega), ey2]) ?_
    refine lv_aload_n hx hb dL_law_559 rfl (lv_at hl 3 rfl) ?_
    refine va_calli (vx_runSW (As := [.ref ((ad 0 0)), .int y0, .int 0, .int y2, .ref o]) (rest := []) ⟨hx, hb, hml, hown, hts⟩ (k_L_hand (l := l) (D := D) (cI := cI) (cZ := cZ) (cB := cB) (cS := cS) (cL := cL) (A := lA s rad) κ σ sc ad o f hst a0 a7 y0 0 y2 rfl rfl) (vx_cwSW 5 hts gL_law_L_hand rfl rfl rfl (by decide +kernel) ⟨(Nat.le_of_ble_eq_true rfl), (Nat.le_of_ble_eq_true rfl)⟩) (lPreS hC hW) rfl rfl hl.1 rfl (lv_room (Nat.le_of_ble_eq_true rfl)) dL_law_560 ⟨(show cells + 1 ≤ 601024 by omega), (show slots + 6 ≤ 7293034 by omega)⟩) hS (fun q _ h9 => h9.1) (fun q h9 => h9.1) (fun r9 u9 t9 H locs ht9 hvm9 hw9 hB9 hz9 hk9 hS => ?_)
    have hW : LW D cI cZ cB cS cL s o rad κ ((if cOne (κ 0) y0 = 0 then (wr (wr σ 7 y0.toNatClampNeg 0) 8 y0.toNatClampNeg y2) else σ)) κ σ u9.2.1 u u9.1 u9.2.2 H locs := hW.h (by rw [← ht9]; exact hB9) hk9 hS
    refine lv_toq (nI (cOne (κ 0) y0)) hw9.1 ?_
    refine lv_istore (lv' := [(5, .int (nI ((cOne (κ 0) y0)))), (0, .ref b), (1, .ref ((ad 0 0))), (2, .ref ((rad 0 0))), (3, .ref o), (4, .int (nI i))]) hx hb dL_law_563 hl (by decide) rfl (fun ls hl => ?_)
    refine lv_aload_n hx hb dL_law_565 rfl (lv_at hl 3 rfl) ?_
    refine lv_aload_n hx hb dL_law_566 rfl (lv_at hl 1 rfl) ?_
    refine lv_iload hx hb dL_law_567 (lv_at hl 5 rfl) ?_
    refine lv_iconst (v := 1) hx hb dL_law_569 (by decide) ?_
    refine lv_iadd hx hb dL_law_570 ?_
    refine lv_toq (nI (i + 1)) (nI_add i 1) ?_
    refine va_sld hx hb hX hbl hbA hS (vp_in_nI (show i + 1 < L by omega) (by omega)) dL_law_571 ?_
    refine lv_toq y0 (by rw [nI_clamp (show i + 1 < 2 ^ 31 by omega), ey0]) ?_
    refine lv_aload_n hx hb dL_law_572 rfl (lv_at hl 1 rfl) ?_
    refine lv_iload hx hb dL_law_573 (lv_at hl 5 rfl) ?_
    refine lv_iconst (v := 2) hx hb dL_law_575 (by decide) ?_
    refine lv_iadd hx hb dL_law_576 ?_
    refine lv_toq (nI (i + 2)) (nI_add i 2) ?_
    refine va_sld hx hb hX hbl hbA hS (vp_in_nI (show i + 2 < L by omega) (by omega)) dL_law_577 ?_
    refine lv_toq y1 (by rw [nI_clamp (show i + 2 < 2 ^ 31 by omega), ey1]) ?_
    refine lv_if_eq (tgt := 585) hx hb dL_law_578 (by decide) (fun c_2 => ?_) (fun c_2 => ?_)
    · refine lv_iconst (v := 0) hx hb dL_law_585 (by decide) ?_
      refine lv_aload_n hx hb dL_law_586 rfl (lv_at hl 1 rfl) ?_
      refine lv_iload hx hb dL_law_587 (lv_at hl 5 rfl) ?_
      refine lv_iconst (v := 3) hx hb dL_law_589 (by decide) ?_
      refine lv_iadd hx hb dL_law_590 ?_
      refine lv_toq (nI (i + 3)) (nI_add i 3) ?_
      refine va_sld hx hb hX hbl hbA hS (vp_in_nI (show i + 3 < L by omega) (by omega)) dL_law_591 ?_
      refine lv_toq y2 (by rw [nI_clamp (show i + 3 < 2 ^ 31 by omega), ey2]) ?_
      refine va_calli (va_runV (As := [.int y0, .int 0, .int y2]) (rest := []) ⟨hx, hb, hml, hown, hts⟩ (k_X4_hand (l := l) (D := D) (cI := cI) (cZ := cZ) (cB := cB) (cS := cS) (A := lR rad H.size) κ σ u rad a0 a7 y0 0 y2 rfl) (cwV 3 hts gL_law_X4_hand rfl rfl rfl (by decide +kernel) ⟨(Nat.le_of_ble_eq_true rfl), (Nat.le_of_ble_eq_true rfl)⟩) (lPreM hC hW) rfl rfl hl.1 rfl (lv_room (Nat.le_of_ble_eq_true rfl)) dL_law_592 ⟨(show cells + 1 + 0 ≤ 601024 by omega), (show slots + 6 + 0 ≤ 7293034 by omega)⟩) hS (fun q _ h9 => hW.r0 q h9) (fun q h9 => hW.r0 q h9) (fun r8 u8 t8 H locs ht8 hvm8 hw8 hB8 hz8 hk8 hS => ?_)
      have hW : LW D cI cZ cB cS cL s o rad κ ((if cOne (κ 0) y0 = 0 then (wr (wr σ 7 y0.toNatClampNeg 0) 8 y0.toNatClampNeg y2) else σ)) κ ((if cOne (κ 0) y0 = 0 then (wr (wr σ 7 y0.toNatClampNeg 0) 8 y0.toNatClampNeg y2) else σ)) u9.2.1 u8 u9.1 u9.2.2 H locs := hW.m hC (by rw [← ht8]; exact hB8) hk8 hS
      refine lv_istore (lv' := [(6, .int r8), (5, .int (nI ((cOne (κ 0) y0)))), (0, .ref b), (1, .ref ((ad 0 0))), (2, .ref ((rad 0 0))), (3, .ref o), (4, .int (nI i))]) hx hb dL_law_595 hl (by decide) rfl (fun ls hl => ?_)
      refine lv_aload_n hx hb dL_law_597 rfl (lv_at hl 4 rfl) ?_
      refine va_calli (va_runV (As := []) (rest := []) ⟨hx, hb, hml, hown, hts⟩ (k_X4_thrown (l := l) (D := D) (cI := cI) (cZ := cZ) (cB := cB) (cS := cS) (A := lR rad H.size) κ ((if cOne (κ 0) y0 = 0 then (wr (wr σ 7 y0.toNatClampNeg 0) 8 y0.toNatClampNeg y2) else σ)) u8 rad) (cwV 0 hts gL_law_X4_thrown rfl rfl rfl (by decide +kernel) ⟨(Nat.le_of_ble_eq_true rfl), (Nat.le_of_ble_eq_true rfl)⟩) (lPreM hC hW) rfl rfl hl.1 rfl (lv_room (Nat.le_of_ble_eq_true rfl)) dL_law_598 ⟨(show cells + 1 + 0 + 0 ≤ 601024 by omega), (show slots + 6 + 0 + 0 ≤ 7293034 by omega)⟩) hS (fun q _ h9 => hW.r0 q h9) (fun q h9 => hW.r0 q h9) (fun r7 u7 t7 H locs ht7 hvm7 hw7 hB7 hz7 hk7 hS => ?_)
      have hW : LW D cI cZ cB cS cL s o rad κ ((if cOne (κ 0) y0 = 0 then (wr (wr σ 7 y0.toNatClampNeg 0) 8 y0.toNatClampNeg y2) else σ)) κ ((if cOne (κ 0) y0 = 0 then (wr (wr σ 7 y0.toNatClampNeg 0) 8 y0.toNatClampNeg y2) else σ)) u9.2.1 u8 u9.1 u9.2.2 H locs := hW.m hC (by rw [← ht7]; exact hB7) hk7 hS
      refine lv_toq (nI (cOne (κ 0) y0)) (hw7.trans hw8.1) ?_
      refine lv_iload hx hb dL_law_601 (lv_at hl 1 rfl) ?_
      refine lv_icmp_eq (tgt := 608) hx hb dL_law_603 (by decide) (fun _ => ?_) (fun z => absurd rfl z)
      refine lv_iload hx hb dL_law_608 (lv_at hl 1 rfl) ?_
      refine lv_if_ne (tgt := 632) hx hb dL_law_610 (by decide) (fun c_1 => ?_) (fun c_1 => ?_)
      · refine lv_goto (tgt := 1176) hx hb dL_law_632 (by decide) ?_
        refine W.widen (k := cells + 5) (n := slots + 165) (by omega) (by omega) ?_
        exact kk κ ((if cOne (κ 0) y0 = 0 then (wr (wr σ 7 y0.toNatClampNeg 0) 8 y0.toNatClampNeg y2) else σ)) u9.2.1 u8 u9.1 u9.2.2 H locs ls (hI.oHand y0 0 y2 rfl) hW hw9.2.2 (lv_sub hl [2, 3, 4, 5, 6] rfl)
      · have hcz : cOne (κ 0) y0 = 0 := nI_z (cOne_le _ _) c_1
        have hv8 := hw8.2 hcz
        have hv9 := hw9.2.1 hcz
        refine lv_aload_n hx hb dL_law_613 rfl (lv_at hl 5 rfl) ?_
        refine lv_iconst (v := 0) hx hb dL_law_614 (by decide) ?_
        refine gl_lald hx hb hKL hW.2.2.1 dL_law_615 ?_
        refine lv_iload hx hb dL_law_616 (lv_at hl 0 rfl) ?_
        refine lv_if_eq (tgt := 625) hx hb dL_law_618 (by decide) (fun c_2 => ?_) (fun c_2 => ?_)
        · refine lv_lconst (v := 0) hx hb dL_law_625 (by decide) ?_
          refine W.lcmp hx hb dL_law_626 ?_
          refine lv_if_eq (tgt := 632) hx hb dL_law_627 (by decide) (fun _ => ?_) (fun z => absurd (lcmp_0 (hv9.trans (if_pos (hv8.symm.trans c_2)))) z)
          refine lv_goto (tgt := 1176) hx hb dL_law_632 (by decide) ?_
          refine W.widen (k := cells + 5) (n := slots + 165) (by omega) (by omega) ?_
          exact kk κ ((if cOne (κ 0) y0 = 0 then (wr (wr σ 7 y0.toNatClampNeg 0) 8 y0.toNatClampNeg y2) else σ)) u9.2.1 u8 u9.1 u9.2.2 H locs ls (hI.oHand y0 0 y2 rfl) hW hw9.2.2 (lv_sub hl [2, 3, 4, 5, 6] rfl)
        · refine lv_lconst (v := 1) hx hb dL_law_621 (by decide) ?_
          refine lv_goto (tgt := 626) hx hb dL_law_622 (by decide) ?_
          refine W.lcmp hx hb dL_law_626 ?_
          refine lv_if_eq (tgt := 632) hx hb dL_law_627 (by decide) (fun _ => ?_) (fun z => absurd (lcmp_0 (hv9.trans (if_neg (fun z => c_2 (hv8.trans z))))) z)
          refine lv_goto (tgt := 1176) hx hb dL_law_632 (by decide) ?_
          refine W.widen (k := cells + 5) (n := slots + 165) (by omega) (by omega) ?_
          exact kk κ ((if cOne (κ 0) y0 = 0 then (wr (wr σ 7 y0.toNatClampNeg 0) 8 y0.toNatClampNeg y2) else σ)) u9.2.1 u8 u9.1 u9.2.2 H locs ls (hI.oHand y0 0 y2 rfl) hW hw9.2.2 (lv_sub hl [2, 3, 4, 5, 6] rfl)
    · exact absurd c_1 c_2
  · refine lv_iconst (v := 1) hx hb dL_law_548 (by decide) ?_
    refine lv_goto (tgt := 553) hx hb dL_law_549 (by decide) ?_
    refine lv_aload_n hx hb dL_law_553 rfl (lv_at hl 0 rfl) ?_
    refine lv_iload hx hb dL_law_554 (lv_at hl 4 rfl) ?_
    refine lv_iconst (v := 3) hx hb dL_law_556 (by decide) ?_
    refine lv_iadd hx hb dL_law_557 ?_
    refine lv_toq (nI (i + 3)) (nI_add i 3) ?_
    refine va_sld hx hb hX hbl hbA hS (vp_in_nI (show i + 3 < L by omega) (by omega)) dL_law_558 ?_
    refine lv_toq y2 (by rw [nI_clamp (show i + 3 < 2 ^ 31 by omega), ey2]) ?_
    refine lv_aload_n hx hb dL_law_559 rfl (lv_at hl 3 rfl) ?_
    refine va_calli (vx_runSW (As := [.ref ((ad 0 0)), .int y0, .int 1, .int y2, .ref o]) (rest := []) ⟨hx, hb, hml, hown, hts⟩ (k_L_hand (l := l) (D := D) (cI := cI) (cZ := cZ) (cB := cB) (cS := cS) (cL := cL) (A := lA s rad) κ σ sc ad o f hst a0 a7 y0 1 y2 rfl rfl) (vx_cwSW 5 hts gL_law_L_hand rfl rfl rfl (by decide +kernel) ⟨(Nat.le_of_ble_eq_true rfl), (Nat.le_of_ble_eq_true rfl)⟩) (lPreS hC hW) rfl rfl hl.1 rfl (lv_room (Nat.le_of_ble_eq_true rfl)) dL_law_560 ⟨(show cells + 1 ≤ 601024 by omega), (show slots + 6 ≤ 7293034 by omega)⟩) hS (fun q _ h9 => h9.1) (fun q h9 => h9.1) (fun r9 u9 t9 H locs ht9 hvm9 hw9 hB9 hz9 hk9 hS => ?_)
    have hW : LW D cI cZ cB cS cL s o rad κ ((if cOne (κ 0) y0 = 0 then (wr (wr σ 7 y0.toNatClampNeg 1) 8 y0.toNatClampNeg y2) else σ)) κ σ u9.2.1 u u9.1 u9.2.2 H locs := hW.h (by rw [← ht9]; exact hB9) hk9 hS
    refine lv_toq (nI (cOne (κ 0) y0)) hw9.1 ?_
    refine lv_istore (lv' := [(5, .int (nI ((cOne (κ 0) y0)))), (0, .ref b), (1, .ref ((ad 0 0))), (2, .ref ((rad 0 0))), (3, .ref o), (4, .int (nI i))]) hx hb dL_law_563 hl (by decide) rfl (fun ls hl => ?_)
    refine lv_aload_n hx hb dL_law_565 rfl (lv_at hl 3 rfl) ?_
    refine lv_aload_n hx hb dL_law_566 rfl (lv_at hl 1 rfl) ?_
    refine lv_iload hx hb dL_law_567 (lv_at hl 5 rfl) ?_
    refine lv_iconst (v := 1) hx hb dL_law_569 (by decide) ?_
    refine lv_iadd hx hb dL_law_570 ?_
    refine lv_toq (nI (i + 1)) (nI_add i 1) ?_
    refine va_sld hx hb hX hbl hbA hS (vp_in_nI (show i + 1 < L by omega) (by omega)) dL_law_571 ?_
    refine lv_toq y0 (by rw [nI_clamp (show i + 1 < 2 ^ 31 by omega), ey0]) ?_
    refine lv_aload_n hx hb dL_law_572 rfl (lv_at hl 1 rfl) ?_
    refine lv_iload hx hb dL_law_573 (lv_at hl 5 rfl) ?_
    refine lv_iconst (v := 2) hx hb dL_law_575 (by decide) ?_
    refine lv_iadd hx hb dL_law_576 ?_
    refine lv_toq (nI (i + 2)) (nI_add i 2) ?_
    refine va_sld hx hb hX hbl hbA hS (vp_in_nI (show i + 2 < L by omega) (by omega)) dL_law_577 ?_
    refine lv_toq y1 (by rw [nI_clamp (show i + 2 < 2 ^ 31 by omega), ey1]) ?_
    refine lv_if_eq (tgt := 585) hx hb dL_law_578 (by decide) (fun c_3 => ?_) (fun c_3 => ?_)
    · exact absurd c_3 c_1
    · refine lv_iconst (v := 1) hx hb dL_law_581 (by decide) ?_
      refine lv_goto (tgt := 586) hx hb dL_law_582 (by decide) ?_
      refine lv_aload_n hx hb dL_law_586 rfl (lv_at hl 1 rfl) ?_
      refine lv_iload hx hb dL_law_587 (lv_at hl 5 rfl) ?_
      refine lv_iconst (v := 3) hx hb dL_law_589 (by decide) ?_
      refine lv_iadd hx hb dL_law_590 ?_
      refine lv_toq (nI (i + 3)) (nI_add i 3) ?_
      refine va_sld hx hb hX hbl hbA hS (vp_in_nI (show i + 3 < L by omega) (by omega)) dL_law_591 ?_
      refine lv_toq y2 (by rw [nI_clamp (show i + 3 < 2 ^ 31 by omega), ey2]) ?_
      refine va_calli (va_runV (As := [.int y0, .int 1, .int y2]) (rest := []) ⟨hx, hb, hml, hown, hts⟩ (k_X4_hand (l := l) (D := D) (cI := cI) (cZ := cZ) (cB := cB) (cS := cS) (A := lR rad H.size) κ σ u rad a0 a7 y0 1 y2 rfl) (cwV 3 hts gL_law_X4_hand rfl rfl rfl (by decide +kernel) ⟨(Nat.le_of_ble_eq_true rfl), (Nat.le_of_ble_eq_true rfl)⟩) (lPreM hC hW) rfl rfl hl.1 rfl (lv_room (Nat.le_of_ble_eq_true rfl)) dL_law_592 ⟨(show cells + 1 + 0 ≤ 601024 by omega), (show slots + 6 + 0 ≤ 7293034 by omega)⟩) hS (fun q _ h9 => hW.r0 q h9) (fun q h9 => hW.r0 q h9) (fun r8 u8 t8 H locs ht8 hvm8 hw8 hB8 hz8 hk8 hS => ?_)
      have hW : LW D cI cZ cB cS cL s o rad κ ((if cOne (κ 0) y0 = 0 then (wr (wr σ 7 y0.toNatClampNeg 1) 8 y0.toNatClampNeg y2) else σ)) κ ((if cOne (κ 0) y0 = 0 then (wr (wr σ 7 y0.toNatClampNeg 1) 8 y0.toNatClampNeg y2) else σ)) u9.2.1 u8 u9.1 u9.2.2 H locs := hW.m hC (by rw [← ht8]; exact hB8) hk8 hS
      refine lv_istore (lv' := [(6, .int r8), (5, .int (nI ((cOne (κ 0) y0)))), (0, .ref b), (1, .ref ((ad 0 0))), (2, .ref ((rad 0 0))), (3, .ref o), (4, .int (nI i))]) hx hb dL_law_595 hl (by decide) rfl (fun ls hl => ?_)
      refine lv_aload_n hx hb dL_law_597 rfl (lv_at hl 4 rfl) ?_
      refine va_calli (va_runV (As := []) (rest := []) ⟨hx, hb, hml, hown, hts⟩ (k_X4_thrown (l := l) (D := D) (cI := cI) (cZ := cZ) (cB := cB) (cS := cS) (A := lR rad H.size) κ ((if cOne (κ 0) y0 = 0 then (wr (wr σ 7 y0.toNatClampNeg 1) 8 y0.toNatClampNeg y2) else σ)) u8 rad) (cwV 0 hts gL_law_X4_thrown rfl rfl rfl (by decide +kernel) ⟨(Nat.le_of_ble_eq_true rfl), (Nat.le_of_ble_eq_true rfl)⟩) (lPreM hC hW) rfl rfl hl.1 rfl (lv_room (Nat.le_of_ble_eq_true rfl)) dL_law_598 ⟨(show cells + 1 + 0 + 0 ≤ 601024 by omega), (show slots + 6 + 0 + 0 ≤ 7293034 by omega)⟩) hS (fun q _ h9 => hW.r0 q h9) (fun q h9 => hW.r0 q h9) (fun r7 u7 t7 H locs ht7 hvm7 hw7 hB7 hz7 hk7 hS => ?_)
      have hW : LW D cI cZ cB cS cL s o rad κ ((if cOne (κ 0) y0 = 0 then (wr (wr σ 7 y0.toNatClampNeg 1) 8 y0.toNatClampNeg y2) else σ)) κ ((if cOne (κ 0) y0 = 0 then (wr (wr σ 7 y0.toNatClampNeg 1) 8 y0.toNatClampNeg y2) else σ)) u9.2.1 u8 u9.1 u9.2.2 H locs := hW.m hC (by rw [← ht7]; exact hB7) hk7 hS
      refine lv_toq (nI (cOne (κ 0) y0)) (hw7.trans hw8.1) ?_
      refine lv_iload hx hb dL_law_601 (lv_at hl 1 rfl) ?_
      refine lv_icmp_eq (tgt := 608) hx hb dL_law_603 (by decide) (fun _ => ?_) (fun z => absurd rfl z)
      refine lv_iload hx hb dL_law_608 (lv_at hl 1 rfl) ?_
      refine lv_if_ne (tgt := 632) hx hb dL_law_610 (by decide) (fun c_1 => ?_) (fun c_1 => ?_)
      · refine lv_goto (tgt := 1176) hx hb dL_law_632 (by decide) ?_
        refine W.widen (k := cells + 5) (n := slots + 165) (by omega) (by omega) ?_
        exact kk κ ((if cOne (κ 0) y0 = 0 then (wr (wr σ 7 y0.toNatClampNeg 1) 8 y0.toNatClampNeg y2) else σ)) u9.2.1 u8 u9.1 u9.2.2 H locs ls (hI.oHand y0 1 y2 rfl) hW hw9.2.2 (lv_sub hl [2, 3, 4, 5, 6] rfl)
      · have hcz : cOne (κ 0) y0 = 0 := nI_z (cOne_le _ _) c_1
        have hv8 := hw8.2 hcz
        have hv9 := hw9.2.1 hcz
        refine lv_aload_n hx hb dL_law_613 rfl (lv_at hl 5 rfl) ?_
        refine lv_iconst (v := 0) hx hb dL_law_614 (by decide) ?_
        refine gl_lald hx hb hKL hW.2.2.1 dL_law_615 ?_
        refine lv_iload hx hb dL_law_616 (lv_at hl 0 rfl) ?_
        refine lv_if_eq (tgt := 625) hx hb dL_law_618 (by decide) (fun c_2 => ?_) (fun c_2 => ?_)
        · refine lv_lconst (v := 0) hx hb dL_law_625 (by decide) ?_
          refine W.lcmp hx hb dL_law_626 ?_
          refine lv_if_eq (tgt := 632) hx hb dL_law_627 (by decide) (fun _ => ?_) (fun z => absurd (lcmp_0 (hv9.trans (if_pos (hv8.symm.trans c_2)))) z)
          refine lv_goto (tgt := 1176) hx hb dL_law_632 (by decide) ?_
          refine W.widen (k := cells + 5) (n := slots + 165) (by omega) (by omega) ?_
          exact kk κ ((if cOne (κ 0) y0 = 0 then (wr (wr σ 7 y0.toNatClampNeg 1) 8 y0.toNatClampNeg y2) else σ)) u9.2.1 u8 u9.1 u9.2.2 H locs ls (hI.oHand y0 1 y2 rfl) hW hw9.2.2 (lv_sub hl [2, 3, 4, 5, 6] rfl)
        · refine lv_lconst (v := 1) hx hb dL_law_621 (by decide) ?_
          refine lv_goto (tgt := 626) hx hb dL_law_622 (by decide) ?_
          refine W.lcmp hx hb dL_law_626 ?_
          refine lv_if_eq (tgt := 632) hx hb dL_law_627 (by decide) (fun _ => ?_) (fun z => absurd (lcmp_0 (hv9.trans (if_neg (fun z => c_2 (hv8.trans z))))) z)
          refine lv_goto (tgt := 1176) hx hb dL_law_632 (by decide) ?_
          refine W.widen (k := cells + 5) (n := slots + 165) (by omega) (by omega) ?_
          exact kk κ ((if cOne (κ 0) y0 = 0 then (wr (wr σ 7 y0.toNatClampNeg 1) 8 y0.toNatClampNeg y2) else σ)) u9.2.1 u8 u9.1 u9.2.2 H locs ls (hI.oHand y0 1 y2 rfl) hW hw9.2.2 (lv_sub hl [2, 3, 4, 5, 6] rfl)

set_option maxHeartbeats 4000000 in
set_option maxRecDepth 100000 in
theorem seg_order {p : Program} {l : Launch} {e : Env} {s : State} {m : MethodId} {below : List Frame} {meth : Method} {c : Code} {Q : State → Prop} {D : va_G} {cI cZ cB cS cL : ClassId} {b L o : Nat} {xs : Nat → Int32} {rad : Nat → Nat → Nat} (hst : l.stackTraces = false) (hL : L ≤ 2048) (C0 : lw_At p s m meth c b L xs) (hC : LC D cI cZ cB cS cL s o rad) (x0 i : Nat) (hi : i + 4 ≤ L) {cells slots : Nat} (hc5 : cells + 5 ≤ 601024) (hs5 : slots + 165 ≤ 7293034) {κ : Nat → Nat} {σ sc u : Nat → Nat → Int32} {ad : Nat → Nat → Nat} {f : Nat → Int64} {H : Heap} {locs : List Loc} {ls : Array Slot} (hI : gInv κ σ) (hW : LW D cI cZ cB cS cL s o rad κ σ κ σ sc u ad f H locs) (h0 : ad 0 0 = x0) (hl : lv_has ls 7 [(0, .ref b), (1, .ref x0), (2, .ref (rad 0 0)), (3, .ref o), (4, .int (nI i))]) (kk : ∀ (κ : Nat → Nat) (σ sc u : Nat → Nat → Int32) (ad : Nat → Nat → Nat) (f : Nat → Int64) (H : Heap) (locs : List Loc) (ls : Array Slot), gInv κ σ → LW D cI cZ cB cS cL s o rad κ σ κ σ sc u ad f H locs → ad 0 0 = x0 → lv_has ls 7 [(0, .ref b), (1, .ref x0), (2, .ref (rad 0 0)), (3, .ref o), (4, .int (nI i))] → W p l e room_1 s m #[Value.ref b] below meth c H locs (cells + 5) (slots + 165) Q (F0 m 1176 ls [])) : W p l e room_1 s m #[Value.ref b] below meth c H locs cells slots Q (F0 m 635 ls []) := by
  obtain ⟨hx, hb, hr, hml, hown9, hts0, hX, hbl, hlocks, hgv⟩ := C0
  have hown : s.vm.findClass RL = some m.cls := hown9
  have hts : ∀ w ∈ wsL_law, w.before #[Value.ref b] s = true := fun w h => hts0 w (wsL_law_in w h)
  have hbA : ¬ lA0 s b := Nat.not_le.mpr hbl
  have hKL := hC.1.2.1
  obtain ⟨a0, a1, a3, a2, ak, a22, a7, a9, a18, a10, a30, ac, as⟩ := id hI
  subst h0
  have hS := hW.2.2.2
  refine lv_aload_n hx hb dL_law_635 rfl (lv_at hl 1 rfl) ?_
  refine va_calli (va_runV (As := []) (rest := []) ⟨hx, hb, hml, hown, hts⟩ (k_X3_order (l := l) (D := D) (cI := cI) (cZ := cZ) (cB := cB) (cS := cS) (A := fun q => lA s rad q ∧ q ≠ o) κ σ sc ad a0 ak) (cwV 0 hts gL_law_X3_order rfl rfl rfl (by decide +kernel) ⟨(Nat.le_of_ble_eq_true rfl), (Nat.le_of_ble_eq_true rfl)⟩) (lPreC hC hW) rfl rfl hl.1 rfl (lv_room (Nat.le_of_ble_eq_true rfl)) dL_law_636 ⟨(show cells + 0 ≤ 601024 by omega), (show slots + 0 ≤ 7293034 by omega)⟩) hS (fun q _ h9 => h9.1.1) (fun q h9 => h9.1.1) (fun r9 u9 t9 H locs ht9 hvm9 hw9 hB9 hz9 hk9 hS => ?_)
  have hW : LW D cI cZ cB cS cL s o rad κ σ κ σ u9 u ad f H locs := hW.c (by rw [← ht9]; exact hB9) hk9 hS
  refine lv_toq (nI (comeF (κ 0) σ)) hw9 ?_
  refine lv_aload_n hx hb dL_law_639 rfl (lv_at hl 2 rfl) ?_
  refine va_calli (va_runV (As := []) (rest := [.int (nI ((comeF (κ 0) σ)))]) ⟨hx, hb, hml, hown, hts⟩ (k_X4_order (l := l) (D := D) (cI := cI) (cZ := cZ) (cB := cB) (cS := cS) (A := lR rad H.size) κ σ u rad a0 ak a9) (cwV 0 hts gL_law_X4_order rfl rfl rfl (by decide +kernel) ⟨(Nat.le_of_ble_eq_true rfl), (Nat.le_of_ble_eq_true rfl)⟩) (lPreM hC hW) rfl rfl hl.1 rfl (lv_room (Nat.le_of_ble_eq_true rfl)) dL_law_640 ⟨(show cells + 0 + 0 ≤ 601024 by omega), (show slots + 0 + 0 ≤ 7293034 by omega)⟩) hS (fun q _ h9 => hW.r0 q h9) (fun q h9 => hW.r0 q h9) (fun r8 u8 t8 H locs ht8 hvm8 hw8 hB8 hz8 hk8 hS => ?_)
  have hW : LW D cI cZ cB cS cL s o rad κ σ κ σ u9 u8 ad f H locs := hW.m hC (by rw [← ht8]; exact hB8) hk8 hS
  refine lv_toq (nI (comeF (κ 0) σ)) hw8.2 ?_
  refine lv_icmp_eq (tgt := 1176) hx hb dL_law_643 (by decide) (fun _ => ?_) (fun z => absurd rfl z)
  refine W.widen (k := cells + 5) (n := slots + 165) (by omega) (by omega) ?_
  exact kk κ σ u9 u8 ad f H locs ls (hI) hW rfl (lv_sub hl [0, 1, 2, 3, 4] rfl)

set_option maxHeartbeats 4000000 in
set_option maxRecDepth 100000 in
theorem seg_at {p : Program} {l : Launch} {e : Env} {s : State} {m : MethodId} {below : List Frame} {meth : Method} {c : Code} {Q : State → Prop} {D : va_G} {cI cZ cB cS cL : ClassId} {b L o : Nat} {xs : Nat → Int32} {rad : Nat → Nat → Nat} (hst : l.stackTraces = false) (hL : L ≤ 2048) (C0 : lw_At p s m meth c b L xs) (hC : LC D cI cZ cB cS cL s o rad) (x0 i : Nat) (hi : i + 4 ≤ L) {cells slots : Nat} (hc5 : cells + 5 ≤ 601024) (hs5 : slots + 165 ≤ 7293034) {κ : Nat → Nat} {σ sc u : Nat → Nat → Int32} {ad : Nat → Nat → Nat} {f : Nat → Int64} {H : Heap} {locs : List Loc} {ls : Array Slot} (hI : gInv κ σ) (hW : LW D cI cZ cB cS cL s o rad κ σ κ σ sc u ad f H locs) (h0 : ad 0 0 = x0) (hl : lv_has ls 7 [(0, .ref b), (1, .ref x0), (2, .ref (rad 0 0)), (3, .ref o), (4, .int (nI i))]) (kk : ∀ (κ : Nat → Nat) (σ sc u : Nat → Nat → Int32) (ad : Nat → Nat → Nat) (f : Nat → Int64) (H : Heap) (locs : List Loc) (ls : Array Slot), gInv κ σ → LW D cI cZ cB cS cL s o rad κ σ κ σ sc u ad f H locs → ad 0 0 = x0 → lv_has ls 7 [(0, .ref b), (1, .ref x0), (2, .ref (rad 0 0)), (3, .ref o), (4, .int (nI i))] → W p l e room_1 s m #[Value.ref b] below meth c H locs (cells + 5) (slots + 165) Q (F0 m 1176 ls [])) : W p l e room_1 s m #[Value.ref b] below meth c H locs cells slots Q (F0 m 648 ls []) := by
  obtain ⟨hx, hb, hr, hml, hown9, hts0, hX, hbl, hlocks, hgv⟩ := C0
  have hown : s.vm.findClass RL = some m.cls := hown9
  have hts : ∀ w ∈ wsL_law, w.before #[Value.ref b] s = true := fun w h => hts0 w (wsL_law_in w h)
  have hbA : ¬ lA0 s b := Nat.not_le.mpr hbl
  have hKL := hC.1.2.1
  obtain ⟨a0, a1, a3, a2, ak, a22, a7, a9, a18, a10, a30, ac, as⟩ := id hI
  subst h0
  have hS := hW.2.2.2
  obtain ⟨y0, ey0⟩ : ∃ z : Int32, z = xs (i + 1) := ⟨_, rfl⟩
  refine lv_aload_n hx hb dL_law_648 rfl (lv_at hl 1 rfl) ?_
  refine lv_aload_n hx hb dL_law_649 rfl (lv_at hl 0 rfl) ?_
  refine lv_iload hx hb dL_law_650 (lv_at hl 4 rfl) ?_
  refine lv_iconst (v := 1) hx hb dL_law_652 (by decide) ?_
  refine lv_iadd hx hb dL_law_653 ?_
  refine lv_toq (nI (i + 1)) (nI_add i 1) ?_
  refine va_sld hx hb hX hbl hbA hS (vp_in_nI (show i + 1 < L by omega) (by omega)) dL_law_654 ?_
  refine lv_toq y0 (by rw [nI_clamp (show i + 1 < 2 ^ 31 by omega), ey0]) ?_
  refine lv_aload_n hx hb dL_law_655 rfl (lv_at hl 3 rfl) ?_
  refine va_calli (vx_runSW (As := [.ref ((ad 0 0)), .int y0, .ref o]) (rest := []) ⟨hx, hb, hml, hown, hts⟩ (k_L_at (l := l) (D := D) (cI := cI) (cZ := cZ) (cB := cB) (cS := cS) (cL := cL) (A := lA s rad) κ σ sc ad o f hst a0 ak y0) (vx_cwSW 3 hts gL_law_L_at rfl rfl rfl (by decide +kernel) ⟨(Nat.le_of_ble_eq_true rfl), (Nat.le_of_ble_eq_true rfl)⟩) (lPreS hC hW) rfl rfl hl.1 rfl (lv_room (Nat.le_of_ble_eq_true rfl)) dL_law_656 ⟨(show cells + 1 ≤ 601024 by omega), (show slots + 6 ≤ 7293034 by omega)⟩) hS (fun q _ h9 => h9.1) (fun q h9 => h9.1) (fun r9 u9 t9 H locs ht9 hvm9 hw9 hB9 hz9 hk9 hS => ?_)
  have hW : LW D cI cZ cB cS cL s o rad κ σ κ σ u9.2.1 u u9.1 u9.2.2 H locs := hW.h (by rw [← ht9]; exact hB9) hk9 hS
  refine lv_toq (nI (cOne (κ 0) y0)) hw9.1 ?_
  refine lv_istore (lv' := [(5, .int (nI ((cOne (κ 0) y0)))), (0, .ref b), (1, .ref ((ad 0 0))), (2, .ref ((rad 0 0))), (3, .ref o), (4, .int (nI i))]) hx hb dL_law_659 hl (by decide) rfl (fun ls hl => ?_)
  refine lv_aload_n hx hb dL_law_661 rfl (lv_at hl 3 rfl) ?_
  refine lv_aload_n hx hb dL_law_662 rfl (lv_at hl 1 rfl) ?_
  refine lv_iload hx hb dL_law_663 (lv_at hl 5 rfl) ?_
  refine lv_iconst (v := 1) hx hb dL_law_665 (by decide) ?_
  refine lv_iadd hx hb dL_law_666 ?_
  refine lv_toq (nI (i + 1)) (nI_add i 1) ?_
  refine va_sld hx hb hX hbl hbA hS (vp_in_nI (show i + 1 < L by omega) (by omega)) dL_law_667 ?_
  refine lv_toq y0 (by rw [nI_clamp (show i + 1 < 2 ^ 31 by omega), ey0]) ?_
  refine va_calli (va_runV (As := [.int y0]) (rest := []) ⟨hx, hb, hml, hown, hts⟩ (k_X4_at (l := l) (D := D) (cI := cI) (cZ := cZ) (cB := cB) (cS := cS) (A := lR rad H.size) κ σ u rad a0 ak a9 y0) (cwV 1 hts gL_law_X4_at rfl rfl rfl (by decide +kernel) ⟨(Nat.le_of_ble_eq_true rfl), (Nat.le_of_ble_eq_true rfl)⟩) (lPreM hC hW) rfl rfl hl.1 rfl (lv_room (Nat.le_of_ble_eq_true rfl)) dL_law_668 ⟨(show cells + 1 + 0 ≤ 601024 by omega), (show slots + 6 + 0 ≤ 7293034 by omega)⟩) hS (fun q _ h9 => hW.r0 q h9) (fun q h9 => hW.r0 q h9) (fun r8 u8 t8 H locs ht8 hvm8 hw8 hB8 hz8 hk8 hS => ?_)
  have hW : LW D cI cZ cB cS cL s o rad κ σ κ σ u9.2.1 u8 u9.1 u9.2.2 H locs := hW.m hC (by rw [← ht8]; exact hB8) hk8 hS
  refine lv_istore (lv' := [(6, .int r8), (5, .int (nI ((cOne (κ 0) y0)))), (0, .ref b), (1, .ref ((ad 0 0))), (2, .ref ((rad 0 0))), (3, .ref o), (4, .int (nI i))]) hx hb dL_law_671 hl (by decide) rfl (fun ls hl => ?_)
  refine lv_aload_n hx hb dL_law_673 rfl (lv_at hl 4 rfl) ?_
  refine va_calli (va_runV (As := []) (rest := []) ⟨hx, hb, hml, hown, hts⟩ (k_X4_thrown (l := l) (D := D) (cI := cI) (cZ := cZ) (cB := cB) (cS := cS) (A := lR rad H.size) κ σ u8 rad) (cwV 0 hts gL_law_X4_thrown rfl rfl rfl (by decide +kernel) ⟨(Nat.le_of_ble_eq_true rfl), (Nat.le_of_ble_eq_true rfl)⟩) (lPreM hC hW) rfl rfl hl.1 rfl (lv_room (Nat.le_of_ble_eq_true rfl)) dL_law_674 ⟨(show cells + 1 + 0 + 0 ≤ 601024 by omega), (show slots + 6 + 0 + 0 ≤ 7293034 by omega)⟩) hS (fun q _ h9 => hW.r0 q h9) (fun q h9 => hW.r0 q h9) (fun r7 u7 t7 H locs ht7 hvm7 hw7 hB7 hz7 hk7 hS => ?_)
  have hW : LW D cI cZ cB cS cL s o rad κ σ κ σ u9.2.1 u8 u9.1 u9.2.2 H locs := hW.m hC (by rw [← ht7]; exact hB7) hk7 hS
  refine lv_toq (nI (cOne (κ 0) y0)) (hw7.trans hw8.1) ?_
  refine lv_iload hx hb dL_law_677 (lv_at hl 1 rfl) ?_
  refine lv_icmp_eq (tgt := 684) hx hb dL_law_679 (by decide) (fun _ => ?_) (fun z => absurd rfl z)
  refine lv_iload hx hb dL_law_684 (lv_at hl 1 rfl) ?_
  refine lv_if_ne (tgt := 701) hx hb dL_law_686 (by decide) (fun c_1 => ?_) (fun c_1 => ?_)
  · refine lv_goto (tgt := 1176) hx hb dL_law_701 (by decide) ?_
    refine W.widen (k := cells + 5) (n := slots + 165) (by omega) (by omega) ?_
    exact kk κ σ u9.2.1 u8 u9.1 u9.2.2 H locs ls (hI) hW hw9.2.2 (lv_sub hl [2, 3, 4, 5, 6] rfl)
  · have hcz : cOne (κ 0) y0 = 0 := nI_z (cOne_le _ _) c_1
    have hv8 := hw8.2 hcz
    have hv9 := hw9.2.1 hcz
    refine lv_aload_n hx hb dL_law_689 rfl (lv_at hl 5 rfl) ?_
    refine lv_iconst (v := 0) hx hb dL_law_690 (by decide) ?_
    refine gl_lald hx hb hKL hW.2.2.1 dL_law_691 ?_
    refine lv_iload hx hb dL_law_692 (lv_at hl 0 rfl) ?_
    refine lv_i2l (v := (r8).toInt64) hx hb dL_law_694 rfl ?_
    refine W.lcmp hx hb dL_law_695 ?_
    refine lv_if_eq (tgt := 701) hx hb dL_law_696 (by decide) (fun _ => ?_) (fun z => absurd (lcmp_0 (hv9.trans (congrArg Int32.toInt64 hv8.symm))) z)
    refine lv_goto (tgt := 1176) hx hb dL_law_701 (by decide) ?_
    refine W.widen (k := cells + 5) (n := slots + 165) (by omega) (by omega) ?_
    exact kk κ σ u9.2.1 u8 u9.1 u9.2.2 H locs ls (hI) hW hw9.2.2 (lv_sub hl [2, 3, 4, 5, 6] rfl)

set_option maxHeartbeats 4000000 in
set_option maxRecDepth 100000 in
theorem seg_run {p : Program} {l : Launch} {e : Env} {s : State} {m : MethodId} {below : List Frame} {meth : Method} {c : Code} {Q : State → Prop} {D : va_G} {cI cZ cB cS cL : ClassId} {b L o : Nat} {xs : Nat → Int32} {rad : Nat → Nat → Nat} (hst : l.stackTraces = false) (hL : L ≤ 2048) (C0 : lw_At p s m meth c b L xs) (hC : LC D cI cZ cB cS cL s o rad) (x0 i : Nat) (hi : i + 4 ≤ L) {cells slots : Nat} (hc5 : cells + 5 ≤ 601024) (hs5 : slots + 165 ≤ 7293034) {κ : Nat → Nat} {σ sc u : Nat → Nat → Int32} {ad : Nat → Nat → Nat} {f : Nat → Int64} {H : Heap} {locs : List Loc} {ls : Array Slot} (hI : gInv κ σ) (hW : LW D cI cZ cB cS cL s o rad κ σ κ σ sc u ad f H locs) (h0 : ad 0 0 = x0) (hl : lv_has ls 7 [(0, .ref b), (1, .ref x0), (2, .ref (rad 0 0)), (3, .ref o), (4, .int (nI i))]) (kk : ∀ (κ : Nat → Nat) (σ sc u : Nat → Nat → Int32) (ad : Nat → Nat → Nat) (f : Nat → Int64) (H : Heap) (locs : List Loc) (ls : Array Slot), gInv κ σ → LW D cI cZ cB cS cL s o rad κ σ κ σ sc u ad f H locs → ad 0 0 = x0 → lv_has ls 7 [(0, .ref b), (1, .ref x0), (2, .ref (rad 0 0)), (3, .ref o), (4, .int (nI i))] → W p l e room_1 s m #[Value.ref b] below meth c H locs (cells + 5) (slots + 165) Q (F0 m 1176 ls [])) : W p l e room_1 s m #[Value.ref b] below meth c H locs cells slots Q (F0 m 704 ls []) := by
  obtain ⟨hx, hb, hr, hml, hown9, hts0, hX, hbl, hlocks, hgv⟩ := C0
  have hown : s.vm.findClass RL = some m.cls := hown9
  have hts : ∀ w ∈ wsL_law, w.before #[Value.ref b] s = true := fun w h => hts0 w (wsL_law_in w h)
  have hbA : ¬ lA0 s b := Nat.not_le.mpr hbl
  have hKL := hC.1.2.1
  obtain ⟨a0, a1, a3, a2, ak, a22, a7, a9, a18, a10, a30, ac, as⟩ := id hI
  subst h0
  have hS := hW.2.2.2
  obtain ⟨y0, ey0⟩ : ∃ z : Int32, z = xs (i + 1) := ⟨_, rfl⟩
  refine lv_aload_n hx hb dL_law_704 rfl (lv_at hl 1 rfl) ?_
  refine lv_aload_n hx hb dL_law_705 rfl (lv_at hl 0 rfl) ?_
  refine lv_iload hx hb dL_law_706 (lv_at hl 4 rfl) ?_
  refine lv_iconst (v := 1) hx hb dL_law_708 (by decide) ?_
  refine lv_iadd hx hb dL_law_709 ?_
  refine lv_toq (nI (i + 1)) (nI_add i 1) ?_
  refine va_sld hx hb hX hbl hbA hS (vp_in_nI (show i + 1 < L by omega) (by omega)) dL_law_710 ?_
  refine lv_toq y0 (by rw [nI_clamp (show i + 1 < 2 ^ 31 by omega), ey0]) ?_
  refine lv_aload_n hx hb dL_law_711 rfl (lv_at hl 3 rfl) ?_
  refine va_calli (vx_runSW (As := [.ref ((ad 0 0)), .int y0, .ref o]) (rest := []) ⟨hx, hb, hml, hown, hts⟩ (k_L_run (l := l) (D := D) (cI := cI) (cZ := cZ) (cB := cB) (cS := cS) (cL := cL) (A := lA s rad) κ σ sc ad o f hst a0 a3 ak y0) (vx_cwSW 3 hts gL_law_L_run rfl rfl rfl (by decide +kernel) ⟨(Nat.le_of_ble_eq_true rfl), (Nat.le_of_ble_eq_true rfl)⟩) (lPreS hC hW) rfl rfl hl.1 rfl (lv_room (Nat.le_of_ble_eq_true rfl)) dL_law_712 ⟨(show cells + 1 ≤ 601024 by omega), (show slots + 6 ≤ 7293034 by omega)⟩) hS (fun q _ h9 => h9.1) (fun q h9 => h9.1) (fun r9 u9 t9 H locs ht9 hvm9 hw9 hB9 hz9 hk9 hS => ?_)
  have hW : LW D cI cZ cB cS cL s o rad ((runR κ σ y0).1) ((runR κ σ y0).2) κ σ u9.2.1 u u9.1 u9.2.2 H locs := hW.h (by rw [← ht9]; exact hB9) hk9 hS
  refine lv_toq (nI (cRun κ σ y0)) hw9.1 ?_
  refine lv_istore (lv' := [(5, .int (nI ((cRun κ σ y0)))), (0, .ref b), (1, .ref ((ad 0 0))), (2, .ref ((rad 0 0))), (3, .ref o), (4, .int (nI i))]) hx hb dL_law_715 hl (by decide) rfl (fun ls hl => ?_)
  refine lv_aload_n hx hb dL_law_717 rfl (lv_at hl 3 rfl) ?_
  refine lv_aload_n hx hb dL_law_718 rfl (lv_at hl 1 rfl) ?_
  refine lv_iload hx hb dL_law_719 (lv_at hl 5 rfl) ?_
  refine lv_iconst (v := 1) hx hb dL_law_721 (by decide) ?_
  refine lv_iadd hx hb dL_law_722 ?_
  refine lv_toq (nI (i + 1)) (nI_add i 1) ?_
  refine va_sld hx hb hX hbl hbA hS (vp_in_nI (show i + 1 < L by omega) (by omega)) dL_law_723 ?_
  refine lv_toq y0 (by rw [nI_clamp (show i + 1 < 2 ^ 31 by omega), ey0]) ?_
  refine va_calli (va_runV (As := [.int y0]) (rest := []) ⟨hx, hb, hml, hown, hts⟩ (k_X4_run (l := l) (D := D) (cI := cI) (cZ := cZ) (cB := cB) (cS := cS) (A := lR rad H.size) κ σ u rad a0 a3 a2 ak a9 y0) (cwV 1 hts gL_law_X4_run rfl rfl rfl (by decide +kernel) ⟨(Nat.le_of_ble_eq_true rfl), (Nat.le_of_ble_eq_true rfl)⟩) (lPreM hC hW) rfl rfl hl.1 rfl (lv_room (Nat.le_of_ble_eq_true rfl)) dL_law_724 ⟨(show cells + 1 + 0 ≤ 601024 by omega), (show slots + 6 + 0 ≤ 7293034 by omega)⟩) hS (fun q _ h9 => hW.r0 q h9) (fun q h9 => hW.r0 q h9) (fun r8 u8 t8 H locs ht8 hvm8 hw8 hB8 hz8 hk8 hS => ?_)
  have hW : LW D cI cZ cB cS cL s o rad ((runR κ σ y0).1) ((runR κ σ y0).2) ((runR κ σ y0).1) ((runR κ σ y0).2) u9.2.1 u8 u9.1 u9.2.2 H locs := hW.m hC (by rw [← ht8]; exact hB8) hk8 hS
  refine lv_istore (lv' := [(6, .int r8), (5, .int (nI ((cRun κ σ y0)))), (0, .ref b), (1, .ref ((ad 0 0))), (2, .ref ((rad 0 0))), (3, .ref o), (4, .int (nI i))]) hx hb dL_law_727 hl (by decide) rfl (fun ls hl => ?_)
  refine lv_aload_n hx hb dL_law_729 rfl (lv_at hl 4 rfl) ?_
  refine va_calli (va_runV (As := []) (rest := []) ⟨hx, hb, hml, hown, hts⟩ (k_X4_thrown (l := l) (D := D) (cI := cI) (cZ := cZ) (cB := cB) (cS := cS) (A := lR rad H.size) ((runR κ σ y0).1) ((runR κ σ y0).2) u8 rad) (cwV 0 hts gL_law_X4_thrown rfl rfl rfl (by decide +kernel) ⟨(Nat.le_of_ble_eq_true rfl), (Nat.le_of_ble_eq_true rfl)⟩) (lPreM hC hW) rfl rfl hl.1 rfl (lv_room (Nat.le_of_ble_eq_true rfl)) dL_law_730 ⟨(show cells + 1 + 0 + 0 ≤ 601024 by omega), (show slots + 6 + 0 + 0 ≤ 7293034 by omega)⟩) hS (fun q _ h9 => hW.r0 q h9) (fun q h9 => hW.r0 q h9) (fun r7 u7 t7 H locs ht7 hvm7 hw7 hB7 hz7 hk7 hS => ?_)
  have hW : LW D cI cZ cB cS cL s o rad ((runR κ σ y0).1) ((runR κ σ y0).2) ((runR κ σ y0).1) ((runR κ σ y0).2) u9.2.1 u8 u9.1 u9.2.2 H locs := hW.m hC (by rw [← ht7]; exact hB7) hk7 hS
  refine lv_toq (nI (cRun κ σ y0)) (hw7.trans hw8.1) ?_
  refine lv_iload hx hb dL_law_733 (lv_at hl 1 rfl) ?_
  refine lv_icmp_eq (tgt := 740) hx hb dL_law_735 (by decide) (fun _ => ?_) (fun z => absurd rfl z)
  refine lv_iload hx hb dL_law_740 (lv_at hl 1 rfl) ?_
  refine lv_if_ne (tgt := 757) hx hb dL_law_742 (by decide) (fun c_1 => ?_) (fun c_1 => ?_)
  · refine lv_goto (tgt := 1176) hx hb dL_law_757 (by decide) ?_
    refine W.widen (k := cells + 5) (n := slots + 165) (by omega) (by omega) ?_
    exact kk ((runR κ σ y0).1) ((runR κ σ y0).2) u9.2.1 u8 u9.1 u9.2.2 H locs ls (hI.run) hW hw9.2.2 (lv_sub hl [2, 3, 4, 5, 6] rfl)
  · have hcz : cRun κ σ y0 = 0 := nI_z (cRun_le _ _ _) c_1
    have hv8 := hw8.2 hcz
    have hv9 := hw9.2.1 hcz
    refine lv_aload_n hx hb dL_law_745 rfl (lv_at hl 5 rfl) ?_
    refine lv_iconst (v := 0) hx hb dL_law_746 (by decide) ?_
    refine gl_lald hx hb hKL hW.2.2.1 dL_law_747 ?_
    refine lv_iload hx hb dL_law_748 (lv_at hl 0 rfl) ?_
    refine lv_i2l (v := (r8).toInt64) hx hb dL_law_750 rfl ?_
    refine W.lcmp hx hb dL_law_751 ?_
    refine lv_if_eq (tgt := 757) hx hb dL_law_752 (by decide) (fun _ => ?_) (fun z => absurd (lcmp_0 (hv9.trans (congrArg Int32.toInt64 hv8.symm))) z)
    refine lv_goto (tgt := 1176) hx hb dL_law_757 (by decide) ?_
    refine W.widen (k := cells + 5) (n := slots + 165) (by omega) (by omega) ?_
    exact kk ((runR κ σ y0).1) ((runR κ σ y0).2) u9.2.1 u8 u9.1 u9.2.2 H locs ls (hI.run) hW hw9.2.2 (lv_sub hl [2, 3, 4, 5, 6] rfl)

set_option maxHeartbeats 4000000 in
set_option maxRecDepth 100000 in
theorem seg_out {p : Program} {l : Launch} {e : Env} {s : State} {m : MethodId} {below : List Frame} {meth : Method} {c : Code} {Q : State → Prop} {D : va_G} {cI cZ cB cS cL : ClassId} {b L o : Nat} {xs : Nat → Int32} {rad : Nat → Nat → Nat} (hst : l.stackTraces = false) (hL : L ≤ 2048) (C0 : lw_At p s m meth c b L xs) (hC : LC D cI cZ cB cS cL s o rad) (x0 i : Nat) (hi : i + 4 ≤ L) {cells slots : Nat} (hc5 : cells + 5 ≤ 601024) (hs5 : slots + 165 ≤ 7293034) {κ : Nat → Nat} {σ sc u : Nat → Nat → Int32} {ad : Nat → Nat → Nat} {f : Nat → Int64} {H : Heap} {locs : List Loc} {ls : Array Slot} (hI : gInv κ σ) (hW : LW D cI cZ cB cS cL s o rad κ σ κ σ sc u ad f H locs) (h0 : ad 0 0 = x0) (hl : lv_has ls 7 [(0, .ref b), (1, .ref x0), (2, .ref (rad 0 0)), (3, .ref o), (4, .int (nI i))]) (kk : ∀ (κ : Nat → Nat) (σ sc u : Nat → Nat → Int32) (ad : Nat → Nat → Nat) (f : Nat → Int64) (H : Heap) (locs : List Loc) (ls : Array Slot), gInv κ σ → LW D cI cZ cB cS cL s o rad κ σ κ σ sc u ad f H locs → ad 0 0 = x0 → lv_has ls 7 [(0, .ref b), (1, .ref x0), (2, .ref (rad 0 0)), (3, .ref o), (4, .int (nI i))] → W p l e room_1 s m #[Value.ref b] below meth c H locs (cells + 5) (slots + 165) Q (F0 m 1176 ls [])) : W p l e room_1 s m #[Value.ref b] below meth c H locs cells slots Q (F0 m 760 ls []) := by
  obtain ⟨hx, hb, hr, hml, hown9, hts0, hX, hbl, hlocks, hgv⟩ := C0
  have hown : s.vm.findClass RL = some m.cls := hown9
  have hts : ∀ w ∈ wsL_law, w.before #[Value.ref b] s = true := fun w h => hts0 w (wsL_law_in w h)
  have hbA : ¬ lA0 s b := Nat.not_le.mpr hbl
  have hKL := hC.1.2.1
  obtain ⟨a0, a1, a3, a2, ak, a22, a7, a9, a18, a10, a30, ac, as⟩ := id hI
  subst h0
  have hS := hW.2.2.2
  obtain ⟨y0, ey0⟩ : ∃ z : Int32, z = xs (i + 1) := ⟨_, rfl⟩
  refine lv_aload_n hx hb dL_law_760 rfl (lv_at hl 1 rfl) ?_
  refine lv_aload_n hx hb dL_law_761 rfl (lv_at hl 0 rfl) ?_
  refine lv_iload hx hb dL_law_762 (lv_at hl 4 rfl) ?_
  refine lv_iconst (v := 1) hx hb dL_law_764 (by decide) ?_
  refine lv_iadd hx hb dL_law_765 ?_
  refine lv_toq (nI (i + 1)) (nI_add i 1) ?_
  refine va_sld hx hb hX hbl hbA hS (vp_in_nI (show i + 1 < L by omega) (by omega)) dL_law_766 ?_
  refine lv_toq y0 (by rw [nI_clamp (show i + 1 < 2 ^ 31 by omega), ey0]) ?_
  refine lv_aload_n hx hb dL_law_767 rfl (lv_at hl 3 rfl) ?_
  refine va_calli (vx_runSW (As := [.ref ((ad 0 0)), .int y0, .ref o]) (rest := []) ⟨hx, hb, hml, hown, hts⟩ (k_L_out (l := l) (D := D) (cI := cI) (cZ := cZ) (cB := cB) (cS := cS) (cL := cL) (A := lA s rad) κ σ sc ad o f hst a0 y0) (vx_cwSW 3 hts gL_law_L_out rfl rfl rfl (by decide +kernel) ⟨(Nat.le_of_ble_eq_true rfl), (Nat.le_of_ble_eq_true rfl)⟩) (lPreS hC hW) rfl rfl hl.1 rfl (lv_room (Nat.le_of_ble_eq_true rfl)) dL_law_768 ⟨(show cells + 1 ≤ 601024 by omega), (show slots + 6 ≤ 7293034 by omega)⟩) hS (fun q _ h9 => h9.1) (fun q h9 => h9.1) (fun r9 u9 t9 H locs ht9 hvm9 hw9 hB9 hz9 hk9 hS => ?_)
  have hW : LW D cI cZ cB cS cL s o rad κ σ κ σ u9.2.1 u u9.1 u9.2.2 H locs := hW.h (by rw [← ht9]; exact hB9) hk9 hS
  refine lv_toq (nI (cOne (κ 0) y0)) hw9.1 ?_
  refine lv_istore (lv' := [(5, .int (nI ((cOne (κ 0) y0)))), (0, .ref b), (1, .ref ((ad 0 0))), (2, .ref ((rad 0 0))), (3, .ref o), (4, .int (nI i))]) hx hb dL_law_771 hl (by decide) rfl (fun ls hl => ?_)
  refine lv_aload_n hx hb dL_law_773 rfl (lv_at hl 3 rfl) ?_
  refine lv_aload_n hx hb dL_law_774 rfl (lv_at hl 1 rfl) ?_
  refine lv_iload hx hb dL_law_775 (lv_at hl 5 rfl) ?_
  refine lv_iconst (v := 1) hx hb dL_law_777 (by decide) ?_
  refine lv_iadd hx hb dL_law_778 ?_
  refine lv_toq (nI (i + 1)) (nI_add i 1) ?_
  refine va_sld hx hb hX hbl hbA hS (vp_in_nI (show i + 1 < L by omega) (by omega)) dL_law_779 ?_
  refine lv_toq y0 (by rw [nI_clamp (show i + 1 < 2 ^ 31 by omega), ey0]) ?_
  refine va_calli (va_runV (As := [.int y0]) (rest := []) ⟨hx, hb, hml, hown, hts⟩ (k_X4_out (l := l) (D := D) (cI := cI) (cZ := cZ) (cB := cB) (cS := cS) (A := lR rad H.size) κ σ u rad a0 y0) (cwV 1 hts gL_law_X4_out rfl rfl rfl (by decide +kernel) ⟨(Nat.le_of_ble_eq_true rfl), (Nat.le_of_ble_eq_true rfl)⟩) (lPreM hC hW) rfl rfl hl.1 rfl (lv_room (Nat.le_of_ble_eq_true rfl)) dL_law_780 ⟨(show cells + 1 + 0 ≤ 601024 by omega), (show slots + 6 + 0 ≤ 7293034 by omega)⟩) hS (fun q _ h9 => hW.r0 q h9) (fun q h9 => hW.r0 q h9) (fun r8 u8 t8 H locs ht8 hvm8 hw8 hB8 hz8 hk8 hS => ?_)
  have hW : LW D cI cZ cB cS cL s o rad κ σ κ σ u9.2.1 u8 u9.1 u9.2.2 H locs := hW.m hC (by rw [← ht8]; exact hB8) hk8 hS
  refine lv_istore (lv' := [(6, .int r8), (5, .int (nI ((cOne (κ 0) y0)))), (0, .ref b), (1, .ref ((ad 0 0))), (2, .ref ((rad 0 0))), (3, .ref o), (4, .int (nI i))]) hx hb dL_law_783 hl (by decide) rfl (fun ls hl => ?_)
  refine lv_aload_n hx hb dL_law_785 rfl (lv_at hl 4 rfl) ?_
  refine va_calli (va_runV (As := []) (rest := []) ⟨hx, hb, hml, hown, hts⟩ (k_X4_thrown (l := l) (D := D) (cI := cI) (cZ := cZ) (cB := cB) (cS := cS) (A := lR rad H.size) κ σ u8 rad) (cwV 0 hts gL_law_X4_thrown rfl rfl rfl (by decide +kernel) ⟨(Nat.le_of_ble_eq_true rfl), (Nat.le_of_ble_eq_true rfl)⟩) (lPreM hC hW) rfl rfl hl.1 rfl (lv_room (Nat.le_of_ble_eq_true rfl)) dL_law_786 ⟨(show cells + 1 + 0 + 0 ≤ 601024 by omega), (show slots + 6 + 0 + 0 ≤ 7293034 by omega)⟩) hS (fun q _ h9 => hW.r0 q h9) (fun q h9 => hW.r0 q h9) (fun r7 u7 t7 H locs ht7 hvm7 hw7 hB7 hz7 hk7 hS => ?_)
  have hW : LW D cI cZ cB cS cL s o rad κ σ κ σ u9.2.1 u8 u9.1 u9.2.2 H locs := hW.m hC (by rw [← ht7]; exact hB7) hk7 hS
  refine lv_toq (nI (cOne (κ 0) y0)) (hw7.trans hw8.1) ?_
  refine lv_iload hx hb dL_law_789 (lv_at hl 1 rfl) ?_
  refine lv_icmp_eq (tgt := 796) hx hb dL_law_791 (by decide) (fun _ => ?_) (fun z => absurd rfl z)
  refine lv_iload hx hb dL_law_796 (lv_at hl 1 rfl) ?_
  refine lv_if_ne (tgt := 813) hx hb dL_law_798 (by decide) (fun c_1 => ?_) (fun c_1 => ?_)
  · refine lv_goto (tgt := 1176) hx hb dL_law_813 (by decide) ?_
    refine W.widen (k := cells + 5) (n := slots + 165) (by omega) (by omega) ?_
    exact kk κ σ u9.2.1 u8 u9.1 u9.2.2 H locs ls (hI) hW hw9.2.2 (lv_sub hl [2, 3, 4, 5, 6] rfl)
  · have hcz : cOne (κ 0) y0 = 0 := nI_z (cOne_le _ _) c_1
    have hv8 := hw8.2 hcz
    have hv9 := hw9.2.1 hcz
    refine lv_aload_n hx hb dL_law_801 rfl (lv_at hl 5 rfl) ?_
    refine lv_iconst (v := 0) hx hb dL_law_802 (by decide) ?_
    refine gl_lald hx hb hKL hW.2.2.1 dL_law_803 ?_
    refine lv_iload hx hb dL_law_804 (lv_at hl 0 rfl) ?_
    refine lv_i2l (v := (r8).toInt64) hx hb dL_law_806 rfl ?_
    refine W.lcmp hx hb dL_law_807 ?_
    refine lv_if_eq (tgt := 813) hx hb dL_law_808 (by decide) (fun _ => ?_) (fun z => absurd (lcmp_0 (hv9.trans (congrArg Int32.toInt64 hv8.symm))) z)
    refine lv_goto (tgt := 1176) hx hb dL_law_813 (by decide) ?_
    refine W.widen (k := cells + 5) (n := slots + 165) (by omega) (by omega) ?_
    exact kk κ σ u9.2.1 u8 u9.1 u9.2.2 H locs ls (hI) hW hw9.2.2 (lv_sub hl [2, 3, 4, 5, 6] rfl)

set_option maxHeartbeats 4000000 in
set_option maxRecDepth 100000 in
theorem seg_state {p : Program} {l : Launch} {e : Env} {s : State} {m : MethodId} {below : List Frame} {meth : Method} {c : Code} {Q : State → Prop} {D : va_G} {cI cZ cB cS cL : ClassId} {b L o : Nat} {xs : Nat → Int32} {rad : Nat → Nat → Nat} (hst : l.stackTraces = false) (hL : L ≤ 2048) (C0 : lw_At p s m meth c b L xs) (hC : LC D cI cZ cB cS cL s o rad) (x0 i : Nat) (hi : i + 4 ≤ L) {cells slots : Nat} (hc5 : cells + 5 ≤ 601024) (hs5 : slots + 165 ≤ 7293034) {κ : Nat → Nat} {σ sc u : Nat → Nat → Int32} {ad : Nat → Nat → Nat} {f : Nat → Int64} {H : Heap} {locs : List Loc} {ls : Array Slot} (hI : gInv κ σ) (hW : LW D cI cZ cB cS cL s o rad κ σ κ σ sc u ad f H locs) (h0 : ad 0 0 = x0) (hl : lv_has ls 7 [(0, .ref b), (1, .ref x0), (2, .ref (rad 0 0)), (3, .ref o), (4, .int (nI i))]) (kk : ∀ (κ : Nat → Nat) (σ sc u : Nat → Nat → Int32) (ad : Nat → Nat → Nat) (f : Nat → Int64) (H : Heap) (locs : List Loc) (ls : Array Slot), gInv κ σ → LW D cI cZ cB cS cL s o rad κ σ κ σ sc u ad f H locs → ad 0 0 = x0 → lv_has ls 7 [(0, .ref b), (1, .ref x0), (2, .ref (rad 0 0)), (3, .ref o), (4, .int (nI i))] → W p l e room_1 s m #[Value.ref b] below meth c H locs (cells + 5) (slots + 165) Q (F0 m 1176 ls [])) : W p l e room_1 s m #[Value.ref b] below meth c H locs cells slots Q (F0 m 816 ls []) := by
  obtain ⟨hx, hb, hr, hml, hown9, hts0, hX, hbl, hlocks, hgv⟩ := C0
  have hown : s.vm.findClass RL = some m.cls := hown9
  have hts : ∀ w ∈ wsL_law, w.before #[Value.ref b] s = true := fun w h => hts0 w (wsL_law_in w h)
  have hbA : ¬ lA0 s b := Nat.not_le.mpr hbl
  have hKL := hC.1.2.1
  obtain ⟨a0, a1, a3, a2, ak, a22, a7, a9, a18, a10, a30, ac, as⟩ := id hI
  subst h0
  have hS := hW.2.2.2
  obtain ⟨y0, ey0⟩ : ∃ z : Int32, z = xs (i + 1) := ⟨_, rfl⟩
  obtain ⟨y1, ey1⟩ : ∃ z : Int32, z = xs (i + 2) := ⟨_, rfl⟩
  refine lv_aload_n hx hb dL_law_816 rfl (lv_at hl 1 rfl) ?_
  refine lv_aload_n hx hb dL_law_817 rfl (lv_at hl 0 rfl) ?_
  refine lv_iload hx hb dL_law_818 (lv_at hl 4 rfl) ?_
  refine lv_iconst (v := 1) hx hb dL_law_820 (by decide) ?_
  refine lv_iadd hx hb dL_law_821 ?_
  refine lv_toq (nI (i + 1)) (nI_add i 1) ?_
  refine va_sld hx hb hX hbl hbA hS (vp_in_nI (show i + 1 < L by omega) (by omega)) dL_law_822 ?_
  refine lv_toq y0 (by rw [nI_clamp (show i + 1 < 2 ^ 31 by omega), ey0]) ?_
  refine lv_aload_n hx hb dL_law_823 rfl (lv_at hl 0 rfl) ?_
  refine lv_iload hx hb dL_law_824 (lv_at hl 4 rfl) ?_
  refine lv_iconst (v := 2) hx hb dL_law_826 (by decide) ?_
  refine lv_iadd hx hb dL_law_827 ?_
  refine lv_toq (nI (i + 2)) (nI_add i 2) ?_
  refine va_sld hx hb hX hbl hbA hS (vp_in_nI (show i + 2 < L by omega) (by omega)) dL_law_828 ?_
  refine lv_toq y1 (by rw [nI_clamp (show i + 2 < 2 ^ 31 by omega), ey1]) ?_
  refine lv_aload_n hx hb dL_law_829 rfl (lv_at hl 3 rfl) ?_
  refine va_calli (vx_runSW (As := [.ref ((ad 0 0)), .int y0, .int y1, .ref o]) (rest := []) ⟨hx, hb, hml, hown, hts⟩ (k_L_state (l := l) (D := D) (cI := cI) (cZ := cZ) (cB := cB) (cS := cS) (cL := cL) (A := lA s rad) κ σ sc ad o f hst a0 y0 y1) (vx_cwSW 4 hts gL_law_L_state rfl rfl rfl (by decide +kernel) ⟨(Nat.le_of_ble_eq_true rfl), (Nat.le_of_ble_eq_true rfl)⟩) (lPreS hC hW) rfl rfl hl.1 rfl (lv_room (Nat.le_of_ble_eq_true rfl)) dL_law_830 ⟨(show cells + 2 ≤ 601024 by omega), (show slots + 12 ≤ 7293034 by omega)⟩) hS (fun q _ h9 => h9.1) (fun q h9 => h9.1) (fun r9 u9 t9 H locs ht9 hvm9 hw9 hB9 hz9 hk9 hS => ?_)
  have hW : LW D cI cZ cB cS cL s o rad κ σ κ σ u9.2.1 u u9.1 u9.2.2 H locs := hW.h (by rw [← ht9]; exact hB9) hk9 hS
  refine lv_toq (nI (cTwo (κ 0) 2 y0 y1)) hw9.1 ?_
  refine lv_istore (lv' := [(5, .int (nI ((cTwo (κ 0) 2 y0 y1)))), (0, .ref b), (1, .ref ((ad 0 0))), (2, .ref ((rad 0 0))), (3, .ref o), (4, .int (nI i))]) hx hb dL_law_833 hl (by decide) rfl (fun ls hl => ?_)
  refine lv_aload_n hx hb dL_law_835 rfl (lv_at hl 3 rfl) ?_
  refine lv_aload_n hx hb dL_law_836 rfl (lv_at hl 1 rfl) ?_
  refine lv_iload hx hb dL_law_837 (lv_at hl 5 rfl) ?_
  refine lv_iconst (v := 1) hx hb dL_law_839 (by decide) ?_
  refine lv_iadd hx hb dL_law_840 ?_
  refine lv_toq (nI (i + 1)) (nI_add i 1) ?_
  refine va_sld hx hb hX hbl hbA hS (vp_in_nI (show i + 1 < L by omega) (by omega)) dL_law_841 ?_
  refine lv_toq y0 (by rw [nI_clamp (show i + 1 < 2 ^ 31 by omega), ey0]) ?_
  refine lv_aload_n hx hb dL_law_842 rfl (lv_at hl 1 rfl) ?_
  refine lv_iload hx hb dL_law_843 (lv_at hl 5 rfl) ?_
  refine lv_iconst (v := 2) hx hb dL_law_845 (by decide) ?_
  refine lv_iadd hx hb dL_law_846 ?_
  refine lv_toq (nI (i + 2)) (nI_add i 2) ?_
  refine va_sld hx hb hX hbl hbA hS (vp_in_nI (show i + 2 < L by omega) (by omega)) dL_law_847 ?_
  refine lv_toq y1 (by rw [nI_clamp (show i + 2 < 2 ^ 31 by omega), ey1]) ?_
  refine va_calli (va_runV (As := [.int y0, .int y1]) (rest := []) ⟨hx, hb, hml, hown, hts⟩ (k_X4_state (l := l) (D := D) (cI := cI) (cZ := cZ) (cB := cB) (cS := cS) (A := lR rad H.size) κ σ u rad a0 y0 y1) (cwV 2 hts gL_law_X4_state rfl rfl rfl (by decide +kernel) ⟨(Nat.le_of_ble_eq_true rfl), (Nat.le_of_ble_eq_true rfl)⟩) (lPreM hC hW) rfl rfl hl.1 rfl (lv_room (Nat.le_of_ble_eq_true rfl)) dL_law_848 ⟨(show cells + 2 + 0 ≤ 601024 by omega), (show slots + 12 + 0 ≤ 7293034 by omega)⟩) hS (fun q _ h9 => hW.r0 q h9) (fun q h9 => hW.r0 q h9) (fun r8 u8 t8 H locs ht8 hvm8 hw8 hB8 hz8 hk8 hS => ?_)
  have hW : LW D cI cZ cB cS cL s o rad κ σ κ σ u9.2.1 u8 u9.1 u9.2.2 H locs := hW.m hC (by rw [← ht8]; exact hB8) hk8 hS
  refine lv_istore (lv' := [(6, .int r8), (5, .int (nI ((cTwo (κ 0) 2 y0 y1)))), (0, .ref b), (1, .ref ((ad 0 0))), (2, .ref ((rad 0 0))), (3, .ref o), (4, .int (nI i))]) hx hb dL_law_851 hl (by decide) rfl (fun ls hl => ?_)
  refine lv_aload_n hx hb dL_law_853 rfl (lv_at hl 4 rfl) ?_
  refine va_calli (va_runV (As := []) (rest := []) ⟨hx, hb, hml, hown, hts⟩ (k_X4_thrown (l := l) (D := D) (cI := cI) (cZ := cZ) (cB := cB) (cS := cS) (A := lR rad H.size) κ σ u8 rad) (cwV 0 hts gL_law_X4_thrown rfl rfl rfl (by decide +kernel) ⟨(Nat.le_of_ble_eq_true rfl), (Nat.le_of_ble_eq_true rfl)⟩) (lPreM hC hW) rfl rfl hl.1 rfl (lv_room (Nat.le_of_ble_eq_true rfl)) dL_law_854 ⟨(show cells + 2 + 0 + 0 ≤ 601024 by omega), (show slots + 12 + 0 + 0 ≤ 7293034 by omega)⟩) hS (fun q _ h9 => hW.r0 q h9) (fun q h9 => hW.r0 q h9) (fun r7 u7 t7 H locs ht7 hvm7 hw7 hB7 hz7 hk7 hS => ?_)
  have hW : LW D cI cZ cB cS cL s o rad κ σ κ σ u9.2.1 u8 u9.1 u9.2.2 H locs := hW.m hC (by rw [← ht7]; exact hB7) hk7 hS
  refine lv_toq (nI (cTwo (κ 0) 2 y0 y1)) (hw7.trans hw8.1) ?_
  refine lv_iload hx hb dL_law_857 (lv_at hl 1 rfl) ?_
  refine lv_icmp_eq (tgt := 864) hx hb dL_law_859 (by decide) (fun _ => ?_) (fun z => absurd rfl z)
  refine lv_iload hx hb dL_law_864 (lv_at hl 1 rfl) ?_
  refine lv_if_ne (tgt := 881) hx hb dL_law_866 (by decide) (fun c_1 => ?_) (fun c_1 => ?_)
  · refine lv_goto (tgt := 1176) hx hb dL_law_881 (by decide) ?_
    refine W.widen (k := cells + 5) (n := slots + 165) (by omega) (by omega) ?_
    exact kk κ σ u9.2.1 u8 u9.1 u9.2.2 H locs ls (hI) hW hw9.2.2 (lv_sub hl [2, 3, 4, 5, 6] rfl)
  · have hcz : cTwo (κ 0) 2 y0 y1 = 0 := nI_z (cTwo_le _ _ _ _) c_1
    have hv8 := hw8.2 hcz
    have hv9 := hw9.2.1 hcz
    refine lv_aload_n hx hb dL_law_869 rfl (lv_at hl 5 rfl) ?_
    refine lv_iconst (v := 0) hx hb dL_law_870 (by decide) ?_
    refine gl_lald hx hb hKL hW.2.2.1 dL_law_871 ?_
    refine lv_iload hx hb dL_law_872 (lv_at hl 0 rfl) ?_
    refine lv_i2l (v := (r8).toInt64) hx hb dL_law_874 rfl ?_
    refine W.lcmp hx hb dL_law_875 ?_
    refine lv_if_eq (tgt := 881) hx hb dL_law_876 (by decide) (fun _ => ?_) (fun z => absurd (lcmp_0 (hv9.trans (congrArg Int32.toInt64 hv8.symm))) z)
    refine lv_goto (tgt := 1176) hx hb dL_law_881 (by decide) ?_
    refine W.widen (k := cells + 5) (n := slots + 165) (by omega) (by omega) ?_
    exact kk κ σ u9.2.1 u8 u9.1 u9.2.2 H locs ls (hI) hW hw9.2.2 (lv_sub hl [2, 3, 4, 5, 6] rfl)

set_option maxHeartbeats 4000000 in
set_option maxRecDepth 100000 in
theorem seg_failed {p : Program} {l : Launch} {e : Env} {s : State} {m : MethodId} {below : List Frame} {meth : Method} {c : Code} {Q : State → Prop} {D : va_G} {cI cZ cB cS cL : ClassId} {b L o : Nat} {xs : Nat → Int32} {rad : Nat → Nat → Nat} (hst : l.stackTraces = false) (hL : L ≤ 2048) (C0 : lw_At p s m meth c b L xs) (hC : LC D cI cZ cB cS cL s o rad) (x0 i : Nat) (hi : i + 4 ≤ L) {cells slots : Nat} (hc5 : cells + 5 ≤ 601024) (hs5 : slots + 165 ≤ 7293034) {κ : Nat → Nat} {σ sc u : Nat → Nat → Int32} {ad : Nat → Nat → Nat} {f : Nat → Int64} {H : Heap} {locs : List Loc} {ls : Array Slot} (hI : gInv κ σ) (hW : LW D cI cZ cB cS cL s o rad κ σ κ σ sc u ad f H locs) (h0 : ad 0 0 = x0) (hl : lv_has ls 7 [(0, .ref b), (1, .ref x0), (2, .ref (rad 0 0)), (3, .ref o), (4, .int (nI i))]) (kk : ∀ (κ : Nat → Nat) (σ sc u : Nat → Nat → Int32) (ad : Nat → Nat → Nat) (f : Nat → Int64) (H : Heap) (locs : List Loc) (ls : Array Slot), gInv κ σ → LW D cI cZ cB cS cL s o rad κ σ κ σ sc u ad f H locs → ad 0 0 = x0 → lv_has ls 7 [(0, .ref b), (1, .ref x0), (2, .ref (rad 0 0)), (3, .ref o), (4, .int (nI i))] → W p l e room_1 s m #[Value.ref b] below meth c H locs (cells + 5) (slots + 165) Q (F0 m 1176 ls [])) : W p l e room_1 s m #[Value.ref b] below meth c H locs cells slots Q (F0 m 884 ls []) := by
  obtain ⟨hx, hb, hr, hml, hown9, hts0, hX, hbl, hlocks, hgv⟩ := C0
  have hown : s.vm.findClass RL = some m.cls := hown9
  have hts : ∀ w ∈ wsL_law, w.before #[Value.ref b] s = true := fun w h => hts0 w (wsL_law_in w h)
  have hbA : ¬ lA0 s b := Nat.not_le.mpr hbl
  have hKL := hC.1.2.1
  obtain ⟨a0, a1, a3, a2, ak, a22, a7, a9, a18, a10, a30, ac, as⟩ := id hI
  subst h0
  have hS := hW.2.2.2
  obtain ⟨y0, ey0⟩ : ∃ z : Int32, z = xs (i + 1) := ⟨_, rfl⟩
  refine lv_aload_n hx hb dL_law_884 rfl (lv_at hl 1 rfl) ?_
  refine lv_aload_n hx hb dL_law_885 rfl (lv_at hl 0 rfl) ?_
  refine lv_iload hx hb dL_law_886 (lv_at hl 4 rfl) ?_
  refine lv_iconst (v := 1) hx hb dL_law_888 (by decide) ?_
  refine lv_iadd hx hb dL_law_889 ?_
  refine lv_toq (nI (i + 1)) (nI_add i 1) ?_
  refine va_sld hx hb hX hbl hbA hS (vp_in_nI (show i + 1 < L by omega) (by omega)) dL_law_890 ?_
  refine lv_toq y0 (by rw [nI_clamp (show i + 1 < 2 ^ 31 by omega), ey0]) ?_
  refine lv_aload_n hx hb dL_law_891 rfl (lv_at hl 3 rfl) ?_
  refine va_calli (vx_runSW (As := [.ref ((ad 0 0)), .int y0, .ref o]) (rest := []) ⟨hx, hb, hml, hown, hts⟩ (k_L_failed (l := l) (D := D) (cI := cI) (cZ := cZ) (cB := cB) (cS := cS) (cL := cL) (A := lA s rad) κ σ sc ad o f hst  y0) (vx_cwSW 3 hts gL_law_L_failed rfl rfl rfl (by decide +kernel) ⟨(Nat.le_of_ble_eq_true rfl), (Nat.le_of_ble_eq_true rfl)⟩) (lPreS hC hW) rfl rfl hl.1 rfl (lv_room (Nat.le_of_ble_eq_true rfl)) dL_law_892 ⟨(show cells + 1 ≤ 601024 by omega), (show slots + 6 ≤ 7293034 by omega)⟩) hS (fun q _ h9 => h9.1) (fun q h9 => h9.1) (fun r9 u9 t9 H locs ht9 hvm9 hw9 hB9 hz9 hk9 hS => ?_)
  have hW : LW D cI cZ cB cS cL s o rad κ σ κ σ u9.2.1 u u9.1 u9.2.2 H locs := hW.h (by rw [← ht9]; exact hB9) hk9 hS
  refine lv_toq (nI (cOne 4 y0)) hw9.1 ?_
  refine lv_istore (lv' := [(5, .int (nI ((cOne 4 y0)))), (0, .ref b), (1, .ref ((ad 0 0))), (2, .ref ((rad 0 0))), (3, .ref o), (4, .int (nI i))]) hx hb dL_law_895 hl (by decide) rfl (fun ls hl => ?_)
  refine lv_aload_n hx hb dL_law_897 rfl (lv_at hl 3 rfl) ?_
  refine lv_aload_n hx hb dL_law_898 rfl (lv_at hl 1 rfl) ?_
  refine lv_iload hx hb dL_law_899 (lv_at hl 5 rfl) ?_
  refine lv_iconst (v := 1) hx hb dL_law_901 (by decide) ?_
  refine lv_iadd hx hb dL_law_902 ?_
  refine lv_toq (nI (i + 1)) (nI_add i 1) ?_
  refine va_sld hx hb hX hbl hbA hS (vp_in_nI (show i + 1 < L by omega) (by omega)) dL_law_903 ?_
  refine lv_toq y0 (by rw [nI_clamp (show i + 1 < 2 ^ 31 by omega), ey0]) ?_
  refine va_calli (va_runV (As := [.int y0]) (rest := []) ⟨hx, hb, hml, hown, hts⟩ (k_X4_failed (l := l) (D := D) (cI := cI) (cZ := cZ) (cB := cB) (cS := cS) (A := lR rad H.size) κ σ u rad  y0) (cwV 1 hts gL_law_X4_failed rfl rfl rfl (by decide +kernel) ⟨(Nat.le_of_ble_eq_true rfl), (Nat.le_of_ble_eq_true rfl)⟩) (lPreM hC hW) rfl rfl hl.1 rfl (lv_room (Nat.le_of_ble_eq_true rfl)) dL_law_904 ⟨(show cells + 1 + 0 ≤ 601024 by omega), (show slots + 6 + 0 ≤ 7293034 by omega)⟩) hS (fun q _ h9 => hW.r0 q h9) (fun q h9 => hW.r0 q h9) (fun r8 u8 t8 H locs ht8 hvm8 hw8 hB8 hz8 hk8 hS => ?_)
  have hW : LW D cI cZ cB cS cL s o rad κ σ κ σ u9.2.1 u8 u9.1 u9.2.2 H locs := hW.m hC (by rw [← ht8]; exact hB8) hk8 hS
  refine lv_istore (lv' := [(6, .int r8), (5, .int (nI ((cOne 4 y0)))), (0, .ref b), (1, .ref ((ad 0 0))), (2, .ref ((rad 0 0))), (3, .ref o), (4, .int (nI i))]) hx hb dL_law_907 hl (by decide) rfl (fun ls hl => ?_)
  refine lv_aload_n hx hb dL_law_909 rfl (lv_at hl 4 rfl) ?_
  refine va_calli (va_runV (As := []) (rest := []) ⟨hx, hb, hml, hown, hts⟩ (k_X4_thrown (l := l) (D := D) (cI := cI) (cZ := cZ) (cB := cB) (cS := cS) (A := lR rad H.size) κ σ u8 rad) (cwV 0 hts gL_law_X4_thrown rfl rfl rfl (by decide +kernel) ⟨(Nat.le_of_ble_eq_true rfl), (Nat.le_of_ble_eq_true rfl)⟩) (lPreM hC hW) rfl rfl hl.1 rfl (lv_room (Nat.le_of_ble_eq_true rfl)) dL_law_910 ⟨(show cells + 1 + 0 + 0 ≤ 601024 by omega), (show slots + 6 + 0 + 0 ≤ 7293034 by omega)⟩) hS (fun q _ h9 => hW.r0 q h9) (fun q h9 => hW.r0 q h9) (fun r7 u7 t7 H locs ht7 hvm7 hw7 hB7 hz7 hk7 hS => ?_)
  have hW : LW D cI cZ cB cS cL s o rad κ σ κ σ u9.2.1 u8 u9.1 u9.2.2 H locs := hW.m hC (by rw [← ht7]; exact hB7) hk7 hS
  refine lv_toq (nI (cOne 4 y0)) (hw7.trans hw8.1) ?_
  refine lv_iload hx hb dL_law_913 (lv_at hl 1 rfl) ?_
  refine lv_icmp_eq (tgt := 920) hx hb dL_law_915 (by decide) (fun _ => ?_) (fun z => absurd rfl z)
  refine lv_iload hx hb dL_law_920 (lv_at hl 1 rfl) ?_
  refine lv_if_ne (tgt := 937) hx hb dL_law_922 (by decide) (fun c_1 => ?_) (fun c_1 => ?_)
  · refine lv_goto (tgt := 1176) hx hb dL_law_937 (by decide) ?_
    refine W.widen (k := cells + 5) (n := slots + 165) (by omega) (by omega) ?_
    exact kk κ σ u9.2.1 u8 u9.1 u9.2.2 H locs ls (hI) hW hw9.2.2 (lv_sub hl [2, 3, 4, 5, 6] rfl)
  · have hcz : cOne 4 y0 = 0 := nI_z (cOne_le _ _) c_1
    have hv8 := hw8.2 hcz
    have hv9 := hw9.2.1 hcz
    refine lv_aload_n hx hb dL_law_925 rfl (lv_at hl 5 rfl) ?_
    refine lv_iconst (v := 0) hx hb dL_law_926 (by decide) ?_
    refine gl_lald hx hb hKL hW.2.2.1 dL_law_927 ?_
    refine lv_iload hx hb dL_law_928 (lv_at hl 0 rfl) ?_
    refine lv_i2l (v := (r8).toInt64) hx hb dL_law_930 rfl ?_
    refine W.lcmp hx hb dL_law_931 ?_
    refine lv_if_eq (tgt := 937) hx hb dL_law_932 (by decide) (fun _ => ?_) (fun z => absurd (lcmp_0 (hv9.trans (congrArg Int32.toInt64 hv8.symm))) z)
    refine lv_goto (tgt := 1176) hx hb dL_law_937 (by decide) ?_
    refine W.widen (k := cells + 5) (n := slots + 165) (by omega) (by omega) ?_
    exact kk κ σ u9.2.1 u8 u9.1 u9.2.2 H locs ls (hI) hW hw9.2.2 (lv_sub hl [2, 3, 4, 5, 6] rfl)

set_option maxHeartbeats 4000000 in
set_option maxRecDepth 100000 in
theorem seg_failure {p : Program} {l : Launch} {e : Env} {s : State} {m : MethodId} {below : List Frame} {meth : Method} {c : Code} {Q : State → Prop} {D : va_G} {cI cZ cB cS cL : ClassId} {b L o : Nat} {xs : Nat → Int32} {rad : Nat → Nat → Nat} (hst : l.stackTraces = false) (hL : L ≤ 2048) (C0 : lw_At p s m meth c b L xs) (hC : LC D cI cZ cB cS cL s o rad) (x0 i : Nat) (hi : i + 4 ≤ L) {cells slots : Nat} (hc5 : cells + 5 ≤ 601024) (hs5 : slots + 165 ≤ 7293034) {κ : Nat → Nat} {σ sc u : Nat → Nat → Int32} {ad : Nat → Nat → Nat} {f : Nat → Int64} {H : Heap} {locs : List Loc} {ls : Array Slot} (hI : gInv κ σ) (hW : LW D cI cZ cB cS cL s o rad κ σ κ σ sc u ad f H locs) (h0 : ad 0 0 = x0) (hl : lv_has ls 7 [(0, .ref b), (1, .ref x0), (2, .ref (rad 0 0)), (3, .ref o), (4, .int (nI i))]) (kk : ∀ (κ : Nat → Nat) (σ sc u : Nat → Nat → Int32) (ad : Nat → Nat → Nat) (f : Nat → Int64) (H : Heap) (locs : List Loc) (ls : Array Slot), gInv κ σ → LW D cI cZ cB cS cL s o rad κ σ κ σ sc u ad f H locs → ad 0 0 = x0 → lv_has ls 7 [(0, .ref b), (1, .ref x0), (2, .ref (rad 0 0)), (3, .ref o), (4, .int (nI i))] → W p l e room_1 s m #[Value.ref b] below meth c H locs (cells + 5) (slots + 165) Q (F0 m 1176 ls [])) : W p l e room_1 s m #[Value.ref b] below meth c H locs cells slots Q (F0 m 940 ls []) := by
  obtain ⟨hx, hb, hr, hml, hown9, hts0, hX, hbl, hlocks, hgv⟩ := C0
  have hown : s.vm.findClass RL = some m.cls := hown9
  have hts : ∀ w ∈ wsL_law, w.before #[Value.ref b] s = true := fun w h => hts0 w (wsL_law_in w h)
  have hbA : ¬ lA0 s b := Nat.not_le.mpr hbl
  have hKL := hC.1.2.1
  obtain ⟨a0, a1, a3, a2, ak, a22, a7, a9, a18, a10, a30, ac, as⟩ := id hI
  subst h0
  have hS := hW.2.2.2
  obtain ⟨y0, ey0⟩ : ∃ z : Int32, z = xs (i + 1) := ⟨_, rfl⟩
  obtain ⟨y1, ey1⟩ : ∃ z : Int32, z = xs (i + 2) := ⟨_, rfl⟩
  refine lv_aload_n hx hb dL_law_940 rfl (lv_at hl 1 rfl) ?_
  refine lv_aload_n hx hb dL_law_941 rfl (lv_at hl 0 rfl) ?_
  refine lv_iload hx hb dL_law_942 (lv_at hl 4 rfl) ?_
  refine lv_iconst (v := 1) hx hb dL_law_944 (by decide) ?_
  refine lv_iadd hx hb dL_law_945 ?_
  refine lv_toq (nI (i + 1)) (nI_add i 1) ?_
  refine va_sld hx hb hX hbl hbA hS (vp_in_nI (show i + 1 < L by omega) (by omega)) dL_law_946 ?_
  refine lv_toq y0 (by rw [nI_clamp (show i + 1 < 2 ^ 31 by omega), ey0]) ?_
  refine lv_aload_n hx hb dL_law_947 rfl (lv_at hl 0 rfl) ?_
  refine lv_iload hx hb dL_law_948 (lv_at hl 4 rfl) ?_
  refine lv_iconst (v := 2) hx hb dL_law_950 (by decide) ?_
  refine lv_iadd hx hb dL_law_951 ?_
  refine lv_toq (nI (i + 2)) (nI_add i 2) ?_
  refine va_sld hx hb hX hbl hbA hS (vp_in_nI (show i + 2 < L by omega) (by omega)) dL_law_952 ?_
  refine lv_toq y1 (by rw [nI_clamp (show i + 2 < 2 ^ 31 by omega), ey1]) ?_
  refine lv_aload_n hx hb dL_law_953 rfl (lv_at hl 3 rfl) ?_
  refine va_calli (vx_runSW (As := [.ref ((ad 0 0)), .int y0, .int y1, .ref o]) (rest := []) ⟨hx, hb, hml, hown, hts⟩ (k_L_failure (l := l) (D := D) (cI := cI) (cZ := cZ) (cB := cB) (cS := cS) (cL := cL) (A := lA s rad) κ σ sc ad o f hst (by omega) a22 y0 y1) (vx_cwSW 4 hts gL_law_L_failure rfl rfl rfl (by decide +kernel) ⟨(Nat.le_of_ble_eq_true rfl), (Nat.le_of_ble_eq_true rfl)⟩) (lPreS hC hW) rfl rfl hl.1 rfl (lv_room (Nat.le_of_ble_eq_true rfl)) dL_law_954 ⟨(show cells + 1 ≤ 601024 by omega), (show slots + 6 ≤ 7293034 by omega)⟩) hS (fun q _ h9 => h9.1) (fun q h9 => h9.1) (fun r9 u9 t9 H locs ht9 hvm9 hw9 hB9 hz9 hk9 hS => ?_)
  have hW : LW D cI cZ cB cS cL s o rad κ σ κ σ u9.2.1 u u9.1 u9.2.2 H locs := hW.h (by rw [← ht9]; exact hB9) hk9 hS
  refine lv_toq (nI (cFact κ y0 y1)) hw9.1 ?_
  refine lv_istore (lv' := [(5, .int (nI ((cFact κ y0 y1)))), (0, .ref b), (1, .ref ((ad 0 0))), (2, .ref ((rad 0 0))), (3, .ref o), (4, .int (nI i))]) hx hb dL_law_957 hl (by decide) rfl (fun ls hl => ?_)
  refine lv_aload_n hx hb dL_law_959 rfl (lv_at hl 3 rfl) ?_
  refine lv_aload_n hx hb dL_law_960 rfl (lv_at hl 1 rfl) ?_
  refine lv_iload hx hb dL_law_961 (lv_at hl 5 rfl) ?_
  refine lv_iconst (v := 1) hx hb dL_law_963 (by decide) ?_
  refine lv_iadd hx hb dL_law_964 ?_
  refine lv_toq (nI (i + 1)) (nI_add i 1) ?_
  refine va_sld hx hb hX hbl hbA hS (vp_in_nI (show i + 1 < L by omega) (by omega)) dL_law_965 ?_
  refine lv_toq y0 (by rw [nI_clamp (show i + 1 < 2 ^ 31 by omega), ey0]) ?_
  refine lv_aload_n hx hb dL_law_966 rfl (lv_at hl 1 rfl) ?_
  refine lv_iload hx hb dL_law_967 (lv_at hl 5 rfl) ?_
  refine lv_iconst (v := 2) hx hb dL_law_969 (by decide) ?_
  refine lv_iadd hx hb dL_law_970 ?_
  refine lv_toq (nI (i + 2)) (nI_add i 2) ?_
  refine va_sld hx hb hX hbl hbA hS (vp_in_nI (show i + 2 < L by omega) (by omega)) dL_law_971 ?_
  refine lv_toq y1 (by rw [nI_clamp (show i + 2 < 2 ^ 31 by omega), ey1]) ?_
  refine va_calli (va_runV (As := [.int y0, .int y1]) (rest := []) ⟨hx, hb, hml, hown, hts⟩ (k_X4_failure (l := l) (D := D) (cI := cI) (cZ := cZ) (cB := cB) (cS := cS) (A := lR rad H.size) κ σ u rad (by omega) y0 y1) (cwV 2 hts gL_law_X4_failure rfl rfl rfl (by decide +kernel) ⟨(Nat.le_of_ble_eq_true rfl), (Nat.le_of_ble_eq_true rfl)⟩) (lPreM hC hW) rfl rfl hl.1 rfl (lv_room (Nat.le_of_ble_eq_true rfl)) dL_law_972 ⟨(show cells + 1 + 0 ≤ 601024 by omega), (show slots + 6 + 0 ≤ 7293034 by omega)⟩) hS (fun q _ h9 => hW.r0 q h9) (fun q h9 => hW.r0 q h9) (fun r8 u8 t8 H locs ht8 hvm8 hw8 hB8 hz8 hk8 hS => ?_)
  have hW : LW D cI cZ cB cS cL s o rad κ σ κ σ u9.2.1 u8 u9.1 u9.2.2 H locs := hW.m hC (by rw [← ht8]; exact hB8) hk8 hS
  refine lv_istore (lv' := [(6, .int r8), (5, .int (nI ((cFact κ y0 y1)))), (0, .ref b), (1, .ref ((ad 0 0))), (2, .ref ((rad 0 0))), (3, .ref o), (4, .int (nI i))]) hx hb dL_law_975 hl (by decide) rfl (fun ls hl => ?_)
  refine lv_aload_n hx hb dL_law_977 rfl (lv_at hl 4 rfl) ?_
  refine va_calli (va_runV (As := []) (rest := []) ⟨hx, hb, hml, hown, hts⟩ (k_X4_thrown (l := l) (D := D) (cI := cI) (cZ := cZ) (cB := cB) (cS := cS) (A := lR rad H.size) κ σ u8 rad) (cwV 0 hts gL_law_X4_thrown rfl rfl rfl (by decide +kernel) ⟨(Nat.le_of_ble_eq_true rfl), (Nat.le_of_ble_eq_true rfl)⟩) (lPreM hC hW) rfl rfl hl.1 rfl (lv_room (Nat.le_of_ble_eq_true rfl)) dL_law_978 ⟨(show cells + 1 + 0 + 0 ≤ 601024 by omega), (show slots + 6 + 0 + 0 ≤ 7293034 by omega)⟩) hS (fun q _ h9 => hW.r0 q h9) (fun q h9 => hW.r0 q h9) (fun r7 u7 t7 H locs ht7 hvm7 hw7 hB7 hz7 hk7 hS => ?_)
  have hW : LW D cI cZ cB cS cL s o rad κ σ κ σ u9.2.1 u8 u9.1 u9.2.2 H locs := hW.m hC (by rw [← ht7]; exact hB7) hk7 hS
  refine lv_toq (nI (cFact κ y0 y1)) (hw7.trans hw8.1) ?_
  refine lv_iload hx hb dL_law_981 (lv_at hl 1 rfl) ?_
  refine lv_icmp_eq (tgt := 988) hx hb dL_law_983 (by decide) (fun _ => ?_) (fun z => absurd rfl z)
  refine lv_iload hx hb dL_law_988 (lv_at hl 1 rfl) ?_
  refine lv_if_ne (tgt := 1005) hx hb dL_law_990 (by decide) (fun c_1 => ?_) (fun c_1 => ?_)
  · refine lv_goto (tgt := 1176) hx hb dL_law_1005 (by decide) ?_
    refine W.widen (k := cells + 5) (n := slots + 165) (by omega) (by omega) ?_
    exact kk κ σ u9.2.1 u8 u9.1 u9.2.2 H locs ls (hI) hW hw9.2.2 (lv_sub hl [2, 3, 4, 5, 6] rfl)
  · have hcz : cFact κ y0 y1 = 0 := nI_z (cFact_le _ _ _) c_1
    have hv8 := hw8.2 hcz
    have hv9 := hw9.2.1 hcz
    refine lv_aload_n hx hb dL_law_993 rfl (lv_at hl 5 rfl) ?_
    refine lv_iconst (v := 0) hx hb dL_law_994 (by decide) ?_
    refine gl_lald hx hb hKL hW.2.2.1 dL_law_995 ?_
    refine lv_iload hx hb dL_law_996 (lv_at hl 0 rfl) ?_
    refine lv_i2l (v := (r8).toInt64) hx hb dL_law_998 rfl ?_
    refine W.lcmp hx hb dL_law_999 ?_
    refine lv_if_eq (tgt := 1005) hx hb dL_law_1000 (by decide) (fun _ => ?_) (fun z => absurd (lcmp_0 (hv9.trans (congrArg Int32.toInt64 hv8.symm))) z)
    refine lv_goto (tgt := 1176) hx hb dL_law_1005 (by decide) ?_
    refine W.widen (k := cells + 5) (n := slots + 165) (by omega) (by omega) ?_
    exact kk κ σ u9.2.1 u8 u9.1 u9.2.2 H locs ls (hI) hW hw9.2.2 (lv_sub hl [2, 3, 4, 5, 6] rfl)

set_option maxHeartbeats 4000000 in
set_option maxRecDepth 100000 in
theorem seg_save {p : Program} {l : Launch} {e : Env} {s : State} {m : MethodId} {below : List Frame} {meth : Method} {c : Code} {Q : State → Prop} {D : va_G} {cI cZ cB cS cL : ClassId} {b L o : Nat} {xs : Nat → Int32} {rad : Nat → Nat → Nat} (hst : l.stackTraces = false) (hL : L ≤ 2048) (C0 : lw_At p s m meth c b L xs) (hC : LC D cI cZ cB cS cL s o rad) (x0 i : Nat) (hi : i + 4 ≤ L) {cells slots : Nat} (hc5 : cells + 5 ≤ 601024) (hs5 : slots + 165 ≤ 7293034) {κ : Nat → Nat} {σ sc u : Nat → Nat → Int32} {ad : Nat → Nat → Nat} {f : Nat → Int64} {H : Heap} {locs : List Loc} {ls : Array Slot} (hI : gInv κ σ) (hW : LW D cI cZ cB cS cL s o rad κ σ κ σ sc u ad f H locs) (h0 : ad 0 0 = x0) (hl : lv_has ls 7 [(0, .ref b), (1, .ref x0), (2, .ref (rad 0 0)), (3, .ref o), (4, .int (nI i))]) (kk : ∀ (κ : Nat → Nat) (σ sc u : Nat → Nat → Int32) (ad : Nat → Nat → Nat) (f : Nat → Int64) (H : Heap) (locs : List Loc) (ls : Array Slot), gInv κ σ → LW D cI cZ cB cS cL s o rad κ σ κ σ sc u ad f H locs → ad 0 0 = x0 → lv_has ls 7 [(0, .ref b), (1, .ref x0), (2, .ref (rad 0 0)), (3, .ref o), (4, .int (nI i))] → W p l e room_1 s m #[Value.ref b] below meth c H locs (cells + 5) (slots + 165) Q (F0 m 1176 ls [])) : W p l e room_1 s m #[Value.ref b] below meth c H locs cells slots Q (F0 m 1008 ls []) := by
  obtain ⟨hx, hb, hr, hml, hown9, hts0, hX, hbl, hlocks, hgv⟩ := C0
  have hown : s.vm.findClass RL = some m.cls := hown9
  have hts : ∀ w ∈ wsL_law, w.before #[Value.ref b] s = true := fun w h => hts0 w (wsL_law_in w h)
  have hbA : ¬ lA0 s b := Nat.not_le.mpr hbl
  have hKL := hC.1.2.1
  obtain ⟨a0, a1, a3, a2, ak, a22, a7, a9, a18, a10, a30, ac, as⟩ := id hI
  subst h0
  have hS := hW.2.2.2
  refine lv_aload_n hx hb dL_law_1008 rfl (lv_at hl 1 rfl) ?_
  refine lv_aload_n hx hb dL_law_1009 rfl (lv_at hl 3 rfl) ?_
  refine va_calli (vx_runSW (As := [.ref ((ad 0 0)), .ref o]) (rest := []) ⟨hx, hb, hml, hown, hts⟩ (k_L_save (l := l) (D := D) (cI := cI) (cZ := cZ) (cB := cB) (cS := cS) (cL := cL) (A := lA s rad) κ σ sc ad o f hst a0 a1 (fun f k h1 h2 hk => a30 f _ h1 h2 (Nat.le_add_right _ _)) (ac (κ 1) (Nat.le_refl _)) ) (vx_cwSW 2 hts gL_law_L_save rfl rfl rfl (by decide +kernel) ⟨(Nat.le_of_ble_eq_true rfl), (Nat.le_of_ble_eq_true rfl)⟩) (lPreS hC hW) rfl rfl hl.1 rfl (lv_room (Nat.le_of_ble_eq_true rfl)) dL_law_1010 ⟨(show cells + 5 ≤ 601024 by omega), (show slots + 165 ≤ 7293034 by omega)⟩) hS (fun q _ h9 => h9.1) (fun q h9 => h9.1) (fun r9 u9 t9 H locs ht9 hvm9 hw9 hB9 hz9 hk9 hS => ?_)
  have hW : LW D cI cZ cB cS cL s o rad ((if cSave κ = 0 then (svK κ (κ 0)) else κ)) ((if cSave κ = 0 then (svS σ (κ 1) (κ 0)) else σ)) κ σ u9.2.1 u u9.1 u9.2.2 H locs := hW.h (by rw [← ht9]; exact hB9) hk9 hS
  refine lv_toq (nI (cSave κ)) hw9.1 ?_
  refine lv_istore (lv' := [(5, .int (nI ((cSave κ)))), (0, .ref b), (1, .ref ((ad 0 0))), (2, .ref ((rad 0 0))), (3, .ref o), (4, .int (nI i))]) hx hb dL_law_1013 hl (by decide) rfl (fun ls hl => ?_)
  refine lv_aload_n hx hb dL_law_1015 rfl (lv_at hl 3 rfl) ?_
  refine va_calli (va_runV (As := []) (rest := []) ⟨hx, hb, hml, hown, hts⟩ (k_X4_save (l := l) (D := D) (cI := cI) (cZ := cZ) (cB := cB) (cS := cS) (A := lR rad H.size) κ σ u rad a0 a1 ) (cwV 0 hts gL_law_X4_save rfl rfl rfl (by decide +kernel) ⟨(Nat.le_of_ble_eq_true rfl), (Nat.le_of_ble_eq_true rfl)⟩) (lPreM hC hW) rfl rfl hl.1 rfl (lv_room (Nat.le_of_ble_eq_true rfl)) dL_law_1016 ⟨(show cells + 5 + 0 ≤ 601024 by omega), (show slots + 165 + 0 ≤ 7293034 by omega)⟩) hS (fun q _ h9 => hW.r0 q h9) (fun q h9 => hW.r0 q h9) (fun r8 u8 t8 H locs ht8 hvm8 hw8 hB8 hz8 hk8 hS => ?_)
  have hW : LW D cI cZ cB cS cL s o rad ((if cSave κ = 0 then (svK κ (κ 0)) else κ)) ((if cSave κ = 0 then (svS σ (κ 1) (κ 0)) else σ)) ((if cSave κ = 0 then (svK κ (κ 0)) else κ)) ((if cSave κ = 0 then (svS σ (κ 1) (κ 0)) else σ)) u9.2.1 u8 u9.1 u9.2.2 H locs := hW.m hC (by rw [← ht8]; exact hB8) hk8 hS
  refine lv_istore (lv' := [(6, .int r8), (5, .int (nI ((cSave κ)))), (0, .ref b), (1, .ref ((ad 0 0))), (2, .ref ((rad 0 0))), (3, .ref o), (4, .int (nI i))]) hx hb dL_law_1019 hl (by decide) rfl (fun ls hl => ?_)
  refine lv_aload_n hx hb dL_law_1021 rfl (lv_at hl 4 rfl) ?_
  refine va_calli (va_runV (As := []) (rest := []) ⟨hx, hb, hml, hown, hts⟩ (k_X4_thrown (l := l) (D := D) (cI := cI) (cZ := cZ) (cB := cB) (cS := cS) (A := lR rad H.size) ((if cSave κ = 0 then (svK κ (κ 0)) else κ)) ((if cSave κ = 0 then (svS σ (κ 1) (κ 0)) else σ)) u8 rad) (cwV 0 hts gL_law_X4_thrown rfl rfl rfl (by decide +kernel) ⟨(Nat.le_of_ble_eq_true rfl), (Nat.le_of_ble_eq_true rfl)⟩) (lPreM hC hW) rfl rfl hl.1 rfl (lv_room (Nat.le_of_ble_eq_true rfl)) dL_law_1022 ⟨(show cells + 5 + 0 + 0 ≤ 601024 by omega), (show slots + 165 + 0 + 0 ≤ 7293034 by omega)⟩) hS (fun q _ h9 => hW.r0 q h9) (fun q h9 => hW.r0 q h9) (fun r7 u7 t7 H locs ht7 hvm7 hw7 hB7 hz7 hk7 hS => ?_)
  have hW : LW D cI cZ cB cS cL s o rad ((if cSave κ = 0 then (svK κ (κ 0)) else κ)) ((if cSave κ = 0 then (svS σ (κ 1) (κ 0)) else σ)) ((if cSave κ = 0 then (svK κ (κ 0)) else κ)) ((if cSave κ = 0 then (svS σ (κ 1) (κ 0)) else σ)) u9.2.1 u8 u9.1 u9.2.2 H locs := hW.m hC (by rw [← ht7]; exact hB7) hk7 hS
  refine lv_toq (nI (cSave κ)) (hw7.trans hw8.1) ?_
  refine lv_iload hx hb dL_law_1025 (lv_at hl 1 rfl) ?_
  refine lv_icmp_eq (tgt := 1032) hx hb dL_law_1027 (by decide) (fun _ => ?_) (fun z => absurd rfl z)
  refine lv_iload hx hb dL_law_1032 (lv_at hl 1 rfl) ?_
  refine lv_if_ne (tgt := 1049) hx hb dL_law_1034 (by decide) (fun c_1 => ?_) (fun c_1 => ?_)
  · refine lv_goto (tgt := 1176) hx hb dL_law_1049 (by decide) ?_
    refine W.widen (k := cells + 5) (n := slots + 165) (by omega) (by omega) ?_
    exact kk ((if cSave κ = 0 then (svK κ (κ 0)) else κ)) ((if cSave κ = 0 then (svS σ (κ 1) (κ 0)) else σ)) u9.2.1 u8 u9.1 u9.2.2 H locs ls (hI.oSave) hW hw9.2.2 (lv_sub hl [2, 3, 4, 5, 6] rfl)
  · have hcz : cSave κ = 0 := nI_z (cSave_le _) c_1
    have hv8 := hw8.2 hcz
    have hv9 := hw9.2.1 hcz
    refine lv_aload_n hx hb dL_law_1037 rfl (lv_at hl 5 rfl) ?_
    refine lv_iconst (v := 0) hx hb dL_law_1038 (by decide) ?_
    refine gl_lald hx hb hKL hW.2.2.1 dL_law_1039 ?_
    refine lv_iload hx hb dL_law_1040 (lv_at hl 0 rfl) ?_
    refine lv_i2l (v := (r8).toInt64) hx hb dL_law_1042 rfl ?_
    refine W.lcmp hx hb dL_law_1043 ?_
    refine lv_if_eq (tgt := 1049) hx hb dL_law_1044 (by decide) (fun _ => ?_) (fun z => absurd (lcmp_0 (hv9.trans (congrArg Int32.toInt64 hv8.symm))) z)
    refine lv_goto (tgt := 1176) hx hb dL_law_1049 (by decide) ?_
    refine W.widen (k := cells + 5) (n := slots + 165) (by omega) (by omega) ?_
    exact kk ((if cSave κ = 0 then (svK κ (κ 0)) else κ)) ((if cSave κ = 0 then (svS σ (κ 1) (κ 0)) else σ)) u9.2.1 u8 u9.1 u9.2.2 H locs ls (hI.oSave) hW hw9.2.2 (lv_sub hl [2, 3, 4, 5, 6] rfl)

set_option maxHeartbeats 4000000 in
set_option maxRecDepth 100000 in
theorem seg_back {p : Program} {l : Launch} {e : Env} {s : State} {m : MethodId} {below : List Frame} {meth : Method} {c : Code} {Q : State → Prop} {D : va_G} {cI cZ cB cS cL : ClassId} {b L o : Nat} {xs : Nat → Int32} {rad : Nat → Nat → Nat} (hst : l.stackTraces = false) (hL : L ≤ 2048) (C0 : lw_At p s m meth c b L xs) (hC : LC D cI cZ cB cS cL s o rad) (x0 i : Nat) (hi : i + 4 ≤ L) {cells slots : Nat} (hc5 : cells + 5 ≤ 601024) (hs5 : slots + 165 ≤ 7293034) {κ : Nat → Nat} {σ sc u : Nat → Nat → Int32} {ad : Nat → Nat → Nat} {f : Nat → Int64} {H : Heap} {locs : List Loc} {ls : Array Slot} (hI : gInv κ σ) (hW : LW D cI cZ cB cS cL s o rad κ σ κ σ sc u ad f H locs) (h0 : ad 0 0 = x0) (hl : lv_has ls 7 [(0, .ref b), (1, .ref x0), (2, .ref (rad 0 0)), (3, .ref o), (4, .int (nI i))]) (kk : ∀ (κ : Nat → Nat) (σ sc u : Nat → Nat → Int32) (ad : Nat → Nat → Nat) (f : Nat → Int64) (H : Heap) (locs : List Loc) (ls : Array Slot), gInv κ σ → LW D cI cZ cB cS cL s o rad κ σ κ σ sc u ad f H locs → ad 0 0 = x0 → lv_has ls 7 [(0, .ref b), (1, .ref x0), (2, .ref (rad 0 0)), (3, .ref o), (4, .int (nI i))] → W p l e room_1 s m #[Value.ref b] below meth c H locs (cells + 5) (slots + 165) Q (F0 m 1176 ls [])) : W p l e room_1 s m #[Value.ref b] below meth c H locs cells slots Q (F0 m 1052 ls []) := by
  obtain ⟨hx, hb, hr, hml, hown9, hts0, hX, hbl, hlocks, hgv⟩ := C0
  have hown : s.vm.findClass RL = some m.cls := hown9
  have hts : ∀ w ∈ wsL_law, w.before #[Value.ref b] s = true := fun w h => hts0 w (wsL_law_in w h)
  have hbA : ¬ lA0 s b := Nat.not_le.mpr hbl
  have hKL := hC.1.2.1
  obtain ⟨a0, a1, a3, a2, ak, a22, a7, a9, a18, a10, a30, ac, as⟩ := id hI
  subst h0
  have hS := hW.2.2.2
  obtain ⟨y0, ey0⟩ : ∃ z : Int32, z = xs (i + 1) := ⟨_, rfl⟩
  refine lv_aload_n hx hb dL_law_1052 rfl (lv_at hl 1 rfl) ?_
  refine lv_aload_n hx hb dL_law_1053 rfl (lv_at hl 0 rfl) ?_
  refine lv_iload hx hb dL_law_1054 (lv_at hl 4 rfl) ?_
  refine lv_iconst (v := 1) hx hb dL_law_1056 (by decide) ?_
  refine lv_iadd hx hb dL_law_1057 ?_
  refine lv_toq (nI (i + 1)) (nI_add i 1) ?_
  refine va_sld hx hb hX hbl hbA hS (vp_in_nI (show i + 1 < L by omega) (by omega)) dL_law_1058 ?_
  refine lv_toq y0 (by rw [nI_clamp (show i + 1 < 2 ^ 31 by omega), ey0]) ?_
  refine lv_aload_n hx hb dL_law_1059 rfl (lv_at hl 3 rfl) ?_
  refine va_calli (vx_runSW (As := [.ref ((ad 0 0)), .int y0, .ref o]) (rest := []) ⟨hx, hb, hml, hown, hts⟩ (k_L_back (l := l) (D := D) (cI := cI) (cZ := cZ) (cB := cB) (cS := cS) (cL := cL) (A := lA s rad) κ σ sc ad o f hst a0 a1 (fun j hj => Nat.le_trans (as j hj) a0) y0) (vx_cwSW 3 hts gL_law_L_back rfl rfl rfl (by decide +kernel) ⟨(Nat.le_of_ble_eq_true rfl), (Nat.le_of_ble_eq_true rfl)⟩) (lPreS hC hW) rfl rfl hl.1 rfl (lv_room (Nat.le_of_ble_eq_true rfl)) dL_law_1060 ⟨(show cells + 1 ≤ 601024 by omega), (show slots + 6 ≤ 7293034 by omega)⟩) hS (fun q _ h9 => h9.1) (fun q h9 => h9.1) (fun r9 u9 t9 H locs ht9 hvm9 hw9 hB9 hz9 hk9 hS => ?_)
  have hW : LW D cI cZ cB cS cL s o rad κ ((if cOne (κ 1) y0 = 0 then (backI κ σ y0.toNatClampNeg (κ 0)).1 else σ)) κ σ u9.2.1 u u9.1 u9.2.2 H locs := hW.h (by rw [← ht9]; exact hB9) hk9 hS
  refine lv_toq (nI (cOne (κ 1) y0)) hw9.1 ?_
  refine lv_istore (lv' := [(5, .int (nI ((cOne (κ 1) y0)))), (0, .ref b), (1, .ref ((ad 0 0))), (2, .ref ((rad 0 0))), (3, .ref o), (4, .int (nI i))]) hx hb dL_law_1063 hl (by decide) rfl (fun ls hl => ?_)
  refine lv_aload_n hx hb dL_law_1065 rfl (lv_at hl 3 rfl) ?_
  refine lv_aload_n hx hb dL_law_1066 rfl (lv_at hl 1 rfl) ?_
  refine lv_iload hx hb dL_law_1067 (lv_at hl 5 rfl) ?_
  refine lv_iconst (v := 1) hx hb dL_law_1069 (by decide) ?_
  refine lv_iadd hx hb dL_law_1070 ?_
  refine lv_toq (nI (i + 1)) (nI_add i 1) ?_
  refine va_sld hx hb hX hbl hbA hS (vp_in_nI (show i + 1 < L by omega) (by omega)) dL_law_1071 ?_
  refine lv_toq y0 (by rw [nI_clamp (show i + 1 < 2 ^ 31 by omega), ey0]) ?_
  refine va_calli (va_runV (As := [.int y0]) (rest := []) ⟨hx, hb, hml, hown, hts⟩ (k_X4_back (l := l) (D := D) (cI := cI) (cZ := cZ) (cB := cB) (cS := cS) (A := lR rad H.size) κ σ u rad a0 a1 as y0) (cwV 1 hts gL_law_X4_back rfl rfl rfl (by decide +kernel) ⟨(Nat.le_of_ble_eq_true rfl), (Nat.le_of_ble_eq_true rfl)⟩) (lPreM hC hW) rfl rfl hl.1 rfl (lv_room (Nat.le_of_ble_eq_true rfl)) dL_law_1072 ⟨(show cells + 1 + 0 ≤ 601024 by omega), (show slots + 6 + 0 ≤ 7293034 by omega)⟩) hS (fun q _ h9 => hW.r0 q h9) (fun q h9 => hW.r0 q h9) (fun r8 u8 t8 H locs ht8 hvm8 hw8 hB8 hz8 hk8 hS => ?_)
  have hW : LW D cI cZ cB cS cL s o rad κ ((if cOne (κ 1) y0 = 0 then (backI κ σ y0.toNatClampNeg (κ 0)).1 else σ)) κ ((if cOne (κ 1) y0 = 0 then (backI κ σ y0.toNatClampNeg (κ 0)).1 else σ)) u9.2.1 u8 u9.1 u9.2.2 H locs := hW.m hC (by rw [← ht8]; exact hB8) hk8 hS
  refine lv_istore (lv' := [(6, .int r8), (5, .int (nI ((cOne (κ 1) y0)))), (0, .ref b), (1, .ref ((ad 0 0))), (2, .ref ((rad 0 0))), (3, .ref o), (4, .int (nI i))]) hx hb dL_law_1075 hl (by decide) rfl (fun ls hl => ?_)
  refine lv_aload_n hx hb dL_law_1077 rfl (lv_at hl 4 rfl) ?_
  refine va_calli (va_runV (As := []) (rest := []) ⟨hx, hb, hml, hown, hts⟩ (k_X4_thrown (l := l) (D := D) (cI := cI) (cZ := cZ) (cB := cB) (cS := cS) (A := lR rad H.size) κ ((if cOne (κ 1) y0 = 0 then (backI κ σ y0.toNatClampNeg (κ 0)).1 else σ)) u8 rad) (cwV 0 hts gL_law_X4_thrown rfl rfl rfl (by decide +kernel) ⟨(Nat.le_of_ble_eq_true rfl), (Nat.le_of_ble_eq_true rfl)⟩) (lPreM hC hW) rfl rfl hl.1 rfl (lv_room (Nat.le_of_ble_eq_true rfl)) dL_law_1078 ⟨(show cells + 1 + 0 + 0 ≤ 601024 by omega), (show slots + 6 + 0 + 0 ≤ 7293034 by omega)⟩) hS (fun q _ h9 => hW.r0 q h9) (fun q h9 => hW.r0 q h9) (fun r7 u7 t7 H locs ht7 hvm7 hw7 hB7 hz7 hk7 hS => ?_)
  have hW : LW D cI cZ cB cS cL s o rad κ ((if cOne (κ 1) y0 = 0 then (backI κ σ y0.toNatClampNeg (κ 0)).1 else σ)) κ ((if cOne (κ 1) y0 = 0 then (backI κ σ y0.toNatClampNeg (κ 0)).1 else σ)) u9.2.1 u8 u9.1 u9.2.2 H locs := hW.m hC (by rw [← ht7]; exact hB7) hk7 hS
  refine lv_toq (nI (cOne (κ 1) y0)) (hw7.trans hw8.1) ?_
  refine lv_iload hx hb dL_law_1081 (lv_at hl 1 rfl) ?_
  refine lv_icmp_eq (tgt := 1088) hx hb dL_law_1083 (by decide) (fun _ => ?_) (fun z => absurd rfl z)
  refine lv_iload hx hb dL_law_1088 (lv_at hl 1 rfl) ?_
  refine lv_if_ne (tgt := 1105) hx hb dL_law_1090 (by decide) (fun c_1 => ?_) (fun c_1 => ?_)
  · refine lv_goto (tgt := 1176) hx hb dL_law_1105 (by decide) ?_
    refine W.widen (k := cells + 5) (n := slots + 165) (by omega) (by omega) ?_
    exact kk κ ((if cOne (κ 1) y0 = 0 then (backI κ σ y0.toNatClampNeg (κ 0)).1 else σ)) u9.2.1 u8 u9.1 u9.2.2 H locs ls (hI.oBack y0) hW hw9.2.2 (lv_sub hl [2, 3, 4, 5, 6] rfl)
  · have hcz : cOne (κ 1) y0 = 0 := nI_z (cOne_le _ _) c_1
    have hv8 := hw8.2 hcz
    have hv9 := hw9.2.1 hcz
    refine lv_aload_n hx hb dL_law_1093 rfl (lv_at hl 5 rfl) ?_
    refine lv_iconst (v := 0) hx hb dL_law_1094 (by decide) ?_
    refine gl_lald hx hb hKL hW.2.2.1 dL_law_1095 ?_
    refine lv_iload hx hb dL_law_1096 (lv_at hl 0 rfl) ?_
    refine lv_i2l (v := (r8).toInt64) hx hb dL_law_1098 rfl ?_
    refine W.lcmp hx hb dL_law_1099 ?_
    refine lv_if_eq (tgt := 1105) hx hb dL_law_1100 (by decide) (fun _ => ?_) (fun z => absurd (lcmp_0 (hv9.trans (congrArg Int32.toInt64 hv8.symm))) z)
    refine lv_goto (tgt := 1176) hx hb dL_law_1105 (by decide) ?_
    refine W.widen (k := cells + 5) (n := slots + 165) (by omega) (by omega) ?_
    exact kk κ ((if cOne (κ 1) y0 = 0 then (backI κ σ y0.toNatClampNeg (κ 0)).1 else σ)) u9.2.1 u8 u9.1 u9.2.2 H locs ls (hI.oBack y0) hW hw9.2.2 (lv_sub hl [2, 3, 4, 5, 6] rfl)

set_option maxHeartbeats 4000000 in
set_option maxRecDepth 100000 in
theorem seg_become {p : Program} {l : Launch} {e : Env} {s : State} {m : MethodId} {below : List Frame} {meth : Method} {c : Code} {Q : State → Prop} {D : va_G} {cI cZ cB cS cL : ClassId} {b L o : Nat} {xs : Nat → Int32} {rad : Nat → Nat → Nat} (hst : l.stackTraces = false) (hL : L ≤ 2048) (C0 : lw_At p s m meth c b L xs) (hC : LC D cI cZ cB cS cL s o rad) (x0 i : Nat) (hi : i + 4 ≤ L) {cells slots : Nat} (hc5 : cells + 5 ≤ 601024) (hs5 : slots + 165 ≤ 7293034) {κ : Nat → Nat} {σ sc u : Nat → Nat → Int32} {ad : Nat → Nat → Nat} {f : Nat → Int64} {H : Heap} {locs : List Loc} {ls : Array Slot} (hI : gInv κ σ) (hW : LW D cI cZ cB cS cL s o rad κ σ κ σ sc u ad f H locs) (h0 : ad 0 0 = x0) (hl : lv_has ls 7 [(0, .ref b), (1, .ref x0), (2, .ref (rad 0 0)), (3, .ref o), (4, .int (nI i))]) (kk : ∀ (κ : Nat → Nat) (σ sc u : Nat → Nat → Int32) (ad : Nat → Nat → Nat) (f : Nat → Int64) (H : Heap) (locs : List Loc) (ls : Array Slot), gInv κ σ → LW D cI cZ cB cS cL s o rad κ σ κ σ sc u ad f H locs → ad 0 0 = x0 → lv_has ls 7 [(0, .ref b), (1, .ref x0), (2, .ref (rad 0 0)), (3, .ref o), (4, .int (nI i))] → W p l e room_1 s m #[Value.ref b] below meth c H locs (cells + 5) (slots + 165) Q (F0 m 1176 ls [])) : W p l e room_1 s m #[Value.ref b] below meth c H locs cells slots Q (F0 m 1108 ls []) := by
  obtain ⟨hx, hb, hr, hml, hown9, hts0, hX, hbl, hlocks, hgv⟩ := C0
  have hown : s.vm.findClass RL = some m.cls := hown9
  have hts : ∀ w ∈ wsL_law, w.before #[Value.ref b] s = true := fun w h => hts0 w (wsL_law_in w h)
  have hbA : ¬ lA0 s b := Nat.not_le.mpr hbl
  have hKL := hC.1.2.1
  obtain ⟨a0, a1, a3, a2, ak, a22, a7, a9, a18, a10, a30, ac, as⟩ := id hI
  subst h0
  have hS := hW.2.2.2
  obtain ⟨y0, ey0⟩ : ∃ z : Int32, z = xs (i + 1) := ⟨_, rfl⟩
  obtain ⟨y1, ey1⟩ : ∃ z : Int32, z = xs (i + 2) := ⟨_, rfl⟩
  refine lv_aload_n hx hb dL_law_1108 rfl (lv_at hl 1 rfl) ?_
  refine lv_aload_n hx hb dL_law_1109 rfl (lv_at hl 0 rfl) ?_
  refine lv_iload hx hb dL_law_1110 (lv_at hl 4 rfl) ?_
  refine lv_iconst (v := 1) hx hb dL_law_1112 (by decide) ?_
  refine lv_iadd hx hb dL_law_1113 ?_
  refine lv_toq (nI (i + 1)) (nI_add i 1) ?_
  refine va_sld hx hb hX hbl hbA hS (vp_in_nI (show i + 1 < L by omega) (by omega)) dL_law_1114 ?_
  refine lv_toq y0 (by rw [nI_clamp (show i + 1 < 2 ^ 31 by omega), ey0]) ?_
  refine lv_aload_n hx hb dL_law_1115 rfl (lv_at hl 0 rfl) ?_
  refine lv_iload hx hb dL_law_1116 (lv_at hl 4 rfl) ?_
  refine lv_iconst (v := 2) hx hb dL_law_1118 (by decide) ?_
  refine lv_iadd hx hb dL_law_1119 ?_
  refine lv_toq (nI (i + 2)) (nI_add i 2) ?_
  refine va_sld hx hb hX hbl hbA hS (vp_in_nI (show i + 2 < L by omega) (by omega)) dL_law_1120 ?_
  refine lv_toq y1 (by rw [nI_clamp (show i + 2 < 2 ^ 31 by omega), ey1]) ?_
  refine lv_aload_n hx hb dL_law_1121 rfl (lv_at hl 3 rfl) ?_
  refine va_calli (vx_runSW (As := [.ref ((ad 0 0)), .int y0, .int y1, .ref o]) (rest := []) ⟨hx, hb, hml, hown, hts⟩ (k_L_become (l := l) (D := D) (cI := cI) (cZ := cZ) (cB := cB) (cS := cS) (cL := cL) (A := lA s rad) κ σ sc ad o f hst a0 y0 y1) (vx_cwSW 4 hts gL_law_L_become rfl rfl rfl (by decide +kernel) ⟨(Nat.le_of_ble_eq_true rfl), (Nat.le_of_ble_eq_true rfl)⟩) (lPreS hC hW) rfl rfl hl.1 rfl (lv_room (Nat.le_of_ble_eq_true rfl)) dL_law_1122 ⟨(show cells + 2 ≤ 601024 by omega), (show slots + 12 ≤ 7293034 by omega)⟩) hS (fun q _ h9 => h9.1) (fun q h9 => h9.1) (fun r9 u9 t9 H locs ht9 hvm9 hw9 hB9 hz9 hk9 hS => ?_)
  have hW : LW D cI cZ cB cS cL s o rad κ ((if cTwo (κ 0) 26 y0 y1 = 0 then (becS σ y0.toNatClampNeg y1) else σ)) κ σ u9.2.1 u u9.1 u9.2.2 H locs := hW.h (by rw [← ht9]; exact hB9) hk9 hS
  refine lv_toq (nI (cTwo (κ 0) 26 y0 y1)) hw9.1 ?_
  refine lv_istore (lv' := [(5, .int (nI ((cTwo (κ 0) 26 y0 y1)))), (0, .ref b), (1, .ref ((ad 0 0))), (2, .ref ((rad 0 0))), (3, .ref o), (4, .int (nI i))]) hx hb dL_law_1125 hl (by decide) rfl (fun ls hl => ?_)
  refine lv_aload_n hx hb dL_law_1127 rfl (lv_at hl 3 rfl) ?_
  refine lv_aload_n hx hb dL_law_1128 rfl (lv_at hl 1 rfl) ?_
  refine lv_iload hx hb dL_law_1129 (lv_at hl 5 rfl) ?_
  refine lv_iconst (v := 1) hx hb dL_law_1131 (by decide) ?_
  refine lv_iadd hx hb dL_law_1132 ?_
  refine lv_toq (nI (i + 1)) (nI_add i 1) ?_
  refine va_sld hx hb hX hbl hbA hS (vp_in_nI (show i + 1 < L by omega) (by omega)) dL_law_1133 ?_
  refine lv_toq y0 (by rw [nI_clamp (show i + 1 < 2 ^ 31 by omega), ey0]) ?_
  refine lv_aload_n hx hb dL_law_1134 rfl (lv_at hl 1 rfl) ?_
  refine lv_iload hx hb dL_law_1135 (lv_at hl 5 rfl) ?_
  refine lv_iconst (v := 2) hx hb dL_law_1137 (by decide) ?_
  refine lv_iadd hx hb dL_law_1138 ?_
  refine lv_toq (nI (i + 2)) (nI_add i 2) ?_
  refine va_sld hx hb hX hbl hbA hS (vp_in_nI (show i + 2 < L by omega) (by omega)) dL_law_1139 ?_
  refine lv_toq y1 (by rw [nI_clamp (show i + 2 < 2 ^ 31 by omega), ey1]) ?_
  refine va_calli (va_runV (As := [.int y0, .int y1]) (rest := []) ⟨hx, hb, hml, hown, hts⟩ (k_X4_become (l := l) (D := D) (cI := cI) (cZ := cZ) (cB := cB) (cS := cS) (A := lR rad H.size) κ σ u rad a0 y0 y1) (cwV 2 hts gL_law_X4_become rfl rfl rfl (by decide +kernel) ⟨(Nat.le_of_ble_eq_true rfl), (Nat.le_of_ble_eq_true rfl)⟩) (lPreM hC hW) rfl rfl hl.1 rfl (lv_room (Nat.le_of_ble_eq_true rfl)) dL_law_1140 ⟨(show cells + 2 + 0 ≤ 601024 by omega), (show slots + 12 + 0 ≤ 7293034 by omega)⟩) hS (fun q _ h9 => hW.r0 q h9) (fun q h9 => hW.r0 q h9) (fun r8 u8 t8 H locs ht8 hvm8 hw8 hB8 hz8 hk8 hS => ?_)
  have hW : LW D cI cZ cB cS cL s o rad κ ((if cTwo (κ 0) 26 y0 y1 = 0 then (becS σ y0.toNatClampNeg y1) else σ)) κ ((if cTwo (κ 0) 26 y0 y1 = 0 then (becS σ y0.toNatClampNeg y1) else σ)) u9.2.1 u8 u9.1 u9.2.2 H locs := hW.m hC (by rw [← ht8]; exact hB8) hk8 hS
  refine lv_istore (lv' := [(6, .int r8), (5, .int (nI ((cTwo (κ 0) 26 y0 y1)))), (0, .ref b), (1, .ref ((ad 0 0))), (2, .ref ((rad 0 0))), (3, .ref o), (4, .int (nI i))]) hx hb dL_law_1143 hl (by decide) rfl (fun ls hl => ?_)
  refine lv_aload_n hx hb dL_law_1145 rfl (lv_at hl 4 rfl) ?_
  refine va_calli (va_runV (As := []) (rest := []) ⟨hx, hb, hml, hown, hts⟩ (k_X4_thrown (l := l) (D := D) (cI := cI) (cZ := cZ) (cB := cB) (cS := cS) (A := lR rad H.size) κ ((if cTwo (κ 0) 26 y0 y1 = 0 then (becS σ y0.toNatClampNeg y1) else σ)) u8 rad) (cwV 0 hts gL_law_X4_thrown rfl rfl rfl (by decide +kernel) ⟨(Nat.le_of_ble_eq_true rfl), (Nat.le_of_ble_eq_true rfl)⟩) (lPreM hC hW) rfl rfl hl.1 rfl (lv_room (Nat.le_of_ble_eq_true rfl)) dL_law_1146 ⟨(show cells + 2 + 0 + 0 ≤ 601024 by omega), (show slots + 12 + 0 + 0 ≤ 7293034 by omega)⟩) hS (fun q _ h9 => hW.r0 q h9) (fun q h9 => hW.r0 q h9) (fun r7 u7 t7 H locs ht7 hvm7 hw7 hB7 hz7 hk7 hS => ?_)
  have hW : LW D cI cZ cB cS cL s o rad κ ((if cTwo (κ 0) 26 y0 y1 = 0 then (becS σ y0.toNatClampNeg y1) else σ)) κ ((if cTwo (κ 0) 26 y0 y1 = 0 then (becS σ y0.toNatClampNeg y1) else σ)) u9.2.1 u8 u9.1 u9.2.2 H locs := hW.m hC (by rw [← ht7]; exact hB7) hk7 hS
  refine lv_toq (nI (cTwo (κ 0) 26 y0 y1)) (hw7.trans hw8.1) ?_
  refine lv_iload hx hb dL_law_1149 (lv_at hl 1 rfl) ?_
  refine lv_icmp_eq (tgt := 1156) hx hb dL_law_1151 (by decide) (fun _ => ?_) (fun z => absurd rfl z)
  refine lv_iload hx hb dL_law_1156 (lv_at hl 1 rfl) ?_
  refine lv_if_ne (tgt := 1173) hx hb dL_law_1158 (by decide) (fun c_1 => ?_) (fun c_1 => ?_)
  · refine lv_goto (tgt := 1176) hx hb dL_law_1173 (by decide) ?_
    refine W.widen (k := cells + 5) (n := slots + 165) (by omega) (by omega) ?_
    exact kk κ ((if cTwo (κ 0) 26 y0 y1 = 0 then (becS σ y0.toNatClampNeg y1) else σ)) u9.2.1 u8 u9.1 u9.2.2 H locs ls (hI.oBecome y0 y1) hW hw9.2.2 (lv_sub hl [2, 3, 4, 5, 6] rfl)
  · have hcz : cTwo (κ 0) 26 y0 y1 = 0 := nI_z (cTwo_le _ _ _ _) c_1
    have hv8 := hw8.2 hcz
    have hv9 := hw9.2.1 hcz
    refine lv_aload_n hx hb dL_law_1161 rfl (lv_at hl 5 rfl) ?_
    refine lv_iconst (v := 0) hx hb dL_law_1162 (by decide) ?_
    refine gl_lald hx hb hKL hW.2.2.1 dL_law_1163 ?_
    refine lv_iload hx hb dL_law_1164 (lv_at hl 0 rfl) ?_
    refine lv_i2l (v := (r8).toInt64) hx hb dL_law_1166 rfl ?_
    refine W.lcmp hx hb dL_law_1167 ?_
    refine lv_if_eq (tgt := 1173) hx hb dL_law_1168 (by decide) (fun _ => ?_) (fun z => absurd (lcmp_0 (hv9.trans (congrArg Int32.toInt64 hv8.symm))) z)
    refine lv_goto (tgt := 1176) hx hb dL_law_1173 (by decide) ?_
    refine W.widen (k := cells + 5) (n := slots + 165) (by omega) (by omega) ?_
    exact kk κ ((if cTwo (κ 0) 26 y0 y1 = 0 then (becS σ y0.toNatClampNeg y1) else σ)) u9.2.1 u8 u9.1 u9.2.2 H locs ls (hI.oBecome y0 y1) hW hw9.2.2 (lv_sub hl [2, 3, 4, 5, 6] rfl)

