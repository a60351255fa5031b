/-! The law, from its entry. -/
def ad0 (b : Nat) (u : Nat → Nat) : Nat → Nat → Nat := fun t _ => if t = 0 then b else u t
def posR (t : Nat) : Nat := if t = 0 then 0 else if t < 14 then t - 1 else if t = 15 then 13 else if t = 17 then 14 else if t = 18 then 15 else if t = 20 then 16 else if t = 22 then 17 else 18
def rad0 (b : Nat) (u : Nat → Nat) : Nat → Nat → Nat := fun t _ => if t = 0 then b else u (posR t)
theorem gw_ofP {D : va_G} {cl : List vw_C} {ws : va_W} {H : Heap} {A0 A : Nat → Prop} {dm : Nat → Nat} {en : Nat → Nat → va_E} {ad : Nat → Nat → Nat} (pos : Nat → Nat) (h : ∀ t i : Nat, i < dm t → i = 0 ∧ ws[pos t]? = some (ad t i, en t i)) (hinj : ∀ t u : Nat, 0 < dm t → 0 < dm u → pos t = pos u → t = u) (hP : va_P D cl ws H) (hD : va_D A0 ws) (hA : ∀ t i : Nat, i < dm t → A (ad t i)) : gw_P D cl A dm en ad H :=
  ⟨fun t i hi => hP (pos t) _ (h t i hi).2, hA, fun t i u j hi hj hq => by
    have e := hD.1 _ _ _ _ (h t i hi).2 (h u j hj).2 hq
    have e1 := (h t i hi).1
    have e2 := (h u j hj).1
    exact ⟨hinj t u (by omega) (by omega) e, by omega⟩⟩
theorem dm0 {t i : Nat} (h : i < cDm (fun _ => 0) t) : t < 11 ∧ i = 0 := by
  have h : i < if t < 11 then 1 else if t < 14 then 0 else if t < 19 then 0 else 0 := h
  repeat' split at h
  all_goals omega
theorem rdm {t i : Nat} (h : i < rDm t) : (t = 0 ∨ (2 ≤ t ∧ t < 14) ∨ t = 15 ∨ t = 17 ∨ t = 18 ∨ t = 20 ∨ t = 22 ∨ t = 23) ∧ i = 0 := by
  unfold rDm at h
  split at h <;> omega
theorem posR_le (t : Nat) : posR t ≤ 18 := by
  unfold posR
  repeat' split
  all_goals omega
theorem posR_inj {t u : Nat} (ht : 0 < rDm t) (hu : 0 < rDm u) (h : posR t = posR u) : t = u := by
  have h1 := (rdm ht).1
  have h2 := (rdm hu).1
  unfold posR at h
  repeat' split at h
  all_goals omega
theorem qf0 {ad : Nat → Nat} {n : Nat} : qf (fun j => if j < 0 then some (ad j) else none) n = qf (fun _ => none) n := by
  congr 5

section STW
variable {cI cZ cB cS cL : ClassId} {b0 b1 o : Nat} {u v : Nat → Nat}
abbrev wsT (cI cZ cB cS cL : ClassId) (b0 b1 o : Nat) (u v : Nat → Nat) : va_W := [(b0, .inr (3, [.ref (u 1), .int 0, .ref (u 2), .int 0, .ref (u 3), .ref (u 4), .ref (u 5), .ref (u 10), .int 0])), (u 1, .inl (cB, qf (fun _ => none) 40)), (u 2, .inl (cI, 10, .inl (fun _ => 0))), (u 3, .inl (cI, 40, .inl (fun _ => 0))), (u 4, .inl (cZ, 40, .inl (fun _ => 0))), (u 5, .inr (1, [.ref (u 6), .ref (u 7), .ref (u 8), .ref (u 9), .int 0])), (u 6, .inl (cI, 4, .inl (fun _ => 0))), (u 7, .inl (cI, 32, .inl (fun _ => 0))), (u 8, .inl (cI, 32, .inl (fun _ => 0))), (u 9, .inl (cI, 32, .inl (fun _ => 0))), (u 10, .inl (cS, qf (fun _ => none) 5)), (b1, .inr (4, [.int 0, .int 0, .ref (v 1), .ref (v 2), .ref (v 3), .ref (v 4), .ref (v 5), .ref (v 6), .ref (v 7), .ref (v 8), .ref (v 9), .ref (v 10), .ref (v 11), .ref (v 12), .int 0, .ref (v 13), .int 0, .ref (v 14), .ref (v 15), .int 0, .ref (v 16), .int 0, .ref (v 17), .ref (v 18), .int 0])), (v 1, .inl (cI, 40, .inl (fun _ => 0))), (v 2, .inl (cI, 40, .inl (fun _ => 0))), (v 3, .inl (cI, 40, .inl (fun _ => 0))), (v 4, .inl (cI, 40, .inl (fun _ => 0))), (v 5, .inl (cI, 120, .inl (fun _ => 0))), (v 6, .inl (cI, 40, .inl (fun _ => 0))), (v 7, .inl (cI, 40, .inl (fun _ => 0))), (v 8, .inl (cI, 40, .inl (fun _ => 0))), (v 9, .inl (cI, 320, .inl (fun _ => 0))), (v 10, .inl (cZ, 40, .inl (fun _ => 0))), (v 11, .inl (cI, 40, .inl (fun _ => 0))), (v 12, .inl (cI, 10, .inl (fun _ => 0))), (v 13, .inl (cI, 40, .inl (fun _ => 0))), (v 14, .inl (cZ, 40, .inl (fun _ => 0))), (v 15, .inl (cI, 4, .inl (fun _ => 0))), (v 16, .inl (cI, 96, .inl (fun _ => 0))), (v 17, .inl (cI, 5, .inl (fun _ => 0))), (v 18, .inl (cI, 800, .inl (fun _ => 0))), (o, oRow cL (fun _ => 0))]
theorem wsT_c {t i : Nat} (h : i < cDm (fun _ => 0) t) : i = 0 ∧ (wsT cI cZ cB cS cL b0 b1 o u v)[t]? = some (ad0 b0 u t i, cEn cI cZ cB cS (fun _ => 0) (fun _ _ => 0) (fun _ _ => 0) (ad0 b0 u) t i) := by
  obtain ⟨h1, h2⟩ := dm0 h
  subst h2
  refine ⟨rfl, ?_⟩
  rcases (show t = 0 ∨ t = 1 ∨ t = 2 ∨ t = 3 ∨ t = 4 ∨ t = 5 ∨ t = 6 ∨ t = 7 ∨ t = 8 ∨ t = 9 ∨ t = 10 by omega) with rfl | rfl | rfl | rfl | rfl | rfl | rfl | rfl | rfl | rfl | rfl
  · rfl
  · rfl
  · rfl
  · rfl
  · rfl
  · rfl
  · rfl
  · rfl
  · rfl
  · rfl
  · rfl
theorem wsT_r {t i : Nat} (h : i < rDm t) : i = 0 ∧ (wsT cI cZ cB cS cL b0 b1 o u v)[11 + posR t]? = some (rad0 b1 v t i, rEn cI cZ (fun _ => 0) (fun _ _ => 0) (fun _ _ => 0) (rad0 b1 v) t i) := by
  obtain ⟨h1, h2⟩ := rdm h
  subst h2
  refine ⟨rfl, ?_⟩
  rcases (show t = 0 ∨ t = 2 ∨ t = 3 ∨ t = 4 ∨ t = 5 ∨ t = 6 ∨ t = 7 ∨ t = 8 ∨ t = 9 ∨ t = 10 ∨ t = 11 ∨ t = 12 ∨ t = 13 ∨ t = 15 ∨ t = 17 ∨ t = 18 ∨ t = 20 ∨ t = 22 ∨ t = 23 by omega) with rfl | rfl | rfl | rfl | rfl | rfl | rfl | rfl | rfl | rfl | rfl | rfl | rfl | rfl | rfl | rfl | rfl | rfl | rfl
  · rfl
  · rfl
  · rfl
  · rfl
  · rfl
  · rfl
  · rfl
  · rfl
  · rfl
  · rfl
  · rfl
  · rfl
  · rfl
  · rfl
  · rfl
  · rfl
  · rfl
  · rfl
  · rfl
theorem wsT_o : (wsT cI cZ cB cS cL b0 b1 o u v)[30]? = some (o, oRow cL (fun _ => 0)) := rfl
end STW
set_option maxHeartbeats 4000000 in
set_option maxRecDepth 100000 in
theorem whole_start {p : Program} {e : Env} {s : State} {m : MethodId} {below : List Frame} {meth : Method} {c : Code} (l : Launch) (hflags : l.flags = flags0) {b L : Nat} {xs : Nat → Int32} (hL : L ≤ 2048) (C0 : lw_At p s m meth c b L xs) : W p l e room_1 s m #[Value.ref b] below meth c s.heap [] 0 0 (lw_Z below #[Value.ref b] s) (entryFrame m ([Value.ref b] : List Value).toArray 7) := by
  have hst : l.stackTraces = false := by unfold Launch.stackTraces; rw [hflags]; decide +kernel
  obtain ⟨D, cI, cZ, cB, cS, hE, hNc⟩ := start_E C0
  obtain ⟨hx, hb, hr, hml, hown9, hts0, hX, hbl, hlocks, hgv⟩ := id C0
  have hown : s.vm.findClass RL = some m.cls := hown9
  have hts : ∀ w ∈ wsL_law, w.before #[Value.ref b] s = true := fun w h => hts0 w (wsL_law_in w h)
  have hK := hE.1
  have hA : ∀ q : Nat, s.heap.size ≤ q → lA0 s q := fun _ h => h
  have hS : va_S (lA0 s) s.heap s.heap [] := va_S.rf
  have hl := lv_entry ([.ref b]) (n := 7) (Nat.le_of_ble_eq_true rfl)
  rw [lg_entry_eq]
  generalize (lg_sl ([.ref b]) ++ List.replicate (7 - (lg_sl ([.ref b])).length) Slot.unset).toArray = ls at hl ⊢
  have hl : lv_has ls 7 [(0, .ref b)] := hl
  refine gl_new (ci := 3) (fs := [.null, .int 0, .null, .int 0, .null, .null, .null, .null, .int 0]) (C := RX3) (T := TX3) (N := 9) hx hb hts (by decide +kernel) tyX3 tyX3_ok hown (hts (.classLink RL 8 RX3) (by decide +kernel)) (hts (.instantiable RX3 9) (by decide +kernel)) (hts (.initialized RX3) (by decide +kernel)) hK hS rfl (fun j hj => by rcases (show j = 0 ∨ j = 1 ∨ j = 2 ∨ j = 3 ∨ j = 4 ∨ j = 5 ∨ j = 6 ∨ j = 7 ∨ j = 8 by omega) with rfl | rfl | rfl | rfl | rfl | rfl | rfl | rfl | rfl <;> rfl) (Nat.le_of_ble_eq_true rfl) (Nat.le_of_ble_eq_true rfl) dL_law_0 (fun H1 hN1 hk1 hz1 hS => ?_)
  obtain ⟨b0, eqb⟩ : ∃ z, z = s.heap.size := ⟨_, rfl⟩
  have hbA : ∀ q : Nat, b0 ≤ q → lA0 s q := fun q hq => by rw [eqb] at hq; exact hq
  rw [← eqb] at hN1 hz1 ⊢
  refine lv_dup hx hb dL_law_3 rfl ?_
  refine va_callv (va_runI (As := []) (rest := [.ref b0]) ⟨hx, hb, hml, hown, hts⟩ (k_X3_init (l := l) (D := D) (cI := cI) (cZ := cZ) (cB := cB) (cS := cS) b0) (cwI 0 hts gL_law_X3_init rfl rfl rfl (hts (.initialized RX3) (by decide +kernel)) (hts (.methodLink RL 67 yX3_init) (by decide +kernel)) (hts (.instanceMethod yX3_init) (by decide +kernel)) rfl (by decide +kernel) ⟨(Nat.le_of_ble_eq_true rfl), (Nat.le_of_ble_eq_true rfl)⟩) (gPreI hE hS hN1 hbA) rfl rfl hl.1 rfl (lv_room (Nat.le_of_ble_eq_true rfl)) dL_law_4 ⟨(Nat.le_of_ble_eq_true rfl), (Nat.le_of_ble_eq_true rfl)⟩) hS (fun q _ h9 => hbA q h9) (fun q h9 => hbA q h9) (fun u t9 H2 locs ht9 hvm9 hw9 hB9 hz2 hk2 hS => ?_)
  obtain ⟨hP, hD9⟩ := hB9
  rw [ht9] at hP
  have hD : va_D (lA0 s) [(b0, .inr (3, [.ref (u 1), .int 0, .ref (u 2), .int 0, .ref (u 3), .ref (u 4), .ref (u 5), .ref (u 10), .int 0])), (u 1, .inl (cB, qf (fun _ => none) 40)), (u 2, .inl (cI, 10, .inl (fun _ => 0))), (u 3, .inl (cI, 40, .inl (fun _ => 0))), (u 4, .inl (cZ, 40, .inl (fun _ => 0))), (u 5, .inr (1, [.ref (u 6), .ref (u 7), .ref (u 8), .ref (u 9), .int 0])), (u 6, .inl (cI, 4, .inl (fun _ => 0))), (u 7, .inl (cI, 32, .inl (fun _ => 0))), (u 8, .inl (cI, 32, .inl (fun _ => 0))), (u 9, .inl (cI, 32, .inl (fun _ => 0))), (u 10, .inl (cS, qf (fun _ => none) 5))] := ⟨hD9.1, fun k x hk => hbA _ (hD9.2 k x hk)⟩
  refine lv_astore_n (lv' := [(1, .ref b0), (0, .ref b)]) hx hb dL_law_7 rfl hl (by decide) rfl (fun ls hl => ?_)
  refine gl_new (ci := 4) (fs := [.int 0, .int 0, .null, .null, .null, .null, .null, .null, .null, .null, .null, .null, .null, .null, .int 0, .null, .int 0, .null, .null, .int 0, .null, .int 0, .null, .null, .int 0]) (C := RX4) (T := TX4) (N := 25) hx hb hts (by decide +kernel) tyX4 tyX4_ok hown (hts (.classLink RL 68 RX4) (by decide +kernel)) (hts (.instantiable RX4 25) (by decide +kernel)) (hts (.initialized RX4) (by decide +kernel)) hK hS rfl (fun j hj => by rcases (show j = 0 ∨ j = 1 ∨ j = 2 ∨ j = 3 ∨ j = 4 ∨ j = 5 ∨ j = 6 ∨ j = 7 ∨ j = 8 ∨ j = 9 ∨ j = 10 ∨ j = 11 ∨ j = 12 ∨ j = 13 ∨ j = 14 ∨ j = 15 ∨ j = 16 ∨ j = 17 ∨ j = 18 ∨ j = 19 ∨ j = 20 ∨ j = 21 ∨ j = 22 ∨ j = 23 ∨ j = 24 by omega) with rfl | rfl | rfl | rfl | rfl | rfl | rfl | rfl | rfl | rfl | rfl | rfl | rfl | rfl | rfl | rfl | rfl | rfl | rfl | rfl | rfl | rfl | rfl | rfl | rfl <;> rfl) (Nat.le_of_ble_eq_true rfl) (Nat.le_of_ble_eq_true rfl) dL_law_8 (fun H1 hN1 hk1 hz1 hS => ?_)
  have hlt : ∀ (k : Nat) (x : Nat × va_E), ([(b0, .inr (3, [.ref (u 1), .int 0, .ref (u 2), .int 0, .ref (u 3), .ref (u 4), .ref (u 5), .ref (u 10), .int 0])), (u 1, .inl (cB, qf (fun _ => none) 40)), (u 2, .inl (cI, 10, .inl (fun _ => 0))), (u 3, .inl (cI, 40, .inl (fun _ => 0))), (u 4, .inl (cZ, 40, .inl (fun _ => 0))), (u 5, .inr (1, [.ref (u 6), .ref (u 7), .ref (u 8), .ref (u 9), .int 0])), (u 6, .inl (cI, 4, .inl (fun _ => 0))), (u 7, .inl (cI, 32, .inl (fun _ => 0))), (u 8, .inl (cI, 32, .inl (fun _ => 0))), (u 9, .inl (cI, 32, .inl (fun _ => 0))), (u 10, .inl (cS, qf (fun _ => none) 5))] : va_W)[k]? = some x → x.1 < H2.size := fun k x hk => (hP k x hk).lt
  have hP : va_P D vwCl [(b0, .inr (3, [.ref (u 1), .int 0, .ref (u 2), .int 0, .ref (u 3), .ref (u 4), .ref (u 5), .ref (u 10), .int 0])), (u 1, .inl (cB, qf (fun _ => none) 40)), (u 2, .inl (cI, 10, .inl (fun _ => 0))), (u 3, .inl (cI, 40, .inl (fun _ => 0))), (u 4, .inl (cZ, 40, .inl (fun _ => 0))), (u 5, .inr (1, [.ref (u 6), .ref (u 7), .ref (u 8), .ref (u 9), .int 0])), (u 6, .inl (cI, 4, .inl (fun _ => 0))), (u 7, .inl (cI, 32, .inl (fun _ => 0))), (u 8, .inl (cI, 32, .inl (fun _ => 0))), (u 9, .inl (cI, 32, .inl (fun _ => 0))), (u 10, .inl (cS, qf (fun _ => none) 5))] H1 := va_P.keep hP (fun k x hk => hk1 _ (hlt k x hk))
  have hbA : ∀ q : Nat, H2.size ≤ q → lA0 s q := fun q hq => Nat.le_trans (by omega) hq
  obtain ⟨b1, eqb1⟩ : ∃ z, z = H2.size := ⟨_, rfl⟩
  rw [← eqb1] at hN1 hz1 hlt hbA ⊢
  refine lv_dup hx hb dL_law_11 rfl ?_
  refine va_callv (va_runI (As := []) (rest := [.ref b1]) ⟨hx, hb, hml, hown, hts⟩ (k_X4_init (l := l) (D := D) (cI := cI) (cZ := cZ) (cB := cB) (cS := cS) b1) (cwI 0 hts gL_law_X4_init rfl rfl rfl (hts (.initialized RX4) (by decide +kernel)) (hts (.methodLink RL 70 yX4_init) (by decide +kernel)) (hts (.instanceMethod yX4_init) (by decide +kernel)) rfl (by decide +kernel) ⟨(Nat.le_of_ble_eq_true rfl), (Nat.le_of_ble_eq_true rfl)⟩) (gPreI hE hS hN1 hbA) rfl rfl hl.1 rfl (lv_room (Nat.le_of_ble_eq_true rfl)) dL_law_12 ⟨(Nat.le_of_ble_eq_true rfl), (Nat.le_of_ble_eq_true rfl)⟩) hS (fun q _ h9 => hbA q h9) (fun q h9 => hbA q h9) (fun v t8 H3 locs ht8 hvm8 hw8 hB8 hz3 hk3 hS => ?_)
  obtain ⟨hP2, hD2⟩ := hB8
  rw [ht8] at hP2
  have hP : va_P D vwCl [(b0, .inr (3, [.ref (u 1), .int 0, .ref (u 2), .int 0, .ref (u 3), .ref (u 4), .ref (u 5), .ref (u 10), .int 0])), (u 1, .inl (cB, qf (fun _ => none) 40)), (u 2, .inl (cI, 10, .inl (fun _ => 0))), (u 3, .inl (cI, 40, .inl (fun _ => 0))), (u 4, .inl (cZ, 40, .inl (fun _ => 0))), (u 5, .inr (1, [.ref (u 6), .ref (u 7), .ref (u 8), .ref (u 9), .int 0])), (u 6, .inl (cI, 4, .inl (fun _ => 0))), (u 7, .inl (cI, 32, .inl (fun _ => 0))), (u 8, .inl (cI, 32, .inl (fun _ => 0))), (u 9, .inl (cI, 32, .inl (fun _ => 0))), (u 10, .inl (cS, qf (fun _ => none) 5))] H3 := va_P.keep hP (fun k x hk => hk3 _ (by have := hlt k x hk; omega) (Nat.not_le.mpr (hlt k x hk)))
  have hP : va_P D vwCl ([(b0, .inr (3, [.ref (u 1), .int 0, .ref (u 2), .int 0, .ref (u 3), .ref (u 4), .ref (u 5), .ref (u 10), .int 0])), (u 1, .inl (cB, qf (fun _ => none) 40)), (u 2, .inl (cI, 10, .inl (fun _ => 0))), (u 3, .inl (cI, 40, .inl (fun _ => 0))), (u 4, .inl (cZ, 40, .inl (fun _ => 0))), (u 5, .inr (1, [.ref (u 6), .ref (u 7), .ref (u 8), .ref (u 9), .int 0])), (u 6, .inl (cI, 4, .inl (fun _ => 0))), (u 7, .inl (cI, 32, .inl (fun _ => 0))), (u 8, .inl (cI, 32, .inl (fun _ => 0))), (u 9, .inl (cI, 32, .inl (fun _ => 0))), (u 10, .inl (cS, qf (fun _ => none) 5))] ++ [(b1, .inr (4, [.int 0, .int 0, .ref (v 1), .ref (v 2), .ref (v 3), .ref (v 4), .ref (v 5), .ref (v 6), .ref (v 7), .ref (v 8), .ref (v 9), .ref (v 10), .ref (v 11), .ref (v 12), .int 0, .ref (v 13), .int 0, .ref (v 14), .ref (v 15), .int 0, .ref (v 16), .int 0, .ref (v 17), .ref (v 18), .int 0])), (v 1, .inl (cI, 40, .inl (fun _ => 0))), (v 2, .inl (cI, 40, .inl (fun _ => 0))), (v 3, .inl (cI, 40, .inl (fun _ => 0))), (v 4, .inl (cI, 40, .inl (fun _ => 0))), (v 5, .inl (cI, 120, .inl (fun _ => 0))), (v 6, .inl (cI, 40, .inl (fun _ => 0))), (v 7, .inl (cI, 40, .inl (fun _ => 0))), (v 8, .inl (cI, 40, .inl (fun _ => 0))), (v 9, .inl (cI, 320, .inl (fun _ => 0))), (v 10, .inl (cZ, 40, .inl (fun _ => 0))), (v 11, .inl (cI, 40, .inl (fun _ => 0))), (v 12, .inl (cI, 10, .inl (fun _ => 0))), (v 13, .inl (cI, 40, .inl (fun _ => 0))), (v 14, .inl (cZ, 40, .inl (fun _ => 0))), (v 15, .inl (cI, 4, .inl (fun _ => 0))), (v 16, .inl (cI, 96, .inl (fun _ => 0))), (v 17, .inl (cI, 5, .inl (fun _ => 0))), (v 18, .inl (cI, 800, .inl (fun _ => 0)))]) H3 := hP.app hP2
  have hD : va_D (lA0 s) ([(b0, .inr (3, [.ref (u 1), .int 0, .ref (u 2), .int 0, .ref (u 3), .ref (u 4), .ref (u 5), .ref (u 10), .int 0])), (u 1, .inl (cB, qf (fun _ => none) 40)), (u 2, .inl (cI, 10, .inl (fun _ => 0))), (u 3, .inl (cI, 40, .inl (fun _ => 0))), (u 4, .inl (cZ, 40, .inl (fun _ => 0))), (u 5, .inr (1, [.ref (u 6), .ref (u 7), .ref (u 8), .ref (u 9), .int 0])), (u 6, .inl (cI, 4, .inl (fun _ => 0))), (u 7, .inl (cI, 32, .inl (fun _ => 0))), (u 8, .inl (cI, 32, .inl (fun _ => 0))), (u 9, .inl (cI, 32, .inl (fun _ => 0))), (u 10, .inl (cS, qf (fun _ => none) 5))] ++ [(b1, .inr (4, [.int 0, .int 0, .ref (v 1), .ref (v 2), .ref (v 3), .ref (v 4), .ref (v 5), .ref (v 6), .ref (v 7), .ref (v 8), .ref (v 9), .ref (v 10), .ref (v 11), .ref (v 12), .int 0, .ref (v 13), .int 0, .ref (v 14), .ref (v 15), .int 0, .ref (v 16), .int 0, .ref (v 17), .ref (v 18), .int 0])), (v 1, .inl (cI, 40, .inl (fun _ => 0))), (v 2, .inl (cI, 40, .inl (fun _ => 0))), (v 3, .inl (cI, 40, .inl (fun _ => 0))), (v 4, .inl (cI, 40, .inl (fun _ => 0))), (v 5, .inl (cI, 120, .inl (fun _ => 0))), (v 6, .inl (cI, 40, .inl (fun _ => 0))), (v 7, .inl (cI, 40, .inl (fun _ => 0))), (v 8, .inl (cI, 40, .inl (fun _ => 0))), (v 9, .inl (cI, 320, .inl (fun _ => 0))), (v 10, .inl (cZ, 40, .inl (fun _ => 0))), (v 11, .inl (cI, 40, .inl (fun _ => 0))), (v 12, .inl (cI, 10, .inl (fun _ => 0))), (v 13, .inl (cI, 40, .inl (fun _ => 0))), (v 14, .inl (cZ, 40, .inl (fun _ => 0))), (v 15, .inl (cI, 4, .inl (fun _ => 0))), (v 16, .inl (cI, 96, .inl (fun _ => 0))), (v 17, .inl (cI, 5, .inl (fun _ => 0))), (v 18, .inl (cI, 800, .inl (fun _ => 0)))]) := va_D.join hD hlt hD2 hbA
  refine lv_astore_n (lv' := [(2, .ref b1), (1, .ref b0), (0, .ref b)]) hx hb dL_law_15 rfl hl (by decide) rfl (fun ls hl => ?_)
  refine lv_iconst (v := 1) hx hb dL_law_16 (by decide) ?_
  refine va_newa (ty := .long) (atype := .long) hx hb (hts (.arrayClass .long) (by decide +kernel)) rfl hK hP hD hS hA (N' := 1) (a0 := (1, .inr (.inl (fun _ => 0)))) (fun _ => rfl) (by decide) (by decide) (by decide) (Nat.le_of_ble_eq_true rfl) (Nat.le_of_ble_eq_true rfl) dL_law_17 (fun o cL H hK5 hP hD hS => ?_)
  have hKL : va_K D vwCl [(cL, .long)] s := hK5.sub [4] rfl
  have hP : va_P D vwCl (wsT cI cZ cB cS cL b0 b1 o u v) H := hP
  have hD : va_D (lA0 s) (wsT cI cZ cB cS cL b0 b1 o u v) := hD
  refine lv_astore_n (lv' := [(3, .ref o), (2, .ref b1), (1, .ref b0), (0, .ref b)]) hx hb dL_law_19 rfl hl (by decide) rfl (fun ls hl => ?_)
  refine lv_iconst (v := 0) hx hb dL_law_20 (by decide) ?_
  refine lv_istore (lv' := [(4, .int 0), (3, .ref o), (2, .ref b1), (1, .ref b0), (0, .ref b)]) hx hb dL_law_21 hl (by decide) rfl (fun ls hl => ?_)
  refine W.widen (k := 100 + 5 * 0) (n := 3000 + 165 * 0) (Nat.le_of_ble_eq_true rfl) (Nat.le_of_ble_eq_true rfl) ?_
  have hro : ∀ t i : Nat, i < rDm t → rad0 b1 v t i ≠ o := fun t i hi z => by
    have e := hD.1 _ _ _ _ (wsT_r hi).2 wsT_o z
    have := posR_le t
    omega
  have hC : LC D cI cZ cB cS cL s o (rad0 b1 v) := ⟨⟨hE, hKL, hNc⟩, hD.2 _ _ wsT_o, hro⟩
  have hcA : ∀ t i : Nat, i < cDm (fun _ => 0) t → lA s (rad0 b1 v) (ad0 b0 u t i) ∧ ad0 b0 u t i ≠ o := fun t i hi => by
    refine ⟨⟨hD.2 _ _ (wsT_c (cI := cI) (cZ := cZ) (cB := cB) (cS := cS) (cL := cL) (b1 := b1) (o := o) (v := v) hi).2, fun t2 i2 h2 z => ?_⟩, fun z => ?_⟩
    · have e := hD.1 _ _ _ _ (wsT_c hi).2 (wsT_r h2).2 z
      have := (dm0 hi).1
      omega
    · have e := hD.1 _ _ _ _ (wsT_c hi).2 wsT_o z
      have := (dm0 hi).1
      omega
  have hW : LW D cI cZ cB cS cL s o (rad0 b1 v) (fun _ => 0) (fun _ _ => 0) (fun _ => 0) (fun _ _ => 0) (fun _ _ => 0) (fun _ _ => 0) (ad0 b0 u) (fun _ => 0) H _ := ⟨gw_ofP (fun t => t) (fun t i hi => wsT_c hi) (fun t u _ _ h => h) hP hD hcA, gw_ofP (fun t => 11 + posR t) (fun t i hi => wsT_r hi) (fun t u h1 h2 h => posR_inj h1 h2 (by omega)) hP hD (fun t i hi => hD.2 _ _ (wsT_r hi).2), hP _ _ wsT_o, hS⟩
  exact law_loop hst hL C0 hC b0 (L + 1) 0 (Nat.zero_le _) (by omega) _ _ _ _ _ _ _ _ ls gInv.zero hW rfl (lv_sub hl [4, 3, 2, 1, 0] rfl)
