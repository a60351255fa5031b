/-! What the statement gives at the law's entry. -/
theorem kArr_I {s : State} {args : Array Value} (h : (Cond.arrayClass .int).before args s = true) : ∃ cA : ClassId, ArrOfT s cA .int ∧ va_RA s cA .int := by
  obtain ⟨cA, kA, comp, h1, h2, h3⟩ := Cond.arrayClass_spec h
  exact ⟨cA, fun n z => ⟨fun k h => (by cases h), kA, h2, comp, h3⟩, h1⟩
theorem kArr_Z {s : State} {args : Array Value} (h : (Cond.arrayClass .boolean).before args s = true) : ∃ cA : ClassId, ArrOfT s cA .boolean ∧ va_RA s cA .boolean := by
  obtain ⟨cA, kA, comp, h1, h2, h3⟩ := Cond.arrayClass_spec h
  exact ⟨cA, fun n z => ⟨fun k h => (by cases h), kA, h2, comp, h3⟩, h1⟩
theorem kArr_O {s : State} {args : Array Value} {C : String} (h : (Cond.arrayOver (.object C)).before args s = true) : ∃ cA : ClassId, ArrOfT s cA (.object C) ∧ va_RA s cA (.object C) := by
  obtain ⟨comp, cA, kA, h1, -, h2, h3, h4⟩ := Cond.arrayOver_spec h
  exact ⟨cA, fun n z => ⟨fun k h => (by cases h), kA, h2, comp, h3⟩, kA, comp, h2, h3, h1, h4⟩
theorem st_strs : ∀ q ∈ g_strs, Cond.stringRef RX3 q.1 q.2 ∈ lw_tbl ∧ Cond.exactly (.string RX3 q.1) "java/lang/String" ∈ flatC (Jvm.Cond.and given_1 narrow_1) := by decide +kernel
section STE
variable {s : State} {b : Nat}
theorem st_el0 (hs : ∀ c ∈ flatC (Jvm.Cond.and given_1 narrow_1), c.before #[Value.ref b] s = true) : (Term.elem (.static RX3 "NAMED_INPUTS" "[I") (.int (Int32.ofNat 0))).eval #[Value.ref b] s none [] s = some (.int (nI (nmd 0))) := va_eqt (z := 0) (hs (.eq (.elem (.static RX3 "NAMED_INPUTS" "[I") (.int 0)) (.int 0)) (by decide +kernel))
theorem st_el1 (hs : ∀ c ∈ flatC (Jvm.Cond.and given_1 narrow_1), c.before #[Value.ref b] s = true) : (Term.elem (.static RX3 "NAMED_INPUTS" "[I") (.int (Int32.ofNat 1))).eval #[Value.ref b] s none [] s = some (.int (nI (nmd 1))) := va_eqt (z := 0) (hs (.eq (.elem (.static RX3 "NAMED_INPUTS" "[I") (.int 1)) (.int 0)) (by decide +kernel))
theorem st_el2 (hs : ∀ c ∈ flatC (Jvm.Cond.and given_1 narrow_1), c.before #[Value.ref b] s = true) : (Term.elem (.static RX3 "NAMED_INPUTS" "[I") (.int (Int32.ofNat 2))).eval #[Value.ref b] s none [] s = some (.int (nI (nmd 2))) := va_eqt (z := 2) (hs (.eq (.elem (.static RX3 "NAMED_INPUTS" "[I") (.int 2)) (.int 2)) (by decide +kernel))
theorem st_el3 (hs : ∀ c ∈ flatC (Jvm.Cond.and given_1 narrow_1), c.before #[Value.ref b] s = true) : (Term.elem (.static RX3 "NAMED_INPUTS" "[I") (.int (Int32.ofNat 3))).eval #[Value.ref b] s none [] s = some (.int (nI (nmd 3))) := va_eqt (z := 2) (hs (.eq (.elem (.static RX3 "NAMED_INPUTS" "[I") (.int 3)) (.int 2)) (by decide +kernel))
theorem st_el4 (hs : ∀ c ∈ flatC (Jvm.Cond.and given_1 narrow_1), c.before #[Value.ref b] s = true) : (Term.elem (.static RX3 "NAMED_INPUTS" "[I") (.int (Int32.ofNat 4))).eval #[Value.ref b] s none [] s = some (.int (nI (nmd 4))) := va_eqt (z := 2) (hs (.eq (.elem (.static RX3 "NAMED_INPUTS" "[I") (.int 4)) (.int 2)) (by decide +kernel))
theorem st_el5 (hs : ∀ c ∈ flatC (Jvm.Cond.and given_1 narrow_1), c.before #[Value.ref b] s = true) : (Term.elem (.static RX3 "NAMED_INPUTS" "[I") (.int (Int32.ofNat 5))).eval #[Value.ref b] s none [] s = some (.int (nI (nmd 5))) := va_eqt (z := 2) (hs (.eq (.elem (.static RX3 "NAMED_INPUTS" "[I") (.int 5)) (.int 2)) (by decide +kernel))
theorem st_el6 (hs : ∀ c ∈ flatC (Jvm.Cond.and given_1 narrow_1), c.before #[Value.ref b] s = true) : (Term.elem (.static RX3 "NAMED_INPUTS" "[I") (.int (Int32.ofNat 6))).eval #[Value.ref b] s none [] s = some (.int (nI (nmd 6))) := va_eqt (z := 2) (hs (.eq (.elem (.static RX3 "NAMED_INPUTS" "[I") (.int 6)) (.int 2)) (by decide +kernel))
theorem st_el7 (hs : ∀ c ∈ flatC (Jvm.Cond.and given_1 narrow_1), c.before #[Value.ref b] s = true) : (Term.elem (.static RX3 "NAMED_INPUTS" "[I") (.int (Int32.ofNat 7))).eval #[Value.ref b] s none [] s = some (.int (nI (nmd 7))) := va_eqt (z := 2) (hs (.eq (.elem (.static RX3 "NAMED_INPUTS" "[I") (.int 7)) (.int 2)) (by decide +kernel))
theorem st_el8 (hs : ∀ c ∈ flatC (Jvm.Cond.and given_1 narrow_1), c.before #[Value.ref b] s = true) : (Term.elem (.static RX3 "NAMED_INPUTS" "[I") (.int (Int32.ofNat 8))).eval #[Value.ref b] s none [] s = some (.int (nI (nmd 8))) := va_eqt (z := 2) (hs (.eq (.elem (.static RX3 "NAMED_INPUTS" "[I") (.int 8)) (.int 2)) (by decide +kernel))
theorem st_el9 (hs : ∀ c ∈ flatC (Jvm.Cond.and given_1 narrow_1), c.before #[Value.ref b] s = true) : (Term.elem (.static RX3 "NAMED_INPUTS" "[I") (.int (Int32.ofNat 9))).eval #[Value.ref b] s none [] s = some (.int (nI (nmd 9))) := va_eqt (z := 2) (hs (.eq (.elem (.static RX3 "NAMED_INPUTS" "[I") (.int 9)) (.int 2)) (by decide +kernel))
theorem st_el10 (hs : ∀ c ∈ flatC (Jvm.Cond.and given_1 narrow_1), c.before #[Value.ref b] s = true) : (Term.elem (.static RX3 "NAMED_INPUTS" "[I") (.int (Int32.ofNat 10))).eval #[Value.ref b] s none [] s = some (.int (nI (nmd 10))) := va_eqt (z := 2) (hs (.eq (.elem (.static RX3 "NAMED_INPUTS" "[I") (.int 10)) (.int 2)) (by decide +kernel))
theorem st_el11 (hs : ∀ c ∈ flatC (Jvm.Cond.and given_1 narrow_1), c.before #[Value.ref b] s = true) : (Term.elem (.static RX3 "NAMED_INPUTS" "[I") (.int (Int32.ofNat 11))).eval #[Value.ref b] s none [] s = some (.int (nI (nmd 11))) := va_eqt (z := 2) (hs (.eq (.elem (.static RX3 "NAMED_INPUTS" "[I") (.int 11)) (.int 2)) (by decide +kernel))
theorem st_el12 (hs : ∀ c ∈ flatC (Jvm.Cond.and given_1 narrow_1), c.before #[Value.ref b] s = true) : (Term.elem (.static RX3 "NAMED_INPUTS" "[I") (.int (Int32.ofNat 12))).eval #[Value.ref b] s none [] s = some (.int (nI (nmd 12))) := va_eqt (z := 2) (hs (.eq (.elem (.static RX3 "NAMED_INPUTS" "[I") (.int 12)) (.int 2)) (by decide +kernel))
theorem st_el13 (hs : ∀ c ∈ flatC (Jvm.Cond.and given_1 narrow_1), c.before #[Value.ref b] s = true) : (Term.elem (.static RX3 "NAMED_INPUTS" "[I") (.int (Int32.ofNat 13))).eval #[Value.ref b] s none [] s = some (.int (nI (nmd 13))) := va_eqt (z := 1) (hs (.eq (.elem (.static RX3 "NAMED_INPUTS" "[I") (.int 13)) (.int 1)) (by decide +kernel))
theorem st_el14 (hs : ∀ c ∈ flatC (Jvm.Cond.and given_1 narrow_1), c.before #[Value.ref b] s = true) : (Term.elem (.static RX3 "NAMED_INPUTS" "[I") (.int (Int32.ofNat 14))).eval #[Value.ref b] s none [] s = some (.int (nI (nmd 14))) := va_eqt (z := 3) (hs (.eq (.elem (.static RX3 "NAMED_INPUTS" "[I") (.int 14)) (.int 3)) (by decide +kernel))
theorem st_el15 (hs : ∀ c ∈ flatC (Jvm.Cond.and given_1 narrow_1), c.before #[Value.ref b] s = true) : (Term.elem (.static RX3 "NAMED_INPUTS" "[I") (.int (Int32.ofNat 15))).eval #[Value.ref b] s none [] s = some (.int (nI (nmd 15))) := va_eqt (z := 1) (hs (.eq (.elem (.static RX3 "NAMED_INPUTS" "[I") (.int 15)) (.int 1)) (by decide +kernel))
theorem st_el16 (hs : ∀ c ∈ flatC (Jvm.Cond.and given_1 narrow_1), c.before #[Value.ref b] s = true) : (Term.elem (.static RX3 "NAMED_INPUTS" "[I") (.int (Int32.ofNat 16))).eval #[Value.ref b] s none [] s = some (.int (nI (nmd 16))) := va_eqt (z := 1) (hs (.eq (.elem (.static RX3 "NAMED_INPUTS" "[I") (.int 16)) (.int 1)) (by decide +kernel))
theorem st_el17 (hs : ∀ c ∈ flatC (Jvm.Cond.and given_1 narrow_1), c.before #[Value.ref b] s = true) : (Term.elem (.static RX3 "NAMED_INPUTS" "[I") (.int (Int32.ofNat 17))).eval #[Value.ref b] s none [] s = some (.int (nI (nmd 17))) := va_eqt (z := 1) (hs (.eq (.elem (.static RX3 "NAMED_INPUTS" "[I") (.int 17)) (.int 1)) (by decide +kernel))
theorem st_el18 (hs : ∀ c ∈ flatC (Jvm.Cond.and given_1 narrow_1), c.before #[Value.ref b] s = true) : (Term.elem (.static RX3 "NAMED_INPUTS" "[I") (.int (Int32.ofNat 18))).eval #[Value.ref b] s none [] s = some (.int (nI (nmd 18))) := va_eqt (z := 2) (hs (.eq (.elem (.static RX3 "NAMED_INPUTS" "[I") (.int 18)) (.int 2)) (by decide +kernel))
theorem st_el19 (hs : ∀ c ∈ flatC (Jvm.Cond.and given_1 narrow_1), c.before #[Value.ref b] s = true) : (Term.elem (.static RX3 "NAMED_INPUTS" "[I") (.int (Int32.ofNat 19))).eval #[Value.ref b] s none [] s = some (.int (nI (nmd 19))) := va_eqt (z := 2) (hs (.eq (.elem (.static RX3 "NAMED_INPUTS" "[I") (.int 19)) (.int 2)) (by decide +kernel))
theorem st_el20 (hs : ∀ c ∈ flatC (Jvm.Cond.and given_1 narrow_1), c.before #[Value.ref b] s = true) : (Term.elem (.static RX3 "NAMED_INPUTS" "[I") (.int (Int32.ofNat 20))).eval #[Value.ref b] s none [] s = some (.int (nI (nmd 20))) := va_eqt (z := 0) (hs (.eq (.elem (.static RX3 "NAMED_INPUTS" "[I") (.int 20)) (.int 0)) (by decide +kernel))
theorem st_el21 (hs : ∀ c ∈ flatC (Jvm.Cond.and given_1 narrow_1), c.before #[Value.ref b] s = true) : (Term.elem (.static RX3 "NAMED_INPUTS" "[I") (.int (Int32.ofNat 21))).eval #[Value.ref b] s none [] s = some (.int (nI (nmd 21))) := va_eqt (z := 1) (hs (.eq (.elem (.static RX3 "NAMED_INPUTS" "[I") (.int 21)) (.int 1)) (by decide +kernel))
theorem st_el22 (hs : ∀ c ∈ flatC (Jvm.Cond.and given_1 narrow_1), c.before #[Value.ref b] s = true) : (Term.elem (.static RX3 "NAMED_INPUTS" "[I") (.int (Int32.ofNat 22))).eval #[Value.ref b] s none [] s = some (.int (nI (nmd 22))) := va_eqt (z := 1) (hs (.eq (.elem (.static RX3 "NAMED_INPUTS" "[I") (.int 22)) (.int 1)) (by decide +kernel))
theorem st_el23 (hs : ∀ c ∈ flatC (Jvm.Cond.and given_1 narrow_1), c.before #[Value.ref b] s = true) : (Term.elem (.static RX3 "NAMED_INPUTS" "[I") (.int (Int32.ofNat 23))).eval #[Value.ref b] s none [] s = some (.int (nI (nmd 23))) := va_eqt (z := 2) (hs (.eq (.elem (.static RX3 "NAMED_INPUTS" "[I") (.int 23)) (.int 2)) (by decide +kernel))
theorem st_el24 (hs : ∀ c ∈ flatC (Jvm.Cond.and given_1 narrow_1), c.before #[Value.ref b] s = true) : (Term.elem (.static RX3 "NAMED_INPUTS" "[I") (.int (Int32.ofNat 24))).eval #[Value.ref b] s none [] s = some (.int (nI (nmd 24))) := va_eqt (z := 2) (hs (.eq (.elem (.static RX3 "NAMED_INPUTS" "[I") (.int 24)) (.int 2)) (by decide +kernel))
theorem st_el25 (hs : ∀ c ∈ flatC (Jvm.Cond.and given_1 narrow_1), c.before #[Value.ref b] s = true) : (Term.elem (.static RX3 "NAMED_INPUTS" "[I") (.int (Int32.ofNat 25))).eval #[Value.ref b] s none [] s = some (.int (nI (nmd 25))) := va_eqt (z := 1) (hs (.eq (.elem (.static RX3 "NAMED_INPUTS" "[I") (.int 25)) (.int 1)) (by decide +kernel))
end STE
set_option maxHeartbeats 4000000 in
set_option maxRecDepth 100000 in
theorem start_E {p : Program} {s : State} {m : MethodId} {meth : Method} {c : Code} {b L : Nat} {xs : Nat → Int32} (C0 : lw_At p s m meth c b L xs) : ∃ (D : va_G) (cI cZ cB cS : ClassId), g_E D cI cZ cB cS (lA0 s) s s.heap ∧ va_Nc g_IS g_IA s := by
  obtain ⟨hx, hb, hr, hml, hown, hts, hX, hbl, hlocks, hgv⟩ := C0
  have hs := flat_of_before _ hgv
  have hA : ∀ a : Nat, a < s.heap.size → ¬ lA0 s a := fun a h => Nat.not_le.mpr h
  obtain ⟨c0, i0, k0⟩ := u_known (C := RX0) (T := TX0) (N := 11) (n := 11) hts inX0 (hts (.instantiable RX0 11) (by decide +kernel))
  obtain ⟨c1, i1, k1⟩ := u_known (C := RX1) (T := TX1) (N := 5) (n := 5) hts inX1 (hts (.instantiable RX1 5) (by decide +kernel))
  obtain ⟨c2, i2, k2⟩ := u_known (C := RX2) (T := TX2) (N := 5) (n := 5) hts inX2 (hts (.instantiable RX2 5) (by decide +kernel))
  obtain ⟨c3, i3, k3⟩ := u_known (C := RX3) (T := TX3) (N := 9) (n := 9) hts inX3 (hts (.instantiable RX3 9) (by decide +kernel))
  obtain ⟨c4, i4, k4⟩ := u_known (C := RX4) (T := TX4) (N := 25) (n := 25) hts inX4 (hts (.instantiable RX4 25) (by decide +kernel))
  obtain ⟨cI, aI⟩ := kArr_I (hts (.arrayClass .int) (by decide +kernel))
  obtain ⟨cZ, aZ⟩ := kArr_Z (hts (.arrayClass .boolean) (by decide +kernel))
  obtain ⟨cB, aB⟩ := kArr_O (C := RX0) (hts (.arrayOver (.object RX0)) (by decide +kernel))
  obtain ⟨cS, aS⟩ := kArr_O (C := RX2) (hts (.arrayOver (.object RX2)) (by decide +kernel))
  obtain ⟨t, ht, hT⟩ := va_Tof (N := 26) (ty := .int) (tm := .static RX3 "NAMED_INPUTS" "[I") (f := fun j => .int (nI (nmd j))) (A := lA0 s) (by decide) (hs (.arrayOf (.static RX3 "NAMED_INPUTS" "[I") .int) (by decide +kernel)) (va_eqt (z := 26) (hs (.eq (.length (.static RX3 "NAMED_INPUTS" "[I")) (.int 26)) (by decide +kernel))) (fun j hj => by
    rcases (show j = 0 ∨ j = 1 ∨ j = 2 ∨ j = 3 ∨ j = 4 ∨ j = 5 ∨ j = 6 ∨ j = 7 ∨ j = 8 ∨ j = 9 ∨ j = 10 ∨ j = 11 ∨ j = 12 ∨ j = 13 ∨ j = 14 ∨ j = 15 ∨ j = 16 ∨ j = 17 ∨ j = 18 ∨ j = 19 ∨ j = 20 ∨ j = 21 ∨ j = 22 ∨ j = 23 ∨ j = 24 ∨ j = 25 by omega) with rfl | rfl | rfl | rfl | rfl | rfl | rfl | rfl | rfl | rfl | rfl | rfl | rfl | rfl | rfl | rfl | rfl | rfl | rfl | rfl | rfl | rfl | rfl | rfl | rfl | rfl
    · exact st_el0 hs
    · exact st_el1 hs
    · exact st_el2 hs
    · exact st_el3 hs
    · exact st_el4 hs
    · exact st_el5 hs
    · exact st_el6 hs
    · exact st_el7 hs
    · exact st_el8 hs
    · exact st_el9 hs
    · exact st_el10 hs
    · exact st_el11 hs
    · exact st_el12 hs
    · exact st_el13 hs
    · exact st_el14 hs
    · exact st_el15 hs
    · exact st_el16 hs
    · exact st_el17 hs
    · exact st_el18 hs
    · exact st_el19 hs
    · exact st_el20 hs
    · exact st_el21 hs
    · exact st_el22 hs
    · exact st_el23 hs
    · exact st_el24 hs
    · exact st_el25 hs
    ) hA
  refine ⟨(fun k => if k = 0 then c0 else if k = 1 then c1 else if k = 2 then c2 else if k = 3 then c3 else c4, fun k => if k = 0 then i0 else if k = 1 then i1 else if k = 2 then i2 else if k = 3 then i3 else i4), cI, cZ, cB, cS, ⟨⟨fun k q hq => ?_, fun k q hq => ?_⟩, vx_Zqof (hts (.laysStatic Bundle.tN "UNASSIGNED_STACK" Bundle.steD) (by decide +kernel)) (hts (.initialized Bundle.tN) (by decide +kernel)) (hs (.isRef (.static Bundle.tN "UNASSIGNED_STACK" Bundle.steD)) (by decide +kernel)) hA, vx_Zqof (hts (.laysStatic Bundle.tN "SUPPRESSED_SENTINEL" Bundle.listD) (by decide +kernel)) (hts (.initialized Bundle.tN) (by decide +kernel)) (hs (.isRef (.static Bundle.tN "SUPPRESSED_SENTINEL" Bundle.listD)) (by decide +kernel)) hA, ⟨t, va_Zof (hts (.laysStatic RX3 "NAMED_INPUTS" "[I") (by decide +kernel)) (hts (.initialized RX3) (by decide +kernel)) ht hA, hT⟩, ?_⟩, va_Nc.of (hs (.not (.castable g_IS g_IA)) (by decide +kernel))⟩
  · match k, hq with
    | 0, hq => cases hq; exact k0
    | 1, hq => cases hq; exact k1
    | 2, hq => cases hq; exact k2
    | 3, hq => cases hq; exact k3
    | 4, hq => cases hq; exact k4
    | k + 5, hq => simp [vwCl] at hq
  · match k, hq with
    | 0, hq => cases hq; exact aI
    | 1, hq => cases hq; exact aZ
    | 2, hq => cases hq; exact aB
    | 3, hq => cases hq; exact aS
    | k + 4, hq => simp [g_tys] at hq
  · refine ⟨⟨va_Nw.of rfl (hts (.fieldLinkNest RX0 47 RX3 "NAMED_INPUTS" "[I" RX3) (by decide +kernel)), va_Nw.of rfl (hts (.methodLinkNest RX0 54 yX3_isPlaceInRow RX3) (by decide +kernel)), va_Nw.of rfl (hts (.methodLinkNest RX0 72 yX3_asNumber RX3) (by decide +kernel)), va_Nw.of rfl (hts (.methodLinkNest RX3 35 yX1_init RX3) (by decide +kernel)), va_Nw.of rfl (hts (.methodLinkNest RX3 153 yX2_init RX3) (by decide +kernel))⟩, ⟨va_Nw.of rfl (hts (.castable g_IA g_IA) (by decide +kernel)), va_Nw.of rfl (hts (.castable g_IS g_IS) (by decide +kernel))⟩, ⟨va_Nw.of rfl (hts (.declares (Bundle.initS "java/lang/RuntimeException")) (by decide +kernel)), va_Nw.of rfl (hts (.declares (Bundle.initS "java/lang/Exception")) (by decide +kernel)), va_Nw.of rfl (hts (.declares (Bundle.initS "java/lang/Throwable")) (by decide +kernel))⟩, ⟨va_AO.of (hts (.arrayOver (.object RX0)) (by decide +kernel)), va_AO.of (hts (.arrayOver (.object RX2)) (by decide +kernel))⟩, fun q hq => ?_⟩
    obtain ⟨q1, q2⟩ := st_strs q hq
    obtain ⟨sa, _, _, _, h1, -⟩ := Cond.exactly_spec (hs _ q2)
    exact ⟨sa, vk_R.of (hts _ q1) h1⟩
