/-! The law: a system's picture, a reference's picture, a row of one long, side by side. -/
/-- a method that has handlers and lets nothing out -/
theorem Met.ofWX {l : Launch} {y : MethodName} {ws ws' : List Cond} {rm : Room} {Pc : Array Value → State → Prop} {Qc : Array Value → State → Outcome → State → Prop} {mc ms : Nat} {free : Addr → Prop} {cc : ByteArray} {maxL : Nat} {ret : Option FieldType} {hh : List (Nat × Nat × Nat × Nat)}
    (hy : plainName y.cls = true) (hw : ws = Cond.codeWith y cc maxL ret hh :: ws')
    (body : ∀ p e s m args below meth c s₁, BodyLoose p l y (headSpec ws rm) cc maxL ret e s m args below meth c s₁ → c.maxLocals = maxL → c.exceptionTable.toList = tableOf hh → Pc args s →
      W p l e (headSpec ws rm).room s m args below meth c s.heap [] 0 0 (MQ below Qc args s mc ms free) (entryFrame m args maxL)) : Met l y ws rm Pc Qc mc ms free := by
  refine MetFree.of_bodyS (code := cc) (maxLocals := maxL) (ret := ret) hy ?_ ?_
  · intro args s m h hn
    obtain ⟨m9, meth, c, hn9, h1, h2, h3, h4, -, h5, h6, -⟩ := Cond.codeWith_spec (atoms_spec (ws := ws) h _ (by rw [hw]; exact List.mem_cons_self))
    cases hn.symm.trans hn9
    exact ⟨meth, c, h1, h2, h3, h4, h5, h6⟩
  · intro p e s m args below meth c s₁ B hml hP _
    have hh0 : s₁.heap = s.heap := by rw [B.state]; rfl
    have htab := vx_table (x := y) B (atoms_spec (ws := ws) B.pre _ (by rw [hw]; exact List.mem_cons_self))
    obtain ⟨t, a1, o, b1, b2, b3⟩ := body p e s m args below meth c s₁ B hml htab hP s₁ hh0 (Stand.of_body B)
    exact ⟨t, o, a1, b1, b2, ⟨b3.1, b3.2⟩⟩
abbrev oRow (cL : ClassId) (f : Nat → Int64) : va_E := .inl (cL, 1, .inr (.inl f))
def l_E (D : va_G) (cI cZ cB cS cL : ClassId) (A : Nat → Prop) (U : State) (H : Heap) : Prop := g_E D cI cZ cB cS A U H ∧ va_K D vwCl [(cL, .long)] U ∧ va_Nc g_IS g_IA U
def lPc (D : va_G) (cI cZ cB cS cL : ClassId) (A : Nat → Prop) (dm : Nat → Nat) (en : Nat → Nat → va_E) (ad : Nat → Nat → Nat) (o : Nat) (f : Nat → Int64) (av : List Value) : Array Value → State → Prop := fun v U =>
  v = av.toArray ∧ gw_P D vwCl (fun q => A q ∧ q ≠ o) dm en ad U.heap ∧ va_at D vwCl (o, oRow cL f) U.heap ∧ A o ∧ l_E D cI cZ cB cS cL A U U.heap ∧ ∀ q : Nat, U.heap.size ≤ q → A q
theorem lPc_blind {D : va_G} {cI cZ cB cS cL : ClassId} {A : Nat → Prop} {dm : Nat → Nat} {en : Nat → Nat → va_E} {ad : Nat → Nat → Nat} {o : Nat} {f : Nat → Int64} {av : List Value} : FrameBlind (lPc D cI cZ cB cS cL A dm en ad o f av) := by
  intro a U g mk h
  obtain ⟨h1, h2, h3, h4, ⟨h5, h6, h7⟩, h8⟩ := h
  exact ⟨h1, h2, h3, h4, ⟨g_E.same (U := U.calling g mk a) rfl h5, va_K.moved (u := U) (U := U.calling g mk a) (Vm.Alike.refl U.vm) h6, va_Nc.moved (u := U) (U := U.calling g mk a) (Vm.Alike.refl U.vm) h7⟩, h8⟩
abbrev LU : Type := (Nat → Nat → Nat) × (Nat → Nat → Int32) × (Nat → Int64)
/-- what a call of the law's leaves: its code, what stands in the row of one, the system's picture -/
abbrev lQ (D : va_G) (cI cZ cB cS cL : ClassId) (A : Nat → Prop) (o cd : Nat) (rv : Int64) (κ : Nat → Nat) (σ : Nat → Nat → Int32) (a0 : Nat) : Array Value → State → Outcome → State → Prop :=
  va_Qi (fun (r : Int32) (u : LU) => r = nI cd ∧ (cd = 0 → u.2.2 0 = rv) ∧ u.1 0 0 = a0) (fun u t => gw_P D vwCl (fun q => A q ∧ q ≠ o) (cDm κ) (cEn cI cZ cB cS κ σ u.2.1 u.1) u.1 t.heap ∧ va_at D vwCl (o, oRow cL u.2.2) t.heap) A
section LAWH
variable {p : Program} {l : Launch} {e : Env} {R : Room} {s : State} {m : MethodId} {args : Array Value} {below : List Frame} {meth : Method} {c : Code} {H : Heap} {locs : List Loc} {cells slots : Nat} {Q : State → Prop}
variable {cc : ByteArray} {pc : Nat} {ls : Array Slot} {rest : List Value} {D : va_G} {cl : List vw_C} {A : Nat → Prop} {tys : List (ClassId × FieldType)} {H0 : Heap} {dm : Nat → Nat} {en : Nat → Nat → va_E} {ad : Nat → Nat → Nat} {cI cZ cB cS cL : ClassId}
theorem gl_last (hexec : p.tables.exec = Jvm.exec) (hb : c.code = cc) (hK : va_K D cl [(cL, .long)] s) {o : Nat} {f : Nat → Int64} (hat : va_at D cl (o, oRow cL f) H) (hS : va_S A H0 H locs) (ho : A o) {v : Int64} (hdg : decode cc pc = .ok (.lastore, 1))
    (kk : ∀ (H1 : Heap) (locs1 : List Loc), va_at D cl (o, oRow cL (vp_updL f 0 v)) H1 → (∀ q : Nat, q ≠ o → H1[q]? = H[q]?) → va_S A H0 H1 locs1 → W p l e R s m args below meth c H1 locs1 cells slots Q (F0 m (pc + 1) ls rest)) : W p l e R s m args below meth c H locs cells slots Q (F0 m pc ls (.long v :: .int 0 :: .ref o :: rest)) := by
  have hin : vp_in (0 : Int32) 1 := vp_in_nI (show 0 < 1 by decide) (by decide)
  refine W.last hexec hb hat ((hK.2 0 _ rfl).1 1 (fun j => .long (f j))) (fun q => by cases q) (by show ¬ ((0 : Int32) < 0 ∨ (arrV _ _ _).slots.size ≤ _); rw [arrV_size]; exact hin) rfl rfl hdg fun H1 e1 z oq => ?_
  refine kk H1 _ ?_ oq (hS.put z oq ho)
  show H1[o]? = some (vp_cell _ _)
  rw [e1]
  rw [vp_cell_l, vp_cell_l, arrV_store]
  congr 2
  funext q
  by_cases hq : q = 0
  · subst hq
    simp [updV, vp_updL]
  · simp [updV, vp_updL, hq]
theorem updL_0 {f : Nat → Int64} {v : Int64} : vp_updL f 0 v 0 = v := by simp [vp_updL]
theorem row_0 {a : Nat → Nat → Nat} {b : Nat → Nat → Int32} {f : Nat → Int64} {v w : Int64} (h : v = w) : ((a, b, vp_updL f 0 v) : LU).2.2 0 = w := by
  subst h
  show vp_updL f 0 v 0 = v
  exact updL_0
theorem lPreV (hE : g_E D cI cZ cB cS A s s.heap) (h1 : s.heap.size ≤ H.size) (h2 : ∀ q : Nat, q < s.heap.size → ¬ A q → H[q]? = s.heap[q]?) (hA : ∀ q : Nat, H.size ≤ q → A q) (hP : gw_P D vwCl A dm en ad H) {As : List Value} {b : Nat} {C : String} (hr : ∃ cell : Cell, H[b]? = some cell ∧ cell.vm.isStatics = false ∧ s.vm.findClass C = some cell.cls) : PreV s H C b (gPc D cI cZ cB cS A dm en ad (.ref b :: As)) As :=
  ⟨gPc_blind, hr, fun U hU hW => by subst hU; exact ⟨rfl, hP, hE.go hW h2, hA⟩⟩
end LAWH
def lA0 (s : State) (q : Nat) : Prop := s.heap.size ≤ q
def lA (s : State) (rad : Nat → Nat → Nat) (q : Nat) : Prop := s.heap.size ≤ q ∧ ∀ t i : Nat, i < rDm t → q ≠ rad t i
def lR (rad : Nat → Nat → Nat) (z : Nat) (q : Nat) : Prop := (∃ t i : Nat, i < rDm t ∧ q = rad t i) ∨ z ≤ q
def LC (D : va_G) (cI cZ cB cS cL : ClassId) (s : State) (o : Nat) (rad : Nat → Nat → Nat) : Prop := l_E D cI cZ cB cS cL (lA0 s) s s.heap ∧ s.heap.size ≤ o ∧ ∀ t i : Nat, i < rDm t → rad t i ≠ o
/-- both pictures and the row -/
def LW (D : va_G) (cI cZ cB cS cL : ClassId) (s : State) (o : Nat) (rad : Nat → Nat → Nat) (κ : Nat → Nat) (σ : Nat → Nat → Int32) (κ2 : Nat → Nat) (σ2 sc u : Nat → Nat → Int32) (ad : Nat → Nat → Nat) (f : Nat → Int64) (H : Heap) (locs : List Loc) : Prop :=
  gw_P D vwCl (fun q => lA s rad q ∧ q ≠ o) (cDm κ) (cEn cI cZ cB cS κ σ sc ad) ad H ∧ gw_P D vwCl (lA0 s) rDm (rEn cI cZ κ2 σ2 u rad) rad H ∧ va_at D vwCl (o, oRow cL f) H ∧ va_S (lA0 s) s.heap H locs
section LAWS
variable {D : va_G} {cI cZ cB cS cL : ClassId} {s : State} {o : Nat} {rad : Nat → Nat → Nat} {κ κ2 κ3 : Nat → Nat} {σ σ2 σ3 sc sc3 u u3 : Nat → Nat → Int32} {ad ad3 : Nat → Nat → Nat} {f f3 : Nat → Int64} {H H1 : Heap} {locs locs1 : List Loc}
theorem LW.rlt (h : LW D cI cZ cB cS cL s o rad κ σ κ2 σ2 sc u ad f H locs) {t i : Nat} (hi : i < rDm t) : rad t i < H.size := h.2.1.lt hi
theorem lPreS (hC : LC D cI cZ cB cS cL s o rad) (h : LW D cI cZ cB cS cL s o rad κ σ κ2 σ2 sc u ad f H locs) {av : List Value} : PreS s H (lPc D cI cZ cB cS cL (lA s rad) (cDm κ) (cEn cI cZ cB cS κ σ sc ad) ad o f av) av :=
  ⟨lPc_blind, fun U hU hW => by
    subst hU
    refine ⟨rfl, h.1, h.2.2.1, ⟨hC.2.1, fun t i hi z => hC.2.2 t i hi z.symm⟩, ⟨(hC.1.1.go hW h.2.2.2.2.1).narrow (fun q hq => hq.1), va_K.moved hW.alike hC.1.2.1, va_Nc.moved hW.alike hC.1.2.2⟩, fun q hq => ⟨Nat.le_trans h.2.2.2.1 hq, fun t i hi z => ?_⟩⟩
    have := h.rlt hi
    omega⟩
theorem lPreM (hC : LC D cI cZ cB cS cL s o rad) (h : LW D cI cZ cB cS cL s o rad κ σ κ2 σ2 sc u ad f H locs) {As : List Value} : PreV s H RX4 (rad 0 0) (gPc D cI cZ cB cS (lR rad H.size) rDm (rEn cI cZ κ2 σ2 u rad) rad (.ref (rad 0 0) :: As)) As := by
  have hN : ∀ q : Nat, lR rad H.size q → lA0 s q := fun q hq => by
    rcases hq with ⟨t, i, hi, rfl⟩ | hq
    · exact h.2.1.2.1 t i hi
    · exact Nat.le_trans h.2.2.2.1 hq
  refine lPreV (hC.1.1.narrow hN) h.2.2.2.1 (fun q hq _ => h.2.2.2.2.1 q hq (Nat.not_le.mpr hq)) (fun q hq => Or.inr hq) (h.2.1.weaken (fun t i hi => Or.inl ⟨t, i, hi, rfl⟩)) (gw_recv hC.1.1.1 h.2.1 0 0 (rDf (by decide)) rfl rfl)
theorem lPreC (hC : LC D cI cZ cB cS cL s o rad) (h : LW D cI cZ cB cS cL s o rad κ σ κ2 σ2 sc u ad f H locs) {As : List Value} : PreV s H RX3 (ad 0 0) (gPc D cI cZ cB cS (fun q => lA s rad q ∧ q ≠ o) (cDm κ) (cEn cI cZ cB cS κ σ sc ad) ad (.ref (ad 0 0) :: As)) As := by
  refine lPreV (hC.1.1.narrow (fun q hq => hq.1.1)) h.2.2.2.1 (fun q hq _ => h.2.2.2.2.1 q hq (Nat.not_le.mpr hq)) (fun q hq => ⟨⟨Nat.le_trans h.2.2.2.1 hq, fun t i hi z => ?_⟩, fun z => ?_⟩) h.1 (gw_recv hC.1.1.1 h.1 0 0 (cDf (by decide)) rfl rfl)
  · have := h.rlt hi
    omega
  · have := h.2.2.1.lt
    have : o < H.size := this
    omega
/-- the law has called its own method -/
theorem LW.h (h : LW D cI cZ cB cS cL s o rad κ σ κ2 σ2 sc u ad f H locs) (h1 : gw_P D vwCl (fun q => lA s rad q ∧ q ≠ o) (cDm κ3) (cEn cI cZ cB cS κ3 σ3 sc3 ad3) ad3 H1 ∧ va_at D vwCl (o, oRow cL f3) H1) (hk : ∀ q : Nat, q < H.size → ¬ lA s rad q → H1[q]? = H[q]?) (hS : va_S (lA0 s) s.heap H1 locs1) : LW D cI cZ cB cS cL s o rad κ3 σ3 κ2 σ2 sc3 u ad3 f3 H1 locs1 :=
  ⟨h1.1, h.2.1.kept (fun t i hi => hk _ (h.rlt hi) (fun z => z.2 t i hi rfl)), h1.2, hS⟩
/-- .. a method of the reference -/
theorem LW.m (hC : LC D cI cZ cB cS cL s o rad) (h : LW D cI cZ cB cS cL s o rad κ σ κ2 σ2 sc u ad f H locs) (h1 : gw_P D vwCl (lR rad H.size) rDm (rEn cI cZ κ3 σ3 u3 rad) rad H1) (hk : ∀ q : Nat, q < H.size → ¬ lR rad H.size q → H1[q]? = H[q]?) (hS : va_S (lA0 s) s.heap H1 locs1) : LW D cI cZ cB cS cL s o rad κ σ κ3 σ3 sc u3 ad f H1 locs1 := by
  refine ⟨h.1.kept (fun t i hi => hk _ (h.1.lt hi) (fun z => ?_)), h1.weaken (fun t i hi => h.2.1.2.1 t i hi), h.2.2.1.kept (hk _ h.2.2.1.lt (fun z => ?_)), hS⟩
  · rcases z with ⟨t2, i2, hi2, z⟩ | z
    · exact (h.1.2.1 t i hi).1.2 t2 i2 hi2 z
    · have := h.1.lt hi
      omega
  · rcases z with ⟨t2, i2, hi2, z⟩ | z
    · exact hC.2.2 t2 i2 hi2 z.symm
    · have := h.2.2.1.lt
      omega
/-- .. one of the class, without a handler -/
theorem LW.c (h : LW D cI cZ cB cS cL s o rad κ σ κ2 σ2 sc u ad f H locs) (h1 : gw_P D vwCl (fun q => lA s rad q ∧ q ≠ o) (cDm κ3) (cEn cI cZ cB cS κ3 σ3 sc3 ad3) ad3 H1) (hk : ∀ q : Nat, q < H.size → ¬ (lA s rad q ∧ q ≠ o) → H1[q]? = H[q]?) (hS : va_S (lA0 s) s.heap H1 locs1) : LW D cI cZ cB cS cL s o rad κ3 σ3 κ2 σ2 sc3 u ad3 f H1 locs1 :=
  ⟨h1, h.2.1.kept (fun t i hi => hk _ (h.rlt hi) (fun z => z.1.2 t i hi rfl)), h.2.2.1.kept (hk _ h.2.2.1.lt (fun z => z.2 rfl)), hS⟩
end LAWS
theorem i64_eq {a b : Int32} (h : a.toInt64 = b.toInt64) : a = b := by
  have h1 : a.toInt64.toInt = b.toInt64.toInt := by rw [h]
  rw [Int32.toInt_toInt64, Int32.toInt_toInt64] at h1
  exact Int32.toInt_inj.mp h1
