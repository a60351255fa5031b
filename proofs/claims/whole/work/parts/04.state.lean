/-! What every method here is started with: the tables' words that are no good words, the statics, the texts; the memory of numbers that both sides are pictures of. -/
def g_IA : String := "java/lang/IllegalArgumentException"
def g_IS : String := "java/lang/IllegalStateException"
def g_sup : List String := ["java/lang/RuntimeException", "java/lang/Exception"]
/-- how many inputs a kind names -/
def nmd (k : Nat) : Nat := ([0, 0, 2, 2, 2, 2, 2, 2, 2, 2, 2, 2, 2, 1, 3, 1, 1, 1, 2, 2, 0, 1, 1, 2, 2, 1] : List Nat).getD k 0
def g_strs : List (Nat × String) := [(167, "no such kind"), (55, "there are 40 blocks"), (169, "no such block"), (68, "no such input"), (84, "no such place in a row"), (89, "the block is no ROW"), (100, "no such point"), (113, "no such place in the order"), (115, "n is not 1 to 500"), (117, "there is a ring"), (119, "time would be above 3000"), (127, "a state has the values 0 and 1"), (135, "no such kind of failure"), (143, "no such failure is kept"), (145, "a failure has the facts 0 to 2"), (151, "there are 5 savings"), (158, "no such saving")]
def g_Nst (U : State) : Prop :=
  (va_Nw (.fieldLinkNest RX0 47 RX3 "NAMED_INPUTS" "[I" RX3) U ∧ va_Nw (.methodLinkNest RX0 54 yX3_isPlaceInRow RX3) U ∧ va_Nw (.methodLinkNest RX0 72 yX3_asNumber RX3) U ∧ va_Nw (.methodLinkNest RX3 35 yX1_init RX3) U ∧ va_Nw (.methodLinkNest RX3 153 yX2_init RX3) U) ∧
  (va_Nw (.castable g_IA g_IA) U ∧ va_Nw (.castable g_IS g_IS) U) ∧ (va_Nw (.declares (Bundle.initS "java/lang/RuntimeException")) U ∧ va_Nw (.declares (Bundle.initS "java/lang/Exception")) U ∧ va_Nw (.declares (Bundle.initS "java/lang/Throwable")) U) ∧ (va_AO RX0 U ∧ va_AO RX2 U) ∧ ∀ q ∈ g_strs, ∃ sa : Nat, vk_R RX3 q.1 q.2 sa U
theorem g_Nst.warm {s U : State} (hW : s.WarmedH U.vm) (h : g_Nst s) : g_Nst U := by
  obtain ⟨⟨a1, a2, a3, a4, a5⟩, ⟨b1, b2⟩, ⟨c1, c2, c3⟩, ⟨d1, d2⟩, h5⟩ := h
  refine ⟨⟨va_Nw.warmF hW a1, va_Nw.warmM hW a2, va_Nw.warmM hW a3, va_Nw.warmM hW a4, va_Nw.warmM hW a5⟩, ⟨va_Nw.warmC hW b1, va_Nw.warmC hW b2⟩, ⟨va_Nw.warmD hW c1, va_Nw.warmD hW c2, va_Nw.warmD hW c3⟩, ⟨va_AO.moved hW.alike d1, va_AO.moved hW.alike d2⟩, fun q hq => ?_⟩
  obtain ⟨sa, hs⟩ := h5 q hq
  exact ⟨sa, vk_R.warm hW hs⟩
theorem g_Nst.same {s U : State} (hv : s.vm = U.vm) (h : g_Nst s) : g_Nst U := by
  obtain ⟨⟨a1, a2, a3, a4, a5⟩, ⟨b1, b2⟩, ⟨c1, c2, c3⟩, ⟨d1, d2⟩, h5⟩ := h
  refine ⟨⟨va_Nw.same rfl hv a1, va_Nw.same rfl hv a2, va_Nw.same rfl hv a3, va_Nw.same rfl hv a4, va_Nw.same rfl hv a5⟩, ⟨va_Nw.same rfl hv b1, va_Nw.same rfl hv b2⟩, ⟨va_Nw.same rfl hv c1, va_Nw.same rfl hv c2, va_Nw.same rfl hv c3⟩, ⟨va_AO.moved (by rw [hv]; exact Vm.Alike.refl U.vm) d1, va_AO.moved (by rw [hv]; exact Vm.Alike.refl U.vm) d2⟩, fun q hq => ?_⟩
  obtain ⟨sa, hs⟩ := h5 q hq
  exact ⟨sa, vk_R.same hv.symm hs⟩
abbrev g_tys (cI cZ cB cS : ClassId) : List (ClassId × FieldType) := [(cI, .int), (cZ, .boolean), (cB, .object RX0), (cS, .object RX2)]
def g_E (D : va_G) (cI cZ cB cS : ClassId) (A : Nat → Prop) (U : State) (H : Heap) : Prop :=
  va_K D vwCl (g_tys cI cZ cB cS) U ∧ vx_Zq Bundle.tN "UNASSIGNED_STACK" Bundle.steD A U H ∧ vx_Zq Bundle.tN "SUPPRESSED_SENTINEL" Bundle.listD A U H ∧ (∃ t : Nat, va_Z RX3 "NAMED_INPUTS" "[I" (.ref t) A U H ∧ va_T .int t 26 (fun j => .int (nI (nmd j))) A U H) ∧ g_Nst U
theorem g_E.go {D : va_G} {cI cZ cB cS : ClassId} {A : Nat → Prop} {s U : State} {H H1 : Heap} (hW : s.WarmedH U.vm) (hq : ∀ a : Nat, a < H.size → ¬ A a → H1[a]? = H[a]?) (h : g_E D cI cZ cB cS A s H) : g_E D cI cZ cB cS A U H1 := by
  obtain ⟨h1, h2, h3, ⟨t, h4, h5⟩, h6⟩ := h
  exact ⟨va_K.moved hW.alike h1, (vx_Zq.moved hW.alike h2).kept hq, (vx_Zq.moved hW.alike h3).kept hq, ⟨t, (va_Z.moved hW.alike h4).kept hq, (va_T.moved hW.alike h5).kept hq⟩, h6.warm hW⟩
theorem g_E.same {D : va_G} {cI cZ cB cS : ClassId} {A : Nat → Prop} {s U : State} {H : Heap} (hv : s.vm = U.vm) (h : g_E D cI cZ cB cS A s H) : g_E D cI cZ cB cS A U H := by
  have hal : s.vm.Alike U.vm := by rw [hv]; exact Vm.Alike.refl U.vm
  obtain ⟨h1, h2, h3, ⟨t, h4, h5⟩, h6⟩ := h
  exact ⟨va_K.moved hal h1, vx_Zq.moved hal h2, vx_Zq.moved hal h3, ⟨t, va_Z.moved hal h4, va_T.moved hal h5⟩, h6.same hv⟩
theorem g_E.narrow {D : va_G} {cI cZ cB cS : ClassId} {A B : Nat → Prop} {U : State} {H : Heap} (h : g_E D cI cZ cB cS A U H) (hAB : ∀ q, B q → A q) : g_E D cI cZ cB cS B U H := by
  obtain ⟨h1, h2, h3, ⟨t, h4, h5⟩, h6⟩ := h
  exact ⟨h1, h2.narrow hAB, h3.narrow hAB, ⟨t, h4.narrow hAB, h5.narrow hAB⟩, h6⟩
/-- a method's start, whatever the world -/
def gPc (D : va_G) (cI cZ cB cS : ClassId) (A : Nat → Prop) (dm : Nat → Nat) (en : Nat → Nat → va_E) (ad : Nat → Nat → Nat) (av : List Value) : Array Value → State → Prop := fun v U =>
  v = av.toArray ∧ gw_P D vwCl A dm en ad U.heap ∧ g_E D cI cZ cB cS A U U.heap ∧ ∀ q : Nat, U.heap.size ≤ q → A q
theorem gPc_blind {D : va_G} {cI cZ cB cS : ClassId} {A : Nat → Prop} {dm : Nat → Nat} {en : Nat → Nat → va_E} {ad : Nat → Nat → Nat} {av : List Value} : FrameBlind (gPc D cI cZ cB cS A dm en ad av) := by
  intro a U g mk h
  obtain ⟨h1, h2, h3, h4⟩ := h
  exact ⟨h1, h2, g_E.same (U := U.calling g mk a) rfl h3, h4⟩
section GPC
variable {D : va_G} {cI cZ cB cS : ClassId} {A : Nat → Prop} {dm : Nat → Nat} {en : Nat → Nat → va_E} {ad : Nat → Nat → Nat} {s : State} {H : Heap} {locs : List Loc}
theorem gPc_at (hE : g_E D cI cZ cB cS A s s.heap) (hA : ∀ q : Nat, s.heap.size ≤ q → A q) (hS : va_S A s.heap H locs) (hP : gw_P D vwCl A dm en ad H) {av : List Value} (U : State) (hU : U.heap = H) (hW : s.WarmedH U.vm) : gPc D cI cZ cB cS A dm en ad av av.toArray U := by
  subst hU
  exact ⟨rfl, hP, hE.go hW hS.2.1, fun q hq => hA q (Nat.le_trans hS.1 hq)⟩
theorem gPreS (hE : g_E D cI cZ cB cS A s s.heap) (hA : ∀ q : Nat, s.heap.size ≤ q → A q) (hS : va_S A s.heap H locs) (hP : gw_P D vwCl A dm en ad H) {As : List Value} : PreS s H (gPc D cI cZ cB cS A dm en ad As) As := ⟨gPc_blind, fun U hU hW => gPc_at hE hA hS hP U hU hW⟩
theorem gPreV (hE : g_E D cI cZ cB cS A s s.heap) (hA : ∀ q : Nat, s.heap.size ≤ q → A q) (hS : va_S A s.heap H locs) (hP : gw_P D vwCl A dm en ad H) {As : List Value} {b : Nat} {C : String} (hr : ∃ cell : Cell, H[b]? = some cell ∧ cell.vm.isStatics = false ∧ s.vm.findClass C = some cell.cls) : PreV s H C b (gPc D cI cZ cB cS A dm en ad (.ref b :: As)) As := ⟨gPc_blind, hr, fun U hU hW => gPc_at hE hA hS hP U hU hW⟩
end GPC
section GTOP
variable {p : Program} {l : Launch} {e : Env} {R : Room} {s : State} {m : MethodId} {args : Array Value} {below : List Frame} {meth : Method} {c : Code} {H : Heap} {locs : List Loc} {cells slots : Nat} {Q : State → Prop} {pc : Nat} {ls : Array Slot} {rest : List Value}
theorem lv_toq {x : Int32} (y : Int32) (h : x = y) (k : W p l e R s m args below meth c H locs cells slots Q (F0 m pc ls (.int y :: rest))) : W p l e R s m args below meth c H locs cells slots Q (F0 m pc ls (.int x :: rest)) := by
  rw [h]; exact k
/-- a loop: from its head, with a measure that falls -/
theorem lv_loop (I : Nat → Heap → List Loc → Array Slot → Prop) (step : ∀ (k : Nat) (H : Heap) (locs : List Loc) (ls : Array Slot), I k H locs ls → (∀ (k2 : Nat) (H2 : Heap) (locs2 : List Loc) (ls2 : Array Slot), k2 < k → I k2 H2 locs2 ls2 → W p l e R s m args below meth c H2 locs2 cells slots Q (F0 m pc ls2 [])) → W p l e R s m args below meth c H locs cells slots Q (F0 m pc ls []))
    (k : Nat) {H : Heap} {locs : List Loc} {ls : Array Slot} (h0 : I k H locs ls) : W p l e R s m args below meth c H locs cells slots Q (F0 m pc ls []) := by
  induction k using Nat.strongRecOn generalizing H locs ls with
  | _ k ih => exact step k H locs ls h0 (fun k2 H2 locs2 ls2 hk h2 => ih k2 hk h2)
end GTOP
/-! The memory: numbers by field and place. Fields: 0 kind, 1 p, 2 q, 3 safe value, 4 output, 5 6 state, 7 in hand, 8 its value, 9 wires (three a block), 10 rows (eight a block); 20 points; 22 how many failures; 23 24 25 the latest failures; 30 .. 33 savings. Counters: 0 blocks, 1 savings, 2 failures, 3 time, 10 .. 14 how many blocks a saving has. -/
def wr (σ : Nat → Nat → Int32) (f i : Nat) (v : Int32) : Nat → Nat → Int32 := fun g j => if g = f then (if j = i then v else σ g j) else σ g j
theorem wr_s {σ : Nat → Nat → Int32} {f i : Nat} {v : Int32} : wr σ f i v f i = v := by simp [wr]
theorem wr_f {σ : Nat → Nat → Int32} {f i g j : Nat} {v : Int32} (h : g ≠ f) : wr σ f i v g j = σ g j := by simp [wr, h]
theorem wr_i {σ : Nat → Nat → Int32} {f i j : Nat} {v : Int32} (h : j ≠ i) : wr σ f i v f j = σ f j := by simp [wr, h]
theorem wr_row {σ : Nat → Nat → Int32} {f i : Nat} {v : Int32} : (fun j => wr σ f i v f j) = upd (fun j => σ f j) i v := by
  funext j
  by_cases h : j = i <;> simp [wr, upd, h]
theorem wr_same {σ : Nat → Nat → Int32} {f i : Nat} {v : Int32} (h : σ f i = v) : wr σ f i v = σ := by
  funext g j
  by_cases hg : g = f
  · by_cases hj : j = i
    · subst hg; subst hj; simp [wr, h]
    · simp [wr, hj]
  · simp [wr, hg]
abbrev qf (f : Nat → Option Nat) (n : Nat) : vp_A := (n, .inr (.inr (.inr (.inr f))))
/-- the system's cells. Tags: 0 BlockPrograms, 1 blocks, 2 points, 3 line, 4 placed, 5 Failures, 6 totals, 7 ticks, 8 numbers, 9 kinds, 10 savings, 11 a Block, 12 its wires, 13 its places, 14 a Saving, 15 .. 18 its rows -/
def cEn (cI cZ cB cS : ClassId) (κ : Nat → Nat) (σ sc : Nat → Nat → Int32) (ad : Nat → Nat → Nat) (t i : Nat) : va_E := match t with
  | 0 => .inr (3, [.ref (ad 1 0), .int (nI (κ 0)), .ref (ad 2 0), .int (nI (κ 3)), .ref (ad 3 0), .ref (ad 4 0), .ref (ad 5 0), .ref (ad 10 0), .int (nI (κ 1))])
  | 1 => .inl (cB, qf (fun j => if j < κ 0 then some (ad 11 j) else none) 40)
  | 2 => .inl (cI, 10, .inl (fun j => σ 20 j))
  | 3 => .inl (cI, 40, .inl (fun j => sc 0 j))
  | 4 => .inl (cZ, 40, .inl (fun j => sc 1 j))
  | 5 => .inr (1, [.ref (ad 6 0), .ref (ad 7 0), .ref (ad 8 0), .ref (ad 9 0), .int (nI (κ 2 % 32))])
  | 6 => .inl (cI, 4, .inl (fun j => σ 22 j))
  | 7 => .inl (cI, 32, .inl (fun j => σ 23 j))
  | 8 => .inl (cI, 32, .inl (fun j => σ 24 j))
  | 9 => .inl (cI, 32, .inl (fun j => σ 25 j))
  | 10 => .inl (cS, qf (fun j => if j < κ 1 then some (ad 14 j) else none) 5)
  | 11 => .inr (0, [.int (σ 0 i), .int (σ 1 i), .int (σ 2 i), .int (σ 3 i), .int (σ 4 i), .int (σ 5 i), .int (σ 6 i), .int (σ 7 i), .int (σ 8 i), .ref (ad 12 i), .ref (ad 13 i)])
  | 12 => .inl (cI, 3, .inl (fun k => if k < 3 then σ 9 (3 * i + k) else 0))
  | 13 => .inl (cI, 8, .inl (fun k => if k < 8 then σ 10 (8 * i + k) else 0))
  | 14 => .inr (2, [.int (nI (κ (10 + i))), .ref (ad 15 i), .ref (ad 16 i), .ref (ad 17 i), .ref (ad 18 i)])
  | 15 => .inl (cI, 40, .inl (fun k => if k < 40 then σ 30 (40 * i + k) else 0))
  | 16 => .inl (cI, 40, .inl (fun k => if k < 40 then σ 31 (40 * i + k) else 0))
  | 17 => .inl (cI, 40, .inl (fun k => if k < 40 then σ 32 (40 * i + k) else 0))
  | _ => .inl (cI, 40, .inl (fun k => if k < 40 then σ 33 (40 * i + k) else 0))
def cDm (κ : Nat → Nat) (t : Nat) : Nat := if t < 11 then 1 else if t < 14 then κ 0 else if t < 19 then κ 1 else 0
/-- the reference's cells: tag 0 its object, a tag a field -/
def rEn (cI cZ : ClassId) (κ : Nat → Nat) (σ sc : Nat → Nat → Int32) (ad : Nat → Nat → Nat) (t : Nat) (_ : Nat) : va_E := match t with
  | 0 => .inr (4, [.int (sc 2 0), .int (nI (κ 0)), .ref (ad 2 0), .ref (ad 3 0), .ref (ad 4 0), .ref (ad 5 0), .ref (ad 6 0), .ref (ad 7 0), .ref (ad 8 0), .ref (ad 9 0), .ref (ad 10 0), .ref (ad 11 0), .ref (ad 12 0), .ref (ad 13 0), .int (nI (κ 3)), .ref (ad 15 0), .int (sc 2 1), .ref (ad 17 0), .ref (ad 18 0), .int (nI (κ 2)), .ref (ad 20 0), .int (nI (κ 1)), .ref (ad 22 0), .ref (ad 23 0), .int (sc 2 2)])
  | 2 => .inl (cI, 40, .inl (fun j => σ 0 j))
  | 3 => .inl (cI, 40, .inl (fun j => σ 1 j))
  | 4 => .inl (cI, 40, .inl (fun j => σ 2 j))
  | 5 => .inl (cI, 40, .inl (fun j => σ 3 j))
  | 6 => .inl (cI, 120, .inl (fun j => σ 9 j))
  | 7 => .inl (cI, 40, .inl (fun j => σ 4 j))
  | 8 => .inl (cI, 40, .inl (fun j => σ 5 j))
  | 9 => .inl (cI, 40, .inl (fun j => σ 6 j))
  | 10 => .inl (cI, 320, .inl (fun j => σ 10 j))
  | 11 => .inl (cZ, 40, .inl (fun j => σ 7 j))
  | 12 => .inl (cI, 40, .inl (fun j => σ 8 j))
  | 13 => .inl (cI, 10, .inl (fun j => σ 20 j))
  | 15 => .inl (cI, 40, .inl (fun j => sc 0 j))
  | 17 => .inl (cZ, 40, .inl (fun j => sc 1 j))
  | 18 => .inl (cI, 4, .inl (fun j => σ 22 j))
  | 20 => .inl (cI, 96, .inl (fun j => σ (23 + j % 3) (j / 3)))
  | 22 => .inl (cI, 5, .inl (fun j => nI (κ (10 + j))))
  | _ => .inl (cI, 800, .inl (fun j => σ (30 + j % 4) (j / 4)))
def rDm (t : Nat) : Nat := if t = 0 ∨ (2 ≤ t ∧ t < 14) ∨ t = 15 ∨ t = 17 ∨ t = 18 ∨ t = 20 ∨ t = 22 ∨ t = 23 then 1 else 0
abbrev cW (D : va_G) (cI cZ cB cS : ClassId) (A : Nat → Prop) (κ : Nat → Nat) (σ sc : Nat → Nat → Int32) (ad : Nat → Nat → Nat) (H : Heap) : Prop := gw_P D vwCl A (cDm κ) (cEn cI cZ cB cS κ σ sc ad) ad H
abbrev rW (D : va_G) (cI cZ : ClassId) (A : Nat → Prop) (κ : Nat → Nat) (σ sc : Nat → Nat → Int32) (ad : Nat → Nat → Nat) (H : Heap) : Prop := gw_P D vwCl A rDm (rEn cI cZ κ σ sc ad) ad H
