/-! Throws of the class, and calls that answer a reference or throw. -/
section GXT
variable {p : Program} {l : Launch} {e : Env} {R : Room} {s : State} {m : MethodId} {args : Array Value} {below : List Frame} {meth : Method} {c : Code} {H : Heap} {locs : List Loc} {cells slots : Nat}
variable {mc ms : Nat} {free : Addr → Prop} {ls : Array Slot} {rest : List Value} {Qc : Array Value → State → Outcome → State → Prop} {XC : String → State → State → Prop}
variable {D : va_G} {cI cZ cB cS : ClassId} {A : Nat → Prop}
def g_non (E : String) : List Cond := [.castable E E, .declares (Bundle.initS "java/lang/RuntimeException"), .declares (Bundle.initS "java/lang/Exception"), .declares (Bundle.initS "java/lang/Throwable")]
theorem g_non_IA : ∀ w ∈ (vx_atS RX3 70 g_IA g_sup).filter (fun w => !goodWord w), w ∈ g_non g_IA := by decide +kernel
theorem g_non_IS : ∀ w ∈ (vx_atS RX3 57 g_IS g_sup).filter (fun w => !goodWord w), w ∈ g_non g_IS := by decide +kernel
theorem g_ot_IA : ∀ w ∈ Cond.classLink RX3 66 g_IA :: Cond.initialized g_IA :: vx_atS RX3 70 g_IA g_sup, vx_ot w = true := by decide +kernel
theorem g_ot_IS : ∀ w ∈ Cond.classLink RX3 53 g_IS :: Cond.initialized g_IS :: vx_atS RX3 57 g_IS g_sup, vx_ot w = true := by decide +kernel
def g_wIA : List Cond := Cond.classLink RX3 66 g_IA :: Cond.initialized g_IA :: (vx_atS RX3 70 g_IA g_sup).filter goodWord
def g_wIS : List Cond := Cond.classLink RX3 53 g_IS :: Cond.initialized g_IS :: (vx_atS RX3 57 g_IS g_sup).filter goodWord
theorem gx_IA {cc : ByteArray} {pc : Nat} (hexec : p.tables.exec = Jvm.exec) (hb : c.code = cc) (hl : l.stackTraces = false) (is : Nat) (text : String) (hin : (is, text) ∈ g_strs) (hown : s.vm.findClass RX3 = some m.cls) (hw : ∀ w ∈ g_wIA, w.before args s = true) (hE : g_E D cI cZ cB cS A s s.heap) (hS : va_S A s.heap H locs) (hsize : ls.size = c.maxLocals)
    (d0 : decode cc pc = .ok (.new 66, 3)) (d3 : decode cc (pc + 3) = .ok (.dup, 1)) (d4 : decode cc (pc + 4) = .ok (.ldc is, 2)) (d6 : decode cc (pc + 6) = .ok (.invokespecial 70, 3)) (d9 : decode cc (pc + 9) = .ok (.athrow, 1)) (htab : ∀ x ∈ c.exceptionTable.toList, False)
    (hRf : 5 < R.frames) (hRl : (rest.map fun v => v.category).sum + 82 ≤ R.locals) (hRc : cells + 1 ≤ R.cells) (hRs : slots + 6 ≤ R.slots) (hlocks : meth.locks = false)
    (hx : ∀ t : State, s.vm.Alike t.vm → H.size ≤ t.heap.size → (∀ q : Nat, q < H.size → t.heap[q]? = H[q]?) → XC g_IA s t) (hf : ∀ z ∈ locs, free z.base) (hc : cells + 1 ≤ mc) (hs : slots + 6 ≤ ms) : W p l e R s m args below meth c H locs cells slots (vx_MQ below Qc XC args s mc ms free) (F0 m pc ls rest) := by
  obtain ⟨hK, hU, hN, hT, hG⟩ := hE
  obtain ⟨-, ⟨b1, b2⟩, ⟨c1, c2, c3⟩, -, h5⟩ := hG
  obtain ⟨sa, hstr⟩ := h5 _ hin
  have hat : ∀ w ∈ vx_atS RX3 70 g_IA g_sup, w.before args s = true := vx_hat (fun w h => hw w (List.mem_cons_of_mem _ (List.mem_cons_of_mem _ h))) g_non_IA (vx_c (va_Nw.use rfl b1) (vx_c (va_Nw.use rfl c1) (vx_c (va_Nw.use rfl c2) (vx_c (va_Nw.use rfl c3) vx_n))))
  exact vx_throwS (names := g_sup) hexec hb hl hown (by decide +kernel) (by decide +kernel) (hw _ List.mem_cons_self) (hw _ (List.mem_cons_of_mem _ List.mem_cons_self)) hstr hat g_ot_IA hU hN hS hsize d0 d3 d4 d6 d9 (fun x h => (htab x h).elim) hRf hRl hRc hRs hlocks hx hf hc hs
theorem gx_IS {cc : ByteArray} {pc : Nat} (hexec : p.tables.exec = Jvm.exec) (hb : c.code = cc) (hl : l.stackTraces = false) (is : Nat) (text : String) (hin : (is, text) ∈ g_strs) (hown : s.vm.findClass RX3 = some m.cls) (hw : ∀ w ∈ g_wIS, w.before args s = true) (hE : g_E D cI cZ cB cS A s s.heap) (hS : va_S A s.heap H locs) (hsize : ls.size = c.maxLocals)
    (d0 : decode cc pc = .ok (.new 53, 3)) (d3 : decode cc (pc + 3) = .ok (.dup, 1)) (d4 : decode cc (pc + 4) = .ok (.ldc is, 2)) (d6 : decode cc (pc + 6) = .ok (.invokespecial 57, 3)) (d9 : decode cc (pc + 9) = .ok (.athrow, 1)) (htab : ∀ x ∈ c.exceptionTable.toList, False)
    (hRf : 5 < R.frames) (hRl : (rest.map fun v => v.category).sum + 82 ≤ R.locals) (hRc : cells + 1 ≤ R.cells) (hRs : slots + 6 ≤ R.slots) (hlocks : meth.locks = false)
    (hx : ∀ t : State, s.vm.Alike t.vm → H.size ≤ t.heap.size → (∀ q : Nat, q < H.size → t.heap[q]? = H[q]?) → XC g_IS s t) (hf : ∀ z ∈ locs, free z.base) (hc : cells + 1 ≤ mc) (hs : slots + 6 ≤ ms) : W p l e R s m args below meth c H locs cells slots (vx_MQ below Qc XC args s mc ms free) (F0 m pc ls rest) := by
  obtain ⟨hK, hU, hN, hT, hG⟩ := hE
  obtain ⟨-, ⟨b1, b2⟩, ⟨c1, c2, c3⟩, -, h5⟩ := hG
  obtain ⟨sa, hstr⟩ := h5 _ hin
  have hat : ∀ w ∈ vx_atS RX3 57 g_IS g_sup, w.before args s = true := vx_hat (fun w h => hw w (List.mem_cons_of_mem _ (List.mem_cons_of_mem _ h))) g_non_IS (vx_c (va_Nw.use rfl b2) (vx_c (va_Nw.use rfl c1) (vx_c (va_Nw.use rfl c2) (vx_c (va_Nw.use rfl c3) vx_n))))
  exact vx_throwS (names := g_sup) hexec hb hl hown (by decide +kernel) (by decide +kernel) (hw _ List.mem_cons_self) (hw _ (List.mem_cons_of_mem _ List.mem_cons_self)) hstr hat g_ot_IS hU hN hS hsize d0 d3 d4 d6 d9 (fun x h => (htab x h).elim) hRf hRl hRc hRs hlocks hx hf hc hs
variable {Q : State → Prop} {A0 A1 : Nat → Prop} {H0 : Heap} {a : Array Value} {pc : Nat} {st0 : List Value}
theorem gx_callr {S SX : Type} {post : S → Prop} {px : SX → Prop} {B : S → Nat → State → Prop} {BX : String → SX → State → Prop} {AX : Nat → Prop} (hr : vx_Run p l e R s m args below meth c H locs cells slots mc ms (F0 m pc ls st0) rest (va_Qr post B A1 a) (vx_X px BX AX) free) (hS : va_S A0 H0 H locs) (hA : ∀ q, q < H.size → A1 q → A0 q) (hf : ∀ q, free q → A0 q) (hAX : ∀ q, q < H.size → AX q → A0 q)
    (kx : ∀ (E : String) (ce : Cell) (q9 : Addr) (u : SX) (t : State) (H1 : Heap) (locs1 : List Loc), t.heap = H1 → s.vm.Alike t.vm → px u → BX E u t → H.size ≤ H1.size → (∀ q : Nat, q < H.size → ¬ AX q → H1[q]? = H[q]?) → va_S A0 H0 H1 locs1 → H1[q9]? = some ce → ce.vm = .none → s.vm.findClass E = some ce.cls → vx_W p l e R s m args below meth c H1 locs1 (cells + mc) (slots + ms) Q (F0 m pc ls rest) q9)
    (kk : ∀ (u : S) (ra : Nat) (t : State) (H1 : Heap) (locs1 : List Loc), t.heap = H1 → s.vm.Alike t.vm → post u → B u ra t → H.size ≤ H1.size → (∀ q : Nat, q < H.size → ¬ A1 q → H1[q]? = H[q]?) → va_S A0 H0 H1 locs1 → W p l e R s m args below meth c H1 locs1 (cells + mc) (slots + ms) Q (F0 m (pc + 3) ls (.ref ra :: rest))) : W p l e R s m args below meth c H locs cells slots Q (F0 m pc ls st0) := by
  intro T hT X
  rcases hr T hT X with ⟨v, st₀, t, T', L, h0, X', hL, e1, e2, ⟨⟨u, ra, hv, hp, hb⟩, hF⟩, st⟩ | ⟨q, st₀, t, T', L, E, ce, h0, X', hL, e1, e2, ⟨u, hp, hb, hF⟩, hce, hcv, hcl, st⟩
  · cases hv
    obtain ⟨k1, k2, k3⟩ := vx_keep h0 e1 hS hA hf hL hF
    obtain ⟨t2, a1, b1⟩ := kk u ra t T'.heap (locs ++ L) e1.symm (by rw [← e2]; exact X'.warmed.alike) hp hb k1 k2 k3 T' rfl X'
    exact ⟨t2, st t2 a1, b1⟩
  · obtain ⟨k1, k2, k3⟩ := vx_keep h0 e1 hS hAX hf hL hF
    obtain ⟨t2, a1, b1⟩ := kx E ce q u t T'.heap (locs ++ L) e1.symm (by rw [← e2]; exact X'.warmed.alike) hp hb k1 k2 k3 (by rw [e1]; exact hce) hcv hcl T' rfl X'
    exact ⟨t2, st.trans a1, b1⟩
end GXT
/-! What each call is worth: 0 it goes, 1 or 2 it throws (the law's numbers); what it answers, what it leaves. -/
def cBlock (κ : Nat → Nat) (y0 : Int32) : Nat := if okI 26 y0 then (if κ 0 = 40 then 2 else 0) else 1
def sBlock (κ : Nat → Nat) (σ : Nat → Nat → Int32) (y0 : Int32) : Nat → Nat → Int32 := wr (wr (wr (wr σ 0 (κ 0) y0) 9 (3 * κ 0 + 0) (-1)) 9 (3 * κ 0 + 1) (-1)) 9 (3 * κ 0 + 2) (-1)
def cWire (κ : Nat → Nat) (y0 y1 y2 : Int32) : Nat := if okI (κ 0) y0 ∧ okI 3 y1 ∧ (y2 = -1 ∨ okI (κ 0) y2) then 0 else 1
def cOne (n : Nat) (y0 : Int32) : Nat := if okI n y0 then 0 else 1
def cTwo (n k : Nat) (y0 y1 : Int32) : Nat := if okI n y0 ∧ okI k y1 then 0 else 1
def cRow (κ : Nat → Nat) (σ : Nat → Nat → Int32) (y0 y1 : Int32) : Nat := if okI (κ 0) y0 ∧ okI 8 y1 then (if σ 0 y0.toNatClampNeg = 15 then 0 else 2) else 1
def cRun (κ : Nat → Nat) (σ : Nat → Nat → Int32) (y0 : Int32) : Nat := if 1 ≤ y0 ∧ y0 ≤ 500 then (if comeF (κ 0) σ < κ 0 ∨ 3000 < κ 3 + y0.toNatClampNeg then 2 else 0) else 1
def cSave (κ : Nat → Nat) : Nat := if κ 1 = 5 then 1 else 0
theorem ix_le {n : Nat} {x : Int32} (hn : n + 1 < 2 ^ 31) (h : x ≤ nI n) : ¬ nI (n + 1) ≤ x := by
  intro z
  rw [Int32.le_iff_toInt_le, nI_toInt (by omega)] at h z
  omega
theorem ix_gt {n : Nat} {x : Int32} (hn : n + 1 < 2 ^ 31) (h : ¬ x ≤ nI n) : nI (n + 1) ≤ x := by
  rw [Int32.le_iff_toInt_le, nI_toInt (by omega)] at h ⊢
  omega
