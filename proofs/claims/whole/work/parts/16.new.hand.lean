/-! What is made: new cells in a list of their own, behind all that there are. -/
section GNW
variable {p : Program} {l : Launch} {e : Env} {R : Room} {s : State} {m : MethodId} {args : Array Value} {below : List Frame} {meth : Method} {c : Code} {H : Heap} {locs : List Loc} {cells slots : Nat} {Q : State → Prop}
variable {cc : ByteArray} {pc : Nat} {ls : Array Slot} {rest : List Value} {D : va_G} {A : Nat → Prop} {H0 : Heap} {dm : Nat → Nat} {en : Nat → Nat → va_E} {ad : Nat → Nat → Nat} {ws : va_W} {cI cZ cB cS cA : ClassId}
theorem gl_cI (h : va_K D vwCl (g_tys cI cZ cB cS ++ [(cA, .int)]) s) : cA = cI := by
  have h0 : s.vm.findClass _ = some cI := (h.2 0 _ rfl).2
  have h4 : s.vm.findClass _ = some cA := (h.2 4 _ rfl).2
  exact Option.some.inj (h4.symm.trans h0)
theorem gl_cZ (h : va_K D vwCl (g_tys cI cZ cB cS ++ [(cA, .boolean)]) s) : cA = cZ := by
  have h0 : s.vm.findClass _ = some cZ := (h.2 1 _ rfl).2
  have h4 : s.vm.findClass _ = some cA := (h.2 4 _ rfl).2
  exact Option.some.inj (h4.symm.trans h0)
theorem gl_cB (h : va_K D vwCl (g_tys cI cZ cB cS ++ [(cA, .object RX0)]) s) : cA = cB := by
  obtain ⟨_, _, _, _, _, h0⟩ := (h.2 2 _ rfl).2
  obtain ⟨_, _, _, _, _, h4⟩ := (h.2 4 _ rfl).2
  exact Option.some.inj (h4.symm.trans h0)
theorem gl_cS (h : va_K D vwCl (g_tys cI cZ cB cS ++ [(cA, .object RX2)]) s) : cA = cS := by
  obtain ⟨_, _, _, _, _, h0⟩ := (h.2 3 _ rfl).2
  obtain ⟨_, _, _, _, _, h4⟩ := (h.2 4 _ rfl).2
  exact Option.some.inj (h4.symm.trans h0)
theorem gl_newi (hexec : p.tables.exec = Jvm.exec) (hb : c.code = cc) (harr : (Cond.arrayClass (newarray.typeOf .int)).before args s = true) (hK : va_K D vwCl (g_tys cI cZ cB cS) s) (hP : va_P D vwCl ws H) (hD : va_D A ws) (hS : va_S A H0 H locs) (hA : ∀ q, H0.size ≤ q → A q)
    {n : Int32} {N' : Nat} (hn : ¬ n < 0) (hN : n.toNatClampNeg = N') (hbytes : N' * componentBytes .int ≤ 536870912) (hcells : cells + 1 ≤ R.cells) (hslots : slots + N' ≤ R.slots) (hdg : decode cc pc = .ok (.newarray .int, 2))
    (kk : ∀ (q : Nat) (H1 : Heap), va_P D vwCl (ws ++ [(q, .inl (cI, N', .inl (fun _ => 0)))]) H1 → va_D A (ws ++ [(q, .inl (cI, N', .inl (fun _ => 0)))]) → va_S A H0 H1 locs →
      W p l e R s m args below meth c H1 locs (cells + 1) (slots + N') Q (F0 m (pc + 2) ls (.ref q :: rest))) : W p l e R s m args below meth c H locs cells slots Q (F0 m pc ls (.int n :: rest)) :=
  va_newa (ty := .int) hexec hb harr rfl hK hP hD hS hA (a0 := (N', .inl (fun _ => 0))) (fun _ => rfl) hn hN hbytes hcells hslots hdg fun q cA H1 h1 h2 h3 h4 => by
    have e := gl_cI h1
    subst e
    exact kk q H1 h2 h3 h4
theorem gl_newz (hexec : p.tables.exec = Jvm.exec) (hb : c.code = cc) (harr : (Cond.arrayClass (newarray.typeOf .boolean)).before args s = true) (hK : va_K D vwCl (g_tys cI cZ cB cS) s) (hP : va_P D vwCl ws H) (hD : va_D A ws) (hS : va_S A H0 H locs) (hA : ∀ q, H0.size ≤ q → A q)
    {n : Int32} {N' : Nat} (hn : ¬ n < 0) (hN : n.toNatClampNeg = N') (hbytes : N' * componentBytes .boolean ≤ 536870912) (hcells : cells + 1 ≤ R.cells) (hslots : slots + N' ≤ R.slots) (hdg : decode cc pc = .ok (.newarray .boolean, 2))
    (kk : ∀ (q : Nat) (H1 : Heap), va_P D vwCl (ws ++ [(q, .inl (cZ, N', .inl (fun _ => 0)))]) H1 → va_D A (ws ++ [(q, .inl (cZ, N', .inl (fun _ => 0)))]) → va_S A H0 H1 locs →
      W p l e R s m args below meth c H1 locs (cells + 1) (slots + N') Q (F0 m (pc + 2) ls (.ref q :: rest))) : W p l e R s m args below meth c H locs cells slots Q (F0 m pc ls (.int n :: rest)) :=
  va_newa (ty := .boolean) hexec hb harr rfl hK hP hD hS hA (a0 := (N', .inl (fun _ => 0))) (fun _ => rfl) hn hN hbytes hcells hslots hdg fun q cA H1 h1 h2 h3 h4 => by
    have e := gl_cZ h1
    subst e
    exact kk q H1 h2 h3 h4
theorem gl_newB (hexec : p.tables.exec = Jvm.exec) (hb : c.code = cc) {own : String} {index : Nat} (hown : s.vm.findClass own = some m.cls) (hclink : (Cond.classLink own index RX0).before args s = true) (hover : va_AO RX0 s) (hK : va_K D vwCl (g_tys cI cZ cB cS) s) (hP : va_P D vwCl ws H) (hD : va_D A ws) (hS : va_S A H0 H locs) (hA : ∀ q, H0.size ≤ q → A q)
    {n : Int32} {N' : Nat} (hn : ¬ n < 0) (hN : n.toNatClampNeg = N') (hbytes : N' * 4 ≤ 536870912) (hcells : cells + 1 ≤ R.cells) (hslots : slots + N' ≤ R.slots) (hdg : decode cc pc = .ok (.anewarray index, 3))
    (kk : ∀ (q : Nat) (H1 : Heap), va_P D vwCl (ws ++ [(q, .inl (cB, qf (fun _ => none) N'))]) H1 → va_D A (ws ++ [(q, .inl (cB, qf (fun _ => none) N'))]) → va_S A H0 H1 locs →
      W p l e R s m args below meth c H1 locs (cells + 1) (slots + N') Q (F0 m (pc + 3) ls (.ref q :: rest))) : W p l e R s m args below meth c H locs cells slots Q (F0 m pc ls (.int n :: rest)) :=
  va_newq hexec hb hown hclink hover hK hP hD hS hA hn hN hbytes hcells hslots hdg fun q cA H1 h1 h2 h3 h4 => by
    have e := gl_cB h1
    subst e
    exact kk q H1 h2 h3 h4
theorem gl_newS (hexec : p.tables.exec = Jvm.exec) (hb : c.code = cc) {own : String} {index : Nat} (hown : s.vm.findClass own = some m.cls) (hclink : (Cond.classLink own index RX2).before args s = true) (hover : va_AO RX2 s) (hK : va_K D vwCl (g_tys cI cZ cB cS) s) (hP : va_P D vwCl ws H) (hD : va_D A ws) (hS : va_S A H0 H locs) (hA : ∀ q, H0.size ≤ q → A q)
    {n : Int32} {N' : Nat} (hn : ¬ n < 0) (hN : n.toNatClampNeg = N') (hbytes : N' * 4 ≤ 536870912) (hcells : cells + 1 ≤ R.cells) (hslots : slots + N' ≤ R.slots) (hdg : decode cc pc = .ok (.anewarray index, 3))
    (kk : ∀ (q : Nat) (H1 : Heap), va_P D vwCl (ws ++ [(q, .inl (cS, qf (fun _ => none) N'))]) H1 → va_D A (ws ++ [(q, .inl (cS, qf (fun _ => none) N'))]) → va_S A H0 H1 locs →
      W p l e R s m args below meth c H1 locs (cells + 1) (slots + N') Q (F0 m (pc + 3) ls (.ref q :: rest))) : W p l e R s m args below meth c H locs cells slots Q (F0 m pc ls (.int n :: rest)) :=
  va_newq hexec hb hown hclink hover hK hP hD hS hA hn hN hbytes hcells hslots hdg fun q cA H1 h1 h2 h3 h4 => by
    have e := gl_cS h1
    subst e
    exact kk q H1 h2 h3 h4
/-- a new object: it lies behind all cells -/
theorem gl_new (hexec : p.tables.exec = Jvm.exec) (hb : c.code = cc) {own C : String} {T : u_T} {N ci index : Nat} {Ts : List Cond} (hts : ∀ w ∈ Ts, w.before args s = true) (hin : ∀ w ∈ u_ws C T N, w ∈ Ts) (ty : Nat → FieldType) (hty : ∀ k, k < N → parseFieldDescriptor (T k).2.2.1 = some (ty k)) (hown : s.vm.findClass own = some m.cls) (hcl : (Cond.classLink own index C).before args s = true) (hinst : (Cond.instantiable C N).before args s = true) (hini : (Cond.initialized C).before args s = true)
    (hK : va_K D vwCl (g_tys cI cZ cB cS) s) (hS : va_S A H0 H locs) (hc : vwCl[ci]? = some (C, T, N)) {fs : List Value} (hfs : ∀ j, j < N → defaultValue (ty j) = vp_V fs j) (hcells : cells + 1 ≤ R.cells) (hslots : slots + N ≤ R.slots) (hdg : decode cc pc = .ok (.new index, 3))
    (kk : ∀ (H1 : Heap), va_P D vwCl [(H.size, .inr (ci, fs))] H1 → (∀ q : Nat, q < H.size → H1[q]? = H[q]?) → H1.size = H.size + 1 → va_S A H0 H1 locs →
      W p l e R s m args below meth c H1 locs (cells + 1) (slots + N) Q (F0 m (pc + 3) ls (.ref H.size :: rest))) : W p l e R s m args below meth c H locs cells slots Q (F0 m pc ls rest) := by
  have hKn := hK.1 ci _ hc
  refine W.newcK hexec hb hown hcl hinst hini rfl hdg hcells hslots hKn.2.1 rfl fun H1 kC hkC e1 z1 o1 => ?_
  refine kk H1 (fun k x hx => ?_) (fun q hq => o1 q hq) z1 ⟨Nat.le_trans hS.1 (by omega), fun x h1 h2 => (o1 x (Nat.lt_of_lt_of_le h1 hS.1)).trans (hS.2.1 x h1 h2), hS.2.2⟩
  have hz : k < 1 := (List.getElem?_eq_some_iff.mp hx).1
  rw [show k = 0 by omega] at hx
  cases hx
  exact ⟨_, hc, (u_born ty hts hin hKn hkC e1 hty).to hfs⟩
/-- a constructor's start: its object lies behind all else -/
def gPi (D : va_G) (cI cZ cB cS : ClassId) (b : Nat) (e0 : va_E) (av : List Value) : Array Value → State → Prop := fun v U =>
  v = av.toArray ∧ va_P D vwCl [(b, e0)] U.heap ∧ g_E D cI cZ cB cS (fun q => b ≤ q) U U.heap
theorem gPi_blind {b : Nat} {e0 : va_E} {av : List Value} : FrameBlind (gPi D cI cZ cB cS b e0 av) := by
  intro a U g mk h
  obtain ⟨h1, h2, h3⟩ := h
  exact ⟨h1, h2, g_E.same (U := U.calling g mk a) rfl h3⟩
theorem gPreI (hE : g_E D cI cZ cB cS A s s.heap) (hS : va_S A s.heap H locs) {b : Nat} {e0 : va_E} (hP : va_P D vwCl [(b, e0)] H) (hbA : ∀ q : Nat, b ≤ q → A q) {av : List Value} : PreS s H (gPi D cI cZ cB cS b e0 av) av :=
  ⟨gPi_blind, fun U hU hW => by subst hU; exact ⟨rfl, hP, (hE.go hW hS.2.1).narrow hbA⟩⟩
theorem va_D.one {b : Nat} {e0 : va_E} (hb : A b) : va_D A [(b, e0)] := by
  refine ⟨fun i j x y hi hj _ => ?_, fun k x hk => ?_⟩
  · have h1 : i < 1 := (List.getElem?_eq_some_iff.mp hi).1
    have h2 : j < 1 := (List.getElem?_eq_some_iff.mp hj).1
    omega
  · have h1 : k < 1 := (List.getElem?_eq_some_iff.mp hk).1
    rw [show k = 0 by omega] at hk
    cases hk
    exact hb
theorem va_D.nil : va_D A [] := ⟨fun i j x y hi => by simp at hi, fun k x hk => by simp at hk⟩
theorem va_P.nil : va_P D vwCl [] H := fun k x hk => by simp at hk
theorem va_D.join {w1 w2 : va_W} {b : Nat} (h1 : va_D A w1) (hl : ∀ (k : Nat) (x : Nat × va_E), w1[k]? = some x → x.1 < b) (h2 : va_D (fun q => b ≤ q) w2) (hA : ∀ q : Nat, b ≤ q → A q) : va_D A (w1 ++ w2) := by
  have key : ∀ (k : Nat) (x : Nat × va_E), (w1 ++ w2)[k]? = some x → (w1[k]? = some x ∧ k < w1.length) ∨ (w2[k - w1.length]? = some x ∧ w1.length ≤ k) := by
    intro k x hk
    by_cases hl : k < w1.length
    · rw [List.getElem?_append_left hl] at hk
      exact Or.inl ⟨hk, hl⟩
    · rw [List.getElem?_append_right (by omega)] at hk
      exact Or.inr ⟨hk, by omega⟩
  refine ⟨fun i j x y hi hj hxy => ?_, fun k x hk => ?_⟩
  · rcases key i x hi with ⟨a1, a2⟩ | ⟨a1, a2⟩ <;> rcases key j y hj with ⟨b1, b2⟩ | ⟨b1, b2⟩
    · exact h1.1 i j x y a1 b1 hxy
    · have z1 := hl i x a1
      have z2 : b ≤ y.1 := h2.2 _ y b1
      omega
    · have z1 := hl j y b1
      have z2 : b ≤ x.1 := h2.2 _ x a1
      omega
    · have := h2.1 _ _ x y a1 b1 hxy
      omega
  · rcases key k x hk with ⟨a1, -⟩ | ⟨a1, -⟩
    · exact h1.2 k x a1
    · exact hA _ (h2.2 _ x a1)
theorem va_P.keep {w1 : va_W} {H1 : Heap} (h : va_P D vwCl w1 H) (hq : ∀ (k : Nat) (x : Nat × va_E), w1[k]? = some x → H1[x.1]? = H[x.1]?) : va_P D vwCl w1 H1 := fun k x hk => (h k x hk).kept (hq k x hk)
end GNW
