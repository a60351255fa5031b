/-! A world by tags: how many cells of each tag there are (dm), what each holds (en), where it lies (ad). -/
section GW
variable {p : Program} {l : Launch} {e : Env} {R : Room} {s : State} {m : MethodId} {args : Array Value} {below : List Frame} {meth : Method} {c : Code} {H : Heap} {locs : List Loc} {cells slots : Nat} {Q : State → Prop}
variable {cc : ByteArray} {pc : Nat} {ls : Array Slot} {rest : List Value} {D : va_G} {cl : List vw_C} {A : Nat → Prop} {tys : List (ClassId × FieldType)} {H0 : Heap} {dm : Nat → Nat} {en : Nat → Nat → va_E} {ad : Nat → Nat → Nat}
def gw_P (D : va_G) (cl : List vw_C) (A : Nat → Prop) (dm : Nat → Nat) (en : Nat → Nat → va_E) (ad : Nat → Nat → Nat) (H : Heap) : Prop :=
  (∀ t i : Nat, i < dm t → va_at D cl (ad t i, en t i) H) ∧ (∀ t i : Nat, i < dm t → A (ad t i)) ∧ (∀ t i u j : Nat, i < dm t → j < dm u → ad t i = ad u j → t = u ∧ i = j)
theorem gw_P.one (h : gw_P D cl A dm en ad H) {t i : Nat} (hi : i < dm t) {x : va_E} (he : en t i = x) : va_P D cl [(ad t i, x)] H := by
  intro k q hk
  match k, hk with
  | 0, hk =>
    cases hk
    rw [← he]
    exact h.1 t i hi
  | k + 1, hk => cases hk
theorem gw_P.lt (h : gw_P D cl A dm en ad H) {t i : Nat} (hi : i < dm t) : ad t i < H.size := (h.1 t i hi).lt
theorem gw_P.upd {en2 : Nat → Nat → va_E} {t i : Nat} {H1 : Heap} (h : gw_P D cl A dm en ad H) (hi : i < dm t) (h2 : ∀ t' i' : Nat, i' < dm t' → ¬ (t' = t ∧ i' = i) → en2 t' i' = en t' i') (he : va_at D cl (ad t i, en2 t i) H1) (oq : ∀ q : Nat, q ≠ ad t i → H1[q]? = H[q]?) : gw_P D cl A dm en2 ad H1 := by
  refine ⟨fun t' i' hi' => ?_, h.2.1, h.2.2⟩
  by_cases hq : t' = t ∧ i' = i
  · obtain ⟨rfl, rfl⟩ := hq
    exact he
  · rw [h2 t' i' hi' hq]
    exact (h.1 t' i' hi').kept (oq _ (fun z => hq (h.2.2 t' i' t i hi' hi z)))
theorem gw_P.kept {H1 : Heap} (h : gw_P D cl A dm en ad H) (hq : ∀ t i : Nat, i < dm t → H1[ad t i]? = H[ad t i]?) : gw_P D cl A dm en ad H1 := ⟨fun t i hi => (h.1 t i hi).kept (hq t i hi), h.2.1, h.2.2⟩
theorem gw_P.eqv {en2 : Nat → Nat → va_E} (h : gw_P D cl A dm en ad H) (h2 : ∀ t i : Nat, i < dm t → en2 t i = en t i) : gw_P D cl A dm en2 ad H := ⟨fun t i hi => by rw [h2 t i hi]; exact h.1 t i hi, h.2.1, h.2.2⟩
theorem gw_P.weaken {B : Nat → Prop} (h : gw_P D cl A dm en ad H) (hB : ∀ t i : Nat, i < dm t → B (ad t i)) : gw_P D cl B dm en ad H := ⟨h.1, hB, h.2.2⟩
theorem gw_get (hexec : p.tables.exec = Jvm.exec) (hb : c.code = cc) {own ref C : String} {T : u_T} {N ci index : Nat} (hL : ∀ w ∈ u_ws C T N, w.before args s = true) (hown : s.vm.findClass own = some m.cls) (hK : va_K D cl tys s) (hP : gw_P D cl A dm en ad H) (t i : Nat) (hi : i < dm t) {fs : List Value} (he : en t i = .inr (ci, fs)) (hc : cl[ci]? = some (C, T, N)) (k : Nat) (hk : k < N)
    (hlink : (Cond.fieldLink own index ref (T k).2.1 (T k).2.2.1).before args s = true) (hsame : ∀ x, s.fieldFound? (T k).1 (T k).2.1 (T k).2.2.1 = some x → s.fieldFound? ref (T k).2.1 (T k).2.2.1 = some x) {v : Value} (hv : fs[k]? = some v) (hdg : decode cc pc = .ok (.getfield index, 3))
    (kk : W p l e R s m args below meth c H locs cells slots Q (F0 m (pc + 3) ls (v :: rest))) : W p l e R s m args below meth c H locs cells slots Q (F0 m pc ls (.ref (ad t i) :: rest)) :=
  va_get (Ts := u_ws C T N) hexec hb hL (fun _ h => h) hown hK (hP.one hi he) 0 rfl hc k hk hlink hsame hv hdg kk
theorem gw_put (hexec : p.tables.exec = Jvm.exec) (hb : c.code = cc) {own ref C : String} {T : u_T} {N ci index : Nat} (hL : ∀ w ∈ u_ws C T N, w.before args s = true) (ty0 : Nat → FieldType) (hty : ∀ k, k < N → parseFieldDescriptor (T k).2.2.1 = some (ty0 k)) (hnm : ∀ a, a < N → ∀ b, b < N → a ≠ b → (T a).2.1 ≠ (T b).2.1) (hown : s.vm.findClass own = some m.cls) (hK : va_K D cl tys s) (hP : gw_P D cl A dm en ad H) (hS0 : va_S A H0 H locs) (t i : Nat) (hi : i < dm t) {fs : List Value} (he : en t i = .inr (ci, fs)) (hc : cl[ci]? = some (C, T, N)) (k : Nat) (hk : k < N)
    (hlink : (Cond.fieldLink own index ref (T k).2.1 (T k).2.2.1).before args s = true) (hsame : ∀ x, s.fieldFound? (T k).1 (T k).2.1 (T k).2.2.1 = some x → s.fieldFound? ref (T k).2.1 (T k).2.2.1 = some x) (hfin : (T k).2.2.2 = false) {ty : FieldType} {v : Value} (hd : parseFieldDescriptor (T k).2.2.1 = some ty) (hn : narrow ty v = v) (hfit : fits ty v = true) (hl : k < fs.length) (hdg : decode cc pc = .ok (.putfield index, 3))
    (en2 : Nat → Nat → va_E) (h1 : en2 t i = .inr (ci, fs.set k v)) (h2 : ∀ t' i' : Nat, i' < dm t' → ¬ (t' = t ∧ i' = i) → en2 t' i' = en t' i')
    (kk : ∀ (H1 : Heap) (locs1 : List Loc), gw_P D cl A dm en2 ad H1 → va_S A H0 H1 locs1 → W p l e R s m args below meth c H1 locs1 cells slots Q (F0 m (pc + 3) ls rest)) : W p l e R s m args below meth c H locs cells slots Q (F0 m pc ls (v :: .ref (ad t i) :: rest)) := by
  have hap := va_apart (own := own) hL (fun _ h => h) ty0 hty hnm hK hc
  have h9 := hP.1 t i hi
  rw [he] at h9
  obtain ⟨r, hr1, cell, q1, q2, q3, q4⟩ := h9
  have hr : r = (C, T, N) := Option.some.inj (hr1.symm.trans hc)
  subst hr
  obtain ⟨hSl, hfc, kC, hkC, hkind⟩ := hK.1 ci _ hc
  obtain ⟨cf, kf, fi, f, hfi, hsl⟩ := hSl k hk
  have hlay := hL _ (u_in_lay hk)
  unfold u_lay at hlay
  rw [if_neg (by rw [hfin]; decide)] at hlay
  have hst := (u_facts hfc hkC (u_lays hL (fun _ h => h) hk) hfi).1
  have h6 := u_store hfc hkC hkind hlay hfi hd hn hfit
  refine W.putK hexec hb (f := f) ⟨hown, hlink, ⟨_, _, _, hsame _ hfi⟩, hst⟩ (by rw [q2]; exact h6) q1 q3 (by rw [hsl]; exact k2_hasslot (q4 k hk)) rfl rfl hdg fun H' e1 e2 e3 => ?_
  rw [hsl] at e1 ⊢
  refine kk H' _ (hP.upd hi h2 ?_ e3) (hS0.put e2 e3 (hP.2.1 t i hi))
  rw [h1]
  exact ⟨_, hc, t_OB.to (V := updV (vp_V fs) k v) ⟨_, e1, q2, q3, t_set q4 hap hk v⟩ (fun j _ => vp_updV_set hl v j)⟩
theorem gw_iald (hexec : p.tables.exec = Jvm.exec) (hb : c.code = cc) (hK : va_K D cl tys s) (hP : gw_P D cl A dm en ad H) (t i : Nat) (hi : i < dm t) (t0 : Nat) {cA : ClassId} {n : Nat} {f : Nat → Int32} (he : en t i = .inl (cA, n, .inl f)) (ht : tys[t0]? = some (cA, .int)) (j : Nat) {x v : Int32} (hx : x = nI j) (hj : j < n) (hn : n < 2 ^ 31) (hv : f j = v) (hdg : decode cc pc = .ok (.iaload, 1))
    (kk : W p l e R s m args below meth c H locs cells slots Q (F0 m (pc + 1) ls (.int v :: rest))) : W p l e R s m args below meth c H locs cells slots Q (F0 m pc ls (.int x :: .ref (ad t i) :: rest)) := by
  subst hx
  subst hv
  refine va_iald hexec hb hK (hP.one hi he) 0 t0 rfl ht (vp_in_nI hj hn) hdg ?_
  rw [nI_clamp (Nat.lt_trans hj hn)]
  exact kk
theorem gw_zald (hexec : p.tables.exec = Jvm.exec) (hb : c.code = cc) (hK : va_K D cl tys s) (hP : gw_P D cl A dm en ad H) (t i : Nat) (hi : i < dm t) (t0 : Nat) {cA : ClassId} {n : Nat} {f : Nat → Int32} (he : en t i = .inl (cA, n, .inl f)) (ht : tys[t0]? = some (cA, .boolean)) (j : Nat) {x v : Int32} (hx : x = nI j) (hj : j < n) (hn : n < 2 ^ 31) (hv : f j = v) (hdg : decode cc pc = .ok (.baload, 1))
    (kk : W p l e R s m args below meth c H locs cells slots Q (F0 m (pc + 1) ls (.int v :: rest))) : W p l e R s m args below meth c H locs cells slots Q (F0 m pc ls (.int x :: .ref (ad t i) :: rest)) := by
  subst hx
  subst hv
  refine va_zald hexec hb hK (hP.one hi he) 0 t0 rfl ht (vp_in_nI hj hn) hdg ?_
  rw [nI_clamp (Nat.lt_trans hj hn)]
  exact kk
theorem gw_lald (hexec : p.tables.exec = Jvm.exec) (hb : c.code = cc) (hK : va_K D cl tys s) (hP : gw_P D cl A dm en ad H) (t i : Nat) (hi : i < dm t) (t0 : Nat) {cA : ClassId} {n : Nat} {f : Nat → Int64} (he : en t i = .inl (cA, n, .inr (.inl f))) (ht : tys[t0]? = some (cA, .long)) (j : Nat) {x : Int32} {v : Int64} (hx : x = nI j) (hj : j < n) (hn : n < 2 ^ 31) (hv : f j = v) (hdg : decode cc pc = .ok (.laload, 1))
    (kk : W p l e R s m args below meth c H locs cells slots Q (F0 m (pc + 1) ls (.long v :: rest))) : W p l e R s m args below meth c H locs cells slots Q (F0 m pc ls (.int x :: .ref (ad t i) :: rest)) := by
  subst hx
  subst hv
  refine va_lald hexec hb hK (hP.one hi he) 0 t0 rfl ht (vp_in_nI hj hn) hdg ?_
  rw [nI_clamp (Nat.lt_trans hj hn)]
  exact kk
theorem gw_aald (hexec : p.tables.exec = Jvm.exec) (hb : c.code = cc) (hK : va_K D cl tys s) (hP : gw_P D cl A dm en ad H) (t i : Nat) (hi : i < dm t) (t0 : Nat) {C : String} {cA : ClassId} {n : Nat} {f : Nat → Option Nat} (he : en t i = .inl (cA, n, .inr (.inr (.inr (.inr f))))) (ht : tys[t0]? = some (cA, .object C)) (j : Nat) {x : Int32} {a : Nat} (hx : x = nI j) (hj : j < n) (hn : n < 2 ^ 31) (hv : f j = some a) (hdg : decode cc pc = .ok (.aaload, 1))
    (kk : W p l e R s m args below meth c H locs cells slots Q (F0 m (pc + 1) ls (.ref a :: rest))) : W p l e R s m args below meth c H locs cells slots Q (F0 m pc ls (.int x :: .ref (ad t i) :: rest)) := by
  subst hx
  refine va_aldq hexec hb hK (hP.one hi he) 0 t0 rfl ht (vp_in_nI hj hn) hdg ?_
  rw [nI_clamp (Nat.lt_trans hj hn), hv]
  exact kk
theorem gw_iast (hexec : p.tables.exec = Jvm.exec) (hb : c.code = cc) (hK : va_K D cl tys s) (hP : gw_P D cl A dm en ad H) (hS : va_S A H0 H locs) (t i : Nat) (hi : i < dm t) (t0 : Nat) {cA : ClassId} {n : Nat} {f : Nat → Int32} (he : en t i = .inl (cA, n, .inl f)) (ht : tys[t0]? = some (cA, .int)) (j : Nat) {x v : Int32} (hx : x = nI j) (hj : j < n) (hn : n < 2 ^ 31) (hdg : decode cc pc = .ok (.iastore, 1))
    (en2 : Nat → Nat → va_E) (h1 : en2 t i = .inl (cA, n, .inl (upd f j v))) (h2 : ∀ t' i' : Nat, i' < dm t' → ¬ (t' = t ∧ i' = i) → en2 t' i' = en t' i')
    (kk : ∀ (H1 : Heap) (locs1 : List Loc), gw_P D cl A dm en2 ad H1 → va_S A H0 H1 locs1 → W p l e R s m args below meth c H1 locs1 cells slots Q (F0 m (pc + 1) ls rest)) : W p l e R s m args below meth c H locs cells slots Q (F0 m pc ls (.int v :: .int x :: .ref (ad t i) :: rest)) := by
  subst hx
  have hin : vp_in (nI j) n := vp_in_nI hj hn
  have hcl : (nI j).toNatClampNeg = j := nI_clamp (Nat.lt_trans hj hn)
  refine W.iast hexec hb (hP.one hi he 0 _ rfl) ((hK.2 t0 _ ht).1 n (fun j => .int (f j))) (fun q => by cases q) (by show ¬ (nI j < 0 ∨ (arrV _ _ _).slots.size ≤ _); rw [arrV_size]; exact hin) rfl rfl hdg fun H1 e1 z oq => ?_
  refine kk H1 _ (hP.upd hi h2 ?_ oq) (hS.put z oq (hP.2.1 t i hi))
  rw [h1]
  show H1[ad t i]? = some (vp_cell _ _)
  rw [e1, hcl]
  rw [vp_cell_i, vp_cell_i, arrV_store]
  congr 2
  funext q
  by_cases hq : q = j
  · subst hq
    simp [updV, upd]
  · simp [updV, upd, hq]
theorem gw_zast (hexec : p.tables.exec = Jvm.exec) (hb : c.code = cc) (hK : va_K D cl tys s) (hP : gw_P D cl A dm en ad H) (hS : va_S A H0 H locs) (t i : Nat) (hi : i < dm t) (t0 : Nat) {cA : ClassId} {n : Nat} {f : Nat → Int32} (he : en t i = .inl (cA, n, .inl f)) (ht : tys[t0]? = some (cA, .boolean)) (j : Nat) {x v : Int32} (hx : x = nI j) (hj : j < n) (hn : n < 2 ^ 31) (hz : narrow .boolean (.int v) = .int v) (hdg : decode cc pc = .ok (.bastore, 1))
    (en2 : Nat → Nat → va_E) (h1 : en2 t i = .inl (cA, n, .inl (upd f j v))) (h2 : ∀ t' i' : Nat, i' < dm t' → ¬ (t' = t ∧ i' = i) → en2 t' i' = en t' i')
    (kk : ∀ (H1 : Heap) (locs1 : List Loc), gw_P D cl A dm en2 ad H1 → va_S A H0 H1 locs1 → W p l e R s m args below meth c H1 locs1 cells slots Q (F0 m (pc + 1) ls rest)) : W p l e R s m args below meth c H locs cells slots Q (F0 m pc ls (.int v :: .int x :: .ref (ad t i) :: rest)) := by
  subst hx
  have hin : vp_in (nI j) n := vp_in_nI hj hn
  have hcl : (nI j).toNatClampNeg = j := nI_clamp (Nat.lt_trans hj hn)
  refine W.zast hexec hb (hP.one hi he 0 _ rfl) ((hK.2 t0 _ ht).1 n (fun j => .int (f j))) (fun q => by cases q) (by show ¬ (nI j < 0 ∨ (arrV _ _ _).slots.size ≤ _); rw [arrV_size]; exact hin) rfl rfl hdg fun H1 e1 z oq => ?_
  refine kk H1 _ (hP.upd hi h2 ?_ oq) (hS.put z oq (hP.2.1 t i hi))
  rw [h1]
  show H1[ad t i]? = some (vp_cell _ _)
  rw [e1, hcl, hz]
  rw [vp_cell_i, vp_cell_i, arrV_store]
  congr 2
  funext q
  by_cases hq : q = j
  · subst hq
    simp [updV, upd]
  · simp [updV, upd, hq]
theorem gw_last (hexec : p.tables.exec = Jvm.exec) (hb : c.code = cc) (hK : va_K D cl tys s) (hP : gw_P D cl A dm en ad H) (hS : va_S A H0 H locs) (t i : Nat) (hi : i < dm t) (t0 : Nat) {cA : ClassId} {n : Nat} {f : Nat → Int64} (he : en t i = .inl (cA, n, .inr (.inl f))) (ht : tys[t0]? = some (cA, .long)) (j : Nat) {x : Int32} {v : Int64} (hx : x = nI j) (hj : j < n) (hn : n < 2 ^ 31) (hdg : decode cc pc = .ok (.lastore, 1))
    (en2 : Nat → Nat → va_E) (h1 : en2 t i = .inl (cA, n, .inr (.inl (vp_updL f j v)))) (h2 : ∀ t' i' : Nat, i' < dm t' → ¬ (t' = t ∧ i' = i) → en2 t' i' = en t' i')
    (kk : ∀ (H1 : Heap) (locs1 : List Loc), gw_P D cl A dm en2 ad H1 → va_S A H0 H1 locs1 → W p l e R s m args below meth c H1 locs1 cells slots Q (F0 m (pc + 1) ls rest)) : W p l e R s m args below meth c H locs cells slots Q (F0 m pc ls (.long v :: .int x :: .ref (ad t i) :: rest)) := by
  subst hx
  have hin : vp_in (nI j) n := vp_in_nI hj hn
  have hcl : (nI j).toNatClampNeg = j := nI_clamp (Nat.lt_trans hj hn)
  refine W.last hexec hb (hP.one hi he 0 _ rfl) ((hK.2 t0 _ ht).1 n (fun j => .long (f j))) (fun q => by cases q) (by show ¬ (nI j < 0 ∨ (arrV _ _ _).slots.size ≤ _); rw [arrV_size]; exact hin) rfl rfl hdg fun H1 e1 z oq => ?_
  refine kk H1 _ (hP.upd hi h2 ?_ oq) (hS.put z oq (hP.2.1 t i hi))
  rw [h1]
  show H1[ad t i]? = some (vp_cell _ _)
  rw [e1, hcl]
  rw [vp_cell_l, vp_cell_l, arrV_store]
  congr 2
  funext q
  by_cases hq : q = j
  · subst hq
    simp [updV, vp_updL]
  · simp [updV, vp_updL, hq]
/-- a part of a world by another's tags: a receiver -/
theorem gw_recv (hK : va_K D cl tys s) (hP : gw_P D cl A dm en ad H) (t i : Nat) (hi : i < dm t) {ci : Nat} {q : vw_C} {fs : List Value} (he : en t i = .inr (ci, fs)) (hc : cl[ci]? = some q) : ∃ cell : Cell, H[ad t i]? = some cell ∧ cell.vm.isStatics = false ∧ s.vm.findClass q.1 = some cell.cls :=
  va_recv hK (hP.one hi he) hc (q0 := 0) rfl
end GW
