section
-- ===== PART A: goes FIRST, ahead of the names: the tables' words, and 'selects' of the private methods out of them =====
/-- a private method of a class that the tables say can be made, by its rows of tables_1 -/
def lw_okq (q : MethodName × Nat) : Prop := (q.1.cls ≠ "java/lang/invoke/MethodHandle" ∧ q.1.cls ≠ "java/lang/invoke/VarHandle") ∧ Cond.instantiable q.1.cls q.2 ∈ tables_1 ∧ Cond.privateMethod q.1 ∈ tables_1 ∧ Cond.instanceMethod q.1 ∈ tables_1
theorem lw_p0 : lw_okq (⟨"BlockPrograms", "lineUp", "()I"⟩, 9) := ⟨⟨by decide +kernel, by decide +kernel⟩, List.mem_of_getElem? (i := 13) (by decide +kernel), List.mem_of_getElem? (i := 82) (by decide +kernel), List.mem_of_getElem? (i := 83) (by decide +kernel)⟩
theorem lw_p1 : lw_okq (⟨"BlockPrograms", "leastThatMayCome", "()I"⟩, 9) := ⟨⟨by decide +kernel, by decide +kernel⟩, List.mem_of_getElem? (i := 13) (by decide +kernel), List.mem_of_getElem? (i := 86) (by decide +kernel), List.mem_of_getElem? (i := 87) (by decide +kernel)⟩
theorem lw_p2 : lw_okq (⟨"BlockPrograms", "mayCome", "(LBlockPrograms$Block;)Z"⟩, 9) := ⟨⟨by decide +kernel, by decide +kernel⟩, List.mem_of_getElem? (i := 13) (by decide +kernel), List.mem_of_getElem? (i := 90) (by decide +kernel), List.mem_of_getElem? (i := 91) (by decide +kernel)⟩
theorem lw_p3 : lw_okq (⟨"java/lang/Throwable", "fillInStackTrace", "(I)Ljava/lang/Throwable;"⟩, 6) := ⟨⟨by decide +kernel, by decide +kernel⟩, List.mem_of_getElem? (i := 150) (by decide +kernel), List.mem_of_getElem? (i := 148) (by decide +kernel), List.mem_of_getElem? (i := 149) (by decide +kernel)⟩
theorem lw_p4 : lw_okq (⟨"BlockPrograms", "existing", "(I)LBlockPrograms$Block;"⟩, 9) := ⟨⟨by decide +kernel, by decide +kernel⟩, List.mem_of_getElem? (i := 13) (by decide +kernel), List.mem_of_getElem? (i := 257) (by decide +kernel), List.mem_of_getElem? (i := 258) (by decide +kernel)⟩
theorem lw_p5 : lw_okq (⟨"BlockPrograms", "tick", "()V"⟩, 9) := ⟨⟨by decide +kernel, by decide +kernel⟩, List.mem_of_getElem? (i := 13) (by decide +kernel), List.mem_of_getElem? (i := 325) (by decide +kernel), List.mem_of_getElem? (i := 326) (by decide +kernel)⟩
theorem lw_p6 : lw_okq (⟨"BlockPrograms", "reckon", "(I)V"⟩, 9) := ⟨⟨by decide +kernel, by decide +kernel⟩, List.mem_of_getElem? (i := 13) (by decide +kernel), List.mem_of_getElem? (i := 329) (by decide +kernel), List.mem_of_getElem? (i := 330) (by decide +kernel)⟩
theorem lw_p7 : lw_okq (⟨"BlockPrograms", "outputOf", "(I)I"⟩, 9) := ⟨⟨by decide +kernel, by decide +kernel⟩, List.mem_of_getElem? (i := 13) (by decide +kernel), List.mem_of_getElem? (i := 333) (by decide +kernel), List.mem_of_getElem? (i := 334) (by decide +kernel)⟩
theorem lw_p8 : lw_okq (⟨"BlockPrograms", "fail", "(II)V"⟩, 9) := ⟨⟨by decide +kernel, by decide +kernel⟩, List.mem_of_getElem? (i := 13) (by decide +kernel), List.mem_of_getElem? (i := 345) (by decide +kernel), List.mem_of_getElem? (i := 346) (by decide +kernel)⟩
theorem lw_p9 : lw_okq (⟨"BlockPrograms$Block", "ramped", "(I)I"⟩, 11) := ⟨⟨by decide +kernel, by decide +kernel⟩, List.mem_of_getElem? (i := 195) (by decide +kernel), List.mem_of_getElem? (i := 377) (by decide +kernel), List.mem_of_getElem? (i := 378) (by decide +kernel)⟩
theorem lw_p10 : lw_okq (⟨"BlockPrograms$Block", "counted", "(II)I"⟩, 11) := ⟨⟨by decide +kernel, by decide +kernel⟩, List.mem_of_getElem? (i := 195) (by decide +kernel), List.mem_of_getElem? (i := 385) (by decide +kernel), List.mem_of_getElem? (i := 386) (by decide +kernel)⟩
theorem lw_p11 : lw_okq (⟨"BlockPrograms$Block", "latched", "(II)I"⟩, 11) := ⟨⟨by decide +kernel, by decide +kernel⟩, List.mem_of_getElem? (i := 195) (by decide +kernel), List.mem_of_getElem? (i := 389) (by decide +kernel), List.mem_of_getElem? (i := 390) (by decide +kernel)⟩
theorem lw_p12 : lw_okq (⟨"BlockPrograms$Block", "isClockOn", "(I)Z"⟩, 11) := ⟨⟨by decide +kernel, by decide +kernel⟩, List.mem_of_getElem? (i := 195) (by decide +kernel), List.mem_of_getElem? (i := 393) (by decide +kernel), List.mem_of_getElem? (i := 394) (by decide +kernel)⟩
theorem lw_p13 : lw_okq (⟨"BlockPrograms$Block", "pulsed", "(I)I"⟩, 11) := ⟨⟨by decide +kernel, by decide +kernel⟩, List.mem_of_getElem? (i := 195) (by decide +kernel), List.mem_of_getElem? (i := 398) (by decide +kernel), List.mem_of_getElem? (i := 399) (by decide +kernel)⟩
theorem lw_p14 : lw_okq (⟨"BlockPrograms", "takeUp", "(I)V"⟩, 9) := ⟨⟨by decide +kernel, by decide +kernel⟩, List.mem_of_getElem? (i := 13) (by decide +kernel), List.mem_of_getElem? (i := 403) (by decide +kernel), List.mem_of_getElem? (i := 404) (by decide +kernel)⟩
theorem lw_p15 : lw_okq (⟨"BlockProgramsModel", "isBlock", "(I)Z"⟩, 25) := ⟨⟨by decide +kernel, by decide +kernel⟩, List.mem_of_getElem? (i := 503) (by decide +kernel), List.mem_of_getElem? (i := 600) (by decide +kernel), List.mem_of_getElem? (i := 601) (by decide +kernel)⟩
def lw_privs_1 : List (MethodName × Nat) := [(⟨"BlockPrograms", "lineUp", "()I"⟩, 9), (⟨"BlockPrograms", "leastThatMayCome", "()I"⟩, 9), (⟨"BlockPrograms", "mayCome", "(LBlockPrograms$Block;)Z"⟩, 9), (⟨"java/lang/Throwable", "fillInStackTrace", "(I)Ljava/lang/Throwable;"⟩, 6), (⟨"BlockPrograms", "existing", "(I)LBlockPrograms$Block;"⟩, 9), (⟨"BlockPrograms", "tick", "()V"⟩, 9), (⟨"BlockPrograms", "reckon", "(I)V"⟩, 9), (⟨"BlockPrograms", "outputOf", "(I)I"⟩, 9), (⟨"BlockPrograms", "fail", "(II)V"⟩, 9), (⟨"BlockPrograms$Block", "ramped", "(I)I"⟩, 11), (⟨"BlockPrograms$Block", "counted", "(II)I"⟩, 11), (⟨"BlockPrograms$Block", "latched", "(II)I"⟩, 11), (⟨"BlockPrograms$Block", "isClockOn", "(I)Z"⟩, 11), (⟨"BlockPrograms$Block", "pulsed", "(I)I"⟩, 11), (⟨"BlockPrograms", "takeUp", "(I)V"⟩, 9), (⟨"BlockProgramsModel", "isBlock", "(I)Z"⟩, 25)]
theorem lw_r1 : ∀ q ∈ lw_privs_1, lw_okq q := List.forall_mem_cons.mpr ⟨lw_p0, List.forall_mem_cons.mpr ⟨lw_p1, List.forall_mem_cons.mpr ⟨lw_p2, List.forall_mem_cons.mpr ⟨lw_p3, List.forall_mem_cons.mpr ⟨lw_p4, List.forall_mem_cons.mpr ⟨lw_p5, List.forall_mem_cons.mpr ⟨lw_p6, List.forall_mem_cons.mpr ⟨lw_p7, List.forall_mem_cons.mpr ⟨lw_p8, List.forall_mem_cons.mpr ⟨lw_p9, List.forall_mem_cons.mpr ⟨lw_p10, List.forall_mem_cons.mpr ⟨lw_p11, List.forall_mem_cons.mpr ⟨lw_p12, List.forall_mem_cons.mpr ⟨lw_p13, List.forall_mem_cons.mpr ⟨lw_p14, List.forall_mem_cons.mpr ⟨lw_p15, fun _ h => absurd h List.not_mem_nil⟩⟩⟩⟩⟩⟩⟩⟩⟩⟩⟩⟩⟩⟩⟩⟩
theorem lw_p16 : lw_okq (⟨"BlockProgramsModel", "lay", "()V"⟩, 25) := ⟨⟨by decide +kernel, by decide +kernel⟩, List.mem_of_getElem? (i := 503) (by decide +kernel), List.mem_of_getElem? (i := 632) (by decide +kernel), List.mem_of_getElem? (i := 633) (by decide +kernel)⟩
theorem lw_p17 : lw_okq (⟨"BlockProgramsModel", "mayCome", "(I)Z"⟩, 25) := ⟨⟨by decide +kernel, by decide +kernel⟩, List.mem_of_getElem? (i := 503) (by decide +kernel), List.mem_of_getElem? (i := 636) (by decide +kernel), List.mem_of_getElem? (i := 637) (by decide +kernel)⟩
theorem lw_p18 : lw_okq (⟨"BlockProgramsModel", "reckon", "(I)V"⟩, 25) := ⟨⟨by decide +kernel, by decide +kernel⟩, List.mem_of_getElem? (i := 503) (by decide +kernel), List.mem_of_getElem? (i := 651) (by decide +kernel), List.mem_of_getElem? (i := 652) (by decide +kernel)⟩
theorem lw_p19 : lw_okq (⟨"BlockProgramsModel", "input", "(II)I"⟩, 25) := ⟨⟨by decide +kernel, by decide +kernel⟩, List.mem_of_getElem? (i := 503) (by decide +kernel), List.mem_of_getElem? (i := 655) (by decide +kernel), List.mem_of_getElem? (i := 656) (by decide +kernel)⟩
theorem lw_p20 : lw_okq (⟨"BlockProgramsModel", "plain", "(IIII)I"⟩, 25) := ⟨⟨by decide +kernel, by decide +kernel⟩, List.mem_of_getElem? (i := 503) (by decide +kernel), List.mem_of_getElem? (i := 659) (by decide +kernel), List.mem_of_getElem? (i := 660) (by decide +kernel)⟩
theorem lw_p21 : lw_okq (⟨"BlockProgramsModel", "withState", "(III)I"⟩, 25) := ⟨⟨by decide +kernel, by decide +kernel⟩, List.mem_of_getElem? (i := 503) (by decide +kernel), List.mem_of_getElem? (i := 666) (by decide +kernel), List.mem_of_getElem? (i := 667) (by decide +kernel)⟩
theorem lw_p22 : lw_okq (⟨"BlockProgramsModel", "ramp", "(II)I"⟩, 25) := ⟨⟨by decide +kernel, by decide +kernel⟩, List.mem_of_getElem? (i := 503) (by decide +kernel), List.mem_of_getElem? (i := 670) (by decide +kernel), List.mem_of_getElem? (i := 671) (by decide +kernel)⟩
theorem lw_p23 : lw_okq (⟨"BlockProgramsModel", "clock", "(I)Z"⟩, 25) := ⟨⟨by decide +kernel, by decide +kernel⟩, List.mem_of_getElem? (i := 503) (by decide +kernel), List.mem_of_getElem? (i := 674) (by decide +kernel), List.mem_of_getElem? (i := 675) (by decide +kernel)⟩
theorem lw_p24 : lw_okq (⟨"BlockProgramsModel", "pulse", "(II)I"⟩, 25) := ⟨⟨by decide +kernel, by decide +kernel⟩, List.mem_of_getElem? (i := 503) (by decide +kernel), List.mem_of_getElem? (i := 678) (by decide +kernel), List.mem_of_getElem? (i := 679) (by decide +kernel)⟩
theorem lw_p25 : lw_okq (⟨"BlockProgramsModel", "since", "(II)I"⟩, 25) := ⟨⟨by decide +kernel, by decide +kernel⟩, List.mem_of_getElem? (i := 503) (by decide +kernel), List.mem_of_getElem? (i := 682) (by decide +kernel), List.mem_of_getElem? (i := 683) (by decide +kernel)⟩
theorem lw_p26 : lw_okq (⟨"BlockProgramsModel", "fail", "(II)V"⟩, 25) := ⟨⟨by decide +kernel, by decide +kernel⟩, List.mem_of_getElem? (i := 503) (by decide +kernel), List.mem_of_getElem? (i := 686) (by decide +kernel), List.mem_of_getElem? (i := 687) (by decide +kernel)⟩
theorem lw_p27 : lw_okq (⟨"BlockProgramsModel", "takeDelay", "(I)V"⟩, 25) := ⟨⟨by decide +kernel, by decide +kernel⟩, List.mem_of_getElem? (i := 503) (by decide +kernel), List.mem_of_getElem? (i := 690) (by decide +kernel), List.mem_of_getElem? (i := 691) (by decide +kernel)⟩
def lw_privs_2 : List (MethodName × Nat) := [(⟨"BlockProgramsModel", "lay", "()V"⟩, 25), (⟨"BlockProgramsModel", "mayCome", "(I)Z"⟩, 25), (⟨"BlockProgramsModel", "reckon", "(I)V"⟩, 25), (⟨"BlockProgramsModel", "input", "(II)I"⟩, 25), (⟨"BlockProgramsModel", "plain", "(IIII)I"⟩, 25), (⟨"BlockProgramsModel", "withState", "(III)I"⟩, 25), (⟨"BlockProgramsModel", "ramp", "(II)I"⟩, 25), (⟨"BlockProgramsModel", "clock", "(I)Z"⟩, 25), (⟨"BlockProgramsModel", "pulse", "(II)I"⟩, 25), (⟨"BlockProgramsModel", "since", "(II)I"⟩, 25), (⟨"BlockProgramsModel", "fail", "(II)V"⟩, 25), (⟨"BlockProgramsModel", "takeDelay", "(I)V"⟩, 25)]
theorem lw_r2 : ∀ q ∈ lw_privs_2, lw_okq q := List.forall_mem_cons.mpr ⟨lw_p16, List.forall_mem_cons.mpr ⟨lw_p17, List.forall_mem_cons.mpr ⟨lw_p18, List.forall_mem_cons.mpr ⟨lw_p19, List.forall_mem_cons.mpr ⟨lw_p20, List.forall_mem_cons.mpr ⟨lw_p21, List.forall_mem_cons.mpr ⟨lw_p22, List.forall_mem_cons.mpr ⟨lw_p23, List.forall_mem_cons.mpr ⟨lw_p24, List.forall_mem_cons.mpr ⟨lw_p25, List.forall_mem_cons.mpr ⟨lw_p26, List.forall_mem_cons.mpr ⟨lw_p27, fun _ h => absurd h List.not_mem_nil⟩⟩⟩⟩⟩⟩⟩⟩⟩⟩⟩⟩
def lw_privs : List (MethodName × Nat) := lw_privs_1 ++ (lw_privs_2)
def lw_tbl : List Cond := k2_sels lw_privs ++ tables_1
theorem lw_privs_ok : ∀ q ∈ lw_privs, lw_okq q := by
  show ∀ q ∈ lw_privs_1 ++ (lw_privs_2), lw_okq q
  exact List.forall_mem_append.mpr ⟨lw_r1, lw_r2⟩

/-! ===== BEGIN words of one list among another's, by their places ===== -/
theorem goodIn_r {big : List Cond} (ws : List Cond) (ps : List Nat) (hp : ws = ps.filterMap (fun i => big[i]?)) (h : ws.all goodWord = true) : GoodIn big ws := by
  intro w hw
  have h1 := List.all_eq_true.mp h w hw
  rw [hp] at hw
  obtain ⟨i, -, hi⟩ := List.mem_filterMap.mp hw
  have hm : w ∈ big := by first | exact List.mem_of_getElem? hi | exact List.getElem?_mem hi
  exact ⟨hm, good_of_word h1⟩
theorem goodIn_app {big a b : List Cond} (ha : GoodIn big a) (hb : GoodIn big b) : GoodIn big (a ++ b) := fun w h => (List.mem_append.mp h).elim (ha w) (hb w)
theorem goodIn_ca {big a b : List Cond} {c : Cond} (ha : GoodIn big (c :: a)) (hb : GoodIn big b) : GoodIn big (c :: (a ++ b)) := fun w h => (List.mem_cons.mp h).elim (fun e => ha w (List.mem_cons.mpr (Or.inl e))) (fun h => (List.mem_append.mp h).elim (fun h => ha w (List.mem_cons.mpr (Or.inr h))) (hb w))
theorem goodIn_sub {big ws : List Cond} (hm : ∀ w ∈ ws, w ∈ big) (h : ws.all goodWord = true) : GoodIn big ws := fun w hw => ⟨hm w hw, good_of_word (List.all_eq_true.mp h w hw)⟩
/-! ===== END ===== -/

/-! ===== BEGIN exceptions that leave a method, and their catching by the caller (launches without stack traces) ===== -/
section VXA
/-! The laws vx_back, vx_callV, vx_callS, vx_callSW, vx_throw0, vx_throwS follow proofs of the library, with one case more: JvmDerived/Free/Laws.lean (Back.of_free), Shelf42/LK1.lean (callV, callS), Shelf/KitTraced.lean (throwNew0V, throwNewS). -/
/-- where a method has thrown q: the class by its name, the cell, what was written, the world -/
def vx_T (XC : String → State → State → Prop) (st : State) (q : Addr) (t : State) (mc ms : Nat) (free : Addr → Prop) : Prop :=
  ∃ (E : String) (ce : Cell) (L : List Loc), XC E st t ∧ t.heap[q]? = some ce ∧ ce.vm = .none ∧ st.vm.findClass E = some ce.cls ∧ st.WarmedH t.vm ∧ st.sameButNew ({ t with vm := st.vm } : State) L mc ms ∧ ∀ z ∈ L, free z.base
def vx_Q (Qc : Array Value → State → Outcome → State → Prop) (XC : String → State → State → Prop) (mc ms : Nat) (free : Addr → Prop) : Array Value → State → Outcome → State → Prop := fun a st o t =>
  (Qc a st o t ∧ ∃ L, FrameEnd st o t L mc ms ∧ ∀ q ∈ L, free q.base) ∨ ∃ q, o = .threw q ∧ vx_T XC st q t mc ms free
/-- a callee that returns or throws -/
def vx_Met (l : Launch) (y : MethodName) (ws : List Cond) (rm : Room) (Pc : Array Value → State → Prop) (Qc : Array Value → State → Outcome → State → Prop) (XC : String → State → State → Prop) (mc ms : Nat) (free : Addr → Prop) : Prop :=
  MetFree l y (headSpec ws rm) Pc (fun _ _ _ _ _ => True) (vx_Q Qc XC mc ms free)
def vx_Post (XC : String → State → State → Prop) (mc ms : Nat) (free : Addr → Prop) : Pt → Array Value → Addr → Pt → Prop := fun A a q B =>
  ∃ (g : JFrame) (mk : MethodId) (t : State) (L : List Loc) (E : String) (ce : Cell), B.U.heap = t.heap ∧ B.U.vm = t.vm ∧ XC E (A.U.calling g mk a) t ∧ t.heap[q]? = some ce ∧ ce.vm = .none ∧ A.U.vm.findClass E = some ce.cls ∧ B.locs = A.locs ++ L ∧ (∀ z ∈ L, free z.base) ∧ B.cells = A.cells + mc ∧ B.slots = A.slots + ms
def vx_Back (l : Launch) (R : Room) (p : Program) (e : Env) (below : List Frame) (s : State) (sargs : Array Value) (y : MethodName) (len W9 : Nat)
    (Pre : Pt → Array Value → Prop) (Post : Pt → Array Value → Option Value → Pt → Prop) (PostX : Pt → Array Value → Addr → Pt → Prop) : Prop :=
  ∀ (m : MethodId) (meth : Method) (c : Code) (A : Pt) (g : JFrame) (ig : Instr) (mk : MethodId) (a : Array Value),
    Stand p l e R s m sargs below meth c A.U A.locs A.cells A.slots → g.method = m → g.locals.size = c.maxLocals → decode c.code g.pc = .ok (ig, len) →
    2 * g.monitorRoom + (g.stack.map fun v => v.category).sum ≤ W9 → A.U.methodNamed? y = some mk → Pre A a →
    (∃ (v : Option Value) (B : Pt), Stand p l e R s m sargs below meth c B.U B.locs B.cells B.slots ∧ Post A a v B ∧
      Steps p.tables e below (doInvoke e (A.U.setTop g) [] mk a).1 (B.U.setTop { g with pc := g.pc + len, stack := v.toList ++ g.stack })) ∨
    (∃ (q : Addr) (B : Pt), Stand p l e R s m sargs below meth c B.U B.locs B.cells B.slots ∧ PostX A a q B ∧
      Steps p.tables e below (doInvoke e (A.U.setTop g) [] mk a).1 ((B.U.setTop g).pushFrame (.throwing q)))
section Payer
variable {l : Launch} {R : Room} {p : Program} {e : Env} {below : List Frame} {s : State} {sargs : Array Value} {y : MethodName} {len W9 : Nat}
theorem vx_back {ws : List Cond} {rm : Room} {Pc : Array Value → State → Prop} {Qc : Array Value → State → Outcome → State → Prop} {XC : String → State → State → Prop} {mc ms : Nat} {free : Addr → Prop} {bytes : ByteArray} {maxL : Nat} {ret : Option FieldType}
    (hM : vx_Met l y ws rm Pc Qc XC mc ms free) (hblind : FrameBlind Pc) (hrc : rm.cells = mc) (hrs : rm.slots = ms)
    (hframes : rm.frames + 1 ≤ R.frames) (hlocals : W9 + (maxL + 11) + rm.locals ≤ R.locals)
    (hws : ∀ w ∈ ws, ∀ a' U, s.WarmedH U.vm → w.before a' U = true) (hcode : Cond.code y bytes maxL ret ∈ ws) (hinit : ∀ a' U, s.WarmedH U.vm → (Cond.initialized y.cls).before a' U = true) :
    vx_Back l R p e below s sargs y len W9 (PreOf R mc ms Pc) (PostOf Qc mc ms free) (vx_Post XC mc ms free) := by
  intro m meth c A g ig mk a X hg hsize hdg hW hn hp
  have h1 : (headSpec ws rm).pre.before a A.U = true := atoms_intro fun w hw => hws w hw _ _ X.warmed
  have h2 : (Cond.code y bytes maxL ret).before a A.U = true := hws _ hcode _ _ X.warmed
  have h3 : (Cond.initialized y.cls).before a A.U = true := hinit _ _ X.warmed
  have h4 : A.cells + (headSpec ws rm).room.cells ≤ R.cells := by rw [show (headSpec ws rm).room.cells = mc from hrc]; exact hp.1
  have h5 : A.slots + (headSpec ws rm).room.slots ≤ R.slots := by rw [show (headSpec ws rm).room.slots = ms from hrs]; exact hp.2.1
  have hPc : Pc a (A.U.calling g mk a) := hblind _ _ _ _ hp.2.2
  obtain ⟨U, Ls, c0, s0⟩ := A
  dsimp only [Pt.U, Pt.locs, Pt.cells, Pt.slots] at h1 h2 h3 h4 h5 X hn hPc ⊢
  obtain ⟨methY, cY, hmY, hcY, -, hlY, -, -, -, -⟩ := Cond.code_spec hn h2
  obtain ⟨kY, hkY, -⟩ := className_of_methodNamed hn
  have hinitY : kY.init = .initialized := Cond.initialized_spec (findClass_of_methodNamed hn) hkY h3
  have h : At U g.method c below := by rw [hg]; exact X.here
  have hlocals9 : W9 + (maxL + 11) + (headSpec ws rm).room.locals ≤ R.locals := hlocals
  have happ : (headSpec ws rm).appliesLoose y e.platform (U.calling g mk a) = true :=
    Spec.appliesLoose_calling (g := g) h hdg hn hkY hinitY
      (X.room_calling (g := g) (R' := (headSpec ws rm).room) hsize hmY hcY hframes (by rw [hlY]; omega) h4 h5) h1
  obtain ⟨mid, hmid⟩ := h.above
  have hfr : (U.setTop g).frames = (.java g :: mid) ++ below := by rw [State.frames_setTop' g h.top, hmid]; rfl
  obtain ⟨o, s₂, hsteps, -, hend, hq⟩ := Steps.callFree hM p X.admits X.cas X.clock (acts := []) hfr happ hPc trivial
  have hq' : vx_Q Qc XC mc ms free a (U.calling g mk a) o s₂ := hq
  rw [State.frames_setTop' g h.top] at hend
  obtain ⟨g₀, hg0⟩ := Option.isSome_iff_exists.mp h.top
  obtain ⟨r, hr⟩ := State.topJava?_eq_some.mp hg0
  have hr' : (({ U with heap := s₂.heap, slotsUsed := s₂.slotsUsed } : State).setVm s₂.vm).frames = .java g₀ :: r := hr
  rcases hq' with ⟨hqc, L, hfe, hL⟩ | ⟨q, rfl, E, ce, L, hx, hce, hcv, hcl, hW₂, hsm, hL⟩
  · obtain ⟨⟨v, rfl⟩, hW₂, e2, q2, q3, q4, q5, q6⟩ := id hfe
    have e3 : s₂ = ({ (U.calling g mk a).setFrames s₂.frames with heap := s₂.heap, slotsUsed := s₂.slotsUsed } : State).setVm s₂.vm := by
      have : s₂ = ({ s₂ with vm := (U.calling g mk a).vm } : State).setVm s₂.vm := rfl
      rw [e2] at this
      exact this
    obtain ⟨c₂, i₂, len₂, hc₂, hd₂, hf₂⟩ := hend
    have hW' : U.WarmedH s₂.vm := hW₂
    have hcc : c₂ = c := by
      have h1 : s₂.code? g.method = U.code? g.method := by
        rw [State.code?_eq, State.code?_eq, hW'.alike.method?]
      exact Option.some.inj (hc₂.symm.trans (h1.trans h.code))
    subst hcc
    have hlen : len₂ = len := by rw [hdg] at hd₂; cases hd₂; rfl
    subst hlen
    have hs₂ : s₂ = (({ U with heap := s₂.heap, slotsUsed := s₂.slotsUsed } : State).setVm s₂.vm).setTop { g with pc := g.pc + len₂, stack := v.toList ++ g.stack } := by
      refine e3.trans ?_
      rw [hf₂, State.calling_eq h.top, State.setFrames_setFrames, State.setTop_of_frames _ hr', hr]
      rfl
    have hsame : U.sameButNew ({ U with heap := s₂.heap, slotsUsed := s₂.slotsUsed } : State) L mc ms := by
      refine ⟨?_, q2, q3, q4, q5, q6⟩
      obtain ⟨t, ht, -⟩ := State.frames_cons hr
      show ({ U with heap := s₂.heap, slotsUsed := s₂.slotsUsed } : State) = { U.setFrames U.frames with heap := s₂.heap, slotsUsed := s₂.slotsUsed }
      rw [State.setFrames_self ht]
    subst hg
    refine Or.inl ⟨v, ⟨(({ U with heap := s₂.heap, slotsUsed := s₂.slotsUsed } : State).setVm s₂.vm), Ls ++ L, c0 + mc, s0 + ms⟩,
      ⟨X.admits, X.cas, X.clock, X.frames, X.room, X.hears, X.method, X.code, (X.here.setHeapUsed s₂.heap s₂.slotsUsed).setVm hW'.alike, X.tail, State.WarmedH.trans X.warmed hW', X.limits, X.bytes, X.same.trans (hsame.setVm s.vm)⟩,
      ⟨g, mk, s₂, L, rfl, rfl, hqc, rfl, hL, rfl, rfl⟩, ?_⟩
    show Steps p.tables e below _ ((({ U with heap := s₂.heap, slotsUsed := s₂.slotsUsed } : State).setVm s₂.vm).setTop { g with pc := g.pc + len₂, stack := v.toList ++ g.stack })
    rw [← hs₂]
    exact hsteps
  · obtain ⟨e2, q2, q3, q4, q5, q6⟩ := id hsm
    have e3 : s₂ = ({ (U.calling g mk a).setFrames s₂.frames with heap := s₂.heap, slotsUsed := s₂.slotsUsed } : State).setVm s₂.vm := by
      have : s₂ = ({ s₂ with vm := (U.calling g mk a).vm } : State).setVm s₂.vm := rfl
      rw [e2] at this
      exact this
    have hf₂ : s₂.frames = .throwing q :: .java g :: U.frames.tail := hend
    have hW' : U.WarmedH s₂.vm := hW₂
    have hs₂ : s₂ = ((({ U with heap := s₂.heap, slotsUsed := s₂.slotsUsed } : State).setVm s₂.vm).setTop g).pushFrame (.throwing q) := by
      refine e3.trans ?_
      rw [hf₂, State.calling_eq h.top, State.setFrames_setFrames, State.pushFrame, State.frames_setTop _ hr', State.setTop_of_frames _ hr', State.setFrames_setFrames, hr]
      rfl
    have hsame : U.sameButNew ({ U with heap := s₂.heap, slotsUsed := s₂.slotsUsed } : State) L mc ms := by
      refine ⟨?_, q2, q3, q4, q5, q6⟩
      obtain ⟨t, ht, -⟩ := State.frames_cons hr
      show ({ U with heap := s₂.heap, slotsUsed := s₂.slotsUsed } : State) = { U.setFrames U.frames with heap := s₂.heap, slotsUsed := s₂.slotsUsed }
      rw [State.setFrames_self ht]
    subst hg
    refine Or.inr ⟨q, ⟨(({ U with heap := s₂.heap, slotsUsed := s₂.slotsUsed } : State).setVm s₂.vm), Ls ++ L, c0 + mc, s0 + ms⟩,
      ⟨X.admits, X.cas, X.clock, X.frames, X.room, X.hears, X.method, X.code, (X.here.setHeapUsed s₂.heap s₂.slotsUsed).setVm hW'.alike, X.tail, State.WarmedH.trans X.warmed hW', X.limits, X.bytes, X.same.trans (hsame.setVm s.vm)⟩,
      ⟨g, mk, s₂, L, E, ce, rfl, rfl, hx, hce, hcv, hcl, rfl, hL, rfl, rfl⟩, ?_⟩
    show Steps p.tables e below _ (((({ U with heap := s₂.heap, slotsUsed := s₂.slotsUsed } : State).setVm s₂.vm).setTop g).pushFrame (.throwing q))
    rw [← hs₂]
    exact hsteps
end Payer
section Calls
variable {p : Program} {l : Launch} {e : Env} {R : Room} {s : State} {m : MethodId} {args : Array Value} {below : List Frame} {meth : Method} {c : Code} {T : State} {locs : List Loc} {cells slots : Nat}
theorem vx_callV (X : Stand p l e R s m args below meth c T locs cells slots) (hexec : p.tables.exec = Jvm.exec) {own C : String} {index : Nat} {y : MethodName} {bytes : ByteArray} {maxL : Nat} {ret : Option FieldType}
    (hown : s.vm.findClass own = some m.cls) (hlink : (Cond.methodLink own index y).before args s = true) (hinst : (Cond.instanceMethod y).before args s = true) (hsel : (Cond.selects C y y).before args s = true)
    (hcode : (Cond.code y bytes maxL ret).before args s = true) (hy : y.cls ≠ "java/lang/invoke/MethodHandle" ∧ y.cls ≠ "java/lang/invoke/VarHandle")
    {W9 : Nat} {Pre : Pt → Array Value → Prop} {Post : Pt → Array Value → Option Value → Pt → Prop} {PostX : Pt → Array Value → Addr → Pt → Prop} (hK : vx_Back l R p e below s args y 3 W9 Pre Post PostX)
    {b : Addr} {cellB : Cell} (hcell : T.heap[b]? = some cellB) (hobj : cellB.vm.isStatics = false) (hcls : s.vm.findClass C = some cellB.cls)
    {g : JFrame} (hg : g.method = m) (hsize : g.locals.size = c.maxLocals) {argsL rest : List Value} (hlen : ∀ sig, parseMethodDescriptor y.desc = some sig → argsL.length = sig.parameters.length)
    (hstack : g.stack = argsL.reverse ++ .ref b :: rest) (hW : 2 * g.monitorRoom + (rest.map fun v => v.category).sum ≤ W9) (hdg : decode c.code g.pc = .ok (.invokevirtual index, 3))
    (hpre : ∀ vm₁, s.WarmedH vm₁ → Pre ⟨T.setVm vm₁, locs, cells, slots⟩ (Value.ref b :: argsL).toArray) :
    (∃ (v : Option Value) (vm₁ : Vm) (B : Pt), s.WarmedH vm₁ ∧ Stand p l e R s m args below meth c B.U B.locs B.cells B.slots ∧ Post ⟨T.setVm vm₁, locs, cells, slots⟩ (Value.ref b :: argsL).toArray v B ∧
      ∀ target, Steps p.tables e below (B.U.setTop { g with pc := g.pc + 3, stack := v.toList ++ rest }) target → Steps p.tables e below (T.setTop g) target) ∨
    (∃ (q : Addr) (vm₁ : Vm) (B : Pt), s.WarmedH vm₁ ∧ Stand p l e R s m args below meth c B.U B.locs B.cells B.slots ∧ PostX ⟨T.setVm vm₁, locs, cells, slots⟩ (Value.ref b :: argsL).toArray q B ∧
      Steps p.tables e below (T.setTop g) ((B.U.setTop { g with stack := rest }).pushFrame (.throwing q))) := by
  obtain ⟨mk, methM, hnamed, hmethM, hstM, habM⟩ := Cond.instanceMethod_spec hinst
  obtain ⟨methM', cM, hmethM', -, -, -, -, -, -, hsigM⟩ := Cond.code_spec hnamed hcode
  cases hmethM.symm.trans hmethM'
  obtain ⟨c2, r2, m2, q1, q2, q3, q4, kP, hkP, hkPi⟩ := Cond.selects_spec hsel
  cases hcls.symm.trans q1
  cases (State.methodFound?_of_named hnamed hy).symm.trans q2
  cases hnamed.symm.trans q3
  have hselP : selectMethod e.platform s.vm cellB.cls mk = .method mk := by rw [Launch.admits_selectMethod X.admits]; exact q4
  obtain ⟨vm₁, X₁, hstep₁⟩ := X.invokevirtual hexec hown hlink hnamed hmethM hstM hkP hkPi hy (a := b) (cell := cellB) hcell
    (fun z h => by rw [h] at hobj; cases hobj) hselP hmethM habM hkP hkPi (g := g) hg (argsL := argsL) (rest := rest) (hlen _ hsigM) hstack hdg
  rcases hK m meth c ⟨T.setVm vm₁, locs, cells, slots⟩ { g with stack := rest } (.invokevirtual index) mk (Value.ref b :: argsL).toArray X₁ hg hsize hdg hW (X₁.named hnamed) (hpre vm₁ X₁.warmed) with ⟨v, B, X', hpost, hsteps⟩ | ⟨q, B, X', hpost, hsteps⟩
  · exact Or.inl ⟨v, vm₁, B, X₁.warmed, X', hpost, fun target h => hstep₁ _ fun acts => by rw [doInvoke_state]; exact hsteps.trans h⟩
  · exact Or.inr ⟨q, vm₁, B, X₁.warmed, X', hpost, hstep₁ _ fun acts => by rw [doInvoke_state]; exact hsteps⟩
theorem vx_callS (X : Stand p l e R s m args below meth c T locs cells slots) (hexec : p.tables.exec = Jvm.exec) {own : String} {index : Nat} {y : MethodName} {bytes : ByteArray} {maxL : Nat} {ret : Option FieldType}
    (hown : s.vm.findClass own = some m.cls) (hlink : (Cond.methodLink own index y).before args s = true) (hstat : (Cond.static y).before args s = true) (hinit : (Cond.initialized y.cls).before args s = true)
    (hcode : (Cond.code y bytes maxL ret).before args s = true) (hy : y.cls ≠ "java/lang/invoke/MethodHandle" ∧ y.cls ≠ "java/lang/invoke/VarHandle")
    {W9 : Nat} {Pre : Pt → Array Value → Prop} {Post : Pt → Array Value → Option Value → Pt → Prop} {PostX : Pt → Array Value → Addr → Pt → Prop} (hK : vx_Back l R p e below s args y 3 W9 Pre Post PostX)
    {g : JFrame} (hg : g.method = m) (hsize : g.locals.size = c.maxLocals) {argsL rest : List Value} (hlen : ∀ sig, parseMethodDescriptor y.desc = some sig → argsL.length = sig.parameters.length)
    (hstack : g.stack = argsL.reverse ++ rest) (hW : 2 * g.monitorRoom + (rest.map fun v => v.category).sum ≤ W9) (hdg : decode c.code g.pc = .ok (.invokestatic index, 3))
    (hpre : ∀ vm₁, s.WarmedH vm₁ → Pre ⟨T.setVm vm₁, locs, cells, slots⟩ argsL.toArray) :
    (∃ (v : Option Value) (vm₁ : Vm) (B : Pt), s.WarmedH vm₁ ∧ Stand p l e R s m args below meth c B.U B.locs B.cells B.slots ∧ Post ⟨T.setVm vm₁, locs, cells, slots⟩ argsL.toArray v B ∧
      ∀ target, Steps p.tables e below (B.U.setTop { g with pc := g.pc + 3, stack := v.toList ++ rest }) target → Steps p.tables e below (T.setTop g) target) ∨
    (∃ (q : Addr) (vm₁ : Vm) (B : Pt), s.WarmedH vm₁ ∧ Stand p l e R s m args below meth c B.U B.locs B.cells B.slots ∧ PostX ⟨T.setVm vm₁, locs, cells, slots⟩ argsL.toArray q B ∧
      Steps p.tables e below (T.setTop g) ((B.U.setTop { g with stack := rest }).pushFrame (.throwing q))) := by
  obtain ⟨mk, hnamed⟩ := Cond.code_named hcode
  obtain ⟨methM, cM, hmethM, -, -, -, -, -, -, hsigM⟩ := Cond.code_spec hnamed hcode
  have hstatic : methM.isStatic = true := Cond.static_spec hnamed hmethM hstat
  obtain ⟨kP, hkP, -⟩ := className_of_methodNamed hnamed
  have hinitP : kP.init = .initialized := Cond.initialized_spec (findClass_of_methodNamed hnamed) hkP hinit
  obtain ⟨vm₁, X₁, hstep₁⟩ := X.invokestatic hexec hown hlink hnamed hmethM hstatic hkP hinitP hy (g := g) hg (argsL := argsL) (rest := rest) (hlen _ hsigM) hstack hdg
  rcases hK m meth c ⟨T.setVm vm₁, locs, cells, slots⟩ { g with stack := rest } (.invokestatic index) mk argsL.toArray X₁ hg hsize hdg hW (X₁.named hnamed) (hpre vm₁ X₁.warmed) with ⟨v, B, X', hpost, hsteps⟩ | ⟨q, B, X', hpost, hsteps⟩
  · exact Or.inl ⟨v, vm₁, B, X₁.warmed, X', hpost, fun target h => hstep₁ _ fun acts => by rw [doInvoke_state]; exact hsteps.trans h⟩
  · exact Or.inr ⟨q, vm₁, B, X₁.warmed, X', hpost, hstep₁ _ fun acts => by rw [doInvoke_state]; exact hsteps⟩
end Calls
theorem vx_cls {s : State} {T : State} {vm₁ : Vm} {E : String} {k : ClassId} (hW : s.WarmedH vm₁) (h : (T.setVm vm₁).vm.findClass E = some k) : s.vm.findClass E = some k := by
  have h1 : vm₁.findClass E = some k := h
  rw [hW.alike.findClass] at h1
  exact h1
/-- the method's frame g, with q thrown over it -/
def vx_W (p : Program) (l : Launch) (e : Env) (R : Room) (s : State) (m : MethodId) (args : Array Value) (below : List Frame) (meth : Method) (c : Code) (H : Heap) (locs : List Loc) (cells slots : Nat) (Q : State → Prop) (g : JFrame) (q : Addr) : Prop :=
  ∀ T : State, T.heap = H → Stand p l e R s m args below meth c T locs cells slots → ∃ t, Steps p.tables e below ((T.setTop g).pushFrame (.throwing q)) t ∧ Q t
def vx_Run (p : Program) (l : Launch) (e : Env) (R : Room) (s : State) (m : MethodId) (args : Array Value) (below : List Frame) (meth : Method) (c : Code) (H : Heap) (locs : List Loc) (cells slots mc ms : Nat) (g : JFrame) (rest : List Value) (Qa : State → Outcome → State → Prop) (XC : String → State → State → Prop) (free : Addr → Prop) : Prop :=
  ∀ T : State, T.heap = H → Stand p l e R s m args below meth c T locs cells slots →
    (∃ (v : Option Value) (st₀ t T' : State) (L : List Loc), st₀.heap = H ∧ Stand p l e R s m args below meth c T' (locs ++ L) (cells + mc) (slots + ms) ∧ (∀ q ∈ L, free q.base) ∧ T'.heap = t.heap ∧ T'.vm = t.vm ∧ Qa st₀ (.returned v) t ∧
      Goes p e below T g T' { g with pc := g.pc + 3, stack := v.toList ++ rest }) ∨
    (∃ (q : Addr) (st₀ t T' : State) (L : List Loc) (E : String) (ce : Cell), st₀.heap = H ∧ Stand p l e R s m args below meth c T' (locs ++ L) (cells + mc) (slots + ms) ∧ (∀ z ∈ L, free z.base) ∧ T'.heap = t.heap ∧ T'.vm = t.vm ∧ XC E st₀ t ∧ t.heap[q]? = some ce ∧ ce.vm = .none ∧ s.vm.findClass E = some ce.cls ∧
      Steps p.tables e below (T.setTop g) ((T'.setTop { g with stack := rest }).pushFrame (.throwing q)))
def vx_X {S : Type} (px : S → Prop) (B : String → S → State → Prop) (A : Nat → Prop) : String → State → State → Prop := fun E st t => ∃ u : S, px u ∧ B E u t ∧ va_F A st t
section Runs
variable {p : Program} {l : Launch} {e : Env} {R : Room} {s : State} {m : MethodId} {args : Array Value} {below : List Frame} {meth : Method} {c : Code} {H : Heap} {locs : List Loc} {cells slots : Nat}
variable {y : MethodName} {bytes cc : ByteArray} {maxL nL mc ms n index : Nat} {ret : Option FieldType} {ws : List Cond} {rm : Room} {Pc : Array Value → State → Prop} {Qc : Array Value → State → Outcome → State → Prop} {XC : String → State → State → Prop} {free : Addr → Prop} {Ts : List Cond} {own C : String} {b : Addr} {As rest : List Value} {g : JFrame}
theorem vx_callBack (cb : CallB R s args own index y bytes maxL ret ws rm mc ms n) (hM : vx_Met l y ws rm Pc Qc XC mc ms free) (hbl : FrameBlind Pc) : vx_Back l R p e below s args y 3 8 (PreOf R mc ms Pc) (PostOf Qc mc ms free) (vx_Post XC mc ms free) := by
  obtain ⟨hrc, hrs, hfr, hlo, hws, hcw, -, hini, -⟩ := cb
  exact vx_back (bytes := bytes) (maxL := maxL) (ret := ret) hM hbl hrc hrs hfr hlo hws hcw (fun a' U hW => word_at hW (Or.inl (by first | rfl | simp [Cond.onTables, Cond.keeps, Cond.steady])) hini)
theorem vx_runV (S : CallFix p m c cc nL s args Ts own) (hM : vx_Met l y ws rm Pc Qc XC mc ms free) (cw : CallW R s args own C index y bytes maxL ret ws rm mc ms n) (hp : PreV s H C b Pc As)
    (hg : g.method = m) (hn : As.length = n) (hsize : g.locals.size = nL) (hstack : g.stack = As.reverse ++ .ref b :: rest) (hW : 2 * g.monitorRoom + (rest.map fun v => v.category).sum ≤ 8) (hdg : decode cc g.pc = .ok (.invokevirtual index, 3)) (hf : cells + mc ≤ R.cells ∧ slots + ms ≤ R.slots) :
    vx_Run p l e R s m args below meth c H locs cells slots mc ms g rest (Qc (Value.ref b :: As).toArray) XC free := by
  have hK : vx_Back l R p e below s args y 3 8 (PreOf R mc ms Pc) (PostOf Qc mc ms free) (vx_Post XC mc ms free) := vx_callBack cw.1 hM hp.1
  obtain ⟨⟨-, -, -, -, -, -, hcode, -, hy, hlen, hl⟩, hin, hse⟩ := cw
  obtain ⟨hx, hb, hml, ho, -⟩ := S
  obtain ⟨-, ⟨cellB, hcB, hoB, hclB⟩, hPc⟩ := hp
  intro T hT X
  rcases vx_callV X hx (C := C) (bytes := bytes) (maxL := maxL) (ret := ret) ho hl hin hse hcode hy hK (by rw [hT]; exact hcB) hoB hclB hg (hsize.trans hml.symm) (argsL := As) (rest := rest) (fun sig h => hn.trans (hlen sig h)) hstack hW (by rw [hb]; exact hdg)
    (fun vm₁ hW₁ => ⟨hf.1, hf.2, hPc (T.setVm vm₁) hT hW₁⟩) with ⟨v, vm₁, ⟨U', l2, c2, s2⟩, hW₁, X', ⟨g', mk, t, L, e1, e2, hq, h1, hL, h2, h3⟩, st⟩ | ⟨q, vm₁, ⟨U', l2, c2, s2⟩, hW₁, X', ⟨g', mk, t, L, E, ce, e1, e2, hq, hce, hcv, hcl, h1, hL, h2, h3⟩, st⟩
  · dsimp only [Pt.U, Pt.locs, Pt.cells, Pt.slots] at X' e1 e2 h1 h2 h3 st
    subst h1; subst h2; subst h3
    exact Or.inl ⟨v, (T.setVm vm₁).calling g' mk (Value.ref b :: As).toArray, t, U', L, hT, X', hL, e1, e2, hq, st⟩
  · dsimp only [Pt.U, Pt.locs, Pt.cells, Pt.slots] at X' e1 e2 h1 h2 h3 st hcl
    subst h1; subst h2; subst h3
    exact Or.inr ⟨q, (T.setVm vm₁).calling g' mk (Value.ref b :: As).toArray, t, U', L, E, ce, hT, X', hL, e1, e2, hq, hce, hcv, vx_cls hW₁ hcl, st⟩
theorem vx_runS (S : CallFix p m c cc nL s args Ts own) (hM : vx_Met l y ws rm Pc Qc XC mc ms free) (cw : CallB R s args own index y bytes maxL ret ws rm mc ms n ∧ (Cond.static y).before args s = true) (hp : PreS s H Pc As)
    (hg : g.method = m) (hn : As.length = n) (hsize : g.locals.size = nL) (hstack : g.stack = As.reverse ++ rest) (hW : 2 * g.monitorRoom + (rest.map fun v => v.category).sum ≤ 8) (hdg : decode cc g.pc = .ok (.invokestatic index, 3)) (hf : cells + mc ≤ R.cells ∧ slots + ms ≤ R.slots) :
    vx_Run p l e R s m args below meth c H locs cells slots mc ms g rest (Qc As.toArray) XC free := by
  have hK : vx_Back l R p e below s args y 3 8 (PreOf R mc ms Pc) (PostOf Qc mc ms free) (vx_Post XC mc ms free) := vx_callBack cw.1 hM hp.1
  obtain ⟨⟨-, -, -, -, -, -, hcode, hini, hy, hlen, hl⟩, hstt⟩ := cw
  obtain ⟨hx, hb, hml, ho, -⟩ := S
  intro T hT X
  rcases vx_callS X hx (bytes := bytes) (maxL := maxL) (ret := ret) ho hl hstt hini hcode hy hK hg (hsize.trans hml.symm) (argsL := As) (rest := rest) (fun sig h => hn.trans (hlen sig h)) hstack hW (by rw [hb]; exact hdg)
    (fun vm₁ hW₁ => ⟨hf.1, hf.2, hp.2 (T.setVm vm₁) hT hW₁⟩) with ⟨v, vm₁, ⟨U', l2, c2, s2⟩, hW₁, X', ⟨g', mk, t, L, e1, e2, hq, h1, hL, h2, h3⟩, st⟩ | ⟨q, vm₁, ⟨U', l2, c2, s2⟩, hW₁, X', ⟨g', mk, t, L, E, ce, e1, e2, hq, hce, hcv, hcl, h1, hL, h2, h3⟩, st⟩
  · dsimp only [Pt.U, Pt.locs, Pt.cells, Pt.slots] at X' e1 e2 h1 h2 h3 st
    subst h1; subst h2; subst h3
    exact Or.inl ⟨v, (T.setVm vm₁).calling g' mk As.toArray, t, U', L, hT, X', hL, e1, e2, hq, st⟩
  · dsimp only [Pt.U, Pt.locs, Pt.cells, Pt.slots] at X' e1 e2 h1 h2 h3 st hcl
    subst h1; subst h2; subst h3
    exact Or.inr ⟨q, (T.setVm vm₁).calling g' mk As.toArray, t, U', L, E, ce, hT, X', hL, e1, e2, hq, hce, hcv, vx_cls hW₁ hcl, st⟩
end Runs
section Rows
variable {p : Program} {l : Launch} {e : Env} {R : Room} {s : State} {m : MethodId} {args : Array Value} {below : List Frame} {meth : Method} {c : Code} {H : Heap} {locs : List Loc} {cells slots : Nat} {Q : State → Prop}
variable {mc ms : Nat} {free : Addr → Prop} {A0 A1 : Nat → Prop} {H0 : Heap} {a : Array Value} {pc : Nat} {ls : Array Slot} {st0 rest : List Value}
theorem vx_keep {st₀ t T' : State} {L : List Loc} (h0 : st₀.heap = H) (e1 : T'.heap = t.heap) (hS : va_S A0 H0 H locs) (hA : ∀ q, q < H.size → A1 q → A0 q) (hf : ∀ q, free q → A0 q) (hL : ∀ q ∈ L, free q.base) (hF : va_F A1 st₀ t) :
    H.size ≤ T'.heap.size ∧ (∀ q : Nat, q < H.size → ¬ A1 q → T'.heap[q]? = H[q]?) ∧ va_S A0 H0 T'.heap (locs ++ L) := by
  obtain ⟨hz, hk⟩ := hF
  rw [h0] at hz hk
  exact ⟨by rw [e1]; exact hz, fun q h1 h2 => by rw [e1]; exact hk q h1 h2,
    ⟨Nat.le_trans hS.1 (by rw [e1]; exact hz), fun q h1 h2 => by rw [e1, hk q (Nat.lt_of_lt_of_le h1 hS.1) (fun z => h2 (hA q (Nat.lt_of_lt_of_le h1 hS.1) z))]; exact hS.2.1 q h1 h2, fun q hq => by
      rcases List.mem_append.mp hq with h | h
      · exact hS.2.2 q h
      · exact hf _ (hL q h)⟩⟩
theorem vx_calli {S SX : Type} {post : Int32 → S → Prop} {px : SX → Prop} {B : S → State → Prop} {BX : String → SX → State → Prop} {AX : Nat → Prop} (hr : vx_Run p l e R s m args below meth c H locs cells slots mc ms (F0 m pc ls st0) rest (va_Qi post B A1 a) (vx_X px BX AX) free) (hS : va_S A0 H0 H locs) (hA : ∀ q, q < H.size → A1 q → A0 q) (hf : ∀ q, free q → A0 q) (hAX : ∀ q, q < H.size → AX q → A0 q)
    (kx : ∀ (E : String) (ce : Cell) (q9 : Addr) (u : SX) (t : State) (H1 : Heap) (locs1 : List Loc), t.heap = H1 → s.vm.Alike t.vm → px u → BX E u t → H.size ≤ H1.size → (∀ q : Nat, q < H.size → ¬ AX q → H1[q]? = H[q]?) → va_S A0 H0 H1 locs1 → H1[q9]? = some ce → ce.vm = .none → s.vm.findClass E = some ce.cls → vx_W p l e R s m args below meth c H1 locs1 (cells + mc) (slots + ms) Q (F0 m pc ls rest) q9)
    (kk : ∀ (r : Int32) (u : S) (t : State) (H1 : Heap) (locs1 : List Loc), t.heap = H1 → s.vm.Alike t.vm → post r u → B u t → H.size ≤ H1.size → (∀ q : Nat, q < H.size → ¬ A1 q → H1[q]? = H[q]?) → va_S A0 H0 H1 locs1 → W p l e R s m args below meth c H1 locs1 (cells + mc) (slots + ms) Q (F0 m (pc + 3) ls (.int r :: rest))) : W p l e R s m args below meth c H locs cells slots Q (F0 m pc ls st0) := by
  intro T hT X
  rcases hr T hT X with ⟨v, st₀, t, T', L, h0, X', hL, e1, e2, ⟨⟨r, u, hv, hp, hb⟩, hF⟩, st⟩ | ⟨q, st₀, t, T', L, E, ce, h0, X', hL, e1, e2, ⟨u, hp, hb, hF⟩, hce, hcv, hcl, st⟩
  · cases hv
    obtain ⟨k1, k2, k3⟩ := vx_keep h0 e1 hS hA hf hL hF
    obtain ⟨t2, a1, b1⟩ := kk r u t T'.heap (locs ++ L) e1.symm (by rw [← e2]; exact X'.warmed.alike) hp hb k1 k2 k3 T' rfl X'
    exact ⟨t2, st t2 a1, b1⟩
  · obtain ⟨k1, k2, k3⟩ := vx_keep h0 e1 hS hAX hf hL hF
    obtain ⟨t2, a1, b1⟩ := kx E ce q u t T'.heap (locs ++ L) e1.symm (by rw [← e2]; exact X'.warmed.alike) hp hb k1 k2 k3 (by rw [e1]; exact hce) hcv hcl T' rfl X'
    exact ⟨t2, st.trans a1, b1⟩
theorem vx_calll {S SX : Type} {post : Int64 → S → Prop} {px : SX → Prop} {B : S → State → Prop} {BX : String → SX → State → Prop} {AX : Nat → Prop} (hr : vx_Run p l e R s m args below meth c H locs cells slots mc ms (F0 m pc ls st0) rest (va_Ql post B A1 a) (vx_X px BX AX) free) (hS : va_S A0 H0 H locs) (hA : ∀ q, q < H.size → A1 q → A0 q) (hf : ∀ q, free q → A0 q) (hAX : ∀ q, q < H.size → AX q → A0 q)
    (kx : ∀ (E : String) (ce : Cell) (q9 : Addr) (u : SX) (t : State) (H1 : Heap) (locs1 : List Loc), t.heap = H1 → s.vm.Alike t.vm → px u → BX E u t → H.size ≤ H1.size → (∀ q : Nat, q < H.size → ¬ AX q → H1[q]? = H[q]?) → va_S A0 H0 H1 locs1 → H1[q9]? = some ce → ce.vm = .none → s.vm.findClass E = some ce.cls → vx_W p l e R s m args below meth c H1 locs1 (cells + mc) (slots + ms) Q (F0 m pc ls rest) q9)
    (kk : ∀ (r : Int64) (u : S) (t : State) (H1 : Heap) (locs1 : List Loc), t.heap = H1 → s.vm.Alike t.vm → post r u → B u t → H.size ≤ H1.size → (∀ q : Nat, q < H.size → ¬ A1 q → H1[q]? = H[q]?) → va_S A0 H0 H1 locs1 → W p l e R s m args below meth c H1 locs1 (cells + mc) (slots + ms) Q (F0 m (pc + 3) ls (.long r :: rest))) : W p l e R s m args below meth c H locs cells slots Q (F0 m pc ls st0) := by
  intro T hT X
  rcases hr T hT X with ⟨v, st₀, t, T', L, h0, X', hL, e1, e2, ⟨⟨r, u, hv, hp, hb⟩, hF⟩, st⟩ | ⟨q, st₀, t, T', L, E, ce, h0, X', hL, e1, e2, ⟨u, hp, hb, hF⟩, hce, hcv, hcl, st⟩
  · cases hv
    obtain ⟨k1, k2, k3⟩ := vx_keep h0 e1 hS hA hf hL hF
    obtain ⟨t2, a1, b1⟩ := kk r u t T'.heap (locs ++ L) e1.symm (by rw [← e2]; exact X'.warmed.alike) hp hb k1 k2 k3 T' rfl X'
    exact ⟨t2, st t2 a1, b1⟩
  · obtain ⟨k1, k2, k3⟩ := vx_keep h0 e1 hS hAX hf hL hF
    obtain ⟨t2, a1, b1⟩ := kx E ce q u t T'.heap (locs ++ L) e1.symm (by rw [← e2]; exact X'.warmed.alike) hp hb k1 k2 k3 (by rw [e1]; exact hce) hcv hcl T' rfl X'
    exact ⟨t2, st.trans a1, b1⟩
theorem vx_callf {S SX : Type} {post : UInt32 → S → Prop} {px : SX → Prop} {B : S → State → Prop} {BX : String → SX → State → Prop} {AX : Nat → Prop} (hr : vx_Run p l e R s m args below meth c H locs cells slots mc ms (F0 m pc ls st0) rest (va_Qf post B A1 a) (vx_X px BX AX) free) (hS : va_S A0 H0 H locs) (hA : ∀ q, q < H.size → A1 q → A0 q) (hf : ∀ q, free q → A0 q) (hAX : ∀ q, q < H.size → AX q → A0 q)
    (kx : ∀ (E : String) (ce : Cell) (q9 : Addr) (u : SX) (t : State) (H1 : Heap) (locs1 : List Loc), t.heap = H1 → s.vm.Alike t.vm → px u → BX E u t → H.size ≤ H1.size → (∀ q : Nat, q < H.size → ¬ AX q → H1[q]? = H[q]?) → va_S A0 H0 H1 locs1 → H1[q9]? = some ce → ce.vm = .none → s.vm.findClass E = some ce.cls → vx_W p l e R s m args below meth c H1 locs1 (cells + mc) (slots + ms) Q (F0 m pc ls rest) q9)
    (kk : ∀ (r : UInt32) (u : S) (t : State) (H1 : Heap) (locs1 : List Loc), t.heap = H1 → s.vm.Alike t.vm → post r u → B u t → H.size ≤ H1.size → (∀ q : Nat, q < H.size → ¬ A1 q → H1[q]? = H[q]?) → va_S A0 H0 H1 locs1 → W p l e R s m args below meth c H1 locs1 (cells + mc) (slots + ms) Q (F0 m (pc + 3) ls (.float r :: rest))) : W p l e R s m args below meth c H locs cells slots Q (F0 m pc ls st0) := by
  intro T hT X
  rcases hr T hT X with ⟨v, st₀, t, T', L, h0, X', hL, e1, e2, ⟨⟨r, u, hv, hp, hb⟩, hF⟩, st⟩ | ⟨q, st₀, t, T', L, E, ce, h0, X', hL, e1, e2, ⟨u, hp, hb, hF⟩, hce, hcv, hcl, st⟩
  · cases hv
    obtain ⟨k1, k2, k3⟩ := vx_keep h0 e1 hS hA hf hL hF
    obtain ⟨t2, a1, b1⟩ := kk r u t T'.heap (locs ++ L) e1.symm (by rw [← e2]; exact X'.warmed.alike) hp hb k1 k2 k3 T' rfl X'
    exact ⟨t2, st t2 a1, b1⟩
  · obtain ⟨k1, k2, k3⟩ := vx_keep h0 e1 hS hAX hf hL hF
    obtain ⟨t2, a1, b1⟩ := kx E ce q u t T'.heap (locs ++ L) e1.symm (by rw [← e2]; exact X'.warmed.alike) hp hb k1 k2 k3 (by rw [e1]; exact hce) hcv hcl T' rfl X'
    exact ⟨t2, st.trans a1, b1⟩
theorem vx_calld {S SX : Type} {post : UInt64 → S → Prop} {px : SX → Prop} {B : S → State → Prop} {BX : String → SX → State → Prop} {AX : Nat → Prop} (hr : vx_Run p l e R s m args below meth c H locs cells slots mc ms (F0 m pc ls st0) rest (va_Qd post B A1 a) (vx_X px BX AX) free) (hS : va_S A0 H0 H locs) (hA : ∀ q, q < H.size → A1 q → A0 q) (hf : ∀ q, free q → A0 q) (hAX : ∀ q, q < H.size → AX q → A0 q)
    (kx : ∀ (E : String) (ce : Cell) (q9 : Addr) (u : SX) (t : State) (H1 : Heap) (locs1 : List Loc), t.heap = H1 → s.vm.Alike t.vm → px u → BX E u t → H.size ≤ H1.size → (∀ q : Nat, q < H.size → ¬ AX q → H1[q]? = H[q]?) → va_S A0 H0 H1 locs1 → H1[q9]? = some ce → ce.vm = .none → s.vm.findClass E = some ce.cls → vx_W p l e R s m args below meth c H1 locs1 (cells + mc) (slots + ms) Q (F0 m pc ls rest) q9)
    (kk : ∀ (r : UInt64) (u : S) (t : State) (H1 : Heap) (locs1 : List Loc), t.heap = H1 → s.vm.Alike t.vm → post r u → B u t → H.size ≤ H1.size → (∀ q : Nat, q < H.size → ¬ A1 q → H1[q]? = H[q]?) → va_S A0 H0 H1 locs1 → W p l e R s m args below meth c H1 locs1 (cells + mc) (slots + ms) Q (F0 m (pc + 3) ls (.double r :: rest))) : W p l e R s m args below meth c H locs cells slots Q (F0 m pc ls st0) := by
  intro T hT X
  rcases hr T hT X with ⟨v, st₀, t, T', L, h0, X', hL, e1, e2, ⟨⟨r, u, hv, hp, hb⟩, hF⟩, st⟩ | ⟨q, st₀, t, T', L, E, ce, h0, X', hL, e1, e2, ⟨u, hp, hb, hF⟩, hce, hcv, hcl, st⟩
  · cases hv
    obtain ⟨k1, k2, k3⟩ := vx_keep h0 e1 hS hA hf hL hF
    obtain ⟨t2, a1, b1⟩ := kk r u t T'.heap (locs ++ L) e1.symm (by rw [← e2]; exact X'.warmed.alike) hp hb k1 k2 k3 T' rfl X'
    exact ⟨t2, st t2 a1, b1⟩
  · obtain ⟨k1, k2, k3⟩ := vx_keep h0 e1 hS hAX hf hL hF
    obtain ⟨t2, a1, b1⟩ := kx E ce q u t T'.heap (locs ++ L) e1.symm (by rw [← e2]; exact X'.warmed.alike) hp hb k1 k2 k3 (by rw [e1]; exact hce) hcv hcl T' rfl X'
    exact ⟨t2, st.trans a1, b1⟩
theorem vx_callv {S SX : Type} {post : S → Prop} {px : SX → Prop} {B : S → State → Prop} {BX : String → SX → State → Prop} {AX : Nat → Prop} (hr : vx_Run p l e R s m args below meth c H locs cells slots mc ms (F0 m pc ls st0) rest (va_Qv post B A1 a) (vx_X px BX AX) free) (hS : va_S A0 H0 H locs) (hA : ∀ q, q < H.size → A1 q → A0 q) (hf : ∀ q, free q → A0 q) (hAX : ∀ q, q < H.size → AX q → A0 q)
    (kx : ∀ (E : String) (ce : Cell) (q9 : Addr) (u : SX) (t : State) (H1 : Heap) (locs1 : List Loc), t.heap = H1 → s.vm.Alike t.vm → px u → BX E u t → H.size ≤ H1.size → (∀ q : Nat, q < H.size → ¬ AX q → H1[q]? = H[q]?) → va_S A0 H0 H1 locs1 → H1[q9]? = some ce → ce.vm = .none → s.vm.findClass E = some ce.cls → vx_W p l e R s m args below meth c H1 locs1 (cells + mc) (slots + ms) Q (F0 m pc ls rest) q9)
    (kk : ∀ (u : S) (t : State) (H1 : Heap) (locs1 : List Loc), t.heap = H1 → s.vm.Alike t.vm → post u → B u t → H.size ≤ H1.size → (∀ q : Nat, q < H.size → ¬ A1 q → H1[q]? = H[q]?) → va_S A0 H0 H1 locs1 → W p l e R s m args below meth c H1 locs1 (cells + mc) (slots + ms) Q (F0 m (pc + 3) ls (rest))) : W p l e R s m args below meth c H locs cells slots Q (F0 m pc ls st0) := by
  intro T hT X
  rcases hr T hT X with ⟨v, st₀, t, T', L, h0, X', hL, e1, e2, ⟨⟨u, hv, hp, hb⟩, hF⟩, st⟩ | ⟨q, st₀, t, T', L, E, ce, h0, X', hL, e1, e2, ⟨u, hp, hb, hF⟩, hce, hcv, hcl, st⟩
  · cases hv
    obtain ⟨k1, k2, k3⟩ := vx_keep h0 e1 hS hA hf hL hF
    obtain ⟨t2, a1, b1⟩ := kk u t T'.heap (locs ++ L) e1.symm (by rw [← e2]; exact X'.warmed.alike) hp hb k1 k2 k3 T' rfl X'
    exact ⟨t2, st t2 a1, b1⟩
  · obtain ⟨k1, k2, k3⟩ := vx_keep h0 e1 hS hAX hf hL hF
    obtain ⟨t2, a1, b1⟩ := kx E ce q u t T'.heap (locs ++ L) e1.symm (by rw [← e2]; exact X'.warmed.alike) hp hb k1 k2 k3 (by rw [e1]; exact hce) hcv hcl T' rfl X'
    exact ⟨t2, st.trans a1, b1⟩
/-- caught by the row x of this method's table; the rows ahead don't take it -/
theorem vx_catch {own name : String} {E : String} {ce : Cell} {q : Addr} (hown : s.vm.findClass own = some m.cls) (pre : List ExceptionTableEntry) (x : ExceptionTableEntry) (suf : List ExceptionTableEntry) (hsplit : c.exceptionTable.toList = pre ++ x :: suf)
    (hpass : ∀ z ∈ pre, covers z pc = false ∨ (z.catchType ≠ 0 ∧ ∃ nm : String, (Cond.classLink own z.catchType nm).before args s = true ∧ va_Nc E nm s)) (hx : covers x pc = true) (h0 : x.catchType ≠ 0)
    (hlink : (Cond.classLink own x.catchType name).before args s = true) (hcast : (Cond.castable E name).before args s = true) (hcell : H[q]? = some ce) (hv : ce.vm = .none) (hcl : s.vm.findClass E = some ce.cls)
    (kk : W p l e R s m args below meth c H locs cells slots Q (F0 m x.handlerPc ls [.ref q])) : vx_W p l e R s m args below meth c H locs cells slots Q (F0 m pc ls rest) q := by
  intro T hT X
  have hpl : e.platform.magicAccessors = ({} : Platform).magicAccessors := by rw [X.admits.platform]
  obtain ⟨c3, c4, hc3, hc4, hasg⟩ := Cond.castable_spec hcast
  cases Option.some.inj (hc3.symm.trans hcl)
  obtain ⟨c5, hc5, hcl5⟩ := Cond.classLink_spec hown hlink e.platform hpl
  cases Option.some.inj (hc4.symm.trans hc5)
  obtain ⟨vm', X', st⟩ := X.thenCaughtThrough q (g := F0 m pc ls rest) rfl (Steps.refl _) (by rw [hT]; exact hcell) (by rw [hv]; rfl) (by obtain ⟨k9, h9, -⟩ := Vm.findClass_spec hcl; exact ⟨k9, h9⟩) pre x suf hsplit
    (fun z hz => by
      rcases hpass z hz with h | ⟨hz0, nm, hl1, hn1⟩
      · exact Or.inl h
      · obtain ⟨c6, hc6, hcl6⟩ := Cond.classLink_spec hown hl1 e.platform hpl
        obtain ⟨a8, b8, h1, h2, h3⟩ := hn1
        cases Option.some.inj (h1.symm.trans hcl)
        cases Option.some.inj (h2.symm.trans hc6)
        exact Or.inr ⟨hz0, _, hcl6, h3⟩) hx (Or.inr ⟨h0, c4, hcl5, hasg⟩)
  obtain ⟨t, a1, b1⟩ := kk (T.setVm vm') hT X'
  exact ⟨t, st.trans a1, b1⟩
end Rows
section Ends
variable {p : Program} {l : Launch} {e : Env} {R : Room} {s : State} {m : MethodId} {args : Array Value} {below : List Frame} {meth : Method} {c : Code} {H : Heap} {locs : List Loc} {cells slots : Nat} {Q : State → Prop}
variable {mc ms : Nat} {free : Addr → Prop} {A0 A1 : Nat → Prop} {H0 : Heap} {a : Array Value} {ls : Array Slot} {st0 rest : List Value}
variable {Qc : Array Value → State → Outcome → State → Prop} {XC : String → State → State → Prop}
/-- what a body that may throw owes at its end -/
def vx_MQ (below : List Frame) (Qc : Array Value → State → Outcome → State → Prop) (XC : String → State → State → Prop) (a : Array Value) (s : State) (mc ms : Nat) (free : Addr → Prop) : State → Prop := fun t =>
  ∃ o, t.status = .running ∧ Ended t below o ∧ vx_Q Qc XC mc ms free a s o t
theorem vx_ret {g : JFrame} {mc ms : Nat} (k : W p l e R s m args below meth c H locs cells slots (MQ below Qc args s mc ms free) g) : W p l e R s m args below meth c H locs cells slots (vx_MQ below Qc XC args s mc ms free) g := by
  intro T hT X
  obtain ⟨t, a1, o, b1, b2, b3, b4⟩ := k T hT X
  exact ⟨t, a1, o, b1, b2, Or.inl ⟨b3, b4⟩⟩
/-- not caught here: it goes on to the caller -/
theorem vx_widen {g : JFrame} {q : Addr} {k n : Nat} (h1 : cells ≤ k) (h2 : slots ≤ n) (kk : vx_W p l e R s m args below meth c H locs k n Q g q) : vx_W p l e R s m args below meth c H locs cells slots Q g q := fun T hT X => kk T hT (stand_widen X h1 h2)
theorem vx_out {pc : Nat} {E : String} {ce : Cell} {q : Addr} {mc ms : Nat} (hout : ∀ x ∈ c.exceptionTable.toList, covers x pc = false) (hlocks : meth.locks = false) (hcell : H[q]? = some ce) (hv : ce.vm = .none) (hcl : s.vm.findClass E = some ce.cls)
    (hx : ∀ t : State, t.heap = H → s.vm.Alike t.vm → XC E s t) (hf : ∀ z ∈ locs, free z.base) (hc : cells ≤ mc) (hs : slots ≤ ms) :
    vx_W p l e R s m args below meth c H locs cells slots (vx_MQ below Qc XC args s mc ms free) (F0 m pc ls rest) q := by
  intro T hT X
  obtain ⟨st1, hrun, hend, hW, hsm⟩ := X.leaveThrown q (g := F0 m pc ls rest) rfl rfl rfl hout hlocks
  have hcell9 : (T.setFrames (.throwing q :: below)).heap[q]? = some ce := by
    show T.heap[q]? = some ce
    rw [hT]; exact hcell
  exact ⟨_, st1, .threw q, hrun, hend, Or.inr ⟨q, rfl, E, ce, locs, hx _ hT hW.alike, hcell9, hv, hcl, hW, hsm.mono hc hs, hf⟩⟩
theorem vx_frame {U : State} {k n : Nat} (h : s.sameButNew ({ U with vm := s.vm } : State) locs k n) : s.heap.size ≤ U.heap.size ∧ ∀ q : Nat, q < s.heap.size → (∀ z ∈ locs, z.base ≠ q) → U.heap[q]? = s.heap[q]? := by
  obtain ⟨-, h2, -, -, -, h6⟩ := h
  refine ⟨h2, fun q hq hz => ?_⟩
  obtain ⟨c9, e1, e2, e3, e4⟩ := h6 q _ (Array.getElem?_eq_getElem hq)
  have hs : c9.slots = (s.heap[q]).slots := Array.ext_getElem? fun i => e4 i fun hm => hz _ hm rfl
  have h9 : c9 = s.heap[q] := by
    rw [hs] at e2
    exact e2
  have e5 : U.heap[q]? = some c9 := e1
  rw [e5, h9, Array.getElem?_eq_getElem hq]
/-- the words of a throw but the four that speak of the heap -/
def vx_no (w : Cond) : Bool := decide (w ≠ .isRef (.static Bundle.tN "UNASSIGNED_STACK" Bundle.steD)) && decide (w ≠ .isRef (.static Bundle.tN "SUPPRESSED_SENTINEL" Bundle.listD)) && decide (w ≠ .laysStatic Bundle.tN "UNASSIGNED_STACK" Bundle.steD) && decide (w ≠ .laysStatic Bundle.tN "SUPPRESSED_SENTINEL" Bundle.listD)
def vx_at0 (own : String) (ic : Nat) (X : String) (names : List String) : List Cond := (Bundle.ownAtoms0 own ic X names).filter vx_no
def vx_atS (own : String) (ic : Nat) (X : String) (names : List String) : List Cond := (Bundle.ownAtoms own ic X names).filter vx_no
/-- a word that the tables alone decide, or a good one -/
def vx_ot (w : Cond) : Bool := w.onTables || goodWord w
theorem vx_ot_at {args a' : Array Value} {s U : State} {w : Cond} (hW : s.WarmedH U.vm) (hvm : s.vm = U.vm) (hg : vx_ot w = true) (h : w.before args s = true) : w.before a' U = true := by
  simp only [vx_ot, Bool.or_eq_true] at hg
  rcases hg with hg | hg
  · exact va_tabs hg hvm h
  · exact word_at hW (good_of_word hg) h
/-- a list's words: the good ones out of the method's own list, the others by premises of their own -/
theorem vx_hat {args : Array Value} {s : State} {L B : List Cond} (h1 : ∀ w ∈ L.filter goodWord, w.before args s = true) (h2 : ∀ w ∈ L.filter (fun w => !goodWord w), w ∈ B) (h3 : ∀ w ∈ B, w.before args s = true) : ∀ w ∈ L, w.before args s = true := by
  intro w hw
  by_cases g : goodWord w = true
  · exact h1 w (List.mem_filter.mpr ⟨hw, g⟩)
  · refine h3 w (h2 w (List.mem_filter.mpr ⟨hw, ?_⟩))
    show (!goodWord w) = true
    cases hgw : goodWord w
    · rfl
    · exact absurd hgw g
theorem vx_c {args : Array Value} {s : State} {w : Cond} {B : List Cond} (h : w.before args s = true) (t : ∀ w ∈ B, w.before args s = true) : ∀ w' ∈ w :: B, w'.before args s = true := fun w' h' => (List.mem_cons.mp h').elim (fun e => by rw [e]; exact h) (t w')
theorem vx_n {args : Array Value} {s : State} : ∀ w ∈ ([] : List Cond), w.before args s = true := fun _ h => nomatch h
theorem vx_own {args : Array Value} {s : State} {L : List Cond} (h1 : ∀ w ∈ L.filter vx_no, w.before args s = true)
    (hU : (Cond.isRef (.static Bundle.tN "UNASSIGNED_STACK" Bundle.steD)).before args s = true) (hN : (Cond.isRef (.static Bundle.tN "SUPPRESSED_SENTINEL" Bundle.listD)).before args s = true)
    (lU : (Cond.laysStatic Bundle.tN "UNASSIGNED_STACK" Bundle.steD).before args s = true) (lN : (Cond.laysStatic Bundle.tN "SUPPRESSED_SENTINEL" Bundle.listD).before args s = true) : ∀ w ∈ L, w.before args s = true := by
  intro w hw
  by_cases e1 : w = .isRef (.static Bundle.tN "UNASSIGNED_STACK" Bundle.steD)
  · rw [e1]; exact hU
  · by_cases e2 : w = .isRef (.static Bundle.tN "SUPPRESSED_SENTINEL" Bundle.listD)
    · rw [e2]; exact hN
    · by_cases e3 : w = .laysStatic Bundle.tN "UNASSIGNED_STACK" Bundle.steD
      · rw [e3]; exact lU
      · by_cases e4 : w = .laysStatic Bundle.tN "SUPPRESSED_SENTINEL" Bundle.listD
        · rw [e4]; exact lN
        · exact h1 w (List.mem_filter.mpr ⟨hw, by unfold vx_no; rw [decide_eq_true e1, decide_eq_true e2, decide_eq_true e3, decide_eq_true e4]; rfl⟩)
/-- where a static field lies, its class's statics cell in H -/
def vx_L (C n d : String) (A : Nat → Prop) (U : State) (H : Heap) : Prop := ∃ (c : ClassId) (k : Class) (i : Nat) (f : Field) (a : Nat) (cell : Cell), U.vm.findClass C = some c ∧ U.fieldFound? C n d = some (c, k, i, f) ∧ f.isStatic = true ∧ k.statics = some a ∧ H[a]? = some cell ∧ cell.vm.isStatics = true ∧ cell.cls = c ∧ f.slot < cell.slots.size ∧ k.staticTypes[f.slot]? = some f.type ∧ ¬ A a
theorem vx_L.moved {C n d : String} {A : Nat → Prop} {u U : State} {H : Heap} (hvm : u.vm.Alike U.vm) (h : vx_L C n d A u H) : vx_L C n d A U H := by
  obtain ⟨c, k, i, f, a, cell, h1, h2, h3, h4, h5, h6, h7, h8, h9, h10⟩ := h
  obtain ⟨k', hi', he⟩ := State.fieldFound?_setVm hvm h2
  exact ⟨c, k', i, f, a, cell, by rw [hvm.findClass]; exact h1, hi', h3, by rw [he]; exact h4, h5, h6, h7, h8, by rw [he]; exact h9, h10⟩
theorem vx_L.kept {C n d : String} {A : Nat → Prop} {U : State} {H H1 : Heap} (h : vx_L C n d A U H) (hq : ∀ a : Nat, a < H.size → ¬ A a → H1[a]? = H[a]?) : vx_L C n d A U H1 := by
  obtain ⟨c, k, i, f, a, cell, h1, h2, h3, h4, h5, h6, h7, h8, h9, h10⟩ := h
  exact ⟨c, k, i, f, a, cell, h1, h2, h3, h4, by rw [hq a (Array.getElem?_eq_some_iff.mp h5).1 h10]; exact h5, h6, h7, h8, h9, h10⟩
theorem vx_L.narrow {C n d : String} {A B : Nat → Prop} {U : State} {H : Heap} (h : vx_L C n d A U H) (hAB : ∀ q, B q → A q) : vx_L C n d B U H := by
  obtain ⟨c, k, i, f, a, cell, h1, h2, h3, h4, h5, h6, h7, h8, h9, h10⟩ := h
  exact ⟨c, k, i, f, a, cell, h1, h2, h3, h4, h5, h6, h7, h8, h9, fun z => h10 (hAB _ z)⟩
theorem vx_L.word {C n d : String} {A : Nat → Prop} {s : State} {args : Array Value} (h : vx_L C n d A s s.heap) : (Cond.laysStatic C n d).before args s = true := by
  obtain ⟨c, k, i, f, a, cell, h1, h2, h3, h4, h5, h6, h7, h8, h9, -⟩ := h
  show (Cond.laysStatic C n d).holds args s none s [] = true
  exact Cond.laysStatic_of h1 h2 h3 h4 h5 h6 h7 h8 h9
/-- .. and what it holds: null or some reference -/
def vx_Zq (C n d : String) (A : Nat → Prop) (U : State) (H : Heap) : Prop := va_Zq C n d A U H ∧ vx_L C n d A U H
theorem vx_Zq.moved {C n d : String} {A : Nat → Prop} {u U : State} {H : Heap} (hvm : u.vm.Alike U.vm) (h : vx_Zq C n d A u H) : vx_Zq C n d A U H := ⟨va_Zq.moved hvm h.1, vx_L.moved hvm h.2⟩
theorem vx_Zq.kept {C n d : String} {A : Nat → Prop} {U : State} {H H1 : Heap} (h : vx_Zq C n d A U H) (hq : ∀ a : Nat, a < H.size → ¬ A a → H1[a]? = H[a]?) : vx_Zq C n d A U H1 := ⟨va_Zq.kept h.1 hq, vx_L.kept h.2 hq⟩
theorem vx_Zq.narrow {C n d : String} {A B : Nat → Prop} {U : State} {H : Heap} (h : vx_Zq C n d A U H) (hAB : ∀ q, B q → A q) : vx_Zq C n d B U H := ⟨va_Zq.narrow h.1 hAB, vx_L.narrow h.2 hAB⟩
theorem vx_Zqof {args : Array Value} {s : State} {C n d : String} {A : Nat → Prop} (hl : (Cond.laysStatic C n d).before args s = true) (hini : (Cond.initialized C).before args s = true) (h : (Cond.isRef (.static C n d)).before args s = true) (hA : ∀ a : Nat, a < s.heap.size → ¬ A a) : vx_Zq C n d A s s.heap := by
  refine ⟨va_Zqof hl hini h hA, ?_⟩
  obtain ⟨c, k, i, f, a, cell, h1, h2, h3, h4, h5, h6, h7, h8, h9⟩ := Cond.laysStatic_spec hl
  exact ⟨c, k, i, f, a, cell, h1, h2, h3, h4, h5, h6, h7, h8, h9, hA a (Array.getElem?_eq_some_iff.mp h5).1⟩
theorem vx_isRef {C n d : String} {v : Value} {A : Nat → Prop} {s : State} {args : Array Value} (h : va_Z C n d v A s s.heap) (hv : v.isRef = true) : (Cond.isRef (.static C n d)).before args s = true := by
  obtain ⟨cf, kf, fi, f, a, cell, h1, h2, h3, h4, h5, h6, h7, -⟩ := h
  have he : (Term.static C n d).eval args s none [] s = some v := by
    simp [Term.eval, State.fieldNamed?, h1, h2, h4, h5, h6, h7]
  simp only [Cond.before, Cond.holds, Cond.value, he]
  cases v <;> simp_all [Value.isRef]
theorem vx_isRefq {C n d : String} {A : Nat → Prop} {s : State} {args : Array Value} (h : va_Zq C n d A s s.heap) : (Cond.isRef (.static C n d)).before args s = true := by
  rcases h with h | ⟨t, h⟩
  · exact vx_isRef h rfl
  · exact vx_isRef h rfl
/-- the same frame, seen from here: as if the method were called anew in this heap -/
theorem vx_rebase {T : State} (X : Stand p l e R s m args below meth c T locs cells slots) {R' : Room} (hf : R'.frames ≤ R.frames) (hl : R'.locals ≤ R.locals) (hc : cells + R'.cells ≤ R.cells) (hs : slots + R'.slots ≤ R.slots) :
    Stand p l e R' ((T.setVm s.vm).setFrames (.invoking m args :: below)) m args below meth c T [] 0 0 := by
  have htop : (T.setVm s.vm).topJava?.isSome := X.here.top
  have hF : ((T.setVm s.vm).setFrames (.invoking m args :: below)).frames = .invoking m args :: below := State.frames_setFrames _ (State.cur_lt_of_top htop)
  obtain ⟨g₀, hg0⟩ := Option.isSome_iff_exists.mp htop
  obtain ⟨r, hr⟩ := State.topJava?_eq_some.mp hg0
  have hl9 : e.platform.stackLimits (T.setVm s.vm).me = e.platform.stackLimits s.me := X.limits
  have hb9 : (T.setVm s.vm).me.stackBytes = s.me.stackBytes := X.bytes
  refine ⟨X.admits, X.cas, X.clock, hF, ?_, X.hears, X.method, X.code, X.here, X.tail, X.warmed, ?_, ?_, ?_⟩
  · have h := X.room
    have hU : ((T.setVm s.vm).setFrames (.invoking m args :: below)).localsInUse = s.localsInUse := by
      rw [State.localsInUse_invoking hF (meth := meth) (c := c) X.method X.code, State.localsInUse_invoking X.frames X.method X.code]
    simp only [State.hasRoom, Bool.and_eq_true, decide_eq_true_eq] at h ⊢
    obtain ⟨⟨⟨⟨h1, h2, h3, h4, h5, h6⟩, h7⟩, h8⟩, h9⟩ := h
    rw [X.frames, List.length_cons] at h2 h3
    have q1 := X.heapSize
    have q2 := X.used
    simp only [hF, hU, List.length_cons, State.stackLimits_setFrames, State.stackBytes_setFrames, hl9, hb9]
    refine ⟨⟨⟨⟨by omega, by omega, by omega, by omega, by omega, h6⟩, ?_⟩, ?_⟩, X.book⟩
    · show T.heap.size + R'.cells ≤ e.platform.maxCells
      omega
    · show T.slotsUsed + R'.slots ≤ e.platform.maxSlots
      omega
  · rw [State.stackLimits_setFrames]; rfl
  · rw [State.stackBytes_setFrames]; rfl
  · refine ⟨?_, Nat.le_refl _, Nat.le_refl _, ?_, ?_, fun a c9 h9 => ⟨c9, h9, rfl, rfl, fun _ _ => rfl⟩⟩
    · obtain ⟨t, ht, -⟩ := State.frames_cons hr
      show T.setVm s.vm = { ((T.setVm s.vm).setFrames (.invoking m args :: below)).setFrames (T.setVm s.vm).frames with heap := T.heap, slotsUsed := T.slotsUsed }
      rw [State.setFrames_setFrames, State.setFrames_self ht]
      rfl
    · show T.slotsUsed = T.slotsUsed + ((T.heap.toList.drop T.heap.size).map (·.slots.size)).sum
      rw [List.drop_eq_nil_of_le (Nat.le_of_eq Array.length_toList)]
      rfl
    · show ((T.heap.toList.drop T.heap.size).map (·.slots.size)).sum ≤ 0
      rw [List.drop_eq_nil_of_le (Nat.le_of_eq Array.length_toList)]
      exact Nat.le_refl _
/-- 'throw new E()': new; dup; invokespecial; athrow -/
theorem vx_throw0 {cc : ByteArray} {pc : Nat} (hexec : p.tables.exec = Jvm.exec) (hb : c.code = cc) (hl : l.stackTraces = false) {own cls : String} {names : List String} {ik ic mc ms : Nat} {A : Nat → Prop}
    (hown : s.vm.findClass own = some m.cls) (hcls : Bundle.fit cls = true) (hnames : ∀ n ∈ names, Bundle.fit n = true)
    (hk : (Cond.classLink own ik cls).before args s = true) (hini : (Cond.initialized cls).before args s = true) (hat : ∀ w ∈ vx_at0 own ic cls names, w.before args s = true)
    (hgood : ∀ w ∈ Cond.classLink own ik cls :: Cond.initialized cls :: vx_at0 own ic cls names, vx_ot w = true)
    (hU : vx_Zq Bundle.tN "UNASSIGNED_STACK" Bundle.steD A s s.heap) (hN : vx_Zq Bundle.tN "SUPPRESSED_SENTINEL" Bundle.listD A s s.heap) (hS : va_S A s.heap H locs) (hsize : ls.size = c.maxLocals)
    (d0 : decode cc pc = .ok (.new ik, 3)) (d3 : decode cc (pc + 3) = .ok (.dup, 1)) (d4 : decode cc (pc + 4) = .ok (.invokespecial ic, 3)) (d7 : decode cc (pc + 7) = .ok (.athrow, 1))
    (hout : ∀ x ∈ c.exceptionTable.toList, covers x (pc + 7) = false)
    (hRframes : names.length + 3 < R.frames) (hRlocals : (rest.map fun v => v.category).sum + (13 * (names.length + 1) + 42) ≤ R.locals) (hRcells : cells + 1 ≤ R.cells) (hRslots : slots + 6 ≤ R.slots) (hlocks : meth.locks = false)
    (hx : ∀ t : State, s.vm.Alike t.vm → H.size ≤ t.heap.size → (∀ q : Nat, q < H.size → t.heap[q]? = H[q]?) → XC cls s t)
    (hf : ∀ z ∈ locs, free z.base) (hc : cells + 1 ≤ mc) (hs : slots + 6 ≤ ms) :
    W p l e R s m args below meth c H locs cells slots (vx_MQ below Qc XC args s mc ms free) (F0 m pc ls rest) := by
  intro T hT X
  have htr : e.platform.stackTraces = false := (show e.platform.stackTraces = l.stackTraces by rw [X.admits.platform]).trans hl
  have Y := vx_rebase X (R' := { frames := R.frames, locals := R.locals, cells := 1, slots := 6 }) (Nat.le_refl _) (Nat.le_refl _) hRcells hRslots
  obtain ⟨s', hA⟩ : ∃ z, z = (T.setVm s.vm).setFrames (.invoking m args :: below) := ⟨_, rfl⟩
  rw [← hA] at Y
  have hvm : s'.vm = s.vm := by rw [hA]; rfl
  have hhp : s'.heap = H := by rw [hA]; exact hT
  have hW0 : s.WarmedH s'.vm := by rw [hvm]; exact State.WarmedH.refl s
  have hat' : ∀ w ∈ vx_at0 own ic cls names, w.before args s' = true := fun w hw => vx_ot_at hW0 hvm.symm (hgood w (List.mem_cons_of_mem _ (List.mem_cons_of_mem _ hw))) (hat w hw)
  have hk' : (Cond.classLink own ik cls).before args s' = true := vx_ot_at hW0 hvm.symm (hgood _ List.mem_cons_self) hk
  have hini' : (Cond.initialized cls).before args s' = true := vx_ot_at hW0 hvm.symm (hgood _ (List.mem_cons_of_mem _ List.mem_cons_self)) hini
  have hU' : vx_Zq Bundle.tN "UNASSIGNED_STACK" Bundle.steD A s' s'.heap := by rw [hhp]; exact vx_Zq.moved hW0.alike (hU.kept hS.2.1)
  have hN' : vx_Zq Bundle.tN "SUPPRESSED_SENTINEL" Bundle.listD A s' s'.heap := by rw [hhp]; exact vx_Zq.moved hW0.alike (hN.kept hS.2.1)
  have h : ∀ w ∈ Bundle.ownAtoms0 own ic cls names, w.before args s' = true := vx_own hat' (vx_isRefq hU'.1) (vx_isRefq hN'.1) hU'.2.word hN'.2.word
  have hown' : s'.vm.findClass own = some m.cls := by rw [hvm]; exact hown
  have hins : (Cond.instantiable cls 6).before args s' = true := h _ (by simp [Bundle.ownAtoms0])
  obtain ⟨vm₁, cX, kX, hfX, hkX, -, -, X₁, st1⟩ := Y.newCold hexec (own := own) (C := cls) (index := ik) (n := 6) hown' hk' hins hini'
    (g := F0 m pc ls rest) rfl (by rw [hb]; exact d0) (Nat.le_refl _) (Nat.le_refl _)
  generalize hT1 : (T.setVm vm₁).pushCell { cls := cX, slots := kX.instanceTypes.map defaultValue, vm := .none } = T1 at X₁ st1
  have hcat : (Value.ref T.heap.size).category = 1 := rfl
  have hcellA : T1.heap[T.heap.size]? = some (freshCell cX kX) := by rw [← hT1]; exact State.heap_pushCell_size _ _
  have d3' : decode c.code (pc + 3) = .ok (.dup, 1) := by rw [hb]; exact d3
  obtain ⟨U, hsteps, hrun, hend, hW, hsame, ce, hce, hO⟩ := X₁.ctorThrow0 hexec htr (own := own) (cls := cls) (names := names) (ic := ic) hown' hcls hnames h (fun x hx => nomatch hx) hfX hkX hcellA (by rw [hhp, hT]; exact Nat.le_refl _)
    (g := { method := m, pc := pc + 4, locals := ls, stack := .ref T.heap.size :: .ref T.heap.size :: rest, locked := none }) rfl hsize rfl rfl (rest := rest) rfl
    (by rw [hb]; exact d4) (by rw [hb]; exact d7) hout hRframes (by simp only [List.map_cons, List.sum_cons, hcat]; omega) hlocks
  obtain ⟨f1, f2⟩ := vx_frame hsame
  rw [hhp] at f1 f2
  have hWs : s.WarmedH U.vm := State.WarmedH.trans hW0 hW
  have hcl : s.vm.findClass cls = some ce.cls := by
    have h9 := hO.cls
    rw [hvm] at h9
    exact h9
  have hall : s.sameButNew ({ U with vm := s.vm } : State) locs mc ms := by
    subst hA
    obtain ⟨e1, e2⟩ := hsame
    rw [State.setFrames_setFrames] at e1
    have h2 : (T.setVm s.vm).sameButNew ({ U with vm := s.vm } : State) [] (0 + 1) (0 + 6) := ⟨e1, e2⟩
    have h3 := X.same.trans h2
    rw [List.append_nil] at h3
    exact h3.mono hc hs
  refine ⟨U, ?_, .threw T.heap.size, hrun, hend, Or.inr ⟨T.heap.size, rfl, cls, ce, locs, hx U hWs.alike f1 (fun q hq => f2 q hq (fun z hz => nomatch hz)), hce, hO.vm, hcl, hWs, hall, hf⟩⟩
  refine st1 _ ?_
  show Steps p.tables e below (T1.setTop { method := m, pc := pc + 3, locals := ls, stack := .ref T.heap.size :: rest, locked := none }) _
  jvm_step X₁.here [X₁.here.top, hexec, d3', Value.category]
  exact hsteps
/-- 'throw new E("text")': new; dup; ldc; invokespecial; athrow -/
theorem vx_throwS {cc : ByteArray} {pc : Nat} (hexec : p.tables.exec = Jvm.exec) (hb : c.code = cc) (hl : l.stackTraces = false) {own cls text : String} {names : List String} {ik is ic mc ms sa : Nat} {A : Nat → Prop}
    (hown : s.vm.findClass own = some m.cls) (hcls : Bundle.fit cls = true) (hnames : ∀ n ∈ names, Bundle.fit n = true)
    (hk : (Cond.classLink own ik cls).before args s = true) (hini : (Cond.initialized cls).before args s = true) (hstr : vk_R own is text sa s) (hat : ∀ w ∈ vx_atS own ic cls names, w.before args s = true)
    (hgood : ∀ w ∈ Cond.classLink own ik cls :: Cond.initialized cls :: vx_atS own ic cls names, vx_ot w = true)
    (hU : vx_Zq Bundle.tN "UNASSIGNED_STACK" Bundle.steD A s s.heap) (hN : vx_Zq Bundle.tN "SUPPRESSED_SENTINEL" Bundle.listD A s s.heap) (hS : va_S A s.heap H locs) (hsize : ls.size = c.maxLocals)
    (d0 : decode cc pc = .ok (.new ik, 3)) (d3 : decode cc (pc + 3) = .ok (.dup, 1)) (d4 : decode cc (pc + 4) = .ok (.ldc is, 2)) (d6 : decode cc (pc + 6) = .ok (.invokespecial ic, 3)) (d9 : decode cc (pc + 9) = .ok (.athrow, 1))
    (hout : ∀ x ∈ c.exceptionTable.toList, covers x (pc + 9) = false)
    (hRframes : names.length + 3 < R.frames) (hRlocals : (rest.map fun v => v.category).sum + (13 * (names.length + 1) + 43) ≤ R.locals) (hRcells : cells + 1 ≤ R.cells) (hRslots : slots + 6 ≤ R.slots) (hlocks : meth.locks = false)
    (hx : ∀ t : State, s.vm.Alike t.vm → H.size ≤ t.heap.size → (∀ q : Nat, q < H.size → t.heap[q]? = H[q]?) → XC cls s t)
    (hf : ∀ z ∈ locs, free z.base) (hc : cells + 1 ≤ mc) (hs : slots + 6 ≤ ms) :
    W p l e R s m args below meth c H locs cells slots (vx_MQ below Qc XC args s mc ms free) (F0 m pc ls rest) := by
  intro T hT X
  have htr : e.platform.stackTraces = false := (show e.platform.stackTraces = l.stackTraces by rw [X.admits.platform]).trans hl
  have Y := vx_rebase X (R' := { frames := R.frames, locals := R.locals, cells := 1, slots := 6 }) (Nat.le_refl _) (Nat.le_refl _) hRcells hRslots
  obtain ⟨s', hA⟩ : ∃ z, z = (T.setVm s.vm).setFrames (.invoking m args :: below) := ⟨_, rfl⟩
  rw [← hA] at Y
  have hvm : s'.vm = s.vm := by rw [hA]; rfl
  have hhp : s'.heap = H := by rw [hA]; exact hT
  have hW0 : s.WarmedH s'.vm := by rw [hvm]; exact State.WarmedH.refl s
  have hat' : ∀ w ∈ vx_atS own ic cls names, w.before args s' = true := fun w hw => vx_ot_at hW0 hvm.symm (hgood w (List.mem_cons_of_mem _ (List.mem_cons_of_mem _ hw))) (hat w hw)
  have hk' : (Cond.classLink own ik cls).before args s' = true := vx_ot_at hW0 hvm.symm (hgood _ List.mem_cons_self) hk
  have hini' : (Cond.initialized cls).before args s' = true := vx_ot_at hW0 hvm.symm (hgood _ (List.mem_cons_of_mem _ List.mem_cons_self)) hini
  have hU' : vx_Zq Bundle.tN "UNASSIGNED_STACK" Bundle.steD A s' s'.heap := by rw [hhp]; exact vx_Zq.moved hW0.alike (hU.kept hS.2.1)
  have hN' : vx_Zq Bundle.tN "SUPPRESSED_SENTINEL" Bundle.listD A s' s'.heap := by rw [hhp]; exact vx_Zq.moved hW0.alike (hN.kept hS.2.1)
  have h : ∀ w ∈ Bundle.ownAtoms own ic cls names, w.before args s' = true := vx_own hat' (vx_isRefq hU'.1) (vx_isRefq hN'.1) hU'.2.word hN'.2.word
  have hown' : s'.vm.findClass own = some m.cls := by rw [hvm]; exact hown
  have hins : (Cond.instantiable cls 6).before args s' = true := h _ (by simp [Bundle.ownAtoms])
  obtain ⟨vm₁, cX, kX, hfX, hkX, -, -, X₁, st1⟩ := Y.newCold hexec (own := own) (C := cls) (index := ik) (n := 6) hown' hk' hins hini'
    (g := F0 m pc ls rest) rfl (by rw [hb]; exact d0) (Nat.le_refl _) (Nat.le_refl _)
  generalize hT1 : (T.setVm vm₁).pushCell { cls := cX, slots := kX.instanceTypes.map defaultValue, vm := .none } = T1 at X₁ st1
  have hcat : (Value.ref T.heap.size).category = 1 := rfl
  have hcellA : T1.heap[T.heap.size]? = some (freshCell cX kX) := by rw [← hT1]; exact State.heap_pushCell_size _ _
  have d3' : decode c.code (pc + 3) = .ok (.dup, 1) := by rw [hb]; exact d3
  have d4' : decode c.code (pc + 4) = .ok (.ldc is, 2) := by rw [hb]; exact d4
  have hstr' : vk_R own is text sa s' := vk_R.warm hW0 hstr
  obtain ⟨U, hsteps, hrun, hend, hW, hsame, ce, hce, hO⟩ := X₁.ctorThrowS hexec htr (own := own) (cls := cls) (names := names) (ic := ic) hown' hcls hnames h (fun x hx => nomatch hx) hfX hkX hcellA (by rw [hhp, hT]; exact Nat.le_refl _) (msg := .ref sa) rfl
    (g := { method := m, pc := pc + 6, locals := ls, stack := .ref sa :: .ref T.heap.size :: .ref T.heap.size :: rest, locked := none }) rfl hsize rfl rfl (rest := rest) rfl
    (by rw [hb]; exact d6) (by rw [hb]; exact d9) hout hRframes (by simp only [List.map_cons, List.sum_cons, hcat]; omega) hlocks
  obtain ⟨f1, f2⟩ := vx_frame hsame
  rw [hhp] at f1 f2
  have hWs : s.WarmedH U.vm := State.WarmedH.trans hW0 hW
  have hcl : s.vm.findClass cls = some ce.cls := by
    have h9 := hO.cls
    rw [hvm] at h9
    exact h9
  have hall : s.sameButNew ({ U with vm := s.vm } : State) locs mc ms := by
    subst hA
    obtain ⟨e1, e2⟩ := hsame
    rw [State.setFrames_setFrames] at e1
    have h2 : (T.setVm s.vm).sameButNew ({ U with vm := s.vm } : State) [] (0 + 1) (0 + 6) := ⟨e1, e2⟩
    have h3 := X.same.trans h2
    rw [List.append_nil] at h3
    exact h3.mono hc hs
  refine ⟨U, ?_, .threw T.heap.size, hrun, hend, Or.inr ⟨T.heap.size, rfl, cls, ce, locs, hx U hWs.alike f1 (fun q hq => f2 q hq (fun z hz => nomatch hz)), hce, hO.vm, hcl, hWs, hall, hf⟩⟩
  refine st1 _ ?_
  show Steps p.tables e below (T1.setTop { method := m, pc := pc + 3, locals := ls, stack := .ref T.heap.size :: rest, locked := none }) _
  jvm_step X₁.here [X₁.here.top, hexec, d3', Value.category]
  exact X₁.ldcString hexec (own := own) (text := text) (index := is) (a := sa) hown' hstr'.1 hstr'.2
    (g := { method := m, pc := pc + 4, locals := ls, stack := .ref T.heap.size :: .ref T.heap.size :: rest, locked := none }) rfl d4' _ hsteps
/-- 'throw new E("text")', the text by a wide index -/
theorem vx_throwSW {cc : ByteArray} {pc : Nat} (hexec : p.tables.exec = Jvm.exec) (hb : c.code = cc) (hl : l.stackTraces = false) {own cls text : String} {names : List String} {ik is ic mc ms sa : Nat} {A : Nat → Prop}
    (hown : s.vm.findClass own = some m.cls) (hcls : Bundle.fit cls = true) (hnames : ∀ n ∈ names, Bundle.fit n = true)
    (hk : (Cond.classLink own ik cls).before args s = true) (hini : (Cond.initialized cls).before args s = true) (hstr : vk_R own is text sa s) (hat : ∀ w ∈ vx_atS own ic cls names, w.before args s = true)
    (hgood : ∀ w ∈ Cond.classLink own ik cls :: Cond.initialized cls :: vx_atS own ic cls names, vx_ot w = true)
    (hU : vx_Zq Bundle.tN "UNASSIGNED_STACK" Bundle.steD A s s.heap) (hN : vx_Zq Bundle.tN "SUPPRESSED_SENTINEL" Bundle.listD A s s.heap) (hS : va_S A s.heap H locs) (hsize : ls.size = c.maxLocals)
    (d0 : decode cc pc = .ok (.new ik, 3)) (d3 : decode cc (pc + 3) = .ok (.dup, 1)) (d4 : decode cc (pc + 4) = .ok (.ldc_w is, 3)) (d7 : decode cc (pc + 7) = .ok (.invokespecial ic, 3)) (d10 : decode cc (pc + 10) = .ok (.athrow, 1))
    (hout : ∀ x ∈ c.exceptionTable.toList, covers x (pc + 10) = false)
    (hRframes : names.length + 3 < R.frames) (hRlocals : (rest.map fun v => v.category).sum + (13 * (names.length + 1) + 43) ≤ R.locals) (hRcells : cells + 1 ≤ R.cells) (hRslots : slots + 6 ≤ R.slots) (hlocks : meth.locks = false)
    (hx : ∀ t : State, s.vm.Alike t.vm → H.size ≤ t.heap.size → (∀ q : Nat, q < H.size → t.heap[q]? = H[q]?) → XC cls s t)
    (hf : ∀ z ∈ locs, free z.base) (hc : cells + 1 ≤ mc) (hs : slots + 6 ≤ ms) :
    W p l e R s m args below meth c H locs cells slots (vx_MQ below Qc XC args s mc ms free) (F0 m pc ls rest) := by
  intro T hT X
  have htr : e.platform.stackTraces = false := (show e.platform.stackTraces = l.stackTraces by rw [X.admits.platform]).trans hl
  have Y := vx_rebase X (R' := { frames := R.frames, locals := R.locals, cells := 1, slots := 6 }) (Nat.le_refl _) (Nat.le_refl _) hRcells hRslots
  obtain ⟨s', hA⟩ : ∃ z, z = (T.setVm s.vm).setFrames (.invoking m args :: below) := ⟨_, rfl⟩
  rw [← hA] at Y
  have hvm : s'.vm = s.vm := by rw [hA]; rfl
  have hhp : s'.heap = H := by rw [hA]; exact hT
  have hW0 : s.WarmedH s'.vm := by rw [hvm]; exact State.WarmedH.refl s
  have hat' : ∀ w ∈ vx_atS own ic cls names, w.before args s' = true := fun w hw => vx_ot_at hW0 hvm.symm (hgood w (List.mem_cons_of_mem _ (List.mem_cons_of_mem _ hw))) (hat w hw)
  have hk' : (Cond.classLink own ik cls).before args s' = true := vx_ot_at hW0 hvm.symm (hgood _ List.mem_cons_self) hk
  have hini' : (Cond.initialized cls).before args s' = true := vx_ot_at hW0 hvm.symm (hgood _ (List.mem_cons_of_mem _ List.mem_cons_self)) hini
  have hU' : vx_Zq Bundle.tN "UNASSIGNED_STACK" Bundle.steD A s' s'.heap := by rw [hhp]; exact vx_Zq.moved hW0.alike (hU.kept hS.2.1)
  have hN' : vx_Zq Bundle.tN "SUPPRESSED_SENTINEL" Bundle.listD A s' s'.heap := by rw [hhp]; exact vx_Zq.moved hW0.alike (hN.kept hS.2.1)
  have h : ∀ w ∈ Bundle.ownAtoms own ic cls names, w.before args s' = true := vx_own hat' (vx_isRefq hU'.1) (vx_isRefq hN'.1) hU'.2.word hN'.2.word
  have hown' : s'.vm.findClass own = some m.cls := by rw [hvm]; exact hown
  have hins : (Cond.instantiable cls 6).before args s' = true := h _ (by simp [Bundle.ownAtoms])
  obtain ⟨vm₁, cX, kX, hfX, hkX, -, -, X₁, st1⟩ := Y.newCold hexec (own := own) (C := cls) (index := ik) (n := 6) hown' hk' hins hini'
    (g := F0 m pc ls rest) rfl (by rw [hb]; exact d0) (Nat.le_refl _) (Nat.le_refl _)
  generalize hT1 : (T.setVm vm₁).pushCell { cls := cX, slots := kX.instanceTypes.map defaultValue, vm := .none } = T1 at X₁ st1
  have hcat : (Value.ref T.heap.size).category = 1 := rfl
  have hcellA : T1.heap[T.heap.size]? = some (freshCell cX kX) := by rw [← hT1]; exact State.heap_pushCell_size _ _
  have d3' : decode c.code (pc + 3) = .ok (.dup, 1) := by rw [hb]; exact d3
  have d4' : decode c.code (pc + 4) = .ok (.ldc_w is, 3) := by rw [hb]; exact d4
  have hstr' : vk_R own is text sa s' := vk_R.warm hW0 hstr
  obtain ⟨U, hsteps, hrun, hend, hW, hsame, ce, hce, hO⟩ := X₁.ctorThrowS hexec htr (own := own) (cls := cls) (names := names) (ic := ic) hown' hcls hnames h (fun x hx => nomatch hx) hfX hkX hcellA (by rw [hhp, hT]; exact Nat.le_refl _) (msg := .ref sa) rfl
    (g := { method := m, pc := pc + 7, locals := ls, stack := .ref sa :: .ref T.heap.size :: .ref T.heap.size :: rest, locked := none }) rfl hsize rfl rfl (rest := rest) rfl
    (by rw [hb]; exact d7) (by rw [hb]; exact d10) hout hRframes (by simp only [List.map_cons, List.sum_cons, hcat]; omega) hlocks
  obtain ⟨f1, f2⟩ := vx_frame hsame
  rw [hhp] at f1 f2
  have hWs : s.WarmedH U.vm := State.WarmedH.trans hW0 hW
  have hcl : s.vm.findClass cls = some ce.cls := by
    have h9 := hO.cls
    rw [hvm] at h9
    exact h9
  have hall : s.sameButNew ({ U with vm := s.vm } : State) locs mc ms := by
    subst hA
    obtain ⟨e1, e2⟩ := hsame
    rw [State.setFrames_setFrames] at e1
    have h2 : (T.setVm s.vm).sameButNew ({ U with vm := s.vm } : State) [] (0 + 1) (0 + 6) := ⟨e1, e2⟩
    have h3 := X.same.trans h2
    rw [List.append_nil] at h3
    exact h3.mono hc hs
  refine ⟨U, ?_, .threw T.heap.size, hrun, hend, Or.inr ⟨T.heap.size, rfl, cls, ce, locs, hx U hWs.alike f1 (fun q hq => f2 q hq (fun z hz => nomatch hz)), hce, hO.vm, hcl, hWs, hall, hf⟩⟩
  refine st1 _ ?_
  show Steps p.tables e below (T1.setTop { method := m, pc := pc + 3, locals := ls, stack := .ref T.heap.size :: rest, locked := none }) _
  jvm_step X₁.here [X₁.here.top, hexec, d3', Value.category]
  exact X₁.ldcStringW hexec (own := own) (text := text) (index := is) (a := sa) hown' hstr'.1 hstr'.2
    (g := { method := m, pc := pc + 4, locals := ls, stack := .ref T.heap.size :: .ref T.heap.size :: rest, locked := none }) rfl d4' _ hsteps
end Ends
section Bodies
variable {l : Launch}
theorem vx_ofW {y : MethodName} {ws ws' : List Cond} {rm : Room} {Pc : Array Value → State → Prop} {Qc : Array Value → State → Outcome → State → Prop} {XC : String → State → State → Prop} {mc ms : Nat} {free : Addr → Prop} {cc : ByteArray} {maxL : Nat} {ret : Option FieldType}
    (hy : plainName y.cls = true) (hw : ws = Cond.code y cc maxL ret :: ws')
    (body : ∀ p e s m args below meth c s₁, BodyLoose p l y (headSpec ws rm) cc maxL ret e s m args below meth c s₁ → c.maxLocals = maxL → (∀ x ∈ c.exceptionTable.toList, False) → Pc args s →
      W p l e (headSpec ws rm).room s m args below meth c s.heap [] 0 0 (vx_MQ below Qc XC args s mc ms free) (entryFrame m args maxL)) : vx_Met l y ws rm Pc Qc XC mc ms free := by
  refine MetFree.of_bodyS (code := cc) (maxLocals := maxL) (ret := ret) hy ?_ ?_
  · intro args s m h hn
    obtain ⟨meth, c, h1, h2, h3, h4, h5, h6, -, -⟩ := Cond.code_spec hn (atoms_spec (ws := ws) h _ (by rw [hw]; exact List.mem_cons_self))
    exact ⟨meth, c, h1, h2, h3, h4, h5, h6⟩
  · intro p e s m args below meth c s₁ B hml hP _
    have hh0 : s₁.heap = s.heap := by rw [B.state]; rfl
    have ht : ∀ x ∈ c.exceptionTable.toList, False := by
      obtain ⟨meth9, c9, h1, h2, -, -, -, -, h7, -⟩ := Cond.code_spec B.named (atoms_spec (ws := ws) B.pre _ (by rw [hw]; exact List.mem_cons_self))
      cases Option.some.inj (h1.symm.trans B.method)
      cases Option.some.inj (h2.symm.trans (Stand.of_body B).code)
      intro x hx
      rw [Array.isEmpty_iff.mp h7] at hx
      cases hx
    obtain ⟨t, a1, o, b1, b2, b3⟩ := body p e s m args below meth c s₁ B hml ht hP s₁ hh0 (Stand.of_body B)
    exact ⟨t, o, a1, b1, b2, b3⟩
/-- the table of a body with handlers -/
theorem vx_table {p : Program} {x y : MethodName} {S : Spec} {cc bytes : ByteArray} {maxL maxL' : Nat} {ret ret' : Option FieldType} {e : Env} {s s₁ : State} {m : MethodId} {args : Array Value} {below : List Frame} {meth : Method} {c : Code} {hh : List (Nat × Nat × Nat × Nat)}
    (B : BodyLoose p l y S cc maxL ret e s m args below meth c s₁) (h : (Cond.codeWith y bytes maxL' ret' hh).before args s = true) : c.exceptionTable.toList = tableOf hh := by
  obtain ⟨m9, meth9, c9, hn9, h1, h2, -, -, h6, -⟩ := Cond.codeWith_spec h
  cases Option.some.inj (hn9.symm.trans B.named)
  cases Option.some.inj (h1.symm.trans B.method)
  cases Option.some.inj (h2.symm.trans (Stand.of_body B).code)
  rw [← h6, table_eq]
end Bodies
end VXA
/-! ===== END ===== -/
/-! ===== BEGIN a static call of a method with an exception table ===== -/
section VXS
variable {p : Program} {l : Launch} {e : Env} {R : Room} {s : State} {m : MethodId} {args : Array Value} {below : List Frame} {meth : Method} {c : Code} {T : State} {H : Heap} {locs : List Loc} {cells slots : Nat}
abbrev vx_CSW (R : Room) (s : State) (args : Array Value) (own : String) (index : Nat) (y : MethodName) (bytes : ByteArray) (maxL : Nat) (ret : Option FieldType) (hh : List (Nat × Nat × Nat × Nat)) (ws : List Cond) (rm : Room) (mc ms n : Nat) : Prop :=
  (rm.cells = mc ∧ rm.slots = ms ∧ rm.frames + 1 ≤ R.frames ∧ 8 + (maxL + 11) + rm.locals ≤ R.locals ∧ (∀ w ∈ ws, ∀ (a' : Array Value) (U : State), s.WarmedH U.vm → w.before a' U = true) ∧ Cond.codeWith y bytes maxL ret hh ∈ ws) ∧
  (Cond.codeWith y bytes maxL ret hh).before args s = true ∧ (Cond.initialized y.cls).before args s = true ∧ (y.cls ≠ "java/lang/invoke/MethodHandle" ∧ y.cls ≠ "java/lang/invoke/VarHandle") ∧
  (∀ sig, parseMethodDescriptor y.desc = some sig → n = sig.parameters.length) ∧ (Cond.methodLink own index y).before args s = true ∧ (Cond.static y).before args s = true
theorem vx_cwSW {own : String} {index maxL mc ms : Nat} {y : MethodName} {bytes : ByteArray} {ret : Option FieldType} {hh : List (Nat × Nat × Nat × Nat)} {Ts ws ws' : List Cond} {rm : Room} (n : Nat) (ht : ∀ w ∈ Ts, w.before args s = true) (hT : GoodIn Ts (va_wsS own index y ws)) (hw : ws = Cond.codeWith y bytes maxL ret hh :: ws') (hrc : rm.cells = mc) (hrs : rm.slots = ms)
    (hd : y.cls ≠ "java/lang/invoke/MethodHandle" ∧ y.cls ≠ "java/lang/invoke/VarHandle" ∧ (parseMethodDescriptor y.desc).map (fun d => d.parameters.length) = some n) (hR : rm.frames + 1 ≤ R.frames ∧ 8 + (maxL + 11) + rm.locals ≤ R.locals) :
    vx_CSW R s args own index y bytes maxL ret hh ws rm mc ms n := by
  have ok : ∀ w ∈ va_wsS own index y ws, w.before args s = true := fun w h => ht w (hT w h).1
  have hG : GoodIn Ts ws := fun w h => hT w (by unfold va_wsS; exact List.mem_append_right _ h)
  have hc : Cond.codeWith y bytes maxL ret hh ∈ ws := by rw [hw]; exact List.mem_cons_self
  refine ⟨⟨hrc, hrs, hR.1, hR.2, pay_in ht hG, hc⟩, ht _ (hG _ hc).1, ok _ (by simp [va_wsS]), ⟨hd.1, hd.2.1⟩, fun sig h => ?_, ok _ (by simp [va_wsS]), ok _ (by simp [va_wsS])⟩
  have h2 := hd.2.2
  rw [h] at h2
  exact (Option.some.inj h2).symm
theorem vx_callSW (X : Stand p l e R s m args below meth c T locs cells slots) (hexec : p.tables.exec = Jvm.exec) {own : String} {index : Nat} {y : MethodName} {bytes : ByteArray} {maxL : Nat} {ret : Option FieldType} {hh : List (Nat × Nat × Nat × Nat)}
    (hown : s.vm.findClass own = some m.cls) (hlink : (Cond.methodLink own index y).before args s = true) (hstat : (Cond.static y).before args s = true) (hinit : (Cond.initialized y.cls).before args s = true)
    (hcode : (Cond.codeWith y bytes maxL ret hh).before args s = true) (hy : y.cls ≠ "java/lang/invoke/MethodHandle" ∧ y.cls ≠ "java/lang/invoke/VarHandle")
    {W9 : Nat} {Pre : Pt → Array Value → Prop} {Post : Pt → Array Value → Option Value → Pt → Prop} (hK : Back l R p e below s args y 3 W9 Pre Post)
    {g : JFrame} (hg : g.method = m) (hsize : g.locals.size = c.maxLocals) {argsL rest : List Value} (hlen : ∀ sig, parseMethodDescriptor y.desc = some sig → argsL.length = sig.parameters.length)
    (hstack : g.stack = argsL.reverse ++ rest) (hW : 2 * g.monitorRoom + (rest.map fun v => v.category).sum ≤ W9) (hdg : decode c.code g.pc = .ok (.invokestatic index, 3))
    (hpre : ∀ vm₁, s.WarmedH vm₁ → Pre ⟨T.setVm vm₁, locs, cells, slots⟩ argsL.toArray) :
    ∃ (v : Option Value) (vm₁ : Vm) (B : Pt), s.WarmedH vm₁ ∧ Stand p l e R s m args below meth c B.U B.locs B.cells B.slots ∧ Post ⟨T.setVm vm₁, locs, cells, slots⟩ argsL.toArray v B ∧
      ∀ target, Steps p.tables e below (B.U.setTop { g with pc := g.pc + 3, stack := v.toList ++ rest }) target → Steps p.tables e below (T.setTop g) target := by
  obtain ⟨mk, methM, cM, hnamed, hmethM, -, -, -, -, -, -, hsigM⟩ := Cond.codeWith_spec hcode
  have hstatic : methM.isStatic = true := Cond.static_spec hnamed hmethM hstat
  obtain ⟨kP, hkP, -⟩ := className_of_methodNamed hnamed
  have hinitP : kP.init = .initialized := Cond.initialized_spec (findClass_of_methodNamed hnamed) hkP hinit
  obtain ⟨vm₁, X₁, hstep₁⟩ := X.invokestatic hexec hown hlink hnamed hmethM hstatic hkP hinitP hy (g := g) hg (argsL := argsL) (rest := rest) (hlen _ hsigM) hstack hdg
  obtain ⟨v, B, X', hpost, hsteps⟩ := hK m meth c ⟨T.setVm vm₁, locs, cells, slots⟩ { g with stack := rest } (.invokestatic index) mk argsL.toArray X₁ hg hsize hdg hW (X₁.named hnamed) (hpre vm₁ X₁.warmed)
  exact ⟨v, vm₁, B, X₁.warmed, X', hpost, fun target h => hstep₁ _ fun acts => by rw [doInvoke_state]; exact hsteps.trans h⟩
theorem vx_runSW {y : MethodName} {bytes cc : ByteArray} {maxL nL mc ms n index : Nat} {ret : Option FieldType} {hh : List (Nat × Nat × Nat × Nat)} {ws : List Cond} {rm : Room} {Pc : Array Value → State → Prop} {Qc : Array Value → State → Outcome → State → Prop} {free : Addr → Prop} {Ts : List Cond} {own : String} {As rest : List Value} {g : JFrame}
    (S : CallFix p m c cc nL s args Ts own) (hM : Met l y ws rm Pc Qc mc ms free) (cw : vx_CSW R s args own index y bytes maxL ret hh ws rm mc ms n) (hp : PreS s H Pc As)
    (hg : g.method = m) (hn : As.length = n) (hsize : g.locals.size = nL) (hstack : g.stack = As.reverse ++ rest) (hW : 2 * g.monitorRoom + (rest.map fun v => v.category).sum ≤ 8) (hdg : decode cc g.pc = .ok (.invokestatic index, 3)) (hf : cells + mc ≤ R.cells ∧ slots + ms ≤ R.slots) :
    va_Run p l e R s m args below meth c H locs cells slots mc ms g rest (Qc As.toArray) (free) := by
  obtain ⟨⟨hrc, hrs, hfr, hlo, hws, hcw⟩, hcode, hini, hy, hlen, hl, hstt⟩ := cw
  have hK : Back l R p e below s args y 3 8 (PreOf R mc ms Pc) (PostOf Qc mc ms free) := va_backW (hh := hh) (bytes := bytes) (maxL := maxL) (ret := ret) hM hp.1 hrc hrs hfr hlo hws hcw (fun a' U hW => word_at hW (Or.inl (by first | rfl | simp [Cond.onTables, Cond.keeps, Cond.steady])) hini)
  obtain ⟨hx, hb, hml, ho, -⟩ := S
  intro T hT X
  obtain ⟨v, vm₁, ⟨U', l2, c2, s2⟩, hW₁, X', ⟨g', mk, t, L, e1, e2, hq, h1, hL, h2, h3⟩, st⟩ := vx_callSW X hx (hh := hh) (bytes := bytes) (maxL := maxL) (ret := ret) ho hl hstt hini hcode hy hK hg (hsize.trans hml.symm) (argsL := As) (rest := rest) (fun sig h => hn.trans (hlen sig h)) hstack hW (by rw [hb]; exact hdg)
    (fun vm₁ hW₁ => ⟨hf.1, hf.2, hp.2 (T.setVm vm₁) hT hW₁⟩)
  dsimp only [Pt.U, Pt.locs, Pt.cells, Pt.slots] at X' e1 e2 h1 h2 h3 st
  subst h1; subst h2; subst h3
  exact ⟨v, (T.setVm vm₁).calling g' mk As.toArray, t, U', L, hT, X', hL, e1, e2, hq, st⟩
/-- not caught here, past rows that name other classes: it goes on to the caller -/
theorem vx_outP {p : Program} {l : Launch} {e : Env} {R : Room} {s : State} {m : MethodId} {args : Array Value} {below : List Frame} {meth : Method} {c : Code} {H : Heap} {locs : List Loc} {cells slots : Nat} {free : Addr → Prop} {ls : Array Slot} {rest : List Value} {Qc : Array Value → State → Outcome → State → Prop} {XC : String → State → State → Prop}
    {pc : Nat} {own E : String} {ce : Cell} {q : Addr} {mc ms : Nat} (hown : s.vm.findClass own = some m.cls) (hlocks : meth.locks = false)
    (hpass : ∀ z ∈ c.exceptionTable.toList, covers z pc = false ∨ (z.catchType ≠ 0 ∧ ∃ nm : String, (Cond.classLink own z.catchType nm).before args s = true ∧ va_Nc E nm s)) (hcell : H[q]? = some ce) (hv : ce.vm = .none) (hcl : s.vm.findClass E = some ce.cls)
    (hx : ∀ t : State, t.heap = H → s.vm.Alike t.vm → XC E s t) (hf : ∀ z ∈ locs, free z.base) (hc : cells ≤ mc) (hs : slots ≤ ms) :
    vx_W p l e R s m args below meth c H locs cells slots (vx_MQ below Qc XC args s mc ms free) (F0 m pc ls rest) q := by
  intro T hT X
  have hpl : e.platform.magicAccessors = ({} : Platform).magicAccessors := by rw [X.admits.platform]
  obtain ⟨vm', hW', X', st⟩ := X.outThrough hlocks q (g := F0 m pc ls rest) rfl rfl rfl (cell := ce) (by rw [hT]; exact hcell) (by rw [hv]; rfl)
    (by obtain ⟨k9, h9, -⟩ := Vm.findClass_spec hcl; exact ⟨k9, h9⟩) (fun z hz => by
      rcases hpass z hz with h | ⟨hz0, nm, hl1, hn1⟩
      · exact Or.inl h
      · obtain ⟨c6, hc6, hcl6⟩ := Cond.classLink_spec hown hl1 e.platform hpl
        obtain ⟨a8, b8, h1, h2, h3⟩ := hn1
        cases Option.some.inj (h1.symm.trans hcl)
        cases Option.some.inj (h2.symm.trans hc6)
        exact Or.inr ⟨hz0, _, hcl6, h3⟩)
  obtain ⟨g₀, hfr⟩ := X'.frames_eq
  have hcell9 : ((T.setVm vm').setFrames (.throwing q :: below)).heap[q]? = some ce := by
    show T.heap[q]? = some ce
    rw [hT]; exact hcell
  have hend : Ended ((T.setVm vm').setFrames (.throwing q :: below)) below (.threw q) := State.frames_setFrames _ (State.cur_lt_of_frames hfr)
  refine ⟨(T.setVm vm').setFrames (.throwing q :: below), ?_, .threw q, X'.here.running, hend, Or.inr ⟨q, rfl, E, ce, locs, hx _ hT (X'.ends _).1.alike, hcell9, hv, hcl, (X'.ends _).1, (X'.ends _).2.mono hc hs, hf⟩⟩
  rw [X.pushThrowing_eq]
  exact st
/-- a thing of a world lies in the heap -/
theorem vx_lt {D : va_G} {cl : List vw_C} {ws : va_W} {H1 : Heap} (h : va_P D cl ws H1) {k : Nat} {q : Nat × va_E} (hk : ws[k]? = some q) : q.1 < H1.size := (h k q hk).lt
end VXS
/-! ===== END ===== -/
/-! ===== BEGIN methods with a table of their own: called by a name, returning or throwing ===== -/
section VXH
/-! vx_backW, vx_callVX, vx_callSX, vx_callVW, vx_runVW, vx_runVX, vx_runSX, vx_ofWH follow the same proofs as their sisters above (Free/Laws.lean, Shelf42/LK1.lean); vx_outP calls Shelf42/NT130.lean (outThrough). -/
section
variable {l : Launch} {R : Room} {p : Program} {e : Env} {below : List Frame} {s : State} {sargs : Array Value} {y : MethodName} {len W9 : Nat}
theorem vx_backW {ws : List Cond} {rm : Room} {Pc : Array Value → State → Prop} {Qc : Array Value → State → Outcome → State → Prop} {XC : String → State → State → Prop} {mc ms : Nat} {free : Addr → Prop} {bytes : ByteArray} {maxL : Nat} {ret : Option FieldType} {hh : List (Nat × Nat × Nat × Nat)}
    (hM : vx_Met l y ws rm Pc Qc XC mc ms free) (hblind : FrameBlind Pc) (hrc : rm.cells = mc) (hrs : rm.slots = ms)
    (hframes : rm.frames + 1 ≤ R.frames) (hlocals : W9 + (maxL + 11) + rm.locals ≤ R.locals)
    (hws : ∀ w ∈ ws, ∀ a' U, s.WarmedH U.vm → w.before a' U = true) (hcode : Cond.codeWith y bytes maxL ret hh ∈ ws) (hinit : ∀ a' U, s.WarmedH U.vm → (Cond.initialized y.cls).before a' U = true) :
    vx_Back l R p e below s sargs y len W9 (PreOf R mc ms Pc) (PostOf Qc mc ms free) (vx_Post XC mc ms free) := by
  intro m meth c A g ig mk a X hg hsize hdg hW hn hp
  have h1 : (headSpec ws rm).pre.before a A.U = true := atoms_intro fun w hw => hws w hw _ _ X.warmed
  have h2 : (Cond.codeWith y bytes maxL ret hh).before a A.U = true := hws _ hcode _ _ X.warmed
  have h3 : (Cond.initialized y.cls).before a A.U = true := hinit _ _ X.warmed
  have h4 : A.cells + (headSpec ws rm).room.cells ≤ R.cells := by rw [show (headSpec ws rm).room.cells = mc from hrc]; exact hp.1
  have h5 : A.slots + (headSpec ws rm).room.slots ≤ R.slots := by rw [show (headSpec ws rm).room.slots = ms from hrs]; exact hp.2.1
  have hPc : Pc a (A.U.calling g mk a) := hblind _ _ _ _ hp.2.2
  obtain ⟨U, Ls, c0, s0⟩ := A
  dsimp only [Pt.U, Pt.locs, Pt.cells, Pt.slots] at h1 h2 h3 h4 h5 X hn hPc ⊢
  obtain ⟨m9, methY, cY, hn9, hmY, hcY, -, hlY, -⟩ := Cond.codeWith_spec h2
  cases Option.some.inj (hn9.symm.trans hn)
  obtain ⟨kY, hkY, -⟩ := className_of_methodNamed hn
  have hinitY : kY.init = .initialized := Cond.initialized_spec (findClass_of_methodNamed hn) hkY h3
  have h : At U g.method c below := by rw [hg]; exact X.here
  have hlocals9 : W9 + (maxL + 11) + (headSpec ws rm).room.locals ≤ R.locals := hlocals
  have happ : (headSpec ws rm).appliesLoose y e.platform (U.calling g mk a) = true :=
    Spec.appliesLoose_calling (g := g) h hdg hn hkY hinitY
      (X.room_calling (g := g) (R' := (headSpec ws rm).room) hsize hmY hcY hframes (by rw [hlY]; omega) h4 h5) h1
  obtain ⟨mid, hmid⟩ := h.above
  have hfr : (U.setTop g).frames = (.java g :: mid) ++ below := by rw [State.frames_setTop' g h.top, hmid]; rfl
  obtain ⟨o, s₂, hsteps, -, hend, hq⟩ := Steps.callFree hM p X.admits X.cas X.clock (acts := []) hfr happ hPc trivial
  have hq' : vx_Q Qc XC mc ms free a (U.calling g mk a) o s₂ := hq
  rw [State.frames_setTop' g h.top] at hend
  obtain ⟨g₀, hg0⟩ := Option.isSome_iff_exists.mp h.top
  obtain ⟨r, hr⟩ := State.topJava?_eq_some.mp hg0
  have hr' : (({ U with heap := s₂.heap, slotsUsed := s₂.slotsUsed } : State).setVm s₂.vm).frames = .java g₀ :: r := hr
  rcases hq' with ⟨hqc, L, hfe, hL⟩ | ⟨q, rfl, E, ce, L, hx, hce, hcv, hcl, hW₂, hsm, hL⟩
  · obtain ⟨⟨v, rfl⟩, hW₂, e2, q2, q3, q4, q5, q6⟩ := id hfe
    have e3 : s₂ = ({ (U.calling g mk a).setFrames s₂.frames with heap := s₂.heap, slotsUsed := s₂.slotsUsed } : State).setVm s₂.vm := by
      have : s₂ = ({ s₂ with vm := (U.calling g mk a).vm } : State).setVm s₂.vm := rfl
      rw [e2] at this
      exact this
    obtain ⟨c₂, i₂, len₂, hc₂, hd₂, hf₂⟩ := hend
    have hW' : U.WarmedH s₂.vm := hW₂
    have hcc : c₂ = c := by
      have h1 : s₂.code? g.method = U.code? g.method := by
        rw [State.code?_eq, State.code?_eq, hW'.alike.method?]
      exact Option.some.inj (hc₂.symm.trans (h1.trans h.code))
    subst hcc
    have hlen : len₂ = len := by rw [hdg] at hd₂; cases hd₂; rfl
    subst hlen
    have hs₂ : s₂ = (({ U with heap := s₂.heap, slotsUsed := s₂.slotsUsed } : State).setVm s₂.vm).setTop { g with pc := g.pc + len₂, stack := v.toList ++ g.stack } := by
      refine e3.trans ?_
      rw [hf₂, State.calling_eq h.top, State.setFrames_setFrames, State.setTop_of_frames _ hr', hr]
      rfl
    have hsame : U.sameButNew ({ U with heap := s₂.heap, slotsUsed := s₂.slotsUsed } : State) L mc ms := by
      refine ⟨?_, q2, q3, q4, q5, q6⟩
      obtain ⟨t, ht, -⟩ := State.frames_cons hr
      show ({ U with heap := s₂.heap, slotsUsed := s₂.slotsUsed } : State) = { U.setFrames U.frames with heap := s₂.heap, slotsUsed := s₂.slotsUsed }
      rw [State.setFrames_self ht]
    subst hg
    refine Or.inl ⟨v, ⟨(({ U with heap := s₂.heap, slotsUsed := s₂.slotsUsed } : State).setVm s₂.vm), Ls ++ L, c0 + mc, s0 + ms⟩,
      ⟨X.admits, X.cas, X.clock, X.frames, X.room, X.hears, X.method, X.code, (X.here.setHeapUsed s₂.heap s₂.slotsUsed).setVm hW'.alike, X.tail, State.WarmedH.trans X.warmed hW', X.limits, X.bytes, X.same.trans (hsame.setVm s.vm)⟩,
      ⟨g, mk, s₂, L, rfl, rfl, hqc, rfl, hL, rfl, rfl⟩, ?_⟩
    show Steps p.tables e below _ ((({ U with heap := s₂.heap, slotsUsed := s₂.slotsUsed } : State).setVm s₂.vm).setTop { g with pc := g.pc + len₂, stack := v.toList ++ g.stack })
    rw [← hs₂]
    exact hsteps
  · obtain ⟨e2, q2, q3, q4, q5, q6⟩ := id hsm
    have e3 : s₂ = ({ (U.calling g mk a).setFrames s₂.frames with heap := s₂.heap, slotsUsed := s₂.slotsUsed } : State).setVm s₂.vm := by
      have : s₂ = ({ s₂ with vm := (U.calling g mk a).vm } : State).setVm s₂.vm := rfl
      rw [e2] at this
      exact this
    have hf₂ : s₂.frames = .throwing q :: .java g :: U.frames.tail := hend
    have hW' : U.WarmedH s₂.vm := hW₂
    have hs₂ : s₂ = ((({ U with heap := s₂.heap, slotsUsed := s₂.slotsUsed } : State).setVm s₂.vm).setTop g).pushFrame (.throwing q) := by
      refine e3.trans ?_
      rw [hf₂, State.calling_eq h.top, State.setFrames_setFrames, State.pushFrame, State.frames_setTop _ hr', State.setTop_of_frames _ hr', State.setFrames_setFrames, hr]
      rfl
    have hsame : U.sameButNew ({ U with heap := s₂.heap, slotsUsed := s₂.slotsUsed } : State) L mc ms := by
      refine ⟨?_, q2, q3, q4, q5, q6⟩
      obtain ⟨t, ht, -⟩ := State.frames_cons hr
      show ({ U with heap := s₂.heap, slotsUsed := s₂.slotsUsed } : State) = { U.setFrames U.frames with heap := s₂.heap, slotsUsed := s₂.slotsUsed }
      rw [State.setFrames_self ht]
    subst hg
    refine Or.inr ⟨q, ⟨(({ U with heap := s₂.heap, slotsUsed := s₂.slotsUsed } : State).setVm s₂.vm), Ls ++ L, c0 + mc, s0 + ms⟩,
      ⟨X.admits, X.cas, X.clock, X.frames, X.room, X.hears, X.method, X.code, (X.here.setHeapUsed s₂.heap s₂.slotsUsed).setVm hW'.alike, X.tail, State.WarmedH.trans X.warmed hW', X.limits, X.bytes, X.same.trans (hsame.setVm s.vm)⟩,
      ⟨g, mk, s₂, L, E, ce, rfl, rfl, hx, hce, hcv, hcl, rfl, hL, rfl, rfl⟩, ?_⟩
    show Steps p.tables e below _ (((({ U with heap := s₂.heap, slotsUsed := s₂.slotsUsed } : State).setVm s₂.vm).setTop g).pushFrame (.throwing q))
    rw [← hs₂]
    exact hsteps
end
variable {p : Program} {l : Launch} {e : Env} {R : Room} {s : State} {m : MethodId} {args : Array Value} {below : List Frame} {meth : Method} {c : Code} {T : State} {H : Heap} {locs : List Loc} {cells slots : Nat}
theorem vx_callVX (X : Stand p l e R s m args below meth c T locs cells slots) (hexec : p.tables.exec = Jvm.exec) {own C : String} {index : Nat} {y : MethodName} {bytes : ByteArray} {maxL : Nat} {ret : Option FieldType} {hh : List (Nat × Nat × Nat × Nat)}
    (hown : s.vm.findClass own = some m.cls) (hlink : (Cond.methodLink own index y).before args s = true) (hinst : (Cond.instanceMethod y).before args s = true) (hsel : (Cond.selects C y y).before args s = true)
    (hcode : (Cond.codeWith y bytes maxL ret hh).before args s = true) (hy : y.cls ≠ "java/lang/invoke/MethodHandle" ∧ y.cls ≠ "java/lang/invoke/VarHandle")
    {W9 : Nat} {Pre : Pt → Array Value → Prop} {Post : Pt → Array Value → Option Value → Pt → Prop} {PostX : Pt → Array Value → Addr → Pt → Prop} (hK : vx_Back l R p e below s args y 3 W9 Pre Post PostX)
    {b : Addr} {cellB : Cell} (hcell : T.heap[b]? = some cellB) (hobj : cellB.vm.isStatics = false) (hcls : s.vm.findClass C = some cellB.cls)
    {g : JFrame} (hg : g.method = m) (hsize : g.locals.size = c.maxLocals) {argsL rest : List Value} (hlen : ∀ sig, parseMethodDescriptor y.desc = some sig → argsL.length = sig.parameters.length)
    (hstack : g.stack = argsL.reverse ++ .ref b :: rest) (hW : 2 * g.monitorRoom + (rest.map fun v => v.category).sum ≤ W9) (hdg : decode c.code g.pc = .ok (.invokevirtual index, 3))
    (hpre : ∀ vm₁, s.WarmedH vm₁ → Pre ⟨T.setVm vm₁, locs, cells, slots⟩ (Value.ref b :: argsL).toArray) :
    (∃ (v : Option Value) (vm₁ : Vm) (B : Pt), s.WarmedH vm₁ ∧ Stand p l e R s m args below meth c B.U B.locs B.cells B.slots ∧ Post ⟨T.setVm vm₁, locs, cells, slots⟩ (Value.ref b :: argsL).toArray v B ∧
      ∀ target, Steps p.tables e below (B.U.setTop { g with pc := g.pc + 3, stack := v.toList ++ rest }) target → Steps p.tables e below (T.setTop g) target) ∨
    (∃ (q : Addr) (vm₁ : Vm) (B : Pt), s.WarmedH vm₁ ∧ Stand p l e R s m args below meth c B.U B.locs B.cells B.slots ∧ PostX ⟨T.setVm vm₁, locs, cells, slots⟩ (Value.ref b :: argsL).toArray q B ∧
      Steps p.tables e below (T.setTop g) ((B.U.setTop { g with stack := rest }).pushFrame (.throwing q))) := by
  obtain ⟨mk, methM, hnamed, hmethM, hstM, habM⟩ := Cond.instanceMethod_spec hinst
  obtain ⟨m8, methM', cM, hn8, hmethM', -, -, -, -, -, -, hsigM⟩ := Cond.codeWith_spec hcode
  cases Option.some.inj (hn8.symm.trans hnamed)
  cases hmethM.symm.trans hmethM'
  obtain ⟨c2, r2, m2, q1, q2, q3, q4, kP, hkP, hkPi⟩ := Cond.selects_spec hsel
  cases hcls.symm.trans q1
  cases (State.methodFound?_of_named hnamed hy).symm.trans q2
  cases hnamed.symm.trans q3
  have hselP : selectMethod e.platform s.vm cellB.cls mk = .method mk := by rw [Launch.admits_selectMethod X.admits]; exact q4
  obtain ⟨vm₁, X₁, hstep₁⟩ := X.invokevirtual hexec hown hlink hnamed hmethM hstM hkP hkPi hy (a := b) (cell := cellB) hcell
    (fun z h => by rw [h] at hobj; cases hobj) hselP hmethM habM hkP hkPi (g := g) hg (argsL := argsL) (rest := rest) (hlen _ hsigM) hstack hdg
  rcases hK m meth c ⟨T.setVm vm₁, locs, cells, slots⟩ { g with stack := rest } (.invokevirtual index) mk (Value.ref b :: argsL).toArray X₁ hg hsize hdg hW (X₁.named hnamed) (hpre vm₁ X₁.warmed) with ⟨v, B, X', hpost, hsteps⟩ | ⟨q, B, X', hpost, hsteps⟩
  · exact Or.inl ⟨v, vm₁, B, X₁.warmed, X', hpost, fun target h => hstep₁ _ fun acts => by rw [doInvoke_state]; exact hsteps.trans h⟩
  · exact Or.inr ⟨q, vm₁, B, X₁.warmed, X', hpost, hstep₁ _ fun acts => by rw [doInvoke_state]; exact hsteps⟩
theorem vx_callSX (X : Stand p l e R s m args below meth c T locs cells slots) (hexec : p.tables.exec = Jvm.exec) {own : String} {index : Nat} {y : MethodName} {bytes : ByteArray} {maxL : Nat} {ret : Option FieldType} {hh : List (Nat × Nat × Nat × Nat)}
    (hown : s.vm.findClass own = some m.cls) (hlink : (Cond.methodLink own index y).before args s = true) (hstat : (Cond.static y).before args s = true) (hinit : (Cond.initialized y.cls).before args s = true)
    (hcode : (Cond.codeWith y bytes maxL ret hh).before args s = true) (hy : y.cls ≠ "java/lang/invoke/MethodHandle" ∧ y.cls ≠ "java/lang/invoke/VarHandle")
    {W9 : Nat} {Pre : Pt → Array Value → Prop} {Post : Pt → Array Value → Option Value → Pt → Prop} {PostX : Pt → Array Value → Addr → Pt → Prop} (hK : vx_Back l R p e below s args y 3 W9 Pre Post PostX)
    {g : JFrame} (hg : g.method = m) (hsize : g.locals.size = c.maxLocals) {argsL rest : List Value} (hlen : ∀ sig, parseMethodDescriptor y.desc = some sig → argsL.length = sig.parameters.length)
    (hstack : g.stack = argsL.reverse ++ rest) (hW : 2 * g.monitorRoom + (rest.map fun v => v.category).sum ≤ W9) (hdg : decode c.code g.pc = .ok (.invokestatic index, 3))
    (hpre : ∀ vm₁, s.WarmedH vm₁ → Pre ⟨T.setVm vm₁, locs, cells, slots⟩ argsL.toArray) :
    (∃ (v : Option Value) (vm₁ : Vm) (B : Pt), s.WarmedH vm₁ ∧ Stand p l e R s m args below meth c B.U B.locs B.cells B.slots ∧ Post ⟨T.setVm vm₁, locs, cells, slots⟩ argsL.toArray v B ∧
      ∀ target, Steps p.tables e below (B.U.setTop { g with pc := g.pc + 3, stack := v.toList ++ rest }) target → Steps p.tables e below (T.setTop g) target) ∨
    (∃ (q : Addr) (vm₁ : Vm) (B : Pt), s.WarmedH vm₁ ∧ Stand p l e R s m args below meth c B.U B.locs B.cells B.slots ∧ PostX ⟨T.setVm vm₁, locs, cells, slots⟩ argsL.toArray q B ∧
      Steps p.tables e below (T.setTop g) ((B.U.setTop { g with stack := rest }).pushFrame (.throwing q))) := by
  obtain ⟨mk, methM, cM, hnamed, hmethM, -, -, -, -, -, -, hsigM⟩ := Cond.codeWith_spec hcode
  have hstatic : methM.isStatic = true := Cond.static_spec hnamed hmethM hstat
  obtain ⟨kP, hkP, -⟩ := className_of_methodNamed hnamed
  have hinitP : kP.init = .initialized := Cond.initialized_spec (findClass_of_methodNamed hnamed) hkP hinit
  obtain ⟨vm₁, X₁, hstep₁⟩ := X.invokestatic hexec hown hlink hnamed hmethM hstatic hkP hinitP hy (g := g) hg (argsL := argsL) (rest := rest) (hlen _ hsigM) hstack hdg
  rcases hK m meth c ⟨T.setVm vm₁, locs, cells, slots⟩ { g with stack := rest } (.invokestatic index) mk argsL.toArray X₁ hg hsize hdg hW (X₁.named hnamed) (hpre vm₁ X₁.warmed) with ⟨v, B, X', hpost, hsteps⟩ | ⟨q, B, X', hpost, hsteps⟩
  · exact Or.inl ⟨v, vm₁, B, X₁.warmed, X', hpost, fun target h => hstep₁ _ fun acts => by rw [doInvoke_state]; exact hsteps.trans h⟩
  · exact Or.inr ⟨q, vm₁, B, X₁.warmed, X', hpost, hstep₁ _ fun acts => by rw [doInvoke_state]; exact hsteps⟩
theorem vx_callVW (X : Stand p l e R s m args below meth c T locs cells slots) (hexec : p.tables.exec = Jvm.exec) {own C : String} {index : Nat} {y : MethodName} {bytes : ByteArray} {maxL : Nat} {ret : Option FieldType} {hh : List (Nat × Nat × Nat × Nat)}
    (hown : s.vm.findClass own = some m.cls) (hlink : (Cond.methodLink own index y).before args s = true) (hinst : (Cond.instanceMethod y).before args s = true) (hsel : (Cond.selects C y y).before args s = true)
    (hcode : (Cond.codeWith y bytes maxL ret hh).before args s = true) (hy : y.cls ≠ "java/lang/invoke/MethodHandle" ∧ y.cls ≠ "java/lang/invoke/VarHandle")
    {W9 : Nat} {Pre : Pt → Array Value → Prop} {Post : Pt → Array Value → Option Value → Pt → Prop} (hK : Back l R p e below s args y 3 W9 Pre Post)
    {b : Addr} {cellB : Cell} (hcell : T.heap[b]? = some cellB) (hobj : cellB.vm.isStatics = false) (hcls : s.vm.findClass C = some cellB.cls)
    {g : JFrame} (hg : g.method = m) (hsize : g.locals.size = c.maxLocals) {argsL rest : List Value} (hlen : ∀ sig, parseMethodDescriptor y.desc = some sig → argsL.length = sig.parameters.length)
    (hstack : g.stack = argsL.reverse ++ .ref b :: rest) (hW : 2 * g.monitorRoom + (rest.map fun v => v.category).sum ≤ W9) (hdg : decode c.code g.pc = .ok (.invokevirtual index, 3))
    (hpre : ∀ vm₁, s.WarmedH vm₁ → Pre ⟨T.setVm vm₁, locs, cells, slots⟩ (Value.ref b :: argsL).toArray) :
    ∃ (v : Option Value) (vm₁ : Vm) (B : Pt), s.WarmedH vm₁ ∧ Stand p l e R s m args below meth c B.U B.locs B.cells B.slots ∧ Post ⟨T.setVm vm₁, locs, cells, slots⟩ (Value.ref b :: argsL).toArray v B ∧
      ∀ target, Steps p.tables e below (B.U.setTop { g with pc := g.pc + 3, stack := v.toList ++ rest }) target → Steps p.tables e below (T.setTop g) target := by
  obtain ⟨mk, methM, hnamed, hmethM, hstM, habM⟩ := Cond.instanceMethod_spec hinst
  obtain ⟨m8, methM', cM, hn8, hmethM', -, -, -, -, -, -, hsigM⟩ := Cond.codeWith_spec hcode
  cases Option.some.inj (hn8.symm.trans hnamed)
  cases hmethM.symm.trans hmethM'
  obtain ⟨c2, r2, m2, q1, q2, q3, q4, kP, hkP, hkPi⟩ := Cond.selects_spec hsel
  cases hcls.symm.trans q1
  cases (State.methodFound?_of_named hnamed hy).symm.trans q2
  cases hnamed.symm.trans q3
  have hselP : selectMethod e.platform s.vm cellB.cls mk = .method mk := by rw [Launch.admits_selectMethod X.admits]; exact q4
  obtain ⟨vm₁, X₁, hstep₁⟩ := X.invokevirtual hexec hown hlink hnamed hmethM hstM hkP hkPi hy (a := b) (cell := cellB) hcell
    (fun z h => by rw [h] at hobj; cases hobj) hselP hmethM habM hkP hkPi (g := g) hg (argsL := argsL) (rest := rest) (hlen _ hsigM) hstack hdg
  obtain ⟨v, B, X', hpost, hsteps⟩ := hK m meth c ⟨T.setVm vm₁, locs, cells, slots⟩ { g with stack := rest } (.invokevirtual index) mk (Value.ref b :: argsL).toArray X₁ hg hsize hdg hW (X₁.named hnamed) (hpre vm₁ X₁.warmed)
  exact ⟨v, vm₁, B, X₁.warmed, X', hpost, fun target h => hstep₁ _ fun acts => by rw [doInvoke_state]; exact hsteps.trans h⟩
abbrev vx_CVW (R : Room) (s : State) (args : Array Value) (own C : String) (index : Nat) (y : MethodName) (bytes : ByteArray) (maxL : Nat) (ret : Option FieldType) (hh : List (Nat × Nat × Nat × Nat)) (ws : List Cond) (rm : Room) (mc ms n : Nat) : Prop :=
  (rm.cells = mc ∧ rm.slots = ms ∧ rm.frames + 1 ≤ R.frames ∧ 8 + (maxL + 11) + rm.locals ≤ R.locals ∧ (∀ w ∈ ws, ∀ (a' : Array Value) (U : State), s.WarmedH U.vm → w.before a' U = true) ∧ Cond.codeWith y bytes maxL ret hh ∈ ws) ∧
  (Cond.codeWith y bytes maxL ret hh).before args s = true ∧ (Cond.initialized y.cls).before args s = true ∧ (y.cls ≠ "java/lang/invoke/MethodHandle" ∧ y.cls ≠ "java/lang/invoke/VarHandle") ∧
  (∀ sig, parseMethodDescriptor y.desc = some sig → n = sig.parameters.length) ∧ (Cond.methodLink own index y).before args s = true ∧ (Cond.instanceMethod y).before args s = true ∧ (Cond.selects C y y).before args s = true
theorem vx_cwVW {own C : String} {index maxL mc ms : Nat} {y : MethodName} {bytes : ByteArray} {ret : Option FieldType} {hh : List (Nat × Nat × Nat × Nat)} {Ts ws ws' : List Cond} {rm : Room} (n : Nat) (ht : ∀ w ∈ Ts, w.before args s = true) (hT : GoodIn Ts (wsV own index C y ws)) (hw : ws = Cond.codeWith y bytes maxL ret hh :: ws') (hrc : rm.cells = mc) (hrs : rm.slots = ms)
    (hd : y.cls = C ∧ y.cls ≠ "java/lang/invoke/MethodHandle" ∧ y.cls ≠ "java/lang/invoke/VarHandle" ∧ (parseMethodDescriptor y.desc).map (fun d => d.parameters.length) = some n) (hR : rm.frames + 1 ≤ R.frames ∧ 8 + (maxL + 11) + rm.locals ≤ R.locals) :
    vx_CVW R s args own C index y bytes maxL ret hh ws rm mc ms n := by
  obtain ⟨hC, hd⟩ := hd
  subst hC
  have ok : ∀ w ∈ wsV own index y.cls y ws, w.before args s = true := fun w h => ht w (hT w h).1
  have hG : GoodIn Ts ws := fun w h => hT w (by unfold wsV; exact List.mem_append_right _ h)
  have hc : Cond.codeWith y bytes maxL ret hh ∈ ws := by rw [hw]; exact List.mem_cons_self
  refine ⟨⟨hrc, hrs, hR.1, hR.2, pay_in ht hG, hc⟩, ht _ (hG _ hc).1, ok _ (by simp [wsV]), ⟨hd.1, hd.2.1⟩, fun sig h => ?_, ok _ (by simp [wsV]), ok _ (by simp [wsV]), ok _ (by simp [wsV])⟩
  have h2 := hd.2.2
  rw [h] at h2
  exact (Option.some.inj h2).symm
theorem vx_runVW {y : MethodName} {bytes cc : ByteArray} {maxL nL mc ms n index : Nat} {ret : Option FieldType} {hh : List (Nat × Nat × Nat × Nat)} {ws : List Cond} {rm : Room} {Pc : Array Value → State → Prop} {Qc : Array Value → State → Outcome → State → Prop} {free : Addr → Prop} {Ts : List Cond} {own C : String} {b : Addr} {As rest : List Value} {g : JFrame}
    (S : CallFix p m c cc nL s args Ts own) (hM : Met l y ws rm Pc Qc mc ms free) (cw : vx_CVW R s args own C index y bytes maxL ret hh ws rm mc ms n) (hp : PreV s H C b Pc As)
    (hg : g.method = m) (hn : As.length = n) (hsize : g.locals.size = nL) (hstack : g.stack = As.reverse ++ .ref b :: rest) (hW : 2 * g.monitorRoom + (rest.map fun v => v.category).sum ≤ 8) (hdg : decode cc g.pc = .ok (.invokevirtual index, 3)) (hf : cells + mc ≤ R.cells ∧ slots + ms ≤ R.slots) :
    va_Run p l e R s m args below meth c H locs cells slots mc ms g rest (Qc (Value.ref b :: As).toArray) free := by
  obtain ⟨⟨hrc, hrs, hfr, hlo, hws, hcw⟩, hcode, hini, hy, hlen, hl, hin, hse⟩ := cw
  have hK : Back l R p e below s args y 3 8 (PreOf R mc ms Pc) (PostOf Qc mc ms free) := va_backW (hh := hh) (bytes := bytes) (maxL := maxL) (ret := ret) hM hp.1 hrc hrs hfr hlo hws hcw (fun a' U hW => word_at hW (Or.inl (by first | rfl | simp [Cond.onTables, Cond.keeps, Cond.steady])) hini)
  obtain ⟨hx, hb, hml, ho, -⟩ := S
  obtain ⟨-, ⟨cellB, hcB, hoB, hclB⟩, hPc⟩ := hp
  intro T hT X
  obtain ⟨v, vm₁, ⟨U', l2, c2, s2⟩, hW₁, X', ⟨g', mk, t, L, e1, e2, hq, h1, hL, h2, h3⟩, st⟩ := vx_callVW X hx (C := C) (hh := hh) (bytes := bytes) (maxL := maxL) (ret := ret) ho hl hin hse hcode hy hK (by rw [hT]; exact hcB) hoB hclB hg (hsize.trans hml.symm) (argsL := As) (rest := rest) (fun sig h => hn.trans (hlen sig h)) hstack hW (by rw [hb]; exact hdg)
    (fun vm₁ hW₁ => ⟨hf.1, hf.2, hPc (T.setVm vm₁) hT hW₁⟩)
  dsimp only [Pt.U, Pt.locs, Pt.cells, Pt.slots] at X' e1 e2 h1 h2 h3 st
  subst h1; subst h2; subst h3
  exact ⟨v, (T.setVm vm₁).calling g' mk (Value.ref b :: As).toArray, t, U', L, hT, X', hL, e1, e2, hq, st⟩
section
variable {y : MethodName} {bytes cc : ByteArray} {maxL nL mc ms n index : Nat} {ret : Option FieldType} {ws : List Cond} {rm : Room} {Pc : Array Value → State → Prop} {Qc : Array Value → State → Outcome → State → Prop} {XC : String → State → State → Prop} {free : Addr → Prop} {Ts : List Cond} {own C : String} {b : Addr} {As rest : List Value} {g : JFrame}
theorem vx_runVX {hh : List (Nat × Nat × Nat × Nat)} (S : CallFix p m c cc nL s args Ts own) (hM : vx_Met l y ws rm Pc Qc XC mc ms free) (cw : vx_CVW R s args own C index y bytes maxL ret hh ws rm mc ms n) (hp : PreV s H C b Pc As)
    (hg : g.method = m) (hn : As.length = n) (hsize : g.locals.size = nL) (hstack : g.stack = As.reverse ++ .ref b :: rest) (hW : 2 * g.monitorRoom + (rest.map fun v => v.category).sum ≤ 8) (hdg : decode cc g.pc = .ok (.invokevirtual index, 3)) (hf : cells + mc ≤ R.cells ∧ slots + ms ≤ R.slots) :
    vx_Run p l e R s m args below meth c H locs cells slots mc ms g rest (Qc (Value.ref b :: As).toArray) XC free := by
  obtain ⟨⟨hrc, hrs, hfr, hlo, hws, hcw⟩, hcode, hini, hy, hlen, hl, hin, hse⟩ := cw
  have hK : vx_Back l R p e below s args y 3 8 (PreOf R mc ms Pc) (PostOf Qc mc ms free) (vx_Post XC mc ms free) := vx_backW (hh := hh) (bytes := bytes) (maxL := maxL) (ret := ret) hM hp.1 hrc hrs hfr hlo hws hcw (fun a' U hW => word_at hW (Or.inl (by first | rfl | simp [Cond.onTables, Cond.keeps, Cond.steady])) hini)
  obtain ⟨hx, hb, hml, ho, -⟩ := S
  obtain ⟨-, ⟨cellB, hcB, hoB, hclB⟩, hPc⟩ := hp
  intro T hT X
  rcases vx_callVX X hx (C := C) (hh := hh) (bytes := bytes) (maxL := maxL) (ret := ret) ho hl hin hse hcode hy hK (by rw [hT]; exact hcB) hoB hclB hg (hsize.trans hml.symm) (argsL := As) (rest := rest) (fun sig h => hn.trans (hlen sig h)) hstack hW (by rw [hb]; exact hdg)
    (fun vm₁ hW₁ => ⟨hf.1, hf.2, hPc (T.setVm vm₁) hT hW₁⟩) with ⟨v, vm₁, ⟨U', l2, c2, s2⟩, hW₁, X', ⟨g', mk, t, L, e1, e2, hq, h1, hL, h2, h3⟩, st⟩ | ⟨q, vm₁, ⟨U', l2, c2, s2⟩, hW₁, X', ⟨g', mk, t, L, E, ce, e1, e2, hq, hce, hcv, hcl, h1, hL, h2, h3⟩, st⟩
  · dsimp only [Pt.U, Pt.locs, Pt.cells, Pt.slots] at X' e1 e2 h1 h2 h3 st
    subst h1; subst h2; subst h3
    exact Or.inl ⟨v, (T.setVm vm₁).calling g' mk (Value.ref b :: As).toArray, t, U', L, hT, X', hL, e1, e2, hq, st⟩
  · dsimp only [Pt.U, Pt.locs, Pt.cells, Pt.slots] at X' e1 e2 h1 h2 h3 st hcl
    subst h1; subst h2; subst h3
    exact Or.inr ⟨q, (T.setVm vm₁).calling g' mk (Value.ref b :: As).toArray, t, U', L, E, ce, hT, X', hL, e1, e2, hq, hce, hcv, vx_cls hW₁ hcl, st⟩
theorem vx_runSX {hh : List (Nat × Nat × Nat × Nat)} (S : CallFix p m c cc nL s args Ts own) (hM : vx_Met l y ws rm Pc Qc XC mc ms free) (cw : vx_CSW R s args own index y bytes maxL ret hh ws rm mc ms n) (hp : PreS s H Pc As)
    (hg : g.method = m) (hn : As.length = n) (hsize : g.locals.size = nL) (hstack : g.stack = As.reverse ++ rest) (hW : 2 * g.monitorRoom + (rest.map fun v => v.category).sum ≤ 8) (hdg : decode cc g.pc = .ok (.invokestatic index, 3)) (hf : cells + mc ≤ R.cells ∧ slots + ms ≤ R.slots) :
    vx_Run p l e R s m args below meth c H locs cells slots mc ms g rest (Qc As.toArray) XC free := by
  obtain ⟨⟨hrc, hrs, hfr, hlo, hws, hcw⟩, hcode, hini, hy, hlen, hl, hstt⟩ := cw
  have hK : vx_Back l R p e below s args y 3 8 (PreOf R mc ms Pc) (PostOf Qc mc ms free) (vx_Post XC mc ms free) := vx_backW (hh := hh) (bytes := bytes) (maxL := maxL) (ret := ret) hM hp.1 hrc hrs hfr hlo hws hcw (fun a' U hW => word_at hW (Or.inl (by first | rfl | simp [Cond.onTables, Cond.keeps, Cond.steady])) hini)
  obtain ⟨hx, hb, hml, ho, -⟩ := S
  intro T hT X
  rcases vx_callSX X hx (hh := hh) (bytes := bytes) (maxL := maxL) (ret := ret) ho hl hstt hini hcode hy hK hg (hsize.trans hml.symm) (argsL := As) (rest := rest) (fun sig h => hn.trans (hlen sig h)) hstack hW (by rw [hb]; exact hdg)
    (fun vm₁ hW₁ => ⟨hf.1, hf.2, hp.2 (T.setVm vm₁) hT hW₁⟩) with ⟨v, vm₁, ⟨U', l2, c2, s2⟩, hW₁, X', ⟨g', mk, t, L, e1, e2, hq, h1, hL, h2, h3⟩, st⟩ | ⟨q, vm₁, ⟨U', l2, c2, s2⟩, hW₁, X', ⟨g', mk, t, L, E, ce, e1, e2, hq, hce, hcv, hcl, h1, hL, h2, h3⟩, st⟩
  · dsimp only [Pt.U, Pt.locs, Pt.cells, Pt.slots] at X' e1 e2 h1 h2 h3 st
    subst h1; subst h2; subst h3
    exact Or.inl ⟨v, (T.setVm vm₁).calling g' mk As.toArray, t, U', L, hT, X', hL, e1, e2, hq, st⟩
  · dsimp only [Pt.U, Pt.locs, Pt.cells, Pt.slots] at X' e1 e2 h1 h2 h3 st hcl
    subst h1; subst h2; subst h3
    exact Or.inr ⟨q, (T.setVm vm₁).calling g' mk As.toArray, t, U', L, E, ce, hT, X', hL, e1, e2, hq, hce, hcv, vx_cls hW₁ hcl, st⟩
end
end VXH
theorem vx_ofWH {l : Launch} {y : MethodName} {ws ws' : List Cond} {rm : Room} {Pc : Array Value → State → Prop} {Qc : Array Value → State → Outcome → State → Prop} {XC : String → State → State → Prop} {mc ms : Nat} {free : Addr → Prop} {cc : ByteArray} {maxL : Nat} {ret : Option FieldType} {hh : List (Nat × Nat × Nat × Nat)}
    (hy : plainName y.cls = true) (hw : ws = Cond.codeWith y cc maxL ret hh :: ws')
    (body : ∀ p e s m args below meth c s₁, BodyLoose p l y (headSpec ws rm) cc maxL ret e s m args below meth c s₁ → c.maxLocals = maxL → Pc args s →
      W p l e (headSpec ws rm).room s m args below meth c s.heap [] 0 0 (vx_MQ below Qc XC args s mc ms free) (entryFrame m args maxL)) : vx_Met l y ws rm Pc Qc XC mc ms free := by
  refine MetFree.of_bodyS (code := cc) (maxLocals := maxL) (ret := ret) hy ?_ ?_
  · intro args s m h hn
    obtain ⟨m9, meth, c, hn9, h1, h2, h3, h4, -, h5, h6, -⟩ := Cond.codeWith_spec (atoms_spec (ws := ws) h _ (by rw [hw]; exact List.mem_cons_self))
    cases hn.symm.trans hn9
    exact ⟨meth, c, h1, h2, h3, h4, h5, h6⟩
  · intro p e s m args below meth c s₁ B hml hP _
    have hh0 : s₁.heap = s.heap := by rw [B.state]; rfl
    obtain ⟨t, a1, o, b1, b2, b3⟩ := body p e s m args below meth c s₁ B hml hP s₁ hh0 (Stand.of_body B)
    exact ⟨t, o, a1, b1, b2, b3⟩
/-! ===== END ===== -/
end
section
/-! ===== BEGIN printed: names, fields, word lists, decode rows ===== -/
def RX0 : String := "BlockPrograms$Block"
def TX0 : u_T := fun k => match k with
  | 0 => ("BlockPrograms$Block", "kind", "I", false)
  | 1 => ("BlockPrograms$Block", "p", "I", false)
  | 2 => ("BlockPrograms$Block", "q", "I", false)
  | 3 => ("BlockPrograms$Block", "safeValue", "I", false)
  | 4 => ("BlockPrograms$Block", "output", "I", false)
  | 5 => ("BlockPrograms$Block", "first", "I", false)
  | 6 => ("BlockPrograms$Block", "second", "I", false)
  | 7 => ("BlockPrograms$Block", "inHand", "Z", false)
  | 8 => ("BlockPrograms$Block", "handValue", "I", false)
  | 9 => ("BlockPrograms$Block", "wires", "[I", true)
  | _ => ("BlockPrograms$Block", "places", "[I", true)
def tyX0 : Nat → FieldType := fun k => match k with
  | 0 => .int
  | 1 => .int
  | 2 => .int
  | 3 => .int
  | 4 => .int
  | 5 => .int
  | 6 => .int
  | 7 => .boolean
  | 8 => .int
  | 9 => .array .int
  | _ => .array .int
abbrev wsX00 : List Cond := u_ws RX0 TX0 11
theorem nmX0 : ∀ a, a < 11 → ∀ b, b < 11 → a ≠ b → (TX0 a).2.1 ≠ (TX0 b).2.1 := by decide +kernel
theorem tyX0_ok : ∀ k, k < 11 → parseFieldDescriptor (TX0 k).2.2.1 = some (tyX0 k) := by decide +kernel
abbrev cX0_init : ByteArray := prog_2_method_1_code
def yX0_init : MethodName := ⟨RX0, "<init>", "(I)V"⟩
abbrev cX0_namedInputs : ByteArray := prog_2_method_2_code
def yX0_namedInputs : MethodName := ⟨RX0, "namedInputs", "()I"⟩
abbrev cX0_lacksWire : ByteArray := prog_2_method_3_code
def yX0_lacksWire : MethodName := ⟨RX0, "lacksWire", "()Z"⟩
abbrev cX0_say : ByteArray := prog_2_method_4_code
def yX0_say : MethodName := ⟨RX0, "say", "(I)V"⟩
abbrev cX0_ownReckoning : ByteArray := prog_2_method_5_code
def yX0_ownReckoning : MethodName := ⟨RX0, "ownReckoning", "(III)I"⟩
abbrev cX0_ramped : ByteArray := prog_2_method_6_code
def yX0_ramped : MethodName := ⟨RX0, "ramped", "(I)I"⟩
abbrev cX0_counted : ByteArray := prog_2_method_7_code
def yX0_counted : MethodName := ⟨RX0, "counted", "(II)I"⟩
abbrev cX0_latched : ByteArray := prog_2_method_8_code
def yX0_latched : MethodName := ⟨RX0, "latched", "(II)I"⟩
abbrev cX0_isClockOn : ByteArray := prog_2_method_9_code
def yX0_isClockOn : MethodName := ⟨RX0, "isClockOn", "(I)Z"⟩
abbrev cX0_pulsed : ByteArray := prog_2_method_10_code
def yX0_pulsed : MethodName := ⟨RX0, "pulsed", "(I)I"⟩
def RX1 : String := "BlockPrograms$Failures"
def TX1 : u_T := fun k => match k with
  | 0 => ("BlockPrograms$Failures", "totals", "[I", true)
  | 1 => ("BlockPrograms$Failures", "ticks", "[I", true)
  | 2 => ("BlockPrograms$Failures", "numbers", "[I", true)
  | 3 => ("BlockPrograms$Failures", "kinds", "[I", true)
  | _ => ("BlockPrograms$Failures", "next", "I", false)
def tyX1 : Nat → FieldType := fun k => match k with
  | 0 => .array .int
  | 1 => .array .int
  | 2 => .array .int
  | 3 => .array .int
  | _ => .int
abbrev wsX10 : List Cond := u_ws RX1 TX1 5
theorem nmX1 : ∀ a, a < 5 → ∀ b, b < 5 → a ≠ b → (TX1 a).2.1 ≠ (TX1 b).2.1 := by decide +kernel
theorem tyX1_ok : ∀ k, k < 5 → parseFieldDescriptor (TX1 k).2.2.1 = some (tyX1 k) := by decide +kernel
abbrev cX1_init : ByteArray := prog_3_method_1_code
def yX1_init : MethodName := ⟨RX1, "<init>", "()V"⟩
abbrev cX1_note : ByteArray := prog_3_method_2_code
def yX1_note : MethodName := ⟨RX1, "note", "(III)V"⟩
abbrev cX1_keptCount : ByteArray := prog_3_method_3_code
def yX1_keptCount : MethodName := ⟨RX1, "keptCount", "()I"⟩
abbrev cX1_fact : ByteArray := prog_3_method_4_code
def yX1_fact : MethodName := ⟨RX1, "fact", "(II)I"⟩
def RX2 : String := "BlockPrograms$Saving"
def TX2 : u_T := fun k => match k with
  | 0 => ("BlockPrograms$Saving", "count", "I", false)
  | 1 => ("BlockPrograms$Saving", "kinds", "[I", true)
  | 2 => ("BlockPrograms$Saving", "outputs", "[I", true)
  | 3 => ("BlockPrograms$Saving", "firsts", "[I", true)
  | _ => ("BlockPrograms$Saving", "seconds", "[I", true)
def tyX2 : Nat → FieldType := fun k => match k with
  | 0 => .int
  | 1 => .array .int
  | 2 => .array .int
  | 3 => .array .int
  | _ => .array .int
abbrev wsX20 : List Cond := u_ws RX2 TX2 5
theorem nmX2 : ∀ a, a < 5 → ∀ b, b < 5 → a ≠ b → (TX2 a).2.1 ≠ (TX2 b).2.1 := by decide +kernel
theorem tyX2_ok : ∀ k, k < 5 → parseFieldDescriptor (TX2 k).2.2.1 = some (tyX2 k) := by decide +kernel
abbrev cX2_init : ByteArray := prog_4_method_1_code
def yX2_init : MethodName := ⟨RX2, "<init>", "()V"⟩
abbrev cX2_keep : ByteArray := prog_4_method_2_code
def yX2_keep : MethodName := ⟨RX2, "keep", "(LBlockPrograms$Block;)V"⟩
abbrev cX2_restore : ByteArray := prog_4_method_3_code
def yX2_restore : MethodName := ⟨RX2, "restore", "(ILBlockPrograms$Block;)Z"⟩
def RX3 : String := "BlockPrograms"
def TX3 : u_T := fun k => match k with
  | 0 => ("BlockPrograms", "blocks", "[LBlockPrograms$Block;", true)
  | 1 => ("BlockPrograms", "count", "I", false)
  | 2 => ("BlockPrograms", "points", "[I", true)
  | 3 => ("BlockPrograms", "time", "I", false)
  | 4 => ("BlockPrograms", "line", "[I", true)
  | 5 => ("BlockPrograms", "placed", "[Z", true)
  | 6 => ("BlockPrograms", "failures", "LBlockPrograms$Failures;", true)
  | 7 => ("BlockPrograms", "savings", "[LBlockPrograms$Saving;", true)
  | _ => ("BlockPrograms", "savingCount", "I", false)
def tyX3 : Nat → FieldType := fun k => match k with
  | 0 => .array (.object "BlockPrograms$Block")
  | 1 => .int
  | 2 => .array .int
  | 3 => .int
  | 4 => .array .int
  | 5 => .array .boolean
  | 6 => .object "BlockPrograms$Failures"
  | 7 => .array (.object "BlockPrograms$Saving")
  | _ => .int
abbrev wsX30 : List Cond := u_ws RX3 TX3 9
theorem nmX3 : ∀ a, a < 9 → ∀ b, b < 9 → a ≠ b → (TX3 a).2.1 ≠ (TX3 b).2.1 := by decide +kernel
theorem tyX3_ok : ∀ k, k < 9 → parseFieldDescriptor (TX3 k).2.2.1 = some (tyX3 k) := by decide +kernel
abbrev cX3_init : ByteArray := prog_1_method_1_code
def yX3_init : MethodName := ⟨RX3, "<init>", "()V"⟩
abbrev cX3_block : ByteArray := prog_1_method_2_code
def yX3_block : MethodName := ⟨RX3, "block", "(I)I"⟩
abbrev cX3_wire : ByteArray := prog_1_method_3_code
def yX3_wire : MethodName := ⟨RX3, "wire", "(III)I"⟩
abbrev cX3_numbers : ByteArray := prog_1_method_4_code
def yX3_numbers : MethodName := ⟨RX3, "numbers", "(III)V"⟩
abbrev cX3_row : ByteArray := prog_1_method_5_code
def yX3_row : MethodName := ⟨RX3, "row", "(III)I"⟩
abbrev cX3_safe : ByteArray := prog_1_method_6_code
def yX3_safe : MethodName := ⟨RX3, "safe", "(II)I"⟩
abbrev cX3_point : ByteArray := prog_1_method_7_code
def yX3_point : MethodName := ⟨RX3, "point", "(II)I"⟩
abbrev cX3_hand : ByteArray := prog_1_method_8_code
def yX3_hand : MethodName := ⟨RX3, "hand", "(IZI)Z"⟩
abbrev cX3_order : ByteArray := prog_1_method_9_code
def yX3_order : MethodName := ⟨RX3, "order", "()I"⟩
abbrev cX3_at : ByteArray := prog_1_method_10_code
def yX3_at : MethodName := ⟨RX3, "at", "(I)I"⟩
abbrev cX3_run : ByteArray := prog_1_method_11_code
def yX3_run : MethodName := ⟨RX3, "run", "(I)I"⟩
abbrev cX3_out : ByteArray := prog_1_method_12_code
def yX3_out : MethodName := ⟨RX3, "out", "(I)I"⟩
abbrev cX3_state : ByteArray := prog_1_method_13_code
def yX3_state : MethodName := ⟨RX3, "state", "(II)I"⟩
abbrev cX3_failed : ByteArray := prog_1_method_14_code
def yX3_failed : MethodName := ⟨RX3, "failed", "(I)I"⟩
abbrev cX3_failure : ByteArray := prog_1_method_15_code
def yX3_failure : MethodName := ⟨RX3, "failure", "(II)I"⟩
abbrev cX3_save : ByteArray := prog_1_method_16_code
def yX3_save : MethodName := ⟨RX3, "save", "()I"⟩
abbrev cX3_back : ByteArray := prog_1_method_17_code
def yX3_back : MethodName := ⟨RX3, "back", "(I)I"⟩
abbrev cX3_become : ByteArray := prog_1_method_18_code
def yX3_become : MethodName := ⟨RX3, "become", "(II)I"⟩
abbrev cX3_requireKind : ByteArray := prog_1_method_19_code
def yX3_requireKind : MethodName := ⟨RX3, "requireKind", "(I)V"⟩
abbrev cX3_existing : ByteArray := prog_1_method_20_code
def yX3_existing : MethodName := ⟨RX3, "existing", "(I)LBlockPrograms$Block;"⟩
abbrev cX3_isPoint : ByteArray := prog_1_method_21_code
def yX3_isPoint : MethodName := ⟨RX3, "isPoint", "(I)Z"⟩
abbrev cX3_isPlaceInRow : ByteArray := prog_1_method_22_code
def yX3_isPlaceInRow : MethodName := ⟨RX3, "isPlaceInRow", "(I)Z"⟩
abbrev cX3_lineUp : ByteArray := prog_1_method_23_code
def yX3_lineUp : MethodName := ⟨RX3, "lineUp", "()I"⟩
abbrev cX3_leastThatMayCome : ByteArray := prog_1_method_24_code
def yX3_leastThatMayCome : MethodName := ⟨RX3, "leastThatMayCome", "()I"⟩
abbrev cX3_mayCome : ByteArray := prog_1_method_25_code
def yX3_mayCome : MethodName := ⟨RX3, "mayCome", "(LBlockPrograms$Block;)Z"⟩
abbrev cX3_tick : ByteArray := prog_1_method_26_code
def yX3_tick : MethodName := ⟨RX3, "tick", "()V"⟩
abbrev cX3_reckon : ByteArray := prog_1_method_27_code
def yX3_reckon : MethodName := ⟨RX3, "reckon", "(I)V"⟩
abbrev cX3_fail : ByteArray := prog_1_method_28_code
def yX3_fail : MethodName := ⟨RX3, "fail", "(II)V"⟩
abbrev cX3_takeUp : ByteArray := prog_1_method_29_code
def yX3_takeUp : MethodName := ⟨RX3, "takeUp", "(I)V"⟩
abbrev cX3_outputOf : ByteArray := prog_1_method_30_code
def yX3_outputOf : MethodName := ⟨RX3, "outputOf", "(I)I"⟩
abbrev cX3_failureOf : ByteArray := prog_1_method_31_code
def yX3_failureOf : MethodName := ⟨RX3, "failureOf", "(LBlockPrograms$Block;II)I"⟩
abbrev cX3_combined : ByteArray := prog_1_method_32_code
def yX3_combined : MethodName := ⟨RX3, "combined", "(IIII)I"⟩
abbrev cX3_quotient : ByteArray := prog_1_method_33_code
def yX3_quotient : MethodName := ⟨RX3, "quotient", "(II)I"⟩
abbrev cX3_asNumber : ByteArray := prog_1_method_34_code
def yX3_asNumber : MethodName := ⟨RX3, "asNumber", "(Z)I"⟩
def RX4 : String := "BlockProgramsModel"
def TX4 : u_T := fun k => match k with
  | 0 => ("BlockProgramsModel", "code", "I", false)
  | 1 => ("BlockProgramsModel", "blocks", "I", false)
  | 2 => ("BlockProgramsModel", "kinds", "[I", true)
  | 3 => ("BlockProgramsModel", "ps", "[I", true)
  | 4 => ("BlockProgramsModel", "qs", "[I", true)
  | 5 => ("BlockProgramsModel", "safes", "[I", true)
  | 6 => ("BlockProgramsModel", "wires", "[I", true)
  | 7 => ("BlockProgramsModel", "outs", "[I", true)
  | 8 => ("BlockProgramsModel", "firsts", "[I", true)
  | 9 => ("BlockProgramsModel", "seconds", "[I", true)
  | 10 => ("BlockProgramsModel", "rows", "[I", true)
  | 11 => ("BlockProgramsModel", "inHand", "[Z", true)
  | 12 => ("BlockProgramsModel", "hands", "[I", true)
  | 13 => ("BlockProgramsModel", "points", "[I", true)
  | 14 => ("BlockProgramsModel", "time", "I", false)
  | 15 => ("BlockProgramsModel", "order", "[I", true)
  | 16 => ("BlockProgramsModel", "come", "I", false)
  | 17 => ("BlockProgramsModel", "isIn", "[Z", true)
  | 18 => ("BlockProgramsModel", "failures", "[I", true)
  | 19 => ("BlockProgramsModel", "last", "I", false)
  | 20 => ("BlockProgramsModel", "kept", "[I", true)
  | 21 => ("BlockProgramsModel", "saves", "I", false)
  | 22 => ("BlockProgramsModel", "savedBlocks", "[I", true)
  | 23 => ("BlockProgramsModel", "saved", "[I", true)
  | _ => ("BlockProgramsModel", "wrong", "I", false)
def tyX4 : Nat → FieldType := fun k => match k with
  | 0 => .int
  | 1 => .int
  | 2 => .array .int
  | 3 => .array .int
  | 4 => .array .int
  | 5 => .array .int
  | 6 => .array .int
  | 7 => .array .int
  | 8 => .array .int
  | 9 => .array .int
  | 10 => .array .int
  | 11 => .array .boolean
  | 12 => .array .int
  | 13 => .array .int
  | 14 => .int
  | 15 => .array .int
  | 16 => .int
  | 17 => .array .boolean
  | 18 => .array .int
  | 19 => .int
  | 20 => .array .int
  | 21 => .int
  | 22 => .array .int
  | 23 => .array .int
  | _ => .int
abbrev wsX40 : List Cond := u_ws RX4 TX4 25
theorem nmX4 : ∀ a, a < 25 → ∀ b, b < 25 → a ≠ b → (TX4 a).2.1 ≠ (TX4 b).2.1 := by decide +kernel
theorem tyX4_ok : ∀ k, k < 25 → parseFieldDescriptor (TX4 k).2.2.1 = some (tyX4 k) := by decide +kernel
abbrev cX4_init : ByteArray := prog_6_method_1_code
def yX4_init : MethodName := ⟨RX4, "<init>", "()V"⟩
abbrev cX4_thrown : ByteArray := prog_6_method_2_code
def yX4_thrown : MethodName := ⟨RX4, "thrown", "()I"⟩
abbrev cX4_in : ByteArray := prog_6_method_3_code
def yX4_in : MethodName := ⟨RX4, "in", "(III)Z"⟩
abbrev cX4_isBlock : ByteArray := prog_6_method_4_code
def yX4_isBlock : MethodName := ⟨RX4, "isBlock", "(I)Z"⟩
abbrev cX4_block : ByteArray := prog_6_method_5_code
def yX4_block : MethodName := ⟨RX4, "block", "(I)I"⟩
abbrev cX4_wire : ByteArray := prog_6_method_6_code
def yX4_wire : MethodName := ⟨RX4, "wire", "(III)I"⟩
abbrev cX4_numbers : ByteArray := prog_6_method_7_code
def yX4_numbers : MethodName := ⟨RX4, "numbers", "(III)V"⟩
abbrev cX4_row : ByteArray := prog_6_method_8_code
def yX4_row : MethodName := ⟨RX4, "row", "(III)I"⟩
abbrev cX4_safe : ByteArray := prog_6_method_9_code
def yX4_safe : MethodName := ⟨RX4, "safe", "(II)I"⟩
abbrev cX4_point : ByteArray := prog_6_method_10_code
def yX4_point : MethodName := ⟨RX4, "point", "(II)I"⟩
abbrev cX4_hand : ByteArray := prog_6_method_11_code
def yX4_hand : MethodName := ⟨RX4, "hand", "(IZI)Z"⟩
abbrev cX4_become : ByteArray := prog_6_method_12_code
def yX4_become : MethodName := ⟨RX4, "become", "(II)I"⟩
abbrev cX4_inputsOf : ByteArray := prog_6_method_13_code
def yX4_inputsOf : MethodName := ⟨RX4, "inputsOf", "(I)I"⟩
abbrev cX4_mayCome : ByteArray := prog_6_method_14_code
def yX4_mayCome : MethodName := ⟨RX4, "mayCome", "(I)Z"⟩
abbrev cX4_lay : ByteArray := prog_6_method_15_code
def yX4_lay : MethodName := ⟨RX4, "lay", "()V"⟩
abbrev cX4_order : ByteArray := prog_6_method_16_code
def yX4_order : MethodName := ⟨RX4, "order", "()I"⟩
abbrev cX4_at : ByteArray := prog_6_method_17_code
def yX4_at : MethodName := ⟨RX4, "at", "(I)I"⟩
abbrev cX4_input : ByteArray := prog_6_method_18_code
def yX4_input : MethodName := ⟨RX4, "input", "(II)I"⟩
abbrev cX4_one : ByteArray := prog_6_method_19_code
def yX4_one : MethodName := ⟨RX4, "one", "(Z)I"⟩
abbrev cX4_plain : ByteArray := prog_6_method_20_code
def yX4_plain : MethodName := ⟨RX4, "plain", "(IIII)I"⟩
abbrev cX4_ramp : ByteArray := prog_6_method_21_code
def yX4_ramp : MethodName := ⟨RX4, "ramp", "(II)I"⟩
abbrev cX4_clock : ByteArray := prog_6_method_22_code
def yX4_clock : MethodName := ⟨RX4, "clock", "(I)Z"⟩
abbrev cX4_pulse : ByteArray := prog_6_method_23_code
def yX4_pulse : MethodName := ⟨RX4, "pulse", "(II)I"⟩
abbrev cX4_since : ByteArray := prog_6_method_24_code
def yX4_since : MethodName := ⟨RX4, "since", "(II)I"⟩
abbrev cX4_withState : ByteArray := prog_6_method_25_code
def yX4_withState : MethodName := ⟨RX4, "withState", "(III)I"⟩
abbrev cX4_fail : ByteArray := prog_6_method_26_code
def yX4_fail : MethodName := ⟨RX4, "fail", "(II)V"⟩
abbrev cX4_reckon : ByteArray := prog_6_method_27_code
def yX4_reckon : MethodName := ⟨RX4, "reckon", "(I)V"⟩
abbrev cX4_takeDelay : ByteArray := prog_6_method_28_code
def yX4_takeDelay : MethodName := ⟨RX4, "takeDelay", "(I)V"⟩
abbrev cX4_run : ByteArray := prog_6_method_29_code
def yX4_run : MethodName := ⟨RX4, "run", "(I)I"⟩
abbrev cX4_out : ByteArray := prog_6_method_30_code
def yX4_out : MethodName := ⟨RX4, "out", "(I)I"⟩
abbrev cX4_state : ByteArray := prog_6_method_31_code
def yX4_state : MethodName := ⟨RX4, "state", "(II)I"⟩
abbrev cX4_failed : ByteArray := prog_6_method_32_code
def yX4_failed : MethodName := ⟨RX4, "failed", "(I)I"⟩
abbrev cX4_failure : ByteArray := prog_6_method_33_code
def yX4_failure : MethodName := ⟨RX4, "failure", "(II)I"⟩
abbrev cX4_save : ByteArray := prog_6_method_34_code
def yX4_save : MethodName := ⟨RX4, "save", "()I"⟩
abbrev cX4_back : ByteArray := prog_6_method_35_code
def yX4_back : MethodName := ⟨RX4, "back", "(I)I"⟩
def RJ9 : String := "java/lang/Math"
def TJ9 : u_T := fun k => match k with
  | _ => ("", "", "", false)
def tyJ9 : Nat → FieldType := fun k => match k with
  | _ => .int
abbrev wsJ90 : List Cond := u_ws RJ9 TJ9 0
theorem nmJ9 : ∀ a, a < 0 → ∀ b, b < 0 → a ≠ b → (TJ9 a).2.1 ≠ (TJ9 b).2.1 := by decide +kernel
theorem tyJ9_ok : ∀ k, k < 0 → parseFieldDescriptor (TJ9 k).2.2.1 = some (tyJ9 k) := by decide +kernel
abbrev cJ9_floorMod_7cf53 : ByteArray := prog_10_method_50_code
def yJ9_floorMod_7cf53 : MethodName := ⟨RJ9, "floorMod", "(II)I"⟩
abbrev cJ9_abs_067f4 : ByteArray := prog_10_method_61_code
def yJ9_abs_067f4 : MethodName := ⟨RJ9, "abs", "(J)J"⟩
abbrev cJ9_max_7cf53 : ByteArray := prog_10_method_65_code
def yJ9_max_7cf53 : MethodName := ⟨RJ9, "max", "(II)I"⟩
abbrev cJ9_min_7cf53 : ByteArray := prog_10_method_69_code
def yJ9_min_7cf53 : MethodName := ⟨RJ9, "min", "(II)I"⟩
def RJ0 : String := "java/lang/String"
def TJ0 : u_T := fun k => match k with
  | _ => ("", "", "", false)
def tyJ0 : Nat → FieldType := fun k => match k with
  | _ => .int
abbrev wsJ00 : List Cond := u_ws RJ0 TJ0 0
theorem nmJ0 : ∀ a, a < 0 → ∀ b, b < 0 → a ≠ b → (TJ0 a).2.1 ≠ (TJ0 b).2.1 := by decide +kernel
theorem tyJ0_ok : ∀ k, k < 0 → parseFieldDescriptor (TJ0 k).2.2.1 = some (tyJ0 k) := by decide +kernel
def RL : String := "BlockProgramsLaw"
abbrev cL_block : ByteArray := method_3_code
def yL_block : MethodName := ⟨RL, "block", "(LBlockPrograms;I[J)I"⟩
abbrev cL_wire : ByteArray := method_4_code
def yL_wire : MethodName := ⟨RL, "wire", "(LBlockPrograms;III[J)I"⟩
abbrev cL_numbers : ByteArray := method_5_code
def yL_numbers : MethodName := ⟨RL, "numbers", "(LBlockPrograms;III)I"⟩
abbrev cL_row : ByteArray := method_6_code
def yL_row : MethodName := ⟨RL, "row", "(LBlockPrograms;III[J)I"⟩
abbrev cL_safe : ByteArray := method_7_code
def yL_safe : MethodName := ⟨RL, "safe", "(LBlockPrograms;II[J)I"⟩
abbrev cL_point : ByteArray := method_8_code
def yL_point : MethodName := ⟨RL, "point", "(LBlockPrograms;II[J)I"⟩
abbrev cL_hand : ByteArray := method_9_code
def yL_hand : MethodName := ⟨RL, "hand", "(LBlockPrograms;IZI[J)I"⟩
abbrev cL_at : ByteArray := method_10_code
def yL_at : MethodName := ⟨RL, "at", "(LBlockPrograms;I[J)I"⟩
abbrev cL_run : ByteArray := method_11_code
def yL_run : MethodName := ⟨RL, "run", "(LBlockPrograms;I[J)I"⟩
abbrev cL_out : ByteArray := method_12_code
def yL_out : MethodName := ⟨RL, "out", "(LBlockPrograms;I[J)I"⟩
abbrev cL_state : ByteArray := method_13_code
def yL_state : MethodName := ⟨RL, "state", "(LBlockPrograms;II[J)I"⟩
abbrev cL_failed : ByteArray := method_14_code
def yL_failed : MethodName := ⟨RL, "failed", "(LBlockPrograms;I[J)I"⟩
abbrev cL_failure : ByteArray := method_15_code
def yL_failure : MethodName := ⟨RL, "failure", "(LBlockPrograms;II[J)I"⟩
abbrev cL_save : ByteArray := method_16_code
def yL_save : MethodName := ⟨RL, "save", "(LBlockPrograms;[J)I"⟩
abbrev cL_back : ByteArray := method_17_code
def yL_back : MethodName := ⟨RL, "back", "(LBlockPrograms;I[J)I"⟩
abbrev cL_become : ByteArray := method_18_code
def yL_become : MethodName := ⟨RL, "become", "(LBlockPrograms;II[J)I"⟩
abbrev cL_law : ByteArray := code
def yL_law : MethodName := ⟨RL, "law", "([I)Z"⟩
def wsX0_init : List Cond := .code yX0_init cX0_init 2 none :: ([.methodLink RX0 3 objectInit, .instanceMethod objectInit, .code objectInit ⟨#[0xb1]⟩ 1 none, .fieldLink RX0 9 "BlockPrograms$Block" "p" "I", .fieldLink RX0 15 "BlockPrograms$Block" "q" "I", .fieldLink RX0 18 "BlockPrograms$Block" "safeValue" "I", .fieldLink RX0 21 "BlockPrograms$Block" "output" "I", .fieldLink RX0 24 "BlockPrograms$Block" "first" "I", .fieldLink RX0 27 "BlockPrograms$Block" "second" "I", .fieldLink RX0 30 "BlockPrograms$Block" "inHand" "Z", .fieldLink RX0 34 "BlockPrograms$Block" "handValue" "I", .arrayClass .int, .fieldLink RX0 37 "BlockPrograms$Block" "wires" "[I", .fieldLink RX0 41 "BlockPrograms$Block" "places" "[I", .fieldLink RX0 44 "BlockPrograms$Block" "kind" "I"] ++ wsX00)
def wsX0_namedInputs : List Cond := .code yX0_namedInputs cX0_namedInputs 1 (some .int) :: ([.fieldLink RX0 44 "BlockPrograms$Block" "kind" "I"] ++ wsX00)
def wsX0_lacksWire : List Cond := .code yX0_lacksWire cX0_lacksWire 2 (some .boolean) :: ([.fieldLink RX0 37 "BlockPrograms$Block" "wires" "[I", .methodLink RX0 50 yX0_namedInputs, .instanceMethod yX0_namedInputs, .selects RX0 yX0_namedInputs yX0_namedInputs, .initialized RX0, .code yX0_namedInputs cX0_namedInputs 1 (some .int), .fieldLink RX0 44 "BlockPrograms$Block" "kind" "I"] ++ wsX00)
def wsX0_say : List Cond := .code yX0_say cX0_say 2 none :: ([.fieldLink RX0 30 "BlockPrograms$Block" "inHand" "Z", .fieldLink RX0 34 "BlockPrograms$Block" "handValue" "I", .fieldLink RX0 21 "BlockPrograms$Block" "output" "I"] ++ wsX00)
def wsX3_isPlaceInRow : List Cond := .code yX3_isPlaceInRow cX3_isPlaceInRow 1 (some .boolean) :: ([])
def wsX0_ramped : List Cond := .code yX0_ramped cX0_ramped 5 (some .int) :: ([.fieldLink RX0 9 "BlockPrograms$Block" "p" "I", .methodLink RX0 84 Lib.Math.max.name, .static Lib.Math.max.name, .initialized "java/lang/Math", .code Lib.Math.max.name Lib.Math.max.code 2 (some .int), .fieldLink RX0 21 "BlockPrograms$Block" "output" "I", .methodLink RX0 87 Lib.MathLoose.abs_long.x, .static Lib.MathLoose.abs_long.x, .code Lib.MathLoose.abs_long.x Lib.MathLoose.abs_long.code 2 (some .long)] ++ wsX00)
def wsX0_counted : List Cond := .code yX0_counted cX0_counted 3 (some .int) :: ([.fieldLink RX0 24 "BlockPrograms$Block" "first" "I", .fieldLink RX0 27 "BlockPrograms$Block" "second" "I"] ++ wsX00)
def wsX0_latched : List Cond := .code yX0_latched cX0_latched 3 (some .int) :: ([.fieldLink RX0 24 "BlockPrograms$Block" "first" "I"] ++ wsX00)
def wsX0_isClockOn : List Cond := .code yX0_isClockOn cX0_isClockOn 2 (some .boolean) :: ([.fieldLink RX0 9 "BlockPrograms$Block" "p" "I", .fieldLink RX0 15 "BlockPrograms$Block" "q" "I"] ++ wsX00)
def wsX3_asNumber : List Cond := .code yX3_asNumber cX3_asNumber 1 (some .int) :: ([])
def wsX0_pulsed : List Cond := .code yX0_pulsed cX0_pulsed 2 (some .int) :: ([.fieldLink RX0 27 "BlockPrograms$Block" "second" "I", .fieldLink RX0 9 "BlockPrograms$Block" "p" "I", .fieldLink RX0 24 "BlockPrograms$Block" "first" "I"] ++ wsX00)
def wsX0_ownReckoning_r1 : List Cond := [Cond.fieldLink RX0 44 "BlockPrograms$Block" "kind" "I", Cond.fieldLink RX0 9 "BlockPrograms$Block" "p" "I", Cond.fieldLink RX0 41 "BlockPrograms$Block" "places" "[I", Cond.fieldLink RX0 24 "BlockPrograms$Block" "first" "I", Cond.fieldLink RX0 15 "BlockPrograms$Block" "q" "I", Cond.fieldLink RX0 21 "BlockPrograms$Block" "output" "I", Cond.methodLink RX0 79 Lib.Math.min.name, Cond.static Lib.Math.min.name, Cond.initialized "java/lang/Math", Cond.code Lib.Math.min.name Lib.Math.min.code 2 (some .int), Cond.static yX3_isPlaceInRow, Cond.initialized RX3, Cond.code yX3_isPlaceInRow cX3_isPlaceInRow 1 (some .boolean), Cond.methodLink RX0 58 yX0_ramped, Cond.instanceMethod yX0_ramped, Cond.selects RX0 yX0_ramped yX0_ramped, Cond.initialized RX0, Cond.code yX0_ramped cX0_ramped 5 (some .int), Cond.methodLink RX0 84 Lib.Math.max.name, Cond.static Lib.Math.max.name, Cond.code Lib.Math.max.name Lib.Math.max.code 2 (some .int), Cond.methodLink RX0 87 Lib.MathLoose.abs_long.x, Cond.static Lib.MathLoose.abs_long.x, Cond.code Lib.MathLoose.abs_long.x Lib.MathLoose.abs_long.code 2 (some .long)]
def wsX0_ownReckoning_r2 : List Cond := [Cond.methodLink RX0 62 yX0_counted, Cond.instanceMethod yX0_counted, Cond.selects RX0 yX0_counted yX0_counted, Cond.code yX0_counted cX0_counted 3 (some .int), Cond.fieldLink RX0 27 "BlockPrograms$Block" "second" "I", Cond.methodLink RX0 66 yX0_latched, Cond.instanceMethod yX0_latched, Cond.selects RX0 yX0_latched yX0_latched, Cond.code yX0_latched cX0_latched 3 (some .int), Cond.methodLink RX0 69 yX0_isClockOn, Cond.instanceMethod yX0_isClockOn, Cond.selects RX0 yX0_isClockOn yX0_isClockOn, Cond.code yX0_isClockOn cX0_isClockOn 2 (some .boolean), Cond.static yX3_asNumber, Cond.code yX3_asNumber cX3_asNumber 1 (some .int), Cond.methodLink RX0 76 yX0_pulsed, Cond.instanceMethod yX0_pulsed, Cond.selects RX0 yX0_pulsed yX0_pulsed, Cond.code yX0_pulsed cX0_pulsed 2 (some .int)]
def wsX0_ownReckoning : List Cond := .code yX0_ownReckoning cX0_ownReckoning 4 (some .int) :: ((wsX0_ownReckoning_r1 ++ wsX0_ownReckoning_r2) ++ wsX00)
def wsX1_init : List Cond := .code yX1_init cX1_init 1 none :: ([.methodLink RX1 3 objectInit, .instanceMethod objectInit, .code objectInit ⟨#[0xb1]⟩ 1 none, .arrayClass .int, .fieldLink RX1 9 "BlockPrograms$Failures" "totals" "[I", .fieldLink RX1 15 "BlockPrograms$Failures" "ticks" "[I", .fieldLink RX1 18 "BlockPrograms$Failures" "numbers" "[I", .fieldLink RX1 21 "BlockPrograms$Failures" "kinds" "[I", .fieldLink RX1 24 "BlockPrograms$Failures" "next" "I"] ++ wsX10)
def wsX1_note : List Cond := .code yX1_note cX1_note 4 none :: ([.fieldLink RX1 15 "BlockPrograms$Failures" "ticks" "[I", .fieldLink RX1 24 "BlockPrograms$Failures" "next" "I", .fieldLink RX1 18 "BlockPrograms$Failures" "numbers" "[I", .fieldLink RX1 21 "BlockPrograms$Failures" "kinds" "[I", .fieldLink RX1 9 "BlockPrograms$Failures" "totals" "[I"] ++ wsX10)
def wsX1_keptCount : List Cond := .code yX1_keptCount cX1_keptCount 1 (some .int) :: ([.fieldLink RX1 9 "BlockPrograms$Failures" "totals" "[I", .methodLink RX1 28 Lib.Math.min.name, .static Lib.Math.min.name, .initialized "java/lang/Math", .code Lib.Math.min.name Lib.Math.min.code 2 (some .int)] ++ wsX10)
def wsJ9_floorMod_7cf53 : List Cond := .code yJ9_floorMod_7cf53 cJ9_floorMod_7cf53 3 (some .int) :: ([])
def wsX1_fact : List Cond := .code yX1_fact cX1_fact 4 (some .int) :: ([.fieldLink RX1 24 "BlockPrograms$Failures" "next" "I", .fieldLink RX1 15 "BlockPrograms$Failures" "ticks" "[I", .fieldLink RX1 18 "BlockPrograms$Failures" "numbers" "[I", .fieldLink RX1 21 "BlockPrograms$Failures" "kinds" "[I", .methodLink RX1 34 yJ9_floorMod_7cf53, .static yJ9_floorMod_7cf53, .initialized RJ9, .code yJ9_floorMod_7cf53 cJ9_floorMod_7cf53 3 (some .int)] ++ wsX10)
def wsX2_init : List Cond := .code yX2_init cX2_init 1 none :: ([.methodLink RX2 3 objectInit, .instanceMethod objectInit, .code objectInit ⟨#[0xb1]⟩ 1 none, .fieldLink RX2 9 "BlockPrograms$Saving" "count" "I", .arrayClass .int, .fieldLink RX2 15 "BlockPrograms$Saving" "kinds" "[I", .fieldLink RX2 19 "BlockPrograms$Saving" "outputs" "[I", .fieldLink RX2 22 "BlockPrograms$Saving" "firsts" "[I", .fieldLink RX2 25 "BlockPrograms$Saving" "seconds" "[I"] ++ wsX20)
def wsX2_keep : List Cond := .code yX2_keep cX2_keep 2 none :: ([.fieldLink RX2 9 "BlockPrograms$Saving" "count" "I", .fieldLink RX2 15 "BlockPrograms$Saving" "kinds" "[I", .fieldLink RX2 28 "BlockPrograms$Block" "kind" "I", .fieldLink RX2 19 "BlockPrograms$Saving" "outputs" "[I", .fieldLink RX2 33 "BlockPrograms$Block" "output" "I", .fieldLink RX2 22 "BlockPrograms$Saving" "firsts" "[I", .fieldLink RX2 36 "BlockPrograms$Block" "first" "I", .fieldLink RX2 25 "BlockPrograms$Saving" "seconds" "[I", .fieldLink RX2 39 "BlockPrograms$Block" "second" "I"] ++ wsX20 ++ wsX00)
def wsX2_restore : List Cond := .code yX2_restore cX2_restore 3 (some .boolean) :: ([.fieldLink RX2 9 "BlockPrograms$Saving" "count" "I", .fieldLink RX2 15 "BlockPrograms$Saving" "kinds" "[I", .fieldLink RX2 28 "BlockPrograms$Block" "kind" "I", .fieldLink RX2 19 "BlockPrograms$Saving" "outputs" "[I", .fieldLink RX2 33 "BlockPrograms$Block" "output" "I", .fieldLink RX2 22 "BlockPrograms$Saving" "firsts" "[I", .fieldLink RX2 36 "BlockPrograms$Block" "first" "I", .fieldLink RX2 25 "BlockPrograms$Saving" "seconds" "[I", .fieldLink RX2 39 "BlockPrograms$Block" "second" "I"] ++ wsX20 ++ wsX00)
def wsX3_init_r1 : List Cond := [Cond.methodLink RX3 1 objectInit, Cond.instanceMethod objectInit, Cond.code objectInit ⟨#[0xb1]⟩ 1 none, Cond.classLink RX3 9 RX0, Cond.fieldLink RX3 11 "BlockPrograms" "blocks" "[LBlockPrograms$Block;", Cond.fieldLink RX3 15 "BlockPrograms" "count" "I", Cond.arrayClass .int, Cond.fieldLink RX3 19 "BlockPrograms" "points" "[I", Cond.fieldLink RX3 23 "BlockPrograms" "time" "I", Cond.fieldLink RX3 26 "BlockPrograms" "line" "[I", Cond.arrayClass .boolean, Cond.fieldLink RX3 29 "BlockPrograms" "placed" "[Z", Cond.classLink RX3 33 RX1, Cond.instantiable RX1 5, Cond.initialized RX1, Cond.fieldLink RX3 36 "BlockPrograms" "failures" "LBlockPrograms$Failures;", Cond.classLink RX3 40 RX2, Cond.fieldLink RX3 42 "BlockPrograms" "savings" "[LBlockPrograms$Saving;", Cond.fieldLink RX3 46 "BlockPrograms" "savingCount" "I", Cond.instanceMethod yX1_init, Cond.code yX1_init cX1_init 1 none, Cond.methodLink RX1 3 objectInit, Cond.fieldLink RX1 9 "BlockPrograms$Failures" "totals" "[I", Cond.fieldLink RX1 15 "BlockPrograms$Failures" "ticks" "[I"]
def wsX3_init_r2 : List Cond := [Cond.fieldLink RX1 18 "BlockPrograms$Failures" "numbers" "[I", Cond.fieldLink RX1 21 "BlockPrograms$Failures" "kinds" "[I", Cond.fieldLink RX1 24 "BlockPrograms$Failures" "next" "I"]
def wsX3_init : List Cond := .code yX3_init cX3_init 1 none :: ((wsX3_init_r1 ++ wsX3_init_r2) ++ wsX30 ++ wsX10)
def wsX3_requireKind : List Cond := .code yX3_requireKind cX3_requireKind 1 none :: ([.classLink RX3 66 "java/lang/IllegalArgumentException", .initialized "java/lang/IllegalArgumentException", .fieldLink RX3 164 "BlockPrograms" "NAMED_INPUTS" "[I"] ++ (vx_atS RX3 70 "java/lang/IllegalArgumentException" ["java/lang/RuntimeException", "java/lang/Exception"]).filter goodWord)
def wsX3_block_r1 : List Cond := [Cond.classLink RX3 53 "java/lang/IllegalStateException", Cond.initialized "java/lang/IllegalStateException", Cond.fieldLink RX3 15 "BlockPrograms" "count" "I", Cond.fieldLink RX3 11 "BlockPrograms" "blocks" "[LBlockPrograms$Block;", Cond.classLink RX3 9 RX0, Cond.instantiable RX0 11, Cond.initialized RX0, Cond.methodLink RX3 49 yX3_requireKind, Cond.static yX3_requireKind, Cond.initialized RX3, Cond.code yX3_requireKind cX3_requireKind 1 none, Cond.classLink RX3 66 "java/lang/IllegalArgumentException", Cond.initialized "java/lang/IllegalArgumentException", Cond.fieldLink RX3 164 "BlockPrograms" "NAMED_INPUTS" "[I", Cond.methodLink RX3 60 yX0_init, Cond.instanceMethod yX0_init, Cond.code yX0_init cX0_init 2 none, Cond.methodLink RX0 3 objectInit, Cond.instanceMethod objectInit, Cond.code objectInit ⟨#[0xb1]⟩ 1 none, Cond.fieldLink RX0 9 "BlockPrograms$Block" "p" "I", Cond.fieldLink RX0 15 "BlockPrograms$Block" "q" "I", Cond.fieldLink RX0 18 "BlockPrograms$Block" "safeValue" "I", Cond.fieldLink RX0 21 "BlockPrograms$Block" "output" "I"]
def wsX3_block_r2 : List Cond := [Cond.fieldLink RX0 24 "BlockPrograms$Block" "first" "I", Cond.fieldLink RX0 27 "BlockPrograms$Block" "second" "I", Cond.fieldLink RX0 30 "BlockPrograms$Block" "inHand" "Z", Cond.fieldLink RX0 34 "BlockPrograms$Block" "handValue" "I", Cond.arrayClass .int, Cond.fieldLink RX0 37 "BlockPrograms$Block" "wires" "[I", Cond.fieldLink RX0 41 "BlockPrograms$Block" "places" "[I", Cond.fieldLink RX0 44 "BlockPrograms$Block" "kind" "I"]
def wsX3_block : List Cond := .code yX3_block cX3_block 2 (some .int) :: ((wsX3_block_r1 ++ wsX3_block_r2) ++ wsX30 ++ wsX00 ++ (vx_atS RX3 57 "java/lang/IllegalStateException" ["java/lang/RuntimeException", "java/lang/Exception"]).filter goodWord ++ (vx_atS RX3 70 "java/lang/IllegalArgumentException" ["java/lang/RuntimeException", "java/lang/Exception"]).filter goodWord)
def wsX3_existing : List Cond := .code yX3_existing cX3_existing 2 (some (.object "BlockPrograms$Block")) :: ([.classLink RX3 66 "java/lang/IllegalArgumentException", .initialized "java/lang/IllegalArgumentException", .fieldLink RX3 15 "BlockPrograms" "count" "I", .fieldLink RX3 11 "BlockPrograms" "blocks" "[LBlockPrograms$Block;"] ++ wsX30 ++ (vx_atS RX3 70 "java/lang/IllegalArgumentException" ["java/lang/RuntimeException", "java/lang/Exception"]).filter goodWord)
def wsX3_wire : List Cond := .code yX3_wire cX3_wire 6 (some .int) :: ([.classLink RX3 66 "java/lang/IllegalArgumentException", .initialized "java/lang/IllegalArgumentException", .fieldLink RX3 71 "BlockPrograms$Block" "wires" "[I", .methodLink RX3 62 yX3_existing, .instanceMethod yX3_existing, .selects RX3 yX3_existing yX3_existing, .initialized RX3, .code yX3_existing cX3_existing 2 (some (.object "BlockPrograms$Block")), .fieldLink RX3 15 "BlockPrograms" "count" "I", .fieldLink RX3 11 "BlockPrograms" "blocks" "[LBlockPrograms$Block;"] ++ wsX00 ++ wsX30 ++ (vx_atS RX3 70 "java/lang/IllegalArgumentException" ["java/lang/RuntimeException", "java/lang/Exception"]).filter goodWord)
def wsX3_numbers : List Cond := .code yX3_numbers cX3_numbers 5 none :: ([.fieldLink RX3 74 "BlockPrograms$Block" "p" "I", .fieldLink RX3 77 "BlockPrograms$Block" "q" "I", .methodLink RX3 62 yX3_existing, .instanceMethod yX3_existing, .selects RX3 yX3_existing yX3_existing, .initialized RX3, .code yX3_existing cX3_existing 2 (some (.object "BlockPrograms$Block")), .classLink RX3 66 "java/lang/IllegalArgumentException", .initialized "java/lang/IllegalArgumentException", .fieldLink RX3 15 "BlockPrograms" "count" "I", .fieldLink RX3 11 "BlockPrograms" "blocks" "[LBlockPrograms$Block;"] ++ wsX00 ++ wsX30 ++ (vx_atS RX3 70 "java/lang/IllegalArgumentException" ["java/lang/RuntimeException", "java/lang/Exception"]).filter goodWord)
def wsX3_row : List Cond := .code yX3_row cX3_row 6 (some .int) :: ([.classLink RX3 66 "java/lang/IllegalArgumentException", .initialized "java/lang/IllegalArgumentException", .classLink RX3 53 "java/lang/IllegalStateException", .initialized "java/lang/IllegalStateException", .fieldLink RX3 86 "BlockPrograms$Block" "kind" "I", .fieldLink RX3 91 "BlockPrograms$Block" "places" "[I", .methodLink RX3 62 yX3_existing, .instanceMethod yX3_existing, .selects RX3 yX3_existing yX3_existing, .initialized RX3, .code yX3_existing cX3_existing 2 (some (.object "BlockPrograms$Block")), .fieldLink RX3 15 "BlockPrograms" "count" "I", .fieldLink RX3 11 "BlockPrograms" "blocks" "[LBlockPrograms$Block;", .methodLink RX3 80 yX3_isPlaceInRow, .static yX3_isPlaceInRow, .code yX3_isPlaceInRow cX3_isPlaceInRow 1 (some .boolean)] ++ wsX00 ++ wsX30 ++ (vx_atS RX3 70 "java/lang/IllegalArgumentException" ["java/lang/RuntimeException", "java/lang/Exception"]).filter goodWord ++ (vx_atS RX3 57 "java/lang/IllegalStateException" ["java/lang/RuntimeException", "java/lang/Exception"]).filter goodWord)
def wsX3_safe : List Cond := .code yX3_safe cX3_safe 5 (some .int) :: ([.fieldLink RX3 94 "BlockPrograms$Block" "safeValue" "I", .methodLink RX3 62 yX3_existing, .instanceMethod yX3_existing, .selects RX3 yX3_existing yX3_existing, .initialized RX3, .code yX3_existing cX3_existing 2 (some (.object "BlockPrograms$Block")), .classLink RX3 66 "java/lang/IllegalArgumentException", .initialized "java/lang/IllegalArgumentException", .fieldLink RX3 15 "BlockPrograms" "count" "I", .fieldLink RX3 11 "BlockPrograms" "blocks" "[LBlockPrograms$Block;"] ++ wsX00 ++ wsX30 ++ (vx_atS RX3 70 "java/lang/IllegalArgumentException" ["java/lang/RuntimeException", "java/lang/Exception"]).filter goodWord)
def wsX3_isPoint : List Cond := .code yX3_isPoint cX3_isPoint 1 (some .boolean) :: ([])
def wsX3_point : List Cond := .code yX3_point cX3_point 4 (some .int) :: ([.classLink RX3 66 "java/lang/IllegalArgumentException", .initialized "java/lang/IllegalArgumentException", .fieldLink RX3 19 "BlockPrograms" "points" "[I", .methodLink RX3 97 yX3_isPoint, .static yX3_isPoint, .initialized RX3, .code yX3_isPoint cX3_isPoint 1 (some .boolean)] ++ wsX30 ++ (vx_atS RX3 70 "java/lang/IllegalArgumentException" ["java/lang/RuntimeException", "java/lang/Exception"]).filter goodWord)
def wsX3_hand : List Cond := .code yX3_hand cX3_hand 6 (some .boolean) :: ([.fieldLink RX3 102 "BlockPrograms$Block" "inHand" "Z", .fieldLink RX3 106 "BlockPrograms$Block" "handValue" "I", .methodLink RX3 62 yX3_existing, .instanceMethod yX3_existing, .selects RX3 yX3_existing yX3_existing, .initialized RX3, .code yX3_existing cX3_existing 2 (some (.object "BlockPrograms$Block")), .classLink RX3 66 "java/lang/IllegalArgumentException", .initialized "java/lang/IllegalArgumentException", .fieldLink RX3 15 "BlockPrograms" "count" "I", .fieldLink RX3 11 "BlockPrograms" "blocks" "[LBlockPrograms$Block;"] ++ wsX00 ++ wsX30 ++ (vx_atS RX3 70 "java/lang/IllegalArgumentException" ["java/lang/RuntimeException", "java/lang/Exception"]).filter goodWord)
def wsX3_mayCome : List Cond := .code yX3_mayCome cX3_mayCome 4 (some .boolean) :: ([.fieldLink RX3 86 "BlockPrograms$Block" "kind" "I", .fieldLink RX3 71 "BlockPrograms$Block" "wires" "[I", .fieldLink RX3 15 "BlockPrograms" "count" "I", .fieldLink RX3 29 "BlockPrograms" "placed" "[Z", .methodLink RX3 178 yX0_namedInputs, .instanceMethod yX0_namedInputs, .selects RX0 yX0_namedInputs yX0_namedInputs, .initialized RX0, .code yX0_namedInputs cX0_namedInputs 1 (some .int), .fieldLink RX0 44 "BlockPrograms$Block" "kind" "I"] ++ wsX00 ++ wsX30)
def wsX3_leastThatMayCome : List Cond := .code yX3_leastThatMayCome cX3_leastThatMayCome 2 (some .int) :: ([.fieldLink RX3 15 "BlockPrograms" "count" "I", .fieldLink RX3 29 "BlockPrograms" "placed" "[Z", .fieldLink RX3 11 "BlockPrograms" "blocks" "[LBlockPrograms$Block;", .methodLink RX3 174 yX3_mayCome, .instanceMethod yX3_mayCome, .selects RX3 yX3_mayCome yX3_mayCome, .initialized RX3, .code yX3_mayCome cX3_mayCome 4 (some .boolean), .fieldLink RX3 86 "BlockPrograms$Block" "kind" "I", .fieldLink RX3 71 "BlockPrograms$Block" "wires" "[I", .methodLink RX3 178 yX0_namedInputs, .instanceMethod yX0_namedInputs, .selects RX0 yX0_namedInputs yX0_namedInputs, .initialized RX0, .code yX0_namedInputs cX0_namedInputs 1 (some .int), .fieldLink RX0 44 "BlockPrograms$Block" "kind" "I"] ++ wsX30 ++ wsX00)
def wsX3_lineUp : List Cond := .code yX3_lineUp cX3_lineUp 4 (some .int) :: ([.fieldLink RX3 15 "BlockPrograms" "count" "I", .fieldLink RX3 29 "BlockPrograms" "placed" "[Z", .fieldLink RX3 26 "BlockPrograms" "line" "[I", .methodLink RX3 171 yX3_leastThatMayCome, .instanceMethod yX3_leastThatMayCome, .selects RX3 yX3_leastThatMayCome yX3_leastThatMayCome, .initialized RX3, .code yX3_leastThatMayCome cX3_leastThatMayCome 2 (some .int), .fieldLink RX3 11 "BlockPrograms" "blocks" "[LBlockPrograms$Block;", .methodLink RX3 174 yX3_mayCome, .instanceMethod yX3_mayCome, .selects RX3 yX3_mayCome yX3_mayCome, .code yX3_mayCome cX3_mayCome 4 (some .boolean), .fieldLink RX3 86 "BlockPrograms$Block" "kind" "I", .fieldLink RX3 71 "BlockPrograms$Block" "wires" "[I", .methodLink RX3 178 yX0_namedInputs, .instanceMethod yX0_namedInputs, .selects RX0 yX0_namedInputs yX0_namedInputs, .initialized RX0, .code yX0_namedInputs cX0_namedInputs 1 (some .int), .fieldLink RX0 44 "BlockPrograms$Block" "kind" "I"] ++ wsX30 ++ wsX00)
def wsX3_order_r1 : List Cond := [Cond.methodLink RX3 109 yX3_lineUp, Cond.instanceMethod yX3_lineUp, Cond.selects RX3 yX3_lineUp yX3_lineUp, Cond.initialized RX3, Cond.code yX3_lineUp cX3_lineUp 4 (some .int), Cond.fieldLink RX3 15 "BlockPrograms" "count" "I", Cond.fieldLink RX3 29 "BlockPrograms" "placed" "[Z", Cond.fieldLink RX3 26 "BlockPrograms" "line" "[I", Cond.methodLink RX3 171 yX3_leastThatMayCome, Cond.instanceMethod yX3_leastThatMayCome, Cond.selects RX3 yX3_leastThatMayCome yX3_leastThatMayCome, Cond.code yX3_leastThatMayCome cX3_leastThatMayCome 2 (some .int), Cond.fieldLink RX3 11 "BlockPrograms" "blocks" "[LBlockPrograms$Block;", Cond.methodLink RX3 174 yX3_mayCome, Cond.instanceMethod yX3_mayCome, Cond.selects RX3 yX3_mayCome yX3_mayCome, Cond.code yX3_mayCome cX3_mayCome 4 (some .boolean), Cond.fieldLink RX3 86 "BlockPrograms$Block" "kind" "I", Cond.fieldLink RX3 71 "BlockPrograms$Block" "wires" "[I", Cond.methodLink RX3 178 yX0_namedInputs, Cond.instanceMethod yX0_namedInputs, Cond.selects RX0 yX0_namedInputs yX0_namedInputs, Cond.initialized RX0, Cond.code yX0_namedInputs cX0_namedInputs 1 (some .int)]
def wsX3_order_r2 : List Cond := [Cond.fieldLink RX0 44 "BlockPrograms$Block" "kind" "I"]
def wsX3_order : List Cond := .code yX3_order cX3_order 1 (some .int) :: ((wsX3_order_r1 ++ wsX3_order_r2) ++ wsX30 ++ wsX00)
def wsX3_at_r1 : List Cond := [Cond.classLink RX3 66 "java/lang/IllegalArgumentException", Cond.initialized "java/lang/IllegalArgumentException", Cond.fieldLink RX3 15 "BlockPrograms" "count" "I", Cond.fieldLink RX3 26 "BlockPrograms" "line" "[I", Cond.methodLink RX3 109 yX3_lineUp, Cond.instanceMethod yX3_lineUp, Cond.selects RX3 yX3_lineUp yX3_lineUp, Cond.initialized RX3, Cond.code yX3_lineUp cX3_lineUp 4 (some .int), Cond.fieldLink RX3 29 "BlockPrograms" "placed" "[Z", Cond.methodLink RX3 171 yX3_leastThatMayCome, Cond.instanceMethod yX3_leastThatMayCome, Cond.selects RX3 yX3_leastThatMayCome yX3_leastThatMayCome, Cond.code yX3_leastThatMayCome cX3_leastThatMayCome 2 (some .int), Cond.fieldLink RX3 11 "BlockPrograms" "blocks" "[LBlockPrograms$Block;", Cond.methodLink RX3 174 yX3_mayCome, Cond.instanceMethod yX3_mayCome, Cond.selects RX3 yX3_mayCome yX3_mayCome, Cond.code yX3_mayCome cX3_mayCome 4 (some .boolean), Cond.fieldLink RX3 86 "BlockPrograms$Block" "kind" "I", Cond.fieldLink RX3 71 "BlockPrograms$Block" "wires" "[I", Cond.methodLink RX3 178 yX0_namedInputs, Cond.instanceMethod yX0_namedInputs, Cond.selects RX0 yX0_namedInputs yX0_namedInputs]
def wsX3_at_r2 : List Cond := [Cond.initialized RX0, Cond.code yX0_namedInputs cX0_namedInputs 1 (some .int), Cond.fieldLink RX0 44 "BlockPrograms$Block" "kind" "I"]
def wsX3_at : List Cond := .code yX3_at cX3_at 2 (some .int) :: ((wsX3_at_r1 ++ wsX3_at_r2) ++ wsX30 ++ wsX00 ++ (vx_atS RX3 70 "java/lang/IllegalArgumentException" ["java/lang/RuntimeException", "java/lang/Exception"]).filter goodWord)
def wsX3_outputOf : List Cond := .code yX3_outputOf cX3_outputOf 2 (some .int) :: ([.fieldLink RX3 15 "BlockPrograms" "count" "I", .fieldLink RX3 11 "BlockPrograms" "blocks" "[LBlockPrograms$Block;", .fieldLink RX3 124 "BlockPrograms$Block" "output" "I"] ++ wsX30 ++ wsX00)
def wsX3_failureOf : List Cond := .code yX3_failureOf cX3_failureOf 3 (some .int) :: ([.fieldLink RX3 86 "BlockPrograms$Block" "kind" "I", .fieldLink RX3 74 "BlockPrograms$Block" "p" "I", .methodLink RX3 214 yX0_lacksWire, .instanceMethod yX0_lacksWire, .selects RX0 yX0_lacksWire yX0_lacksWire, .initialized RX0, .code yX0_lacksWire cX0_lacksWire 2 (some .boolean), .fieldLink RX0 37 "BlockPrograms$Block" "wires" "[I", .methodLink RX0 50 yX0_namedInputs, .instanceMethod yX0_namedInputs, .selects RX0 yX0_namedInputs yX0_namedInputs, .code yX0_namedInputs cX0_namedInputs 1 (some .int), .fieldLink RX0 44 "BlockPrograms$Block" "kind" "I", .methodLink RX3 97 yX3_isPoint, .static yX3_isPoint, .initialized RX3, .code yX3_isPoint cX3_isPoint 1 (some .boolean), .methodLink RX3 80 yX3_isPlaceInRow, .static yX3_isPlaceInRow, .code yX3_isPlaceInRow cX3_isPlaceInRow 1 (some .boolean)] ++ wsX00)
def wsX3_fail : List Cond := .code yX3_fail cX3_fail 3 none :: ([.fieldLink RX3 36 "BlockPrograms" "failures" "LBlockPrograms$Failures;", .fieldLink RX3 23 "BlockPrograms" "time" "I", .fieldLink RX3 11 "BlockPrograms" "blocks" "[LBlockPrograms$Block;", .fieldLink RX3 94 "BlockPrograms$Block" "safeValue" "I", .methodLink RX3 210 yX1_note, .instanceMethod yX1_note, .selects RX1 yX1_note yX1_note, .initialized RX1, .code yX1_note cX1_note 4 none, .fieldLink RX1 15 "BlockPrograms$Failures" "ticks" "[I", .fieldLink RX1 24 "BlockPrograms$Failures" "next" "I", .fieldLink RX1 18 "BlockPrograms$Failures" "numbers" "[I", .fieldLink RX1 21 "BlockPrograms$Failures" "kinds" "[I", .fieldLink RX1 9 "BlockPrograms$Failures" "totals" "[I", .methodLink RX3 199 yX0_say, .instanceMethod yX0_say, .selects RX0 yX0_say yX0_say, .initialized RX0, .code yX0_say cX0_say 2 none, .fieldLink RX0 30 "BlockPrograms$Block" "inHand" "Z", .fieldLink RX0 34 "BlockPrograms$Block" "handValue" "I", .fieldLink RX0 21 "BlockPrograms$Block" "output" "I"] ++ wsX30 ++ wsX00 ++ wsX10)
def wsX3_quotient : List Cond := .code yX3_quotient cX3_quotient 2 (some .int) :: ([])
def wsX3_combined : List Cond := .code yX3_combined cX3_combined 4 (some .int) :: ([.methodLink RX3 221 Lib.Math.min.name, .static Lib.Math.min.name, .initialized "java/lang/Math", .code Lib.Math.min.name Lib.Math.min.code 2 (some .int), .methodLink RX3 226 Lib.Math.max.name, .static Lib.Math.max.name, .code Lib.Math.max.name Lib.Math.max.code 2 (some .int), .methodLink RX3 218 yX3_quotient, .static yX3_quotient, .initialized RX3, .code yX3_quotient cX3_quotient 2 (some .int), .methodLink RX3 229 yX3_asNumber, .static yX3_asNumber, .code yX3_asNumber cX3_asNumber 1 (some .int)])
def wsX3_reckon_r1 : List Cond := [Cond.fieldLink RX3 11 "BlockPrograms" "blocks" "[LBlockPrograms$Block;", Cond.fieldLink RX3 71 "BlockPrograms$Block" "wires" "[I", Cond.fieldLink RX3 86 "BlockPrograms$Block" "kind" "I", Cond.fieldLink RX3 74 "BlockPrograms$Block" "p" "I", Cond.fieldLink RX3 19 "BlockPrograms" "points" "[I", Cond.fieldLink RX3 23 "BlockPrograms" "time" "I", Cond.methodLink RX3 187 yX3_outputOf, Cond.instanceMethod yX3_outputOf, Cond.selects RX3 yX3_outputOf yX3_outputOf, Cond.initialized RX3, Cond.code yX3_outputOf cX3_outputOf 2 (some .int), Cond.fieldLink RX3 15 "BlockPrograms" "count" "I", Cond.fieldLink RX3 124 "BlockPrograms$Block" "output" "I", Cond.methodLink RX3 191 yX3_failureOf, Cond.static yX3_failureOf, Cond.code yX3_failureOf cX3_failureOf 3 (some .int), Cond.methodLink RX3 214 yX0_lacksWire, Cond.instanceMethod yX0_lacksWire, Cond.selects RX0 yX0_lacksWire yX0_lacksWire, Cond.initialized RX0, Cond.code yX0_lacksWire cX0_lacksWire 2 (some .boolean), Cond.fieldLink RX0 37 "BlockPrograms$Block" "wires" "[I", Cond.methodLink RX0 50 yX0_namedInputs, Cond.instanceMethod yX0_namedInputs]
def wsX3_reckon_r2 : List Cond := [Cond.selects RX0 yX0_namedInputs yX0_namedInputs, Cond.code yX0_namedInputs cX0_namedInputs 1 (some .int), Cond.fieldLink RX0 44 "BlockPrograms$Block" "kind" "I", Cond.methodLink RX3 97 yX3_isPoint, Cond.static yX3_isPoint, Cond.code yX3_isPoint cX3_isPoint 1 (some .boolean), Cond.methodLink RX3 80 yX3_isPlaceInRow, Cond.static yX3_isPlaceInRow, Cond.code yX3_isPlaceInRow cX3_isPlaceInRow 1 (some .boolean), Cond.methodLink RX3 195 yX3_fail, Cond.instanceMethod yX3_fail, Cond.selects RX3 yX3_fail yX3_fail, Cond.code yX3_fail cX3_fail 3 none, Cond.fieldLink RX3 36 "BlockPrograms" "failures" "LBlockPrograms$Failures;", Cond.fieldLink RX3 94 "BlockPrograms$Block" "safeValue" "I", Cond.methodLink RX3 210 yX1_note, Cond.instanceMethod yX1_note, Cond.selects RX1 yX1_note yX1_note, Cond.initialized RX1, Cond.code yX1_note cX1_note 4 none, Cond.fieldLink RX1 15 "BlockPrograms$Failures" "ticks" "[I", Cond.fieldLink RX1 24 "BlockPrograms$Failures" "next" "I", Cond.fieldLink RX1 18 "BlockPrograms$Failures" "numbers" "[I", Cond.fieldLink RX1 21 "BlockPrograms$Failures" "kinds" "[I"]
def wsX3_reckon_r3 : List Cond := [Cond.fieldLink RX1 9 "BlockPrograms$Failures" "totals" "[I", Cond.methodLink RX3 199 yX0_say, Cond.instanceMethod yX0_say, Cond.selects RX0 yX0_say yX0_say, Cond.code yX0_say cX0_say 2 none, Cond.fieldLink RX0 30 "BlockPrograms$Block" "inHand" "Z", Cond.fieldLink RX0 34 "BlockPrograms$Block" "handValue" "I", Cond.fieldLink RX0 21 "BlockPrograms$Block" "output" "I", Cond.methodLink RX3 202 yX3_combined, Cond.static yX3_combined, Cond.code yX3_combined cX3_combined 4 (some .int), Cond.methodLink RX3 221 Lib.Math.min.name, Cond.static Lib.Math.min.name, Cond.initialized "java/lang/Math", Cond.code Lib.Math.min.name Lib.Math.min.code 2 (some .int), Cond.methodLink RX3 226 Lib.Math.max.name, Cond.static Lib.Math.max.name, Cond.code Lib.Math.max.name Lib.Math.max.code 2 (some .int), Cond.methodLink RX3 218 yX3_quotient, Cond.static yX3_quotient, Cond.code yX3_quotient cX3_quotient 2 (some .int), Cond.methodLink RX3 229 yX3_asNumber, Cond.static yX3_asNumber, Cond.code yX3_asNumber cX3_asNumber 1 (some .int)]
def wsX3_reckon_r4 : List Cond := [Cond.methodLink RX3 206 yX0_ownReckoning, Cond.instanceMethod yX0_ownReckoning, Cond.selects RX0 yX0_ownReckoning yX0_ownReckoning, Cond.code yX0_ownReckoning cX0_ownReckoning 4 (some .int), Cond.fieldLink RX0 9 "BlockPrograms$Block" "p" "I", Cond.fieldLink RX0 41 "BlockPrograms$Block" "places" "[I", Cond.fieldLink RX0 24 "BlockPrograms$Block" "first" "I", Cond.fieldLink RX0 15 "BlockPrograms$Block" "q" "I", Cond.methodLink RX0 79 Lib.Math.min.name, Cond.methodLink RX0 58 yX0_ramped, Cond.instanceMethod yX0_ramped, Cond.selects RX0 yX0_ramped yX0_ramped, Cond.code yX0_ramped cX0_ramped 5 (some .int), Cond.methodLink RX0 84 Lib.Math.max.name, Cond.methodLink RX0 87 Lib.MathLoose.abs_long.x, Cond.static Lib.MathLoose.abs_long.x, Cond.code Lib.MathLoose.abs_long.x Lib.MathLoose.abs_long.code 2 (some .long), Cond.methodLink RX0 62 yX0_counted, Cond.instanceMethod yX0_counted, Cond.selects RX0 yX0_counted yX0_counted, Cond.code yX0_counted cX0_counted 3 (some .int), Cond.fieldLink RX0 27 "BlockPrograms$Block" "second" "I", Cond.methodLink RX0 66 yX0_latched, Cond.instanceMethod yX0_latched]
def wsX3_reckon_r5 : List Cond := [Cond.selects RX0 yX0_latched yX0_latched, Cond.code yX0_latched cX0_latched 3 (some .int), Cond.methodLink RX0 69 yX0_isClockOn, Cond.instanceMethod yX0_isClockOn, Cond.selects RX0 yX0_isClockOn yX0_isClockOn, Cond.code yX0_isClockOn cX0_isClockOn 2 (some .boolean), Cond.methodLink RX0 76 yX0_pulsed, Cond.instanceMethod yX0_pulsed, Cond.selects RX0 yX0_pulsed yX0_pulsed, Cond.code yX0_pulsed cX0_pulsed 2 (some .int)]
def wsX3_reckon : List Cond := .code yX3_reckon cX3_reckon 7 none :: ((wsX3_reckon_r1 ++ (wsX3_reckon_r2 ++ (wsX3_reckon_r3 ++ (wsX3_reckon_r4 ++ wsX3_reckon_r5)))) ++ wsX30 ++ wsX00 ++ wsX10)
def wsX3_takeUp_r1 : List Cond := [Cond.fieldLink RX3 11 "BlockPrograms" "blocks" "[LBlockPrograms$Block;", Cond.fieldLink RX3 71 "BlockPrograms$Block" "wires" "[I", Cond.fieldLink RX3 129 "BlockPrograms$Block" "first" "I", Cond.methodLink RX3 195 yX3_fail, Cond.instanceMethod yX3_fail, Cond.selects RX3 yX3_fail yX3_fail, Cond.initialized RX3, Cond.code yX3_fail cX3_fail 3 none, Cond.fieldLink RX3 36 "BlockPrograms" "failures" "LBlockPrograms$Failures;", Cond.fieldLink RX3 23 "BlockPrograms" "time" "I", Cond.fieldLink RX3 94 "BlockPrograms$Block" "safeValue" "I", Cond.methodLink RX3 210 yX1_note, Cond.instanceMethod yX1_note, Cond.selects RX1 yX1_note yX1_note, Cond.initialized RX1, Cond.code yX1_note cX1_note 4 none, Cond.fieldLink RX1 15 "BlockPrograms$Failures" "ticks" "[I", Cond.fieldLink RX1 24 "BlockPrograms$Failures" "next" "I", Cond.fieldLink RX1 18 "BlockPrograms$Failures" "numbers" "[I", Cond.fieldLink RX1 21 "BlockPrograms$Failures" "kinds" "[I", Cond.fieldLink RX1 9 "BlockPrograms$Failures" "totals" "[I", Cond.methodLink RX3 199 yX0_say, Cond.instanceMethod yX0_say, Cond.selects RX0 yX0_say yX0_say]
def wsX3_takeUp_r2 : List Cond := [Cond.initialized RX0, Cond.code yX0_say cX0_say 2 none, Cond.fieldLink RX0 30 "BlockPrograms$Block" "inHand" "Z", Cond.fieldLink RX0 34 "BlockPrograms$Block" "handValue" "I", Cond.fieldLink RX0 21 "BlockPrograms$Block" "output" "I", Cond.methodLink RX3 187 yX3_outputOf, Cond.instanceMethod yX3_outputOf, Cond.selects RX3 yX3_outputOf yX3_outputOf, Cond.code yX3_outputOf cX3_outputOf 2 (some .int), Cond.fieldLink RX3 15 "BlockPrograms" "count" "I", Cond.fieldLink RX3 124 "BlockPrograms$Block" "output" "I"]
def wsX3_takeUp : List Cond := .code yX3_takeUp cX3_takeUp 3 none :: ((wsX3_takeUp_r1 ++ wsX3_takeUp_r2) ++ wsX30 ++ wsX00 ++ wsX10)
def wsX3_tick_r1 : List Cond := [Cond.fieldLink RX3 23 "BlockPrograms" "time" "I", Cond.fieldLink RX3 15 "BlockPrograms" "count" "I", Cond.fieldLink RX3 26 "BlockPrograms" "line" "[I", Cond.fieldLink RX3 11 "BlockPrograms" "blocks" "[LBlockPrograms$Block;", Cond.fieldLink RX3 86 "BlockPrograms$Block" "kind" "I", Cond.methodLink RX3 181 yX3_reckon, Cond.instanceMethod yX3_reckon, Cond.selects RX3 yX3_reckon yX3_reckon, Cond.initialized RX3, Cond.code yX3_reckon cX3_reckon 7 none, Cond.fieldLink RX3 71 "BlockPrograms$Block" "wires" "[I", Cond.fieldLink RX3 74 "BlockPrograms$Block" "p" "I", Cond.fieldLink RX3 19 "BlockPrograms" "points" "[I", Cond.methodLink RX3 187 yX3_outputOf, Cond.instanceMethod yX3_outputOf, Cond.selects RX3 yX3_outputOf yX3_outputOf, Cond.code yX3_outputOf cX3_outputOf 2 (some .int), Cond.fieldLink RX3 124 "BlockPrograms$Block" "output" "I", Cond.methodLink RX3 191 yX3_failureOf, Cond.static yX3_failureOf, Cond.code yX3_failureOf cX3_failureOf 3 (some .int), Cond.methodLink RX3 214 yX0_lacksWire, Cond.instanceMethod yX0_lacksWire, Cond.selects RX0 yX0_lacksWire yX0_lacksWire]
def wsX3_tick_r2 : List Cond := [Cond.initialized RX0, Cond.code yX0_lacksWire cX0_lacksWire 2 (some .boolean), Cond.fieldLink RX0 37 "BlockPrograms$Block" "wires" "[I", Cond.methodLink RX0 50 yX0_namedInputs, Cond.instanceMethod yX0_namedInputs, Cond.selects RX0 yX0_namedInputs yX0_namedInputs, Cond.code yX0_namedInputs cX0_namedInputs 1 (some .int), Cond.fieldLink RX0 44 "BlockPrograms$Block" "kind" "I", Cond.methodLink RX3 97 yX3_isPoint, Cond.static yX3_isPoint, Cond.code yX3_isPoint cX3_isPoint 1 (some .boolean), Cond.methodLink RX3 80 yX3_isPlaceInRow, Cond.static yX3_isPlaceInRow, Cond.code yX3_isPlaceInRow cX3_isPlaceInRow 1 (some .boolean), Cond.methodLink RX3 195 yX3_fail, Cond.instanceMethod yX3_fail, Cond.selects RX3 yX3_fail yX3_fail, Cond.code yX3_fail cX3_fail 3 none, Cond.fieldLink RX3 36 "BlockPrograms" "failures" "LBlockPrograms$Failures;", Cond.fieldLink RX3 94 "BlockPrograms$Block" "safeValue" "I", Cond.methodLink RX3 210 yX1_note, Cond.instanceMethod yX1_note, Cond.selects RX1 yX1_note yX1_note, Cond.initialized RX1]
def wsX3_tick_r3 : List Cond := [Cond.code yX1_note cX1_note 4 none, Cond.fieldLink RX1 15 "BlockPrograms$Failures" "ticks" "[I", Cond.fieldLink RX1 24 "BlockPrograms$Failures" "next" "I", Cond.fieldLink RX1 18 "BlockPrograms$Failures" "numbers" "[I", Cond.fieldLink RX1 21 "BlockPrograms$Failures" "kinds" "[I", Cond.fieldLink RX1 9 "BlockPrograms$Failures" "totals" "[I", Cond.methodLink RX3 199 yX0_say, Cond.instanceMethod yX0_say, Cond.selects RX0 yX0_say yX0_say, Cond.code yX0_say cX0_say 2 none, Cond.fieldLink RX0 30 "BlockPrograms$Block" "inHand" "Z", Cond.fieldLink RX0 34 "BlockPrograms$Block" "handValue" "I", Cond.fieldLink RX0 21 "BlockPrograms$Block" "output" "I", Cond.methodLink RX3 202 yX3_combined, Cond.static yX3_combined, Cond.code yX3_combined cX3_combined 4 (some .int), Cond.methodLink RX3 221 Lib.Math.min.name, Cond.static Lib.Math.min.name, Cond.initialized "java/lang/Math", Cond.code Lib.Math.min.name Lib.Math.min.code 2 (some .int), Cond.methodLink RX3 226 Lib.Math.max.name, Cond.static Lib.Math.max.name, Cond.code Lib.Math.max.name Lib.Math.max.code 2 (some .int), Cond.methodLink RX3 218 yX3_quotient]
def wsX3_tick_r4 : List Cond := [Cond.static yX3_quotient, Cond.code yX3_quotient cX3_quotient 2 (some .int), Cond.methodLink RX3 229 yX3_asNumber, Cond.static yX3_asNumber, Cond.code yX3_asNumber cX3_asNumber 1 (some .int), Cond.methodLink RX3 206 yX0_ownReckoning, Cond.instanceMethod yX0_ownReckoning, Cond.selects RX0 yX0_ownReckoning yX0_ownReckoning, Cond.code yX0_ownReckoning cX0_ownReckoning 4 (some .int), Cond.fieldLink RX0 9 "BlockPrograms$Block" "p" "I", Cond.fieldLink RX0 41 "BlockPrograms$Block" "places" "[I", Cond.fieldLink RX0 24 "BlockPrograms$Block" "first" "I", Cond.fieldLink RX0 15 "BlockPrograms$Block" "q" "I", Cond.methodLink RX0 79 Lib.Math.min.name, Cond.methodLink RX0 58 yX0_ramped, Cond.instanceMethod yX0_ramped, Cond.selects RX0 yX0_ramped yX0_ramped, Cond.code yX0_ramped cX0_ramped 5 (some .int), Cond.methodLink RX0 84 Lib.Math.max.name, Cond.methodLink RX0 87 Lib.MathLoose.abs_long.x, Cond.static Lib.MathLoose.abs_long.x, Cond.code Lib.MathLoose.abs_long.x Lib.MathLoose.abs_long.code 2 (some .long), Cond.methodLink RX0 62 yX0_counted, Cond.instanceMethod yX0_counted]
def wsX3_tick_r5 : List Cond := [Cond.selects RX0 yX0_counted yX0_counted, Cond.code yX0_counted cX0_counted 3 (some .int), Cond.fieldLink RX0 27 "BlockPrograms$Block" "second" "I", Cond.methodLink RX0 66 yX0_latched, Cond.instanceMethod yX0_latched, Cond.selects RX0 yX0_latched yX0_latched, Cond.code yX0_latched cX0_latched 3 (some .int), Cond.methodLink RX0 69 yX0_isClockOn, Cond.instanceMethod yX0_isClockOn, Cond.selects RX0 yX0_isClockOn yX0_isClockOn, Cond.code yX0_isClockOn cX0_isClockOn 2 (some .boolean), Cond.methodLink RX0 76 yX0_pulsed, Cond.instanceMethod yX0_pulsed, Cond.selects RX0 yX0_pulsed yX0_pulsed, Cond.code yX0_pulsed cX0_pulsed 2 (some .int), Cond.methodLink RX3 184 yX3_takeUp, Cond.instanceMethod yX3_takeUp, Cond.selects RX3 yX3_takeUp yX3_takeUp, Cond.code yX3_takeUp cX3_takeUp 3 none, Cond.fieldLink RX3 129 "BlockPrograms$Block" "first" "I"]
def wsX3_tick : List Cond := .code yX3_tick cX3_tick 2 none :: ((wsX3_tick_r1 ++ (wsX3_tick_r2 ++ (wsX3_tick_r3 ++ (wsX3_tick_r4 ++ wsX3_tick_r5)))) ++ wsX30 ++ wsX00 ++ wsX10)
def wsX3_run_r1 : List Cond := [Cond.classLink RX3 66 "java/lang/IllegalArgumentException", Cond.initialized "java/lang/IllegalArgumentException", Cond.classLink RX3 53 "java/lang/IllegalStateException", Cond.initialized "java/lang/IllegalStateException", Cond.fieldLink RX3 15 "BlockPrograms" "count" "I", Cond.fieldLink RX3 23 "BlockPrograms" "time" "I", Cond.methodLink RX3 109 yX3_lineUp, Cond.instanceMethod yX3_lineUp, Cond.selects RX3 yX3_lineUp yX3_lineUp, Cond.initialized RX3, Cond.code yX3_lineUp cX3_lineUp 4 (some .int), Cond.fieldLink RX3 29 "BlockPrograms" "placed" "[Z", Cond.fieldLink RX3 26 "BlockPrograms" "line" "[I", Cond.methodLink RX3 171 yX3_leastThatMayCome, Cond.instanceMethod yX3_leastThatMayCome, Cond.selects RX3 yX3_leastThatMayCome yX3_leastThatMayCome, Cond.code yX3_leastThatMayCome cX3_leastThatMayCome 2 (some .int), Cond.fieldLink RX3 11 "BlockPrograms" "blocks" "[LBlockPrograms$Block;", Cond.methodLink RX3 174 yX3_mayCome, Cond.instanceMethod yX3_mayCome, Cond.selects RX3 yX3_mayCome yX3_mayCome, Cond.code yX3_mayCome cX3_mayCome 4 (some .boolean), Cond.fieldLink RX3 86 "BlockPrograms$Block" "kind" "I", Cond.fieldLink RX3 71 "BlockPrograms$Block" "wires" "[I"]
def wsX3_run_r2 : List Cond := [Cond.methodLink RX3 178 yX0_namedInputs, Cond.instanceMethod yX0_namedInputs, Cond.selects RX0 yX0_namedInputs yX0_namedInputs, Cond.initialized RX0, Cond.code yX0_namedInputs cX0_namedInputs 1 (some .int), Cond.fieldLink RX0 44 "BlockPrograms$Block" "kind" "I", Cond.methodLink RX3 121 yX3_tick, Cond.instanceMethod yX3_tick, Cond.selects RX3 yX3_tick yX3_tick, Cond.code yX3_tick cX3_tick 2 none, Cond.methodLink RX3 181 yX3_reckon, Cond.instanceMethod yX3_reckon, Cond.selects RX3 yX3_reckon yX3_reckon, Cond.code yX3_reckon cX3_reckon 7 none, Cond.fieldLink RX3 74 "BlockPrograms$Block" "p" "I", Cond.fieldLink RX3 19 "BlockPrograms" "points" "[I", Cond.methodLink RX3 187 yX3_outputOf, Cond.instanceMethod yX3_outputOf, Cond.selects RX3 yX3_outputOf yX3_outputOf, Cond.code yX3_outputOf cX3_outputOf 2 (some .int), Cond.fieldLink RX3 124 "BlockPrograms$Block" "output" "I", Cond.methodLink RX3 191 yX3_failureOf, Cond.static yX3_failureOf, Cond.code yX3_failureOf cX3_failureOf 3 (some .int)]
def wsX3_run_r3 : List Cond := [Cond.methodLink RX3 214 yX0_lacksWire, Cond.instanceMethod yX0_lacksWire, Cond.selects RX0 yX0_lacksWire yX0_lacksWire, Cond.code yX0_lacksWire cX0_lacksWire 2 (some .boolean), Cond.fieldLink RX0 37 "BlockPrograms$Block" "wires" "[I", Cond.methodLink RX0 50 yX0_namedInputs, Cond.methodLink RX3 97 yX3_isPoint, Cond.static yX3_isPoint, Cond.code yX3_isPoint cX3_isPoint 1 (some .boolean), Cond.methodLink RX3 80 yX3_isPlaceInRow, Cond.static yX3_isPlaceInRow, Cond.code yX3_isPlaceInRow cX3_isPlaceInRow 1 (some .boolean), Cond.methodLink RX3 195 yX3_fail, Cond.instanceMethod yX3_fail, Cond.selects RX3 yX3_fail yX3_fail, Cond.code yX3_fail cX3_fail 3 none, Cond.fieldLink RX3 36 "BlockPrograms" "failures" "LBlockPrograms$Failures;", Cond.fieldLink RX3 94 "BlockPrograms$Block" "safeValue" "I", Cond.methodLink RX3 210 yX1_note, Cond.instanceMethod yX1_note, Cond.selects RX1 yX1_note yX1_note, Cond.initialized RX1, Cond.code yX1_note cX1_note 4 none, Cond.fieldLink RX1 15 "BlockPrograms$Failures" "ticks" "[I"]
def wsX3_run_r4 : List Cond := [Cond.fieldLink RX1 24 "BlockPrograms$Failures" "next" "I", Cond.fieldLink RX1 18 "BlockPrograms$Failures" "numbers" "[I", Cond.fieldLink RX1 21 "BlockPrograms$Failures" "kinds" "[I", Cond.fieldLink RX1 9 "BlockPrograms$Failures" "totals" "[I", Cond.methodLink RX3 199 yX0_say, Cond.instanceMethod yX0_say, Cond.selects RX0 yX0_say yX0_say, Cond.code yX0_say cX0_say 2 none, Cond.fieldLink RX0 30 "BlockPrograms$Block" "inHand" "Z", Cond.fieldLink RX0 34 "BlockPrograms$Block" "handValue" "I", Cond.fieldLink RX0 21 "BlockPrograms$Block" "output" "I", Cond.methodLink RX3 202 yX3_combined, Cond.static yX3_combined, Cond.code yX3_combined cX3_combined 4 (some .int), Cond.methodLink RX3 221 Lib.Math.min.name, Cond.static Lib.Math.min.name, Cond.initialized "java/lang/Math", Cond.code Lib.Math.min.name Lib.Math.min.code 2 (some .int), Cond.methodLink RX3 226 Lib.Math.max.name, Cond.static Lib.Math.max.name, Cond.code Lib.Math.max.name Lib.Math.max.code 2 (some .int), Cond.methodLink RX3 218 yX3_quotient, Cond.static yX3_quotient, Cond.code yX3_quotient cX3_quotient 2 (some .int)]
def wsX3_run_r5 : List Cond := [Cond.methodLink RX3 229 yX3_asNumber, Cond.static yX3_asNumber, Cond.code yX3_asNumber cX3_asNumber 1 (some .int), Cond.methodLink RX3 206 yX0_ownReckoning, Cond.instanceMethod yX0_ownReckoning, Cond.selects RX0 yX0_ownReckoning yX0_ownReckoning, Cond.code yX0_ownReckoning cX0_ownReckoning 4 (some .int), Cond.fieldLink RX0 9 "BlockPrograms$Block" "p" "I", Cond.fieldLink RX0 41 "BlockPrograms$Block" "places" "[I", Cond.fieldLink RX0 24 "BlockPrograms$Block" "first" "I", Cond.fieldLink RX0 15 "BlockPrograms$Block" "q" "I", Cond.methodLink RX0 79 Lib.Math.min.name, Cond.methodLink RX0 58 yX0_ramped, Cond.instanceMethod yX0_ramped, Cond.selects RX0 yX0_ramped yX0_ramped, Cond.code yX0_ramped cX0_ramped 5 (some .int), Cond.methodLink RX0 84 Lib.Math.max.name, Cond.methodLink RX0 87 Lib.MathLoose.abs_long.x, Cond.static Lib.MathLoose.abs_long.x, Cond.code Lib.MathLoose.abs_long.x Lib.MathLoose.abs_long.code 2 (some .long), Cond.methodLink RX0 62 yX0_counted, Cond.instanceMethod yX0_counted, Cond.selects RX0 yX0_counted yX0_counted, Cond.code yX0_counted cX0_counted 3 (some .int)]
def wsX3_run_r6 : List Cond := [Cond.fieldLink RX0 27 "BlockPrograms$Block" "second" "I", Cond.methodLink RX0 66 yX0_latched, Cond.instanceMethod yX0_latched, Cond.selects RX0 yX0_latched yX0_latched, Cond.code yX0_latched cX0_latched 3 (some .int), Cond.methodLink RX0 69 yX0_isClockOn, Cond.instanceMethod yX0_isClockOn, Cond.selects RX0 yX0_isClockOn yX0_isClockOn, Cond.code yX0_isClockOn cX0_isClockOn 2 (some .boolean), Cond.methodLink RX0 76 yX0_pulsed, Cond.instanceMethod yX0_pulsed, Cond.selects RX0 yX0_pulsed yX0_pulsed, Cond.code yX0_pulsed cX0_pulsed 2 (some .int), Cond.methodLink RX3 184 yX3_takeUp, Cond.instanceMethod yX3_takeUp, Cond.selects RX3 yX3_takeUp yX3_takeUp, Cond.code yX3_takeUp cX3_takeUp 3 none, Cond.fieldLink RX3 129 "BlockPrograms$Block" "first" "I"]
def wsX3_run : List Cond := .code yX3_run cX3_run 3 (some .int) :: ((wsX3_run_r1 ++ (wsX3_run_r2 ++ (wsX3_run_r3 ++ (wsX3_run_r4 ++ (wsX3_run_r5 ++ wsX3_run_r6))))) ++ wsX30 ++ wsX00 ++ wsX10 ++ (vx_atS RX3 70 "java/lang/IllegalArgumentException" ["java/lang/RuntimeException", "java/lang/Exception"]).filter goodWord ++ (vx_atS RX3 57 "java/lang/IllegalStateException" ["java/lang/RuntimeException", "java/lang/Exception"]).filter goodWord)
def wsX3_out : List Cond := .code yX3_out cX3_out 2 (some .int) :: ([.fieldLink RX3 124 "BlockPrograms$Block" "output" "I", .methodLink RX3 62 yX3_existing, .instanceMethod yX3_existing, .selects RX3 yX3_existing yX3_existing, .initialized RX3, .code yX3_existing cX3_existing 2 (some (.object "BlockPrograms$Block")), .classLink RX3 66 "java/lang/IllegalArgumentException", .initialized "java/lang/IllegalArgumentException", .fieldLink RX3 15 "BlockPrograms" "count" "I", .fieldLink RX3 11 "BlockPrograms" "blocks" "[LBlockPrograms$Block;"] ++ wsX00 ++ wsX30 ++ (vx_atS RX3 70 "java/lang/IllegalArgumentException" ["java/lang/RuntimeException", "java/lang/Exception"]).filter goodWord)
def wsX3_state : List Cond := .code yX3_state cX3_state 4 (some .int) :: ([.classLink RX3 66 "java/lang/IllegalArgumentException", .initialized "java/lang/IllegalArgumentException", .fieldLink RX3 129 "BlockPrograms$Block" "first" "I", .fieldLink RX3 132 "BlockPrograms$Block" "second" "I", .methodLink RX3 62 yX3_existing, .instanceMethod yX3_existing, .selects RX3 yX3_existing yX3_existing, .initialized RX3, .code yX3_existing cX3_existing 2 (some (.object "BlockPrograms$Block")), .fieldLink RX3 15 "BlockPrograms" "count" "I", .fieldLink RX3 11 "BlockPrograms" "blocks" "[LBlockPrograms$Block;"] ++ wsX00 ++ wsX30 ++ (vx_atS RX3 70 "java/lang/IllegalArgumentException" ["java/lang/RuntimeException", "java/lang/Exception"]).filter goodWord)
def wsX3_failed : List Cond := .code yX3_failed cX3_failed 2 (some .int) :: ([.classLink RX3 66 "java/lang/IllegalArgumentException", .initialized "java/lang/IllegalArgumentException", .fieldLink RX3 36 "BlockPrograms" "failures" "LBlockPrograms$Failures;", .fieldLink RX3 137 "BlockPrograms$Failures" "totals" "[I"] ++ wsX30 ++ wsX10 ++ (vx_atS RX3 70 "java/lang/IllegalArgumentException" ["java/lang/RuntimeException", "java/lang/Exception"]).filter goodWord)
def wsX3_failure_r1 : List Cond := [Cond.classLink RX3 66 "java/lang/IllegalArgumentException", Cond.initialized "java/lang/IllegalArgumentException", Cond.fieldLink RX3 36 "BlockPrograms" "failures" "LBlockPrograms$Failures;", Cond.methodLink RX3 140 yX1_keptCount, Cond.instanceMethod yX1_keptCount, Cond.selects RX1 yX1_keptCount yX1_keptCount, Cond.initialized RX1, Cond.code yX1_keptCount cX1_keptCount 1 (some .int), Cond.fieldLink RX1 9 "BlockPrograms$Failures" "totals" "[I", Cond.methodLink RX1 28 Lib.Math.min.name, Cond.static Lib.Math.min.name, Cond.initialized "java/lang/Math", Cond.code Lib.Math.min.name Lib.Math.min.code 2 (some .int), Cond.methodLink RX3 147 yX1_fact, Cond.instanceMethod yX1_fact, Cond.selects RX1 yX1_fact yX1_fact, Cond.code yX1_fact cX1_fact 4 (some .int), Cond.fieldLink RX1 24 "BlockPrograms$Failures" "next" "I", Cond.fieldLink RX1 15 "BlockPrograms$Failures" "ticks" "[I", Cond.fieldLink RX1 18 "BlockPrograms$Failures" "numbers" "[I", Cond.fieldLink RX1 21 "BlockPrograms$Failures" "kinds" "[I", Cond.methodLink RX1 34 yJ9_floorMod_7cf53, Cond.static yJ9_floorMod_7cf53, Cond.initialized RJ9]
def wsX3_failure_r2 : List Cond := [Cond.code yJ9_floorMod_7cf53 cJ9_floorMod_7cf53 3 (some .int)]
def wsX3_failure : List Cond := .code yX3_failure cX3_failure 3 (some .int) :: ((wsX3_failure_r1 ++ wsX3_failure_r2) ++ wsX30 ++ wsX10 ++ (vx_atS RX3 70 "java/lang/IllegalArgumentException" ["java/lang/RuntimeException", "java/lang/Exception"]).filter goodWord)
def wsX3_save_r1 : List Cond := [Cond.classLink RX3 53 "java/lang/IllegalStateException", Cond.initialized "java/lang/IllegalStateException", Cond.fieldLink RX3 46 "BlockPrograms" "savingCount" "I", Cond.classLink RX3 40 RX2, Cond.instantiable RX2 5, Cond.initialized RX2, Cond.fieldLink RX3 15 "BlockPrograms" "count" "I", Cond.fieldLink RX3 11 "BlockPrograms" "blocks" "[LBlockPrograms$Block;", Cond.fieldLink RX3 42 "BlockPrograms" "savings" "[LBlockPrograms$Saving;", Cond.instanceMethod yX2_init, Cond.code yX2_init cX2_init 1 none, Cond.methodLink RX2 3 objectInit, Cond.instanceMethod objectInit, Cond.code objectInit ⟨#[0xb1]⟩ 1 none, Cond.fieldLink RX2 9 "BlockPrograms$Saving" "count" "I", Cond.arrayClass .int, Cond.fieldLink RX2 15 "BlockPrograms$Saving" "kinds" "[I", Cond.fieldLink RX2 19 "BlockPrograms$Saving" "outputs" "[I", Cond.fieldLink RX2 22 "BlockPrograms$Saving" "firsts" "[I", Cond.fieldLink RX2 25 "BlockPrograms$Saving" "seconds" "[I", Cond.methodLink RX3 154 yX2_keep, Cond.instanceMethod yX2_keep, Cond.selects RX2 yX2_keep yX2_keep, Cond.code yX2_keep cX2_keep 2 none]
def wsX3_save_r2 : List Cond := [Cond.fieldLink RX2 28 "BlockPrograms$Block" "kind" "I", Cond.fieldLink RX2 33 "BlockPrograms$Block" "output" "I", Cond.fieldLink RX2 36 "BlockPrograms$Block" "first" "I", Cond.fieldLink RX2 39 "BlockPrograms$Block" "second" "I"]
def wsX3_save : List Cond := .code yX3_save cX3_save 3 (some .int) :: ((wsX3_save_r1 ++ wsX3_save_r2) ++ wsX30 ++ wsX20 ++ wsX00 ++ (vx_atS RX3 57 "java/lang/IllegalStateException" ["java/lang/RuntimeException", "java/lang/Exception"]).filter goodWord)
def wsX3_back : List Cond := .code yX3_back cX3_back 5 (some .int) :: ([.classLink RX3 66 "java/lang/IllegalArgumentException", .initialized "java/lang/IllegalArgumentException", .fieldLink RX3 46 "BlockPrograms" "savingCount" "I", .fieldLink RX3 42 "BlockPrograms" "savings" "[LBlockPrograms$Saving;", .fieldLink RX3 15 "BlockPrograms" "count" "I", .fieldLink RX3 11 "BlockPrograms" "blocks" "[LBlockPrograms$Block;", .methodLink RX3 160 yX2_restore, .instanceMethod yX2_restore, .selects RX2 yX2_restore yX2_restore, .initialized RX2, .code yX2_restore cX2_restore 3 (some .boolean), .fieldLink RX2 9 "BlockPrograms$Saving" "count" "I", .fieldLink RX2 15 "BlockPrograms$Saving" "kinds" "[I", .fieldLink RX2 28 "BlockPrograms$Block" "kind" "I", .fieldLink RX2 19 "BlockPrograms$Saving" "outputs" "[I", .fieldLink RX2 33 "BlockPrograms$Block" "output" "I", .fieldLink RX2 22 "BlockPrograms$Saving" "firsts" "[I", .fieldLink RX2 36 "BlockPrograms$Block" "first" "I", .fieldLink RX2 25 "BlockPrograms$Saving" "seconds" "[I", .fieldLink RX2 39 "BlockPrograms$Block" "second" "I"] ++ wsX30 ++ wsX20 ++ wsX00 ++ (vx_atS RX3 70 "java/lang/IllegalArgumentException" ["java/lang/RuntimeException", "java/lang/Exception"]).filter goodWord)
def wsX3_become : List Cond := .code yX3_become cX3_become 5 (some .int) :: ([.fieldLink RX3 86 "BlockPrograms$Block" "kind" "I", .fieldLink RX3 124 "BlockPrograms$Block" "output" "I", .fieldLink RX3 129 "BlockPrograms$Block" "first" "I", .fieldLink RX3 132 "BlockPrograms$Block" "second" "I", .methodLink RX3 62 yX3_existing, .instanceMethod yX3_existing, .selects RX3 yX3_existing yX3_existing, .initialized RX3, .code yX3_existing cX3_existing 2 (some (.object "BlockPrograms$Block")), .classLink RX3 66 "java/lang/IllegalArgumentException", .initialized "java/lang/IllegalArgumentException", .fieldLink RX3 15 "BlockPrograms" "count" "I", .fieldLink RX3 11 "BlockPrograms" "blocks" "[LBlockPrograms$Block;", .methodLink RX3 49 yX3_requireKind, .static yX3_requireKind, .code yX3_requireKind cX3_requireKind 1 none, .fieldLink RX3 164 "BlockPrograms" "NAMED_INPUTS" "[I"] ++ wsX00 ++ wsX30 ++ (vx_atS RX3 70 "java/lang/IllegalArgumentException" ["java/lang/RuntimeException", "java/lang/Exception"]).filter goodWord)
def wsX4_init : List Cond := .code yX4_init cX4_init 1 none :: ([.methodLink RX4 1 objectInit, .instanceMethod objectInit, .code objectInit ⟨#[0xb1]⟩ 1 none, .arrayClass .int, .fieldLink RX4 7 "BlockProgramsModel" "kinds" "[I", .fieldLink RX4 13 "BlockProgramsModel" "ps" "[I", .fieldLink RX4 16 "BlockProgramsModel" "qs" "[I", .fieldLink RX4 19 "BlockProgramsModel" "safes" "[I", .fieldLink RX4 22 "BlockProgramsModel" "wires" "[I", .fieldLink RX4 25 "BlockProgramsModel" "outs" "[I", .fieldLink RX4 28 "BlockProgramsModel" "firsts" "[I", .fieldLink RX4 31 "BlockProgramsModel" "seconds" "[I", .fieldLink RX4 34 "BlockProgramsModel" "rows" "[I", .arrayClass .boolean, .fieldLink RX4 37 "BlockProgramsModel" "inHand" "[Z", .fieldLink RX4 41 "BlockProgramsModel" "hands" "[I", .fieldLink RX4 44 "BlockProgramsModel" "points" "[I", .fieldLink RX4 47 "BlockProgramsModel" "order" "[I", .fieldLink RX4 50 "BlockProgramsModel" "isIn" "[Z", .fieldLink RX4 53 "BlockProgramsModel" "failures" "[I", .fieldLink RX4 56 "BlockProgramsModel" "kept" "[I", .fieldLink RX4 59 "BlockProgramsModel" "savedBlocks" "[I", .fieldLink RX4 62 "BlockProgramsModel" "saved" "[I"] ++ wsX40)
def wsX4_thrown : List Cond := .code yX4_thrown cX4_thrown 1 (some .int) :: ([.fieldLink RX4 65 "BlockProgramsModel" "code" "I"] ++ wsX40)
def wsX4_in : List Cond := .code yX4_in cX4_in 3 (some .boolean) :: ([])
def wsX4_isBlock : List Cond := .code yX4_isBlock cX4_isBlock 2 (some .boolean) :: ([.fieldLink RX4 69 "BlockProgramsModel" "blocks" "I", .methodLink RX4 72 yX4_in, .static yX4_in, .initialized RX4, .code yX4_in cX4_in 3 (some .boolean)] ++ wsX40)
def wsX4_block : List Cond := .code yX4_block cX4_block 3 (some .int) :: ([.fieldLink RX4 69 "BlockProgramsModel" "blocks" "I", .fieldLink RX4 65 "BlockProgramsModel" "code" "I", .fieldLink RX4 7 "BlockProgramsModel" "kinds" "[I", .fieldLink RX4 22 "BlockProgramsModel" "wires" "[I", .methodLink RX4 72 yX4_in, .static yX4_in, .initialized RX4, .code yX4_in cX4_in 3 (some .boolean)] ++ wsX40)
def wsX4_wire : List Cond := .code yX4_wire cX4_wire 5 (some .int) :: ([.fieldLink RX4 65 "BlockProgramsModel" "code" "I", .fieldLink RX4 22 "BlockProgramsModel" "wires" "[I", .methodLink RX4 76 yX4_isBlock, .instanceMethod yX4_isBlock, .selects RX4 yX4_isBlock yX4_isBlock, .initialized RX4, .code yX4_isBlock cX4_isBlock 2 (some .boolean), .fieldLink RX4 69 "BlockProgramsModel" "blocks" "I", .methodLink RX4 72 yX4_in, .static yX4_in, .code yX4_in cX4_in 3 (some .boolean)] ++ wsX40)
def wsX4_numbers : List Cond := .code yX4_numbers cX4_numbers 4 none :: ([.fieldLink RX4 65 "BlockProgramsModel" "code" "I", .fieldLink RX4 13 "BlockProgramsModel" "ps" "[I", .fieldLink RX4 16 "BlockProgramsModel" "qs" "[I", .methodLink RX4 76 yX4_isBlock, .instanceMethod yX4_isBlock, .selects RX4 yX4_isBlock yX4_isBlock, .initialized RX4, .code yX4_isBlock cX4_isBlock 2 (some .boolean), .fieldLink RX4 69 "BlockProgramsModel" "blocks" "I", .methodLink RX4 72 yX4_in, .static yX4_in, .code yX4_in cX4_in 3 (some .boolean)] ++ wsX40)
def wsX4_row : List Cond := .code yX4_row cX4_row 5 (some .int) :: ([.fieldLink RX4 7 "BlockProgramsModel" "kinds" "[I", .fieldLink RX4 65 "BlockProgramsModel" "code" "I", .fieldLink RX4 34 "BlockProgramsModel" "rows" "[I", .methodLink RX4 76 yX4_isBlock, .instanceMethod yX4_isBlock, .selects RX4 yX4_isBlock yX4_isBlock, .initialized RX4, .code yX4_isBlock cX4_isBlock 2 (some .boolean), .fieldLink RX4 69 "BlockProgramsModel" "blocks" "I", .methodLink RX4 72 yX4_in, .static yX4_in, .code yX4_in cX4_in 3 (some .boolean)] ++ wsX40)
def wsX4_safe : List Cond := .code yX4_safe cX4_safe 4 (some .int) :: ([.fieldLink RX4 65 "BlockProgramsModel" "code" "I", .fieldLink RX4 19 "BlockProgramsModel" "safes" "[I", .methodLink RX4 76 yX4_isBlock, .instanceMethod yX4_isBlock, .selects RX4 yX4_isBlock yX4_isBlock, .initialized RX4, .code yX4_isBlock cX4_isBlock 2 (some .boolean), .fieldLink RX4 69 "BlockProgramsModel" "blocks" "I", .methodLink RX4 72 yX4_in, .static yX4_in, .code yX4_in cX4_in 3 (some .boolean)] ++ wsX40)
def wsX4_point : List Cond := .code yX4_point cX4_point 4 (some .int) :: ([.fieldLink RX4 65 "BlockProgramsModel" "code" "I", .fieldLink RX4 44 "BlockProgramsModel" "points" "[I", .methodLink RX4 72 yX4_in, .static yX4_in, .initialized RX4, .code yX4_in cX4_in 3 (some .boolean)] ++ wsX40)
def wsX4_hand : List Cond := .code yX4_hand cX4_hand 5 (some .boolean) :: ([.fieldLink RX4 65 "BlockProgramsModel" "code" "I", .fieldLink RX4 37 "BlockProgramsModel" "inHand" "[Z", .fieldLink RX4 41 "BlockProgramsModel" "hands" "[I", .methodLink RX4 76 yX4_isBlock, .instanceMethod yX4_isBlock, .selects RX4 yX4_isBlock yX4_isBlock, .initialized RX4, .code yX4_isBlock cX4_isBlock 2 (some .boolean), .fieldLink RX4 69 "BlockProgramsModel" "blocks" "I", .methodLink RX4 72 yX4_in, .static yX4_in, .code yX4_in cX4_in 3 (some .boolean)] ++ wsX40)
def wsX4_become : List Cond := .code yX4_become cX4_become 4 (some .int) :: ([.fieldLink RX4 65 "BlockProgramsModel" "code" "I", .fieldLink RX4 7 "BlockProgramsModel" "kinds" "[I", .fieldLink RX4 25 "BlockProgramsModel" "outs" "[I", .fieldLink RX4 28 "BlockProgramsModel" "firsts" "[I", .fieldLink RX4 31 "BlockProgramsModel" "seconds" "[I", .methodLink RX4 76 yX4_isBlock, .instanceMethod yX4_isBlock, .selects RX4 yX4_isBlock yX4_isBlock, .initialized RX4, .code yX4_isBlock cX4_isBlock 2 (some .boolean), .fieldLink RX4 69 "BlockProgramsModel" "blocks" "I", .methodLink RX4 72 yX4_in, .static yX4_in, .code yX4_in cX4_in 3 (some .boolean)] ++ wsX40)
def wsX4_inputsOf : List Cond := .code yX4_inputsOf cX4_inputsOf 1 (some .int) :: ([.methodLink RX4 72 yX4_in, .static yX4_in, .initialized RX4, .code yX4_in cX4_in 3 (some .boolean)])
def wsX4_mayCome : List Cond := .code yX4_mayCome cX4_mayCome 5 (some .boolean) :: ([.fieldLink RX4 50 "BlockProgramsModel" "isIn" "[Z", .fieldLink RX4 7 "BlockProgramsModel" "kinds" "[I", .fieldLink RX4 22 "BlockProgramsModel" "wires" "[I", .methodLink RX4 80 yX4_inputsOf, .static yX4_inputsOf, .initialized RX4, .code yX4_inputsOf cX4_inputsOf 1 (some .int), .methodLink RX4 72 yX4_in, .static yX4_in, .code yX4_in cX4_in 3 (some .boolean)] ++ wsX40)
def wsX4_lay : List Cond := .code yX4_lay cX4_lay 4 none :: ([.fieldLink RX4 84 "BlockProgramsModel" "come" "I", .fieldLink RX4 69 "BlockProgramsModel" "blocks" "I", .fieldLink RX4 50 "BlockProgramsModel" "isIn" "[Z", .fieldLink RX4 47 "BlockProgramsModel" "order" "[I", .methodLink RX4 87 yX4_mayCome, .instanceMethod yX4_mayCome, .selects RX4 yX4_mayCome yX4_mayCome, .initialized RX4, .code yX4_mayCome cX4_mayCome 5 (some .boolean), .fieldLink RX4 7 "BlockProgramsModel" "kinds" "[I", .fieldLink RX4 22 "BlockProgramsModel" "wires" "[I", .methodLink RX4 80 yX4_inputsOf, .static yX4_inputsOf, .code yX4_inputsOf cX4_inputsOf 1 (some .int), .methodLink RX4 72 yX4_in, .static yX4_in, .code yX4_in cX4_in 3 (some .boolean)] ++ wsX40)
def wsX4_order : List Cond := .code yX4_order cX4_order 1 (some .int) :: ([.fieldLink RX4 65 "BlockProgramsModel" "code" "I", .fieldLink RX4 84 "BlockProgramsModel" "come" "I", .methodLink RX4 90 yX4_lay, .instanceMethod yX4_lay, .selects RX4 yX4_lay yX4_lay, .initialized RX4, .code yX4_lay cX4_lay 4 none, .fieldLink RX4 69 "BlockProgramsModel" "blocks" "I", .fieldLink RX4 50 "BlockProgramsModel" "isIn" "[Z", .fieldLink RX4 47 "BlockProgramsModel" "order" "[I", .methodLink RX4 87 yX4_mayCome, .instanceMethod yX4_mayCome, .selects RX4 yX4_mayCome yX4_mayCome, .code yX4_mayCome cX4_mayCome 5 (some .boolean), .fieldLink RX4 7 "BlockProgramsModel" "kinds" "[I", .fieldLink RX4 22 "BlockProgramsModel" "wires" "[I", .methodLink RX4 80 yX4_inputsOf, .static yX4_inputsOf, .code yX4_inputsOf cX4_inputsOf 1 (some .int), .methodLink RX4 72 yX4_in, .static yX4_in, .code yX4_in cX4_in 3 (some .boolean)] ++ wsX40)
def wsX4_at_r1 : List Cond := [Cond.fieldLink RX4 65 "BlockProgramsModel" "code" "I", Cond.fieldLink RX4 47 "BlockProgramsModel" "order" "[I", Cond.methodLink RX4 76 yX4_isBlock, Cond.instanceMethod yX4_isBlock, Cond.selects RX4 yX4_isBlock yX4_isBlock, Cond.initialized RX4, Cond.code yX4_isBlock cX4_isBlock 2 (some .boolean), Cond.fieldLink RX4 69 "BlockProgramsModel" "blocks" "I", Cond.methodLink RX4 72 yX4_in, Cond.static yX4_in, Cond.code yX4_in cX4_in 3 (some .boolean), Cond.methodLink RX4 90 yX4_lay, Cond.instanceMethod yX4_lay, Cond.selects RX4 yX4_lay yX4_lay, Cond.code yX4_lay cX4_lay 4 none, Cond.fieldLink RX4 84 "BlockProgramsModel" "come" "I", Cond.fieldLink RX4 50 "BlockProgramsModel" "isIn" "[Z", Cond.methodLink RX4 87 yX4_mayCome, Cond.instanceMethod yX4_mayCome, Cond.selects RX4 yX4_mayCome yX4_mayCome, Cond.code yX4_mayCome cX4_mayCome 5 (some .boolean), Cond.fieldLink RX4 7 "BlockProgramsModel" "kinds" "[I", Cond.fieldLink RX4 22 "BlockProgramsModel" "wires" "[I", Cond.methodLink RX4 80 yX4_inputsOf]
def wsX4_at_r2 : List Cond := [Cond.static yX4_inputsOf, Cond.code yX4_inputsOf cX4_inputsOf 1 (some .int)]
def wsX4_at : List Cond := .code yX4_at cX4_at 2 (some .int) :: ((wsX4_at_r1 ++ wsX4_at_r2) ++ wsX40)
def wsX4_input : List Cond := .code yX4_input cX4_input 4 (some .int) :: ([.fieldLink RX4 22 "BlockProgramsModel" "wires" "[I", .fieldLink RX4 7 "BlockProgramsModel" "kinds" "[I", .fieldLink RX4 25 "BlockProgramsModel" "outs" "[I", .methodLink RX4 80 yX4_inputsOf, .static yX4_inputsOf, .initialized RX4, .code yX4_inputsOf cX4_inputsOf 1 (some .int), .methodLink RX4 72 yX4_in, .static yX4_in, .code yX4_in cX4_in 3 (some .boolean)] ++ wsX40)
def wsX4_one : List Cond := .code yX4_one cX4_one 1 (some .int) :: ([])
def wsX4_plain : List Cond := .code yX4_plain cX4_plain 6 (some .int) :: ([.fieldLink RX4 7 "BlockProgramsModel" "kinds" "[I", .fieldLink RX4 13 "BlockProgramsModel" "ps" "[I", .fieldLink RX4 93 "BlockProgramsModel" "wrong" "I", .fieldLink RX4 44 "BlockProgramsModel" "points" "[I", .fieldLink RX4 34 "BlockProgramsModel" "rows" "[I", .methodLink RX4 72 yX4_in, .static yX4_in, .initialized RX4, .code yX4_in cX4_in 3 (some .boolean), .methodLink RX4 96 yX4_one, .static yX4_one, .code yX4_one cX4_one 1 (some .int)] ++ wsX40)
def wsX4_ramp : List Cond := .code yX4_ramp cX4_ramp 7 (some .int) :: ([.fieldLink RX4 13 "BlockProgramsModel" "ps" "[I", .fieldLink RX4 25 "BlockProgramsModel" "outs" "[I"] ++ wsX40)
def wsX4_clock : List Cond := .code yX4_clock cX4_clock 3 (some .boolean) :: ([.fieldLink RX4 100 "BlockProgramsModel" "time" "I", .fieldLink RX4 13 "BlockProgramsModel" "ps" "[I", .fieldLink RX4 16 "BlockProgramsModel" "qs" "[I"] ++ wsX40)
def wsX4_pulse : List Cond := .code yX4_pulse cX4_pulse 3 (some .int) :: ([.fieldLink RX4 31 "BlockProgramsModel" "seconds" "[I", .fieldLink RX4 28 "BlockProgramsModel" "firsts" "[I", .fieldLink RX4 13 "BlockProgramsModel" "ps" "[I"] ++ wsX40)
def wsX4_since : List Cond := .code yX4_since cX4_since 4 (some .int) :: ([.fieldLink RX4 28 "BlockProgramsModel" "firsts" "[I", .fieldLink RX4 13 "BlockProgramsModel" "ps" "[I"] ++ wsX40)
def wsX4_withState_r1 : List Cond := [Cond.fieldLink RX4 7 "BlockProgramsModel" "kinds" "[I", Cond.fieldLink RX4 28 "BlockProgramsModel" "firsts" "[I", Cond.fieldLink RX4 31 "BlockProgramsModel" "seconds" "[I", Cond.fieldLink RX4 13 "BlockProgramsModel" "ps" "[I", Cond.fieldLink RX4 16 "BlockProgramsModel" "qs" "[I", Cond.fieldLink RX4 25 "BlockProgramsModel" "outs" "[I", Cond.methodLink RX4 103 yX4_ramp, Cond.instanceMethod yX4_ramp, Cond.selects RX4 yX4_ramp yX4_ramp, Cond.initialized RX4, Cond.code yX4_ramp cX4_ramp 7 (some .int), Cond.methodLink RX4 107 yX4_clock, Cond.instanceMethod yX4_clock, Cond.selects RX4 yX4_clock yX4_clock, Cond.code yX4_clock cX4_clock 3 (some .boolean), Cond.fieldLink RX4 100 "BlockProgramsModel" "time" "I", Cond.methodLink RX4 96 yX4_one, Cond.static yX4_one, Cond.code yX4_one cX4_one 1 (some .int), Cond.methodLink RX4 110 yX4_pulse, Cond.instanceMethod yX4_pulse, Cond.selects RX4 yX4_pulse yX4_pulse, Cond.code yX4_pulse cX4_pulse 3 (some .int), Cond.methodLink RX4 113 yX4_since]
def wsX4_withState_r2 : List Cond := [Cond.instanceMethod yX4_since, Cond.selects RX4 yX4_since yX4_since, Cond.code yX4_since cX4_since 4 (some .int)]
def wsX4_withState : List Cond := .code yX4_withState cX4_withState 4 (some .int) :: ((wsX4_withState_r1 ++ wsX4_withState_r2) ++ wsX40)
def wsX4_fail : List Cond := .code yX4_fail cX4_fail 4 none :: ([.fieldLink RX4 53 "BlockProgramsModel" "failures" "[I", .fieldLink RX4 116 "BlockProgramsModel" "last" "I", .fieldLink RX4 56 "BlockProgramsModel" "kept" "[I", .fieldLink RX4 100 "BlockProgramsModel" "time" "I"] ++ wsX40)
def wsX4_reckon_r1 : List Cond := [Cond.fieldLink RX4 93 "BlockProgramsModel" "wrong" "I", Cond.fieldLink RX4 7 "BlockProgramsModel" "kinds" "[I", Cond.fieldLink RX4 22 "BlockProgramsModel" "wires" "[I", Cond.fieldLink RX4 19 "BlockProgramsModel" "safes" "[I", Cond.fieldLink RX4 25 "BlockProgramsModel" "outs" "[I", Cond.fieldLink RX4 37 "BlockProgramsModel" "inHand" "[Z", Cond.fieldLink RX4 41 "BlockProgramsModel" "hands" "[I", Cond.methodLink RX4 80 yX4_inputsOf, Cond.static yX4_inputsOf, Cond.initialized RX4, Cond.code yX4_inputsOf cX4_inputsOf 1 (some .int), Cond.methodLink RX4 72 yX4_in, Cond.static yX4_in, Cond.code yX4_in cX4_in 3 (some .boolean), Cond.methodLink RX4 119 yX4_input, Cond.instanceMethod yX4_input, Cond.selects RX4 yX4_input yX4_input, Cond.code yX4_input cX4_input 4 (some .int), Cond.methodLink RX4 122 yX4_plain, Cond.instanceMethod yX4_plain, Cond.selects RX4 yX4_plain yX4_plain, Cond.code yX4_plain cX4_plain 6 (some .int), Cond.fieldLink RX4 13 "BlockProgramsModel" "ps" "[I", Cond.fieldLink RX4 44 "BlockProgramsModel" "points" "[I"]
def wsX4_reckon_r2 : List Cond := [Cond.fieldLink RX4 34 "BlockProgramsModel" "rows" "[I", Cond.methodLink RX4 96 yX4_one, Cond.static yX4_one, Cond.code yX4_one cX4_one 1 (some .int), Cond.methodLink RX4 126 yX4_withState, Cond.instanceMethod yX4_withState, Cond.selects RX4 yX4_withState yX4_withState, Cond.code yX4_withState cX4_withState 4 (some .int), Cond.fieldLink RX4 28 "BlockProgramsModel" "firsts" "[I", Cond.fieldLink RX4 31 "BlockProgramsModel" "seconds" "[I", Cond.fieldLink RX4 16 "BlockProgramsModel" "qs" "[I", Cond.methodLink RX4 103 yX4_ramp, Cond.instanceMethod yX4_ramp, Cond.selects RX4 yX4_ramp yX4_ramp, Cond.code yX4_ramp cX4_ramp 7 (some .int), Cond.methodLink RX4 107 yX4_clock, Cond.instanceMethod yX4_clock, Cond.selects RX4 yX4_clock yX4_clock, Cond.code yX4_clock cX4_clock 3 (some .boolean), Cond.fieldLink RX4 100 "BlockProgramsModel" "time" "I", Cond.methodLink RX4 110 yX4_pulse, Cond.instanceMethod yX4_pulse, Cond.selects RX4 yX4_pulse yX4_pulse, Cond.code yX4_pulse cX4_pulse 3 (some .int)]
def wsX4_reckon_r3 : List Cond := [Cond.methodLink RX4 113 yX4_since, Cond.instanceMethod yX4_since, Cond.selects RX4 yX4_since yX4_since, Cond.code yX4_since cX4_since 4 (some .int), Cond.methodLink RX4 130 yX4_fail, Cond.instanceMethod yX4_fail, Cond.selects RX4 yX4_fail yX4_fail, Cond.code yX4_fail cX4_fail 4 none, Cond.fieldLink RX4 53 "BlockProgramsModel" "failures" "[I", Cond.fieldLink RX4 116 "BlockProgramsModel" "last" "I", Cond.fieldLink RX4 56 "BlockProgramsModel" "kept" "[I"]
def wsX4_reckon : List Cond := .code yX4_reckon cX4_reckon 3 none :: ((wsX4_reckon_r1 ++ (wsX4_reckon_r2 ++ wsX4_reckon_r3)) ++ wsX40)
def wsX4_takeDelay : List Cond := .code yX4_takeDelay cX4_takeDelay 3 none :: ([.fieldLink RX4 22 "BlockProgramsModel" "wires" "[I", .fieldLink RX4 28 "BlockProgramsModel" "firsts" "[I", .fieldLink RX4 25 "BlockProgramsModel" "outs" "[I", .fieldLink RX4 37 "BlockProgramsModel" "inHand" "[Z", .fieldLink RX4 41 "BlockProgramsModel" "hands" "[I", .fieldLink RX4 19 "BlockProgramsModel" "safes" "[I", .methodLink RX4 130 yX4_fail, .instanceMethod yX4_fail, .selects RX4 yX4_fail yX4_fail, .initialized RX4, .code yX4_fail cX4_fail 4 none, .fieldLink RX4 53 "BlockProgramsModel" "failures" "[I", .fieldLink RX4 116 "BlockProgramsModel" "last" "I", .fieldLink RX4 56 "BlockProgramsModel" "kept" "[I", .fieldLink RX4 100 "BlockProgramsModel" "time" "I"] ++ wsX40)
def wsX4_run_r1 : List Cond := [Cond.fieldLink RX4 65 "BlockProgramsModel" "code" "I", Cond.fieldLink RX4 84 "BlockProgramsModel" "come" "I", Cond.fieldLink RX4 69 "BlockProgramsModel" "blocks" "I", Cond.fieldLink RX4 100 "BlockProgramsModel" "time" "I", Cond.fieldLink RX4 47 "BlockProgramsModel" "order" "[I", Cond.fieldLink RX4 7 "BlockProgramsModel" "kinds" "[I", Cond.methodLink RX4 72 yX4_in, Cond.static yX4_in, Cond.initialized RX4, Cond.code yX4_in cX4_in 3 (some .boolean), Cond.methodLink RX4 90 yX4_lay, Cond.instanceMethod yX4_lay, Cond.selects RX4 yX4_lay yX4_lay, Cond.code yX4_lay cX4_lay 4 none, Cond.fieldLink RX4 50 "BlockProgramsModel" "isIn" "[Z", Cond.methodLink RX4 87 yX4_mayCome, Cond.instanceMethod yX4_mayCome, Cond.selects RX4 yX4_mayCome yX4_mayCome, Cond.code yX4_mayCome cX4_mayCome 5 (some .boolean), Cond.fieldLink RX4 22 "BlockProgramsModel" "wires" "[I", Cond.methodLink RX4 80 yX4_inputsOf, Cond.static yX4_inputsOf, Cond.code yX4_inputsOf cX4_inputsOf 1 (some .int), Cond.methodLink RX4 134 yX4_reckon]
def wsX4_run_r2 : List Cond := [Cond.instanceMethod yX4_reckon, Cond.selects RX4 yX4_reckon yX4_reckon, Cond.code yX4_reckon cX4_reckon 3 none, Cond.fieldLink RX4 93 "BlockProgramsModel" "wrong" "I", Cond.fieldLink RX4 19 "BlockProgramsModel" "safes" "[I", Cond.fieldLink RX4 25 "BlockProgramsModel" "outs" "[I", Cond.fieldLink RX4 37 "BlockProgramsModel" "inHand" "[Z", Cond.fieldLink RX4 41 "BlockProgramsModel" "hands" "[I", Cond.methodLink RX4 119 yX4_input, Cond.instanceMethod yX4_input, Cond.selects RX4 yX4_input yX4_input, Cond.code yX4_input cX4_input 4 (some .int), Cond.methodLink RX4 122 yX4_plain, Cond.instanceMethod yX4_plain, Cond.selects RX4 yX4_plain yX4_plain, Cond.code yX4_plain cX4_plain 6 (some .int), Cond.fieldLink RX4 13 "BlockProgramsModel" "ps" "[I", Cond.fieldLink RX4 44 "BlockProgramsModel" "points" "[I", Cond.fieldLink RX4 34 "BlockProgramsModel" "rows" "[I", Cond.methodLink RX4 96 yX4_one, Cond.static yX4_one, Cond.code yX4_one cX4_one 1 (some .int), Cond.methodLink RX4 126 yX4_withState, Cond.instanceMethod yX4_withState]
def wsX4_run_r3 : List Cond := [Cond.selects RX4 yX4_withState yX4_withState, Cond.code yX4_withState cX4_withState 4 (some .int), Cond.fieldLink RX4 28 "BlockProgramsModel" "firsts" "[I", Cond.fieldLink RX4 31 "BlockProgramsModel" "seconds" "[I", Cond.fieldLink RX4 16 "BlockProgramsModel" "qs" "[I", Cond.methodLink RX4 103 yX4_ramp, Cond.instanceMethod yX4_ramp, Cond.selects RX4 yX4_ramp yX4_ramp, Cond.code yX4_ramp cX4_ramp 7 (some .int), Cond.methodLink RX4 107 yX4_clock, Cond.instanceMethod yX4_clock, Cond.selects RX4 yX4_clock yX4_clock, Cond.code yX4_clock cX4_clock 3 (some .boolean), Cond.methodLink RX4 110 yX4_pulse, Cond.instanceMethod yX4_pulse, Cond.selects RX4 yX4_pulse yX4_pulse, Cond.code yX4_pulse cX4_pulse 3 (some .int), Cond.methodLink RX4 113 yX4_since, Cond.instanceMethod yX4_since, Cond.selects RX4 yX4_since yX4_since, Cond.code yX4_since cX4_since 4 (some .int), Cond.methodLink RX4 130 yX4_fail, Cond.instanceMethod yX4_fail, Cond.selects RX4 yX4_fail yX4_fail]
def wsX4_run_r4 : List Cond := [Cond.code yX4_fail cX4_fail 4 none, Cond.fieldLink RX4 53 "BlockProgramsModel" "failures" "[I", Cond.fieldLink RX4 116 "BlockProgramsModel" "last" "I", Cond.fieldLink RX4 56 "BlockProgramsModel" "kept" "[I", Cond.methodLink RX4 138 yX4_takeDelay, Cond.instanceMethod yX4_takeDelay, Cond.selects RX4 yX4_takeDelay yX4_takeDelay, Cond.code yX4_takeDelay cX4_takeDelay 3 none]
def wsX4_run : List Cond := .code yX4_run cX4_run 4 (some .int) :: ((wsX4_run_r1 ++ (wsX4_run_r2 ++ (wsX4_run_r3 ++ wsX4_run_r4))) ++ wsX40)
def wsX4_out : List Cond := .code yX4_out cX4_out 2 (some .int) :: ([.fieldLink RX4 65 "BlockProgramsModel" "code" "I", .fieldLink RX4 25 "BlockProgramsModel" "outs" "[I", .methodLink RX4 76 yX4_isBlock, .instanceMethod yX4_isBlock, .selects RX4 yX4_isBlock yX4_isBlock, .initialized RX4, .code yX4_isBlock cX4_isBlock 2 (some .boolean), .fieldLink RX4 69 "BlockProgramsModel" "blocks" "I", .methodLink RX4 72 yX4_in, .static yX4_in, .code yX4_in cX4_in 3 (some .boolean)] ++ wsX40)
def wsX4_state : List Cond := .code yX4_state cX4_state 3 (some .int) :: ([.fieldLink RX4 65 "BlockProgramsModel" "code" "I", .fieldLink RX4 28 "BlockProgramsModel" "firsts" "[I", .fieldLink RX4 31 "BlockProgramsModel" "seconds" "[I", .methodLink RX4 76 yX4_isBlock, .instanceMethod yX4_isBlock, .selects RX4 yX4_isBlock yX4_isBlock, .initialized RX4, .code yX4_isBlock cX4_isBlock 2 (some .boolean), .fieldLink RX4 69 "BlockProgramsModel" "blocks" "I", .methodLink RX4 72 yX4_in, .static yX4_in, .code yX4_in cX4_in 3 (some .boolean)] ++ wsX40)
def wsX4_failed : List Cond := .code yX4_failed cX4_failed 2 (some .int) :: ([.fieldLink RX4 65 "BlockProgramsModel" "code" "I", .fieldLink RX4 53 "BlockProgramsModel" "failures" "[I", .methodLink RX4 72 yX4_in, .static yX4_in, .initialized RX4, .code yX4_in cX4_in 3 (some .boolean)] ++ wsX40)
def wsX4_failure : List Cond := .code yX4_failure cX4_failure 3 (some .int) :: ([.fieldLink RX4 116 "BlockProgramsModel" "last" "I", .fieldLink RX4 65 "BlockProgramsModel" "code" "I", .fieldLink RX4 56 "BlockProgramsModel" "kept" "[I", .methodLink RX4 72 yX4_in, .static yX4_in, .initialized RX4, .code yX4_in cX4_in 3 (some .boolean)] ++ wsX40)
def wsX4_save : List Cond := .code yX4_save cX4_save 3 (some .int) :: ([.fieldLink RX4 141 "BlockProgramsModel" "saves" "I", .fieldLink RX4 65 "BlockProgramsModel" "code" "I", .fieldLink RX4 59 "BlockProgramsModel" "savedBlocks" "[I", .fieldLink RX4 69 "BlockProgramsModel" "blocks" "I", .fieldLink RX4 62 "BlockProgramsModel" "saved" "[I", .fieldLink RX4 7 "BlockProgramsModel" "kinds" "[I", .fieldLink RX4 25 "BlockProgramsModel" "outs" "[I", .fieldLink RX4 28 "BlockProgramsModel" "firsts" "[I", .fieldLink RX4 31 "BlockProgramsModel" "seconds" "[I"] ++ wsX40)
def wsX4_back : List Cond := .code yX4_back cX4_back 5 (some .int) :: ([.fieldLink RX4 141 "BlockProgramsModel" "saves" "I", .fieldLink RX4 65 "BlockProgramsModel" "code" "I", .fieldLink RX4 59 "BlockProgramsModel" "savedBlocks" "[I", .fieldLink RX4 62 "BlockProgramsModel" "saved" "[I", .fieldLink RX4 7 "BlockProgramsModel" "kinds" "[I", .fieldLink RX4 25 "BlockProgramsModel" "outs" "[I", .fieldLink RX4 28 "BlockProgramsModel" "firsts" "[I", .fieldLink RX4 31 "BlockProgramsModel" "seconds" "[I", .methodLink RX4 72 yX4_in, .static yX4_in, .initialized RX4, .code yX4_in cX4_in 3 (some .boolean)] ++ wsX40)
def wsJ9_abs_067f4 : List Cond := .code yJ9_abs_067f4 cJ9_abs_067f4 2 (some .long) :: ([])
def wsJ9_max_7cf53 : List Cond := .code yJ9_max_7cf53 cJ9_max_7cf53 2 (some .int) :: ([])
def wsJ9_min_7cf53 : List Cond := .code yJ9_min_7cf53 cJ9_min_7cf53 2 (some .int) :: ([])
def wsL_block_r1 : List Cond := [Cond.classLink RL 13 "java/lang/IllegalArgumentException", Cond.classLink RL 15 "java/lang/IllegalStateException", Cond.methodLink RL 7 yX3_block, Cond.instanceMethod yX3_block, Cond.selects RX3 yX3_block yX3_block, Cond.initialized RX3, Cond.code yX3_block cX3_block 2 (some .int), Cond.classLink RX3 53 "java/lang/IllegalStateException", Cond.initialized "java/lang/IllegalStateException", Cond.fieldLink RX3 15 "BlockPrograms" "count" "I", Cond.fieldLink RX3 11 "BlockPrograms" "blocks" "[LBlockPrograms$Block;", Cond.classLink RX3 9 RX0, Cond.instantiable RX0 11, Cond.initialized RX0, Cond.methodLink RX3 49 yX3_requireKind, Cond.static yX3_requireKind, Cond.code yX3_requireKind cX3_requireKind 1 none, Cond.classLink RX3 66 "java/lang/IllegalArgumentException", Cond.initialized "java/lang/IllegalArgumentException", Cond.fieldLink RX3 164 "BlockPrograms" "NAMED_INPUTS" "[I", Cond.methodLink RX3 60 yX0_init, Cond.instanceMethod yX0_init, Cond.code yX0_init cX0_init 2 none, Cond.methodLink RX0 3 objectInit]
def wsL_block_r2 : List Cond := [Cond.instanceMethod objectInit, Cond.code objectInit ⟨#[0xb1]⟩ 1 none, Cond.fieldLink RX0 9 "BlockPrograms$Block" "p" "I", Cond.fieldLink RX0 15 "BlockPrograms$Block" "q" "I", Cond.fieldLink RX0 18 "BlockPrograms$Block" "safeValue" "I", Cond.fieldLink RX0 21 "BlockPrograms$Block" "output" "I", Cond.fieldLink RX0 24 "BlockPrograms$Block" "first" "I", Cond.fieldLink RX0 27 "BlockPrograms$Block" "second" "I", Cond.fieldLink RX0 30 "BlockPrograms$Block" "inHand" "Z", Cond.fieldLink RX0 34 "BlockPrograms$Block" "handValue" "I", Cond.arrayClass .int, Cond.fieldLink RX0 37 "BlockPrograms$Block" "wires" "[I", Cond.fieldLink RX0 41 "BlockPrograms$Block" "places" "[I", Cond.fieldLink RX0 44 "BlockPrograms$Block" "kind" "I"]
def wsL_block : List Cond := .codeWith yL_block cL_block 4 (some .int) [(0, 9, 12, 13), (0, 9, 15, 15)] :: ((wsL_block_r1 ++ wsL_block_r2) ++ wsX30 ++ wsX00 ++ (vx_atS RX3 57 "java/lang/IllegalStateException" ["java/lang/RuntimeException", "java/lang/Exception"]).filter goodWord ++ (vx_atS RX3 70 "java/lang/IllegalArgumentException" ["java/lang/RuntimeException", "java/lang/Exception"]).filter goodWord)
def wsL_wire : List Cond := .codeWith yL_wire cL_wire 6 (some .int) [(0, 12, 15, 13)] :: ([.classLink RL 13 "java/lang/IllegalArgumentException", .methodLink RL 17 yX3_wire, .instanceMethod yX3_wire, .selects RX3 yX3_wire yX3_wire, .initialized RX3, .code yX3_wire cX3_wire 6 (some .int), .classLink RX3 66 "java/lang/IllegalArgumentException", .initialized "java/lang/IllegalArgumentException", .fieldLink RX3 71 "BlockPrograms$Block" "wires" "[I", .methodLink RX3 62 yX3_existing, .instanceMethod yX3_existing, .selects RX3 yX3_existing yX3_existing, .code yX3_existing cX3_existing 2 (some (.object "BlockPrograms$Block")), .fieldLink RX3 15 "BlockPrograms" "count" "I", .fieldLink RX3 11 "BlockPrograms" "blocks" "[LBlockPrograms$Block;"] ++ wsX00 ++ wsX30 ++ (vx_atS RX3 70 "java/lang/IllegalArgumentException" ["java/lang/RuntimeException", "java/lang/Exception"]).filter goodWord)
def wsL_numbers : List Cond := .codeWith yL_numbers cL_numbers 5 (some .int) [(0, 7, 10, 13)] :: ([.classLink RL 13 "java/lang/IllegalArgumentException", .methodLink RL 21 yX3_numbers, .instanceMethod yX3_numbers, .selects RX3 yX3_numbers yX3_numbers, .initialized RX3, .code yX3_numbers cX3_numbers 5 none, .fieldLink RX3 74 "BlockPrograms$Block" "p" "I", .fieldLink RX3 77 "BlockPrograms$Block" "q" "I", .methodLink RX3 62 yX3_existing, .instanceMethod yX3_existing, .selects RX3 yX3_existing yX3_existing, .code yX3_existing cX3_existing 2 (some (.object "BlockPrograms$Block")), .classLink RX3 66 "java/lang/IllegalArgumentException", .initialized "java/lang/IllegalArgumentException", .fieldLink RX3 15 "BlockPrograms" "count" "I", .fieldLink RX3 11 "BlockPrograms" "blocks" "[LBlockPrograms$Block;"] ++ wsX00 ++ wsX30 ++ (vx_atS RX3 70 "java/lang/IllegalArgumentException" ["java/lang/RuntimeException", "java/lang/Exception"]).filter goodWord)
def wsL_row : List Cond := .codeWith yL_row cL_row 6 (some .int) [(0, 12, 15, 13), (0, 12, 19, 15)] :: ([.classLink RL 13 "java/lang/IllegalArgumentException", .classLink RL 15 "java/lang/IllegalStateException", .methodLink RL 25 yX3_row, .instanceMethod yX3_row, .selects RX3 yX3_row yX3_row, .initialized RX3, .code yX3_row cX3_row 6 (some .int), .classLink RX3 66 "java/lang/IllegalArgumentException", .initialized "java/lang/IllegalArgumentException", .classLink RX3 53 "java/lang/IllegalStateException", .initialized "java/lang/IllegalStateException", .fieldLink RX3 86 "BlockPrograms$Block" "kind" "I", .fieldLink RX3 91 "BlockPrograms$Block" "places" "[I", .methodLink RX3 62 yX3_existing, .instanceMethod yX3_existing, .selects RX3 yX3_existing yX3_existing, .code yX3_existing cX3_existing 2 (some (.object "BlockPrograms$Block")), .fieldLink RX3 15 "BlockPrograms" "count" "I", .fieldLink RX3 11 "BlockPrograms" "blocks" "[LBlockPrograms$Block;", .methodLink RX3 80 yX3_isPlaceInRow, .static yX3_isPlaceInRow, .code yX3_isPlaceInRow cX3_isPlaceInRow 1 (some .boolean)] ++ wsX00 ++ wsX30 ++ (vx_atS RX3 70 "java/lang/IllegalArgumentException" ["java/lang/RuntimeException", "java/lang/Exception"]).filter goodWord ++ (vx_atS RX3 57 "java/lang/IllegalStateException" ["java/lang/RuntimeException", "java/lang/Exception"]).filter goodWord)
def wsL_safe : List Cond := .codeWith yL_safe cL_safe 5 (some .int) [(0, 10, 13, 13)] :: ([.classLink RL 13 "java/lang/IllegalArgumentException", .methodLink RL 28 yX3_safe, .instanceMethod yX3_safe, .selects RX3 yX3_safe yX3_safe, .initialized RX3, .code yX3_safe cX3_safe 5 (some .int), .fieldLink RX3 94 "BlockPrograms$Block" "safeValue" "I", .methodLink RX3 62 yX3_existing, .instanceMethod yX3_existing, .selects RX3 yX3_existing yX3_existing, .code yX3_existing cX3_existing 2 (some (.object "BlockPrograms$Block")), .classLink RX3 66 "java/lang/IllegalArgumentException", .initialized "java/lang/IllegalArgumentException", .fieldLink RX3 15 "BlockPrograms" "count" "I", .fieldLink RX3 11 "BlockPrograms" "blocks" "[LBlockPrograms$Block;"] ++ wsX00 ++ wsX30 ++ (vx_atS RX3 70 "java/lang/IllegalArgumentException" ["java/lang/RuntimeException", "java/lang/Exception"]).filter goodWord)
def wsL_point : List Cond := .codeWith yL_point cL_point 5 (some .int) [(0, 10, 13, 13)] :: ([.classLink RL 13 "java/lang/IllegalArgumentException", .methodLink RL 32 yX3_point, .instanceMethod yX3_point, .selects RX3 yX3_point yX3_point, .initialized RX3, .code yX3_point cX3_point 4 (some .int), .classLink RX3 66 "java/lang/IllegalArgumentException", .initialized "java/lang/IllegalArgumentException", .fieldLink RX3 19 "BlockPrograms" "points" "[I", .methodLink RX3 97 yX3_isPoint, .static yX3_isPoint, .code yX3_isPoint cX3_isPoint 1 (some .boolean)] ++ wsX30 ++ (vx_atS RX3 70 "java/lang/IllegalArgumentException" ["java/lang/RuntimeException", "java/lang/Exception"]).filter goodWord)
def wsL_hand : List Cond := .codeWith yL_hand cL_hand 6 (some .int) [(0, 19, 22, 13)] :: ([.classLink RL 13 "java/lang/IllegalArgumentException", .methodLink RL 35 yX3_hand, .instanceMethod yX3_hand, .selects RX3 yX3_hand yX3_hand, .initialized RX3, .code yX3_hand cX3_hand 6 (some .boolean), .fieldLink RX3 102 "BlockPrograms$Block" "inHand" "Z", .fieldLink RX3 106 "BlockPrograms$Block" "handValue" "I", .methodLink RX3 62 yX3_existing, .instanceMethod yX3_existing, .selects RX3 yX3_existing yX3_existing, .code yX3_existing cX3_existing 2 (some (.object "BlockPrograms$Block")), .classLink RX3 66 "java/lang/IllegalArgumentException", .initialized "java/lang/IllegalArgumentException", .fieldLink RX3 15 "BlockPrograms" "count" "I", .fieldLink RX3 11 "BlockPrograms" "blocks" "[LBlockPrograms$Block;"] ++ wsX00 ++ wsX30 ++ (vx_atS RX3 70 "java/lang/IllegalArgumentException" ["java/lang/RuntimeException", "java/lang/Exception"]).filter goodWord)
def wsL_at_r1 : List Cond := [Cond.classLink RL 13 "java/lang/IllegalArgumentException", Cond.methodLink RL 39 yX3_at, Cond.instanceMethod yX3_at, Cond.selects RX3 yX3_at yX3_at, Cond.initialized RX3, Cond.code yX3_at cX3_at 2 (some .int), Cond.classLink RX3 66 "java/lang/IllegalArgumentException", Cond.initialized "java/lang/IllegalArgumentException", Cond.fieldLink RX3 15 "BlockPrograms" "count" "I", Cond.fieldLink RX3 26 "BlockPrograms" "line" "[I", Cond.methodLink RX3 109 yX3_lineUp, Cond.instanceMethod yX3_lineUp, Cond.selects RX3 yX3_lineUp yX3_lineUp, Cond.code yX3_lineUp cX3_lineUp 4 (some .int), Cond.fieldLink RX3 29 "BlockPrograms" "placed" "[Z", Cond.methodLink RX3 171 yX3_leastThatMayCome, Cond.instanceMethod yX3_leastThatMayCome, Cond.selects RX3 yX3_leastThatMayCome yX3_leastThatMayCome, Cond.code yX3_leastThatMayCome cX3_leastThatMayCome 2 (some .int), Cond.fieldLink RX3 11 "BlockPrograms" "blocks" "[LBlockPrograms$Block;", Cond.methodLink RX3 174 yX3_mayCome, Cond.instanceMethod yX3_mayCome, Cond.selects RX3 yX3_mayCome yX3_mayCome, Cond.code yX3_mayCome cX3_mayCome 4 (some .boolean)]
def wsL_at_r2 : List Cond := [Cond.fieldLink RX3 86 "BlockPrograms$Block" "kind" "I", Cond.fieldLink RX3 71 "BlockPrograms$Block" "wires" "[I", Cond.methodLink RX3 178 yX0_namedInputs, Cond.instanceMethod yX0_namedInputs, Cond.selects RX0 yX0_namedInputs yX0_namedInputs, Cond.initialized RX0, Cond.code yX0_namedInputs cX0_namedInputs 1 (some .int), Cond.fieldLink RX0 44 "BlockPrograms$Block" "kind" "I"]
def wsL_at : List Cond := .codeWith yL_at cL_at 4 (some .int) [(0, 9, 12, 13)] :: ((wsL_at_r1 ++ wsL_at_r2) ++ wsX30 ++ wsX00 ++ (vx_atS RX3 70 "java/lang/IllegalArgumentException" ["java/lang/RuntimeException", "java/lang/Exception"]).filter goodWord)
def wsL_run_r1 : List Cond := [Cond.classLink RL 13 "java/lang/IllegalArgumentException", Cond.classLink RL 15 "java/lang/IllegalStateException", Cond.methodLink RL 42 yX3_run, Cond.instanceMethod yX3_run, Cond.selects RX3 yX3_run yX3_run, Cond.initialized RX3, Cond.code yX3_run cX3_run 3 (some .int), Cond.classLink RX3 66 "java/lang/IllegalArgumentException", Cond.initialized "java/lang/IllegalArgumentException", Cond.classLink RX3 53 "java/lang/IllegalStateException", Cond.initialized "java/lang/IllegalStateException", Cond.fieldLink RX3 15 "BlockPrograms" "count" "I", Cond.fieldLink RX3 23 "BlockPrograms" "time" "I", Cond.methodLink RX3 109 yX3_lineUp, Cond.instanceMethod yX3_lineUp, Cond.selects RX3 yX3_lineUp yX3_lineUp, Cond.code yX3_lineUp cX3_lineUp 4 (some .int), Cond.fieldLink RX3 29 "BlockPrograms" "placed" "[Z", Cond.fieldLink RX3 26 "BlockPrograms" "line" "[I", Cond.methodLink RX3 171 yX3_leastThatMayCome, Cond.instanceMethod yX3_leastThatMayCome, Cond.selects RX3 yX3_leastThatMayCome yX3_leastThatMayCome, Cond.code yX3_leastThatMayCome cX3_leastThatMayCome 2 (some .int), Cond.fieldLink RX3 11 "BlockPrograms" "blocks" "[LBlockPrograms$Block;"]
def wsL_run_r2 : List Cond := [Cond.methodLink RX3 174 yX3_mayCome, Cond.instanceMethod yX3_mayCome, Cond.selects RX3 yX3_mayCome yX3_mayCome, Cond.code yX3_mayCome cX3_mayCome 4 (some .boolean), Cond.fieldLink RX3 86 "BlockPrograms$Block" "kind" "I", Cond.fieldLink RX3 71 "BlockPrograms$Block" "wires" "[I", Cond.methodLink RX3 178 yX0_namedInputs, Cond.instanceMethod yX0_namedInputs, Cond.selects RX0 yX0_namedInputs yX0_namedInputs, Cond.initialized RX0, Cond.code yX0_namedInputs cX0_namedInputs 1 (some .int), Cond.fieldLink RX0 44 "BlockPrograms$Block" "kind" "I", Cond.methodLink RX3 121 yX3_tick, Cond.instanceMethod yX3_tick, Cond.selects RX3 yX3_tick yX3_tick, Cond.code yX3_tick cX3_tick 2 none, Cond.methodLink RX3 181 yX3_reckon, Cond.instanceMethod yX3_reckon, Cond.selects RX3 yX3_reckon yX3_reckon, Cond.code yX3_reckon cX3_reckon 7 none, Cond.fieldLink RX3 74 "BlockPrograms$Block" "p" "I", Cond.fieldLink RX3 19 "BlockPrograms" "points" "[I", Cond.methodLink RX3 187 yX3_outputOf, Cond.instanceMethod yX3_outputOf]
def wsL_run_r3 : List Cond := [Cond.selects RX3 yX3_outputOf yX3_outputOf, Cond.code yX3_outputOf cX3_outputOf 2 (some .int), Cond.fieldLink RX3 124 "BlockPrograms$Block" "output" "I", Cond.methodLink RX3 191 yX3_failureOf, Cond.static yX3_failureOf, Cond.code yX3_failureOf cX3_failureOf 3 (some .int), Cond.methodLink RX3 214 yX0_lacksWire, Cond.instanceMethod yX0_lacksWire, Cond.selects RX0 yX0_lacksWire yX0_lacksWire, Cond.code yX0_lacksWire cX0_lacksWire 2 (some .boolean), Cond.fieldLink RX0 37 "BlockPrograms$Block" "wires" "[I", Cond.methodLink RX0 50 yX0_namedInputs, Cond.methodLink RX3 97 yX3_isPoint, Cond.static yX3_isPoint, Cond.code yX3_isPoint cX3_isPoint 1 (some .boolean), Cond.methodLink RX3 80 yX3_isPlaceInRow, Cond.static yX3_isPlaceInRow, Cond.code yX3_isPlaceInRow cX3_isPlaceInRow 1 (some .boolean), Cond.methodLink RX3 195 yX3_fail, Cond.instanceMethod yX3_fail, Cond.selects RX3 yX3_fail yX3_fail, Cond.code yX3_fail cX3_fail 3 none, Cond.fieldLink RX3 36 "BlockPrograms" "failures" "LBlockPrograms$Failures;", Cond.fieldLink RX3 94 "BlockPrograms$Block" "safeValue" "I"]
def wsL_run_r4 : List Cond := [Cond.methodLink RX3 210 yX1_note, Cond.instanceMethod yX1_note, Cond.selects RX1 yX1_note yX1_note, Cond.initialized RX1, Cond.code yX1_note cX1_note 4 none, Cond.fieldLink RX1 15 "BlockPrograms$Failures" "ticks" "[I", Cond.fieldLink RX1 24 "BlockPrograms$Failures" "next" "I", Cond.fieldLink RX1 18 "BlockPrograms$Failures" "numbers" "[I", Cond.fieldLink RX1 21 "BlockPrograms$Failures" "kinds" "[I", Cond.fieldLink RX1 9 "BlockPrograms$Failures" "totals" "[I", Cond.methodLink RX3 199 yX0_say, Cond.instanceMethod yX0_say, Cond.selects RX0 yX0_say yX0_say, Cond.code yX0_say cX0_say 2 none, Cond.fieldLink RX0 30 "BlockPrograms$Block" "inHand" "Z", Cond.fieldLink RX0 34 "BlockPrograms$Block" "handValue" "I", Cond.fieldLink RX0 21 "BlockPrograms$Block" "output" "I", Cond.methodLink RX3 202 yX3_combined, Cond.static yX3_combined, Cond.code yX3_combined cX3_combined 4 (some .int), Cond.methodLink RX3 221 Lib.Math.min.name, Cond.static Lib.Math.min.name, Cond.initialized "java/lang/Math", Cond.code Lib.Math.min.name Lib.Math.min.code 2 (some .int)]
def wsL_run_r5 : List Cond := [Cond.methodLink RX3 226 Lib.Math.max.name, Cond.static Lib.Math.max.name, Cond.code Lib.Math.max.name Lib.Math.max.code 2 (some .int), Cond.methodLink RX3 218 yX3_quotient, Cond.static yX3_quotient, Cond.code yX3_quotient cX3_quotient 2 (some .int), Cond.methodLink RX3 229 yX3_asNumber, Cond.static yX3_asNumber, Cond.code yX3_asNumber cX3_asNumber 1 (some .int), Cond.methodLink RX3 206 yX0_ownReckoning, Cond.instanceMethod yX0_ownReckoning, Cond.selects RX0 yX0_ownReckoning yX0_ownReckoning, Cond.code yX0_ownReckoning cX0_ownReckoning 4 (some .int), Cond.fieldLink RX0 9 "BlockPrograms$Block" "p" "I", Cond.fieldLink RX0 41 "BlockPrograms$Block" "places" "[I", Cond.fieldLink RX0 24 "BlockPrograms$Block" "first" "I", Cond.fieldLink RX0 15 "BlockPrograms$Block" "q" "I", Cond.methodLink RX0 79 Lib.Math.min.name, Cond.methodLink RX0 58 yX0_ramped, Cond.instanceMethod yX0_ramped, Cond.selects RX0 yX0_ramped yX0_ramped, Cond.code yX0_ramped cX0_ramped 5 (some .int), Cond.methodLink RX0 84 Lib.Math.max.name, Cond.methodLink RX0 87 Lib.MathLoose.abs_long.x]
def wsL_run_r6 : List Cond := [Cond.static Lib.MathLoose.abs_long.x, Cond.code Lib.MathLoose.abs_long.x Lib.MathLoose.abs_long.code 2 (some .long), Cond.methodLink RX0 62 yX0_counted, Cond.instanceMethod yX0_counted, Cond.selects RX0 yX0_counted yX0_counted, Cond.code yX0_counted cX0_counted 3 (some .int), Cond.fieldLink RX0 27 "BlockPrograms$Block" "second" "I", Cond.methodLink RX0 66 yX0_latched, Cond.instanceMethod yX0_latched, Cond.selects RX0 yX0_latched yX0_latched, Cond.code yX0_latched cX0_latched 3 (some .int), Cond.methodLink RX0 69 yX0_isClockOn, Cond.instanceMethod yX0_isClockOn, Cond.selects RX0 yX0_isClockOn yX0_isClockOn, Cond.code yX0_isClockOn cX0_isClockOn 2 (some .boolean), Cond.methodLink RX0 76 yX0_pulsed, Cond.instanceMethod yX0_pulsed, Cond.selects RX0 yX0_pulsed yX0_pulsed, Cond.code yX0_pulsed cX0_pulsed 2 (some .int), Cond.methodLink RX3 184 yX3_takeUp, Cond.instanceMethod yX3_takeUp, Cond.selects RX3 yX3_takeUp yX3_takeUp, Cond.code yX3_takeUp cX3_takeUp 3 none, Cond.fieldLink RX3 129 "BlockPrograms$Block" "first" "I"]
def wsL_run : List Cond := .codeWith yL_run cL_run 4 (some .int) [(0, 9, 12, 13), (0, 9, 15, 15)] :: ((wsL_run_r1 ++ (wsL_run_r2 ++ (wsL_run_r3 ++ (wsL_run_r4 ++ (wsL_run_r5 ++ wsL_run_r6))))) ++ wsX30 ++ wsX00 ++ wsX10 ++ (vx_atS RX3 70 "java/lang/IllegalArgumentException" ["java/lang/RuntimeException", "java/lang/Exception"]).filter goodWord ++ (vx_atS RX3 57 "java/lang/IllegalStateException" ["java/lang/RuntimeException", "java/lang/Exception"]).filter goodWord)
def wsL_out : List Cond := .codeWith yL_out cL_out 4 (some .int) [(0, 9, 12, 13)] :: ([.classLink RL 13 "java/lang/IllegalArgumentException", .methodLink RL 45 yX3_out, .instanceMethod yX3_out, .selects RX3 yX3_out yX3_out, .initialized RX3, .code yX3_out cX3_out 2 (some .int), .fieldLink RX3 124 "BlockPrograms$Block" "output" "I", .methodLink RX3 62 yX3_existing, .instanceMethod yX3_existing, .selects RX3 yX3_existing yX3_existing, .code yX3_existing cX3_existing 2 (some (.object "BlockPrograms$Block")), .classLink RX3 66 "java/lang/IllegalArgumentException", .initialized "java/lang/IllegalArgumentException", .fieldLink RX3 15 "BlockPrograms" "count" "I", .fieldLink RX3 11 "BlockPrograms" "blocks" "[LBlockPrograms$Block;"] ++ wsX00 ++ wsX30 ++ (vx_atS RX3 70 "java/lang/IllegalArgumentException" ["java/lang/RuntimeException", "java/lang/Exception"]).filter goodWord)
def wsL_state : List Cond := .codeWith yL_state cL_state 5 (some .int) [(0, 10, 13, 13)] :: ([.classLink RL 13 "java/lang/IllegalArgumentException", .methodLink RL 48 yX3_state, .instanceMethod yX3_state, .selects RX3 yX3_state yX3_state, .initialized RX3, .code yX3_state cX3_state 4 (some .int), .classLink RX3 66 "java/lang/IllegalArgumentException", .initialized "java/lang/IllegalArgumentException", .fieldLink RX3 129 "BlockPrograms$Block" "first" "I", .fieldLink RX3 132 "BlockPrograms$Block" "second" "I", .methodLink RX3 62 yX3_existing, .instanceMethod yX3_existing, .selects RX3 yX3_existing yX3_existing, .code yX3_existing cX3_existing 2 (some (.object "BlockPrograms$Block")), .fieldLink RX3 15 "BlockPrograms" "count" "I", .fieldLink RX3 11 "BlockPrograms" "blocks" "[LBlockPrograms$Block;"] ++ wsX00 ++ wsX30 ++ (vx_atS RX3 70 "java/lang/IllegalArgumentException" ["java/lang/RuntimeException", "java/lang/Exception"]).filter goodWord)
def wsL_failed : List Cond := .codeWith yL_failed cL_failed 4 (some .int) [(0, 9, 12, 13)] :: ([.classLink RL 13 "java/lang/IllegalArgumentException", .methodLink RL 51 yX3_failed, .instanceMethod yX3_failed, .selects RX3 yX3_failed yX3_failed, .initialized RX3, .code yX3_failed cX3_failed 2 (some .int), .classLink RX3 66 "java/lang/IllegalArgumentException", .initialized "java/lang/IllegalArgumentException", .fieldLink RX3 36 "BlockPrograms" "failures" "LBlockPrograms$Failures;", .fieldLink RX3 137 "BlockPrograms$Failures" "totals" "[I"] ++ wsX30 ++ wsX10 ++ (vx_atS RX3 70 "java/lang/IllegalArgumentException" ["java/lang/RuntimeException", "java/lang/Exception"]).filter goodWord)
def wsL_failure_r1 : List Cond := [Cond.classLink RL 13 "java/lang/IllegalArgumentException", Cond.methodLink RL 54 yX3_failure, Cond.instanceMethod yX3_failure, Cond.selects RX3 yX3_failure yX3_failure, Cond.initialized RX3, Cond.code yX3_failure cX3_failure 3 (some .int), Cond.classLink RX3 66 "java/lang/IllegalArgumentException", Cond.initialized "java/lang/IllegalArgumentException", Cond.fieldLink RX3 36 "BlockPrograms" "failures" "LBlockPrograms$Failures;", Cond.methodLink RX3 140 yX1_keptCount, Cond.instanceMethod yX1_keptCount, Cond.selects RX1 yX1_keptCount yX1_keptCount, Cond.initialized RX1, Cond.code yX1_keptCount cX1_keptCount 1 (some .int), Cond.fieldLink RX1 9 "BlockPrograms$Failures" "totals" "[I", Cond.methodLink RX1 28 Lib.Math.min.name, Cond.static Lib.Math.min.name, Cond.initialized "java/lang/Math", Cond.code Lib.Math.min.name Lib.Math.min.code 2 (some .int), Cond.methodLink RX3 147 yX1_fact, Cond.instanceMethod yX1_fact, Cond.selects RX1 yX1_fact yX1_fact, Cond.code yX1_fact cX1_fact 4 (some .int), Cond.fieldLink RX1 24 "BlockPrograms$Failures" "next" "I"]
def wsL_failure_r2 : List Cond := [Cond.fieldLink RX1 15 "BlockPrograms$Failures" "ticks" "[I", Cond.fieldLink RX1 18 "BlockPrograms$Failures" "numbers" "[I", Cond.fieldLink RX1 21 "BlockPrograms$Failures" "kinds" "[I", Cond.methodLink RX1 34 yJ9_floorMod_7cf53, Cond.static yJ9_floorMod_7cf53, Cond.initialized RJ9, Cond.code yJ9_floorMod_7cf53 cJ9_floorMod_7cf53 3 (some .int)]
def wsL_failure : List Cond := .codeWith yL_failure cL_failure 5 (some .int) [(0, 10, 13, 13)] :: ((wsL_failure_r1 ++ wsL_failure_r2) ++ wsX30 ++ wsX10 ++ (vx_atS RX3 70 "java/lang/IllegalArgumentException" ["java/lang/RuntimeException", "java/lang/Exception"]).filter goodWord)
def wsL_save_r1 : List Cond := [Cond.classLink RL 15 "java/lang/IllegalStateException", Cond.methodLink RL 57 yX3_save, Cond.instanceMethod yX3_save, Cond.selects RX3 yX3_save yX3_save, Cond.initialized RX3, Cond.code yX3_save cX3_save 3 (some .int), Cond.classLink RX3 53 "java/lang/IllegalStateException", Cond.initialized "java/lang/IllegalStateException", Cond.fieldLink RX3 46 "BlockPrograms" "savingCount" "I", Cond.classLink RX3 40 RX2, Cond.instantiable RX2 5, Cond.initialized RX2, Cond.fieldLink RX3 15 "BlockPrograms" "count" "I", Cond.fieldLink RX3 11 "BlockPrograms" "blocks" "[LBlockPrograms$Block;", Cond.fieldLink RX3 42 "BlockPrograms" "savings" "[LBlockPrograms$Saving;", Cond.instanceMethod yX2_init, Cond.code yX2_init cX2_init 1 none, Cond.methodLink RX2 3 objectInit, Cond.instanceMethod objectInit, Cond.code objectInit ⟨#[0xb1]⟩ 1 none, Cond.fieldLink RX2 9 "BlockPrograms$Saving" "count" "I", Cond.arrayClass .int, Cond.fieldLink RX2 15 "BlockPrograms$Saving" "kinds" "[I", Cond.fieldLink RX2 19 "BlockPrograms$Saving" "outputs" "[I"]
def wsL_save_r2 : List Cond := [Cond.fieldLink RX2 22 "BlockPrograms$Saving" "firsts" "[I", Cond.fieldLink RX2 25 "BlockPrograms$Saving" "seconds" "[I", Cond.methodLink RX3 154 yX2_keep, Cond.instanceMethod yX2_keep, Cond.selects RX2 yX2_keep yX2_keep, Cond.code yX2_keep cX2_keep 2 none, Cond.fieldLink RX2 28 "BlockPrograms$Block" "kind" "I", Cond.fieldLink RX2 33 "BlockPrograms$Block" "output" "I", Cond.fieldLink RX2 36 "BlockPrograms$Block" "first" "I", Cond.fieldLink RX2 39 "BlockPrograms$Block" "second" "I"]
def wsL_save : List Cond := .codeWith yL_save cL_save 3 (some .int) [(0, 8, 11, 15)] :: ((wsL_save_r1 ++ wsL_save_r2) ++ wsX30 ++ wsX20 ++ wsX00 ++ (vx_atS RX3 57 "java/lang/IllegalStateException" ["java/lang/RuntimeException", "java/lang/Exception"]).filter goodWord)
def wsL_back_r1 : List Cond := [Cond.classLink RL 13 "java/lang/IllegalArgumentException", Cond.methodLink RL 61 yX3_back, Cond.instanceMethod yX3_back, Cond.selects RX3 yX3_back yX3_back, Cond.initialized RX3, Cond.code yX3_back cX3_back 5 (some .int), Cond.classLink RX3 66 "java/lang/IllegalArgumentException", Cond.initialized "java/lang/IllegalArgumentException", Cond.fieldLink RX3 46 "BlockPrograms" "savingCount" "I", Cond.fieldLink RX3 42 "BlockPrograms" "savings" "[LBlockPrograms$Saving;", Cond.fieldLink RX3 15 "BlockPrograms" "count" "I", Cond.fieldLink RX3 11 "BlockPrograms" "blocks" "[LBlockPrograms$Block;", Cond.methodLink RX3 160 yX2_restore, Cond.instanceMethod yX2_restore, Cond.selects RX2 yX2_restore yX2_restore, Cond.initialized RX2, Cond.code yX2_restore cX2_restore 3 (some .boolean), Cond.fieldLink RX2 9 "BlockPrograms$Saving" "count" "I", Cond.fieldLink RX2 15 "BlockPrograms$Saving" "kinds" "[I", Cond.fieldLink RX2 28 "BlockPrograms$Block" "kind" "I", Cond.fieldLink RX2 19 "BlockPrograms$Saving" "outputs" "[I", Cond.fieldLink RX2 33 "BlockPrograms$Block" "output" "I", Cond.fieldLink RX2 22 "BlockPrograms$Saving" "firsts" "[I", Cond.fieldLink RX2 36 "BlockPrograms$Block" "first" "I"]
def wsL_back_r2 : List Cond := [Cond.fieldLink RX2 25 "BlockPrograms$Saving" "seconds" "[I", Cond.fieldLink RX2 39 "BlockPrograms$Block" "second" "I"]
def wsL_back : List Cond := .codeWith yL_back cL_back 4 (some .int) [(0, 9, 12, 13)] :: ((wsL_back_r1 ++ wsL_back_r2) ++ wsX30 ++ wsX20 ++ wsX00 ++ (vx_atS RX3 70 "java/lang/IllegalArgumentException" ["java/lang/RuntimeException", "java/lang/Exception"]).filter goodWord)
def wsL_become : List Cond := .codeWith yL_become cL_become 5 (some .int) [(0, 10, 13, 13)] :: ([.classLink RL 13 "java/lang/IllegalArgumentException", .methodLink RL 64 yX3_become, .instanceMethod yX3_become, .selects RX3 yX3_become yX3_become, .initialized RX3, .code yX3_become cX3_become 5 (some .int), .fieldLink RX3 86 "BlockPrograms$Block" "kind" "I", .fieldLink RX3 124 "BlockPrograms$Block" "output" "I", .fieldLink RX3 129 "BlockPrograms$Block" "first" "I", .fieldLink RX3 132 "BlockPrograms$Block" "second" "I", .methodLink RX3 62 yX3_existing, .instanceMethod yX3_existing, .selects RX3 yX3_existing yX3_existing, .code yX3_existing cX3_existing 2 (some (.object "BlockPrograms$Block")), .classLink RX3 66 "java/lang/IllegalArgumentException", .initialized "java/lang/IllegalArgumentException", .fieldLink RX3 15 "BlockPrograms" "count" "I", .fieldLink RX3 11 "BlockPrograms" "blocks" "[LBlockPrograms$Block;", .methodLink RX3 49 yX3_requireKind, .static yX3_requireKind, .code yX3_requireKind cX3_requireKind 1 none, .fieldLink RX3 164 "BlockPrograms" "NAMED_INPUTS" "[I"] ++ wsX00 ++ wsX30 ++ (vx_atS RX3 70 "java/lang/IllegalArgumentException" ["java/lang/RuntimeException", "java/lang/Exception"]).filter goodWord)
def wsL_law0_r1 : List Cond := [Cond.classLink RL 8 RX3, Cond.instantiable RX3 9, Cond.initialized RX3, Cond.classLink RL 68 RX4, Cond.instantiable RX4 25, Cond.initialized RX4, Cond.arrayClass .long, Cond.methodLink RL 67 yX3_init, Cond.instanceMethod yX3_init, Cond.code yX3_init cX3_init 1 none, Cond.methodLink RX3 1 objectInit, Cond.instanceMethod objectInit, Cond.code objectInit ⟨#[0xb1]⟩ 1 none, Cond.classLink RX3 9 RX0, Cond.fieldLink RX3 11 "BlockPrograms" "blocks" "[LBlockPrograms$Block;", Cond.fieldLink RX3 15 "BlockPrograms" "count" "I", Cond.arrayClass .int, Cond.fieldLink RX3 19 "BlockPrograms" "points" "[I", Cond.fieldLink RX3 23 "BlockPrograms" "time" "I", Cond.fieldLink RX3 26 "BlockPrograms" "line" "[I", Cond.arrayClass .boolean, Cond.fieldLink RX3 29 "BlockPrograms" "placed" "[Z", Cond.classLink RX3 33 RX1, Cond.instantiable RX1 5]
def wsL_law0_r2 : List Cond := [Cond.initialized RX1, Cond.fieldLink RX3 36 "BlockPrograms" "failures" "LBlockPrograms$Failures;", Cond.classLink RX3 40 RX2, Cond.fieldLink RX3 42 "BlockPrograms" "savings" "[LBlockPrograms$Saving;", Cond.fieldLink RX3 46 "BlockPrograms" "savingCount" "I", Cond.instanceMethod yX1_init, Cond.code yX1_init cX1_init 1 none, Cond.methodLink RX1 3 objectInit, Cond.fieldLink RX1 9 "BlockPrograms$Failures" "totals" "[I", Cond.fieldLink RX1 15 "BlockPrograms$Failures" "ticks" "[I", Cond.fieldLink RX1 18 "BlockPrograms$Failures" "numbers" "[I", Cond.fieldLink RX1 21 "BlockPrograms$Failures" "kinds" "[I", Cond.fieldLink RX1 24 "BlockPrograms$Failures" "next" "I", Cond.methodLink RL 70 yX4_init, Cond.instanceMethod yX4_init, Cond.code yX4_init cX4_init 1 none, Cond.methodLink RX4 1 objectInit, Cond.fieldLink RX4 7 "BlockProgramsModel" "kinds" "[I", Cond.fieldLink RX4 13 "BlockProgramsModel" "ps" "[I", Cond.fieldLink RX4 16 "BlockProgramsModel" "qs" "[I", Cond.fieldLink RX4 19 "BlockProgramsModel" "safes" "[I", Cond.fieldLink RX4 22 "BlockProgramsModel" "wires" "[I", Cond.fieldLink RX4 25 "BlockProgramsModel" "outs" "[I", Cond.fieldLink RX4 28 "BlockProgramsModel" "firsts" "[I"]
def wsL_law0_r3 : List Cond := [Cond.fieldLink RX4 31 "BlockProgramsModel" "seconds" "[I", Cond.fieldLink RX4 34 "BlockProgramsModel" "rows" "[I", Cond.fieldLink RX4 37 "BlockProgramsModel" "inHand" "[Z", Cond.fieldLink RX4 41 "BlockProgramsModel" "hands" "[I", Cond.fieldLink RX4 44 "BlockProgramsModel" "points" "[I", Cond.fieldLink RX4 47 "BlockProgramsModel" "order" "[I", Cond.fieldLink RX4 50 "BlockProgramsModel" "isIn" "[Z", Cond.fieldLink RX4 53 "BlockProgramsModel" "failures" "[I", Cond.fieldLink RX4 56 "BlockProgramsModel" "kept" "[I", Cond.fieldLink RX4 59 "BlockProgramsModel" "savedBlocks" "[I", Cond.fieldLink RX4 62 "BlockProgramsModel" "saved" "[I", Cond.methodLink RL 71 yL_block, Cond.static yL_block, Cond.initialized RL, Cond.codeWith yL_block cL_block 4 (some .int) [(0, 9, 12, 13), (0, 9, 15, 15)], Cond.classLink RL 13 "java/lang/IllegalArgumentException", Cond.classLink RL 15 "java/lang/IllegalStateException", Cond.methodLink RL 7 yX3_block, Cond.instanceMethod yX3_block, Cond.selects RX3 yX3_block yX3_block, Cond.code yX3_block cX3_block 2 (some .int), Cond.classLink RX3 53 "java/lang/IllegalStateException", Cond.initialized "java/lang/IllegalStateException", Cond.instantiable RX0 11]
def wsL_law0_r4 : List Cond := [Cond.initialized RX0, Cond.methodLink RX3 49 yX3_requireKind, Cond.static yX3_requireKind, Cond.code yX3_requireKind cX3_requireKind 1 none, Cond.classLink RX3 66 "java/lang/IllegalArgumentException", Cond.initialized "java/lang/IllegalArgumentException", Cond.fieldLink RX3 164 "BlockPrograms" "NAMED_INPUTS" "[I", Cond.methodLink RX3 60 yX0_init, Cond.instanceMethod yX0_init, Cond.code yX0_init cX0_init 2 none, Cond.methodLink RX0 3 objectInit, Cond.fieldLink RX0 9 "BlockPrograms$Block" "p" "I", Cond.fieldLink RX0 15 "BlockPrograms$Block" "q" "I", Cond.fieldLink RX0 18 "BlockPrograms$Block" "safeValue" "I", Cond.fieldLink RX0 21 "BlockPrograms$Block" "output" "I", Cond.fieldLink RX0 24 "BlockPrograms$Block" "first" "I", Cond.fieldLink RX0 27 "BlockPrograms$Block" "second" "I", Cond.fieldLink RX0 30 "BlockPrograms$Block" "inHand" "Z", Cond.fieldLink RX0 34 "BlockPrograms$Block" "handValue" "I", Cond.fieldLink RX0 37 "BlockPrograms$Block" "wires" "[I", Cond.fieldLink RX0 41 "BlockPrograms$Block" "places" "[I", Cond.fieldLink RX0 44 "BlockPrograms$Block" "kind" "I", Cond.methodLink RL 76 yX4_block, Cond.instanceMethod yX4_block]
def wsL_law0_r5 : List Cond := [Cond.selects RX4 yX4_block yX4_block, Cond.code yX4_block cX4_block 3 (some .int), Cond.fieldLink RX4 69 "BlockProgramsModel" "blocks" "I", Cond.fieldLink RX4 65 "BlockProgramsModel" "code" "I", Cond.methodLink RX4 72 yX4_in, Cond.static yX4_in, Cond.code yX4_in cX4_in 3 (some .boolean), Cond.methodLink RL 77 yX4_thrown, Cond.instanceMethod yX4_thrown, Cond.selects RX4 yX4_thrown yX4_thrown, Cond.code yX4_thrown cX4_thrown 1 (some .int), Cond.methodLink RL 80 yL_wire, Cond.static yL_wire, Cond.codeWith yL_wire cL_wire 6 (some .int) [(0, 12, 15, 13)], Cond.methodLink RL 17 yX3_wire, Cond.instanceMethod yX3_wire, Cond.selects RX3 yX3_wire yX3_wire, Cond.code yX3_wire cX3_wire 6 (some .int), Cond.fieldLink RX3 71 "BlockPrograms$Block" "wires" "[I", Cond.methodLink RX3 62 yX3_existing, Cond.instanceMethod yX3_existing, Cond.selects RX3 yX3_existing yX3_existing, Cond.code yX3_existing cX3_existing 2 (some (.object "BlockPrograms$Block")), Cond.methodLink RL 83 yX4_wire]
def wsL_law0_r6 : List Cond := [Cond.instanceMethod yX4_wire, Cond.selects RX4 yX4_wire yX4_wire, Cond.code yX4_wire cX4_wire 5 (some .int), Cond.methodLink RX4 76 yX4_isBlock, Cond.instanceMethod yX4_isBlock, Cond.selects RX4 yX4_isBlock yX4_isBlock, Cond.code yX4_isBlock cX4_isBlock 2 (some .boolean), Cond.methodLink RL 84 yL_numbers, Cond.static yL_numbers, Cond.codeWith yL_numbers cL_numbers 5 (some .int) [(0, 7, 10, 13)], Cond.methodLink RL 21 yX3_numbers, Cond.instanceMethod yX3_numbers, Cond.selects RX3 yX3_numbers yX3_numbers, Cond.code yX3_numbers cX3_numbers 5 none, Cond.fieldLink RX3 74 "BlockPrograms$Block" "p" "I", Cond.fieldLink RX3 77 "BlockPrograms$Block" "q" "I", Cond.methodLink RL 87 yX4_numbers, Cond.instanceMethod yX4_numbers, Cond.selects RX4 yX4_numbers yX4_numbers, Cond.code yX4_numbers cX4_numbers 4 none, Cond.methodLink RL 88 yL_row, Cond.static yL_row, Cond.codeWith yL_row cL_row 6 (some .int) [(0, 12, 15, 13), (0, 12, 19, 15)], Cond.methodLink RL 25 yX3_row]
def wsL_law0_r7 : List Cond := [Cond.instanceMethod yX3_row, Cond.selects RX3 yX3_row yX3_row, Cond.code yX3_row cX3_row 6 (some .int), Cond.fieldLink RX3 86 "BlockPrograms$Block" "kind" "I", Cond.fieldLink RX3 91 "BlockPrograms$Block" "places" "[I", Cond.methodLink RX3 80 yX3_isPlaceInRow, Cond.static yX3_isPlaceInRow, Cond.code yX3_isPlaceInRow cX3_isPlaceInRow 1 (some .boolean), Cond.methodLink RL 90 yX4_row, Cond.instanceMethod yX4_row, Cond.selects RX4 yX4_row yX4_row, Cond.code yX4_row cX4_row 5 (some .int), Cond.methodLink RL 91 yL_safe, Cond.static yL_safe, Cond.codeWith yL_safe cL_safe 5 (some .int) [(0, 10, 13, 13)], Cond.methodLink RL 28 yX3_safe, Cond.instanceMethod yX3_safe, Cond.selects RX3 yX3_safe yX3_safe, Cond.code yX3_safe cX3_safe 5 (some .int), Cond.fieldLink RX3 94 "BlockPrograms$Block" "safeValue" "I", Cond.methodLink RL 94 yX4_safe, Cond.instanceMethod yX4_safe, Cond.selects RX4 yX4_safe yX4_safe, Cond.code yX4_safe cX4_safe 4 (some .int)]
def wsL_law0_r8 : List Cond := [Cond.methodLink RL 95 yL_point, Cond.static yL_point, Cond.codeWith yL_point cL_point 5 (some .int) [(0, 10, 13, 13)], Cond.methodLink RL 32 yX3_point, Cond.instanceMethod yX3_point, Cond.selects RX3 yX3_point yX3_point, Cond.code yX3_point cX3_point 4 (some .int), Cond.methodLink RX3 97 yX3_isPoint, Cond.static yX3_isPoint, Cond.code yX3_isPoint cX3_isPoint 1 (some .boolean), Cond.methodLink RL 97 yX4_point, Cond.instanceMethod yX4_point, Cond.selects RX4 yX4_point yX4_point, Cond.code yX4_point cX4_point 4 (some .int), Cond.methodLink RL 98 yL_hand, Cond.static yL_hand, Cond.codeWith yL_hand cL_hand 6 (some .int) [(0, 19, 22, 13)], Cond.methodLink RL 35 yX3_hand, Cond.instanceMethod yX3_hand, Cond.selects RX3 yX3_hand yX3_hand, Cond.code yX3_hand cX3_hand 6 (some .boolean), Cond.fieldLink RX3 102 "BlockPrograms$Block" "inHand" "Z", Cond.fieldLink RX3 106 "BlockPrograms$Block" "handValue" "I", Cond.methodLink RL 101 yX4_hand]
def wsL_law0_r9 : List Cond := [Cond.instanceMethod yX4_hand, Cond.selects RX4 yX4_hand yX4_hand, Cond.code yX4_hand cX4_hand 5 (some .boolean), Cond.methodLink RL 102 yX3_order, Cond.instanceMethod yX3_order, Cond.selects RX3 yX3_order yX3_order, Cond.code yX3_order cX3_order 1 (some .int), Cond.methodLink RX3 109 yX3_lineUp, Cond.instanceMethod yX3_lineUp, Cond.selects RX3 yX3_lineUp yX3_lineUp, Cond.code yX3_lineUp cX3_lineUp 4 (some .int), Cond.methodLink RX3 171 yX3_leastThatMayCome, Cond.instanceMethod yX3_leastThatMayCome, Cond.selects RX3 yX3_leastThatMayCome yX3_leastThatMayCome, Cond.code yX3_leastThatMayCome cX3_leastThatMayCome 2 (some .int), Cond.methodLink RX3 174 yX3_mayCome, Cond.instanceMethod yX3_mayCome, Cond.selects RX3 yX3_mayCome yX3_mayCome, Cond.code yX3_mayCome cX3_mayCome 4 (some .boolean), Cond.methodLink RX3 178 yX0_namedInputs, Cond.instanceMethod yX0_namedInputs, Cond.selects RX0 yX0_namedInputs yX0_namedInputs, Cond.code yX0_namedInputs cX0_namedInputs 1 (some .int), Cond.methodLink RL 105 yX4_order]
def wsL_law0_r10 : List Cond := [Cond.instanceMethod yX4_order, Cond.selects RX4 yX4_order yX4_order, Cond.code yX4_order cX4_order 1 (some .int), Cond.fieldLink RX4 84 "BlockProgramsModel" "come" "I", Cond.methodLink RX4 90 yX4_lay, Cond.instanceMethod yX4_lay, Cond.selects RX4 yX4_lay yX4_lay, Cond.code yX4_lay cX4_lay 4 none, Cond.methodLink RX4 87 yX4_mayCome, Cond.instanceMethod yX4_mayCome, Cond.selects RX4 yX4_mayCome yX4_mayCome, Cond.code yX4_mayCome cX4_mayCome 5 (some .boolean), Cond.methodLink RX4 80 yX4_inputsOf, Cond.static yX4_inputsOf, Cond.code yX4_inputsOf cX4_inputsOf 1 (some .int), Cond.methodLink RL 106 yL_at, Cond.static yL_at, Cond.codeWith yL_at cL_at 4 (some .int) [(0, 9, 12, 13)], Cond.methodLink RL 39 yX3_at, Cond.instanceMethod yX3_at, Cond.selects RX3 yX3_at yX3_at, Cond.code yX3_at cX3_at 2 (some .int), Cond.methodLink RL 108 yX4_at, Cond.instanceMethod yX4_at]
def wsL_law0_r11 : List Cond := [Cond.selects RX4 yX4_at yX4_at, Cond.code yX4_at cX4_at 2 (some .int), Cond.methodLink RL 109 yL_run, Cond.static yL_run, Cond.codeWith yL_run cL_run 4 (some .int) [(0, 9, 12, 13), (0, 9, 15, 15)], Cond.methodLink RL 42 yX3_run, Cond.instanceMethod yX3_run, Cond.selects RX3 yX3_run yX3_run, Cond.code yX3_run cX3_run 3 (some .int), Cond.methodLink RX3 121 yX3_tick, Cond.instanceMethod yX3_tick, Cond.selects RX3 yX3_tick yX3_tick, Cond.code yX3_tick cX3_tick 2 none, Cond.methodLink RX3 181 yX3_reckon, Cond.instanceMethod yX3_reckon, Cond.selects RX3 yX3_reckon yX3_reckon, Cond.code yX3_reckon cX3_reckon 7 none, Cond.methodLink RX3 187 yX3_outputOf, Cond.instanceMethod yX3_outputOf, Cond.selects RX3 yX3_outputOf yX3_outputOf, Cond.code yX3_outputOf cX3_outputOf 2 (some .int), Cond.fieldLink RX3 124 "BlockPrograms$Block" "output" "I", Cond.methodLink RX3 191 yX3_failureOf, Cond.static yX3_failureOf]
def wsL_law0_r12 : List Cond := [Cond.code yX3_failureOf cX3_failureOf 3 (some .int), Cond.methodLink RX3 214 yX0_lacksWire, Cond.instanceMethod yX0_lacksWire, Cond.selects RX0 yX0_lacksWire yX0_lacksWire, Cond.code yX0_lacksWire cX0_lacksWire 2 (some .boolean), Cond.methodLink RX0 50 yX0_namedInputs, Cond.methodLink RX3 195 yX3_fail, Cond.instanceMethod yX3_fail, Cond.selects RX3 yX3_fail yX3_fail, Cond.code yX3_fail cX3_fail 3 none, Cond.methodLink RX3 210 yX1_note, Cond.instanceMethod yX1_note, Cond.selects RX1 yX1_note yX1_note, Cond.code yX1_note cX1_note 4 none, Cond.methodLink RX3 199 yX0_say, Cond.instanceMethod yX0_say, Cond.selects RX0 yX0_say yX0_say, Cond.code yX0_say cX0_say 2 none, Cond.methodLink RX3 202 yX3_combined, Cond.static yX3_combined, Cond.code yX3_combined cX3_combined 4 (some .int), Cond.methodLink RX3 221 Lib.Math.min.name, Cond.static Lib.Math.min.name, Cond.initialized "java/lang/Math"]
def wsL_law0_r13 : List Cond := [Cond.code Lib.Math.min.name Lib.Math.min.code 2 (some .int), Cond.methodLink RX3 226 Lib.Math.max.name, Cond.static Lib.Math.max.name, Cond.code Lib.Math.max.name Lib.Math.max.code 2 (some .int), Cond.methodLink RX3 218 yX3_quotient, Cond.static yX3_quotient, Cond.code yX3_quotient cX3_quotient 2 (some .int), Cond.methodLink RX3 229 yX3_asNumber, Cond.static yX3_asNumber, Cond.code yX3_asNumber cX3_asNumber 1 (some .int), Cond.methodLink RX3 206 yX0_ownReckoning, Cond.instanceMethod yX0_ownReckoning, Cond.selects RX0 yX0_ownReckoning yX0_ownReckoning, Cond.code yX0_ownReckoning cX0_ownReckoning 4 (some .int), Cond.methodLink RX0 79 Lib.Math.min.name, Cond.methodLink RX0 58 yX0_ramped, Cond.instanceMethod yX0_ramped, Cond.selects RX0 yX0_ramped yX0_ramped, Cond.code yX0_ramped cX0_ramped 5 (some .int), Cond.methodLink RX0 84 Lib.Math.max.name, Cond.methodLink RX0 87 Lib.MathLoose.abs_long.x, Cond.static Lib.MathLoose.abs_long.x, Cond.code Lib.MathLoose.abs_long.x Lib.MathLoose.abs_long.code 2 (some .long), Cond.methodLink RX0 62 yX0_counted]
def wsL_law0_r14 : List Cond := [Cond.instanceMethod yX0_counted, Cond.selects RX0 yX0_counted yX0_counted, Cond.code yX0_counted cX0_counted 3 (some .int), Cond.methodLink RX0 66 yX0_latched, Cond.instanceMethod yX0_latched, Cond.selects RX0 yX0_latched yX0_latched, Cond.code yX0_latched cX0_latched 3 (some .int), Cond.methodLink RX0 69 yX0_isClockOn, Cond.instanceMethod yX0_isClockOn, Cond.selects RX0 yX0_isClockOn yX0_isClockOn, Cond.code yX0_isClockOn cX0_isClockOn 2 (some .boolean), Cond.methodLink RX0 76 yX0_pulsed, Cond.instanceMethod yX0_pulsed, Cond.selects RX0 yX0_pulsed yX0_pulsed, Cond.code yX0_pulsed cX0_pulsed 2 (some .int), Cond.methodLink RX3 184 yX3_takeUp, Cond.instanceMethod yX3_takeUp, Cond.selects RX3 yX3_takeUp yX3_takeUp, Cond.code yX3_takeUp cX3_takeUp 3 none, Cond.fieldLink RX3 129 "BlockPrograms$Block" "first" "I", Cond.methodLink RL 111 yX4_run, Cond.instanceMethod yX4_run, Cond.selects RX4 yX4_run yX4_run, Cond.code yX4_run cX4_run 4 (some .int)]
def wsL_law0_r15 : List Cond := [Cond.fieldLink RX4 100 "BlockProgramsModel" "time" "I", Cond.methodLink RX4 134 yX4_reckon, Cond.instanceMethod yX4_reckon, Cond.selects RX4 yX4_reckon yX4_reckon, Cond.code yX4_reckon cX4_reckon 3 none, Cond.fieldLink RX4 93 "BlockProgramsModel" "wrong" "I", Cond.methodLink RX4 119 yX4_input, Cond.instanceMethod yX4_input, Cond.selects RX4 yX4_input yX4_input, Cond.code yX4_input cX4_input 4 (some .int), Cond.methodLink RX4 122 yX4_plain, Cond.instanceMethod yX4_plain, Cond.selects RX4 yX4_plain yX4_plain, Cond.code yX4_plain cX4_plain 6 (some .int), Cond.methodLink RX4 96 yX4_one, Cond.static yX4_one, Cond.code yX4_one cX4_one 1 (some .int), Cond.methodLink RX4 126 yX4_withState, Cond.instanceMethod yX4_withState, Cond.selects RX4 yX4_withState yX4_withState, Cond.code yX4_withState cX4_withState 4 (some .int), Cond.methodLink RX4 103 yX4_ramp, Cond.instanceMethod yX4_ramp, Cond.selects RX4 yX4_ramp yX4_ramp]
def wsL_law0_r16 : List Cond := [Cond.code yX4_ramp cX4_ramp 7 (some .int), Cond.methodLink RX4 107 yX4_clock, Cond.instanceMethod yX4_clock, Cond.selects RX4 yX4_clock yX4_clock, Cond.code yX4_clock cX4_clock 3 (some .boolean), Cond.methodLink RX4 110 yX4_pulse, Cond.instanceMethod yX4_pulse, Cond.selects RX4 yX4_pulse yX4_pulse, Cond.code yX4_pulse cX4_pulse 3 (some .int), Cond.methodLink RX4 113 yX4_since, Cond.instanceMethod yX4_since, Cond.selects RX4 yX4_since yX4_since, Cond.code yX4_since cX4_since 4 (some .int), Cond.methodLink RX4 130 yX4_fail, Cond.instanceMethod yX4_fail, Cond.selects RX4 yX4_fail yX4_fail, Cond.code yX4_fail cX4_fail 4 none, Cond.fieldLink RX4 116 "BlockProgramsModel" "last" "I", Cond.methodLink RX4 138 yX4_takeDelay, Cond.instanceMethod yX4_takeDelay, Cond.selects RX4 yX4_takeDelay yX4_takeDelay, Cond.code yX4_takeDelay cX4_takeDelay 3 none, Cond.methodLink RL 112 yL_out, Cond.static yL_out]
def wsL_law0_r17 : List Cond := [Cond.codeWith yL_out cL_out 4 (some .int) [(0, 9, 12, 13)], Cond.methodLink RL 45 yX3_out, Cond.instanceMethod yX3_out, Cond.selects RX3 yX3_out yX3_out, Cond.code yX3_out cX3_out 2 (some .int), Cond.methodLink RL 114 yX4_out, Cond.instanceMethod yX4_out, Cond.selects RX4 yX4_out yX4_out, Cond.code yX4_out cX4_out 2 (some .int), Cond.methodLink RL 115 yL_state, Cond.static yL_state, Cond.codeWith yL_state cL_state 5 (some .int) [(0, 10, 13, 13)], Cond.methodLink RL 48 yX3_state, Cond.instanceMethod yX3_state, Cond.selects RX3 yX3_state yX3_state, Cond.code yX3_state cX3_state 4 (some .int), Cond.fieldLink RX3 132 "BlockPrograms$Block" "second" "I", Cond.methodLink RL 117 yX4_state, Cond.instanceMethod yX4_state, Cond.selects RX4 yX4_state yX4_state, Cond.code yX4_state cX4_state 3 (some .int), Cond.methodLink RL 118 yL_failed, Cond.static yL_failed, Cond.codeWith yL_failed cL_failed 4 (some .int) [(0, 9, 12, 13)]]
def wsL_law0_r18 : List Cond := [Cond.methodLink RL 51 yX3_failed, Cond.instanceMethod yX3_failed, Cond.selects RX3 yX3_failed yX3_failed, Cond.code yX3_failed cX3_failed 2 (some .int), Cond.fieldLink RX3 137 "BlockPrograms$Failures" "totals" "[I", Cond.methodLink RL 120 yX4_failed, Cond.instanceMethod yX4_failed, Cond.selects RX4 yX4_failed yX4_failed, Cond.code yX4_failed cX4_failed 2 (some .int), Cond.methodLink RL 121 yL_failure, Cond.static yL_failure, Cond.codeWith yL_failure cL_failure 5 (some .int) [(0, 10, 13, 13)], Cond.methodLink RL 54 yX3_failure, Cond.instanceMethod yX3_failure, Cond.selects RX3 yX3_failure yX3_failure, Cond.code yX3_failure cX3_failure 3 (some .int), Cond.methodLink RX3 140 yX1_keptCount, Cond.instanceMethod yX1_keptCount, Cond.selects RX1 yX1_keptCount yX1_keptCount, Cond.code yX1_keptCount cX1_keptCount 1 (some .int), Cond.methodLink RX1 28 Lib.Math.min.name, Cond.methodLink RX3 147 yX1_fact, Cond.instanceMethod yX1_fact, Cond.selects RX1 yX1_fact yX1_fact]
def wsL_law0_r19 : List Cond := [Cond.code yX1_fact cX1_fact 4 (some .int), Cond.methodLink RX1 34 yJ9_floorMod_7cf53, Cond.static yJ9_floorMod_7cf53, Cond.initialized RJ9, Cond.code yJ9_floorMod_7cf53 cJ9_floorMod_7cf53 3 (some .int), Cond.methodLink RL 123 yX4_failure, Cond.instanceMethod yX4_failure, Cond.selects RX4 yX4_failure yX4_failure, Cond.code yX4_failure cX4_failure 3 (some .int), Cond.methodLink RL 124 yL_save, Cond.static yL_save, Cond.codeWith yL_save cL_save 3 (some .int) [(0, 8, 11, 15)], Cond.methodLink RL 57 yX3_save, Cond.instanceMethod yX3_save, Cond.selects RX3 yX3_save yX3_save, Cond.code yX3_save cX3_save 3 (some .int), Cond.instantiable RX2 5, Cond.initialized RX2, Cond.instanceMethod yX2_init, Cond.code yX2_init cX2_init 1 none, Cond.methodLink RX2 3 objectInit, Cond.fieldLink RX2 9 "BlockPrograms$Saving" "count" "I", Cond.fieldLink RX2 15 "BlockPrograms$Saving" "kinds" "[I", Cond.fieldLink RX2 19 "BlockPrograms$Saving" "outputs" "[I"]
def wsL_law0_r20 : List Cond := [Cond.fieldLink RX2 22 "BlockPrograms$Saving" "firsts" "[I", Cond.fieldLink RX2 25 "BlockPrograms$Saving" "seconds" "[I", Cond.methodLink RX3 154 yX2_keep, Cond.instanceMethod yX2_keep, Cond.selects RX2 yX2_keep yX2_keep, Cond.code yX2_keep cX2_keep 2 none, Cond.fieldLink RX2 28 "BlockPrograms$Block" "kind" "I", Cond.fieldLink RX2 33 "BlockPrograms$Block" "output" "I", Cond.fieldLink RX2 36 "BlockPrograms$Block" "first" "I", Cond.fieldLink RX2 39 "BlockPrograms$Block" "second" "I", Cond.methodLink RL 127 yX4_save, Cond.instanceMethod yX4_save, Cond.selects RX4 yX4_save yX4_save, Cond.code yX4_save cX4_save 3 (some .int), Cond.fieldLink RX4 141 "BlockProgramsModel" "saves" "I", Cond.methodLink RL 128 yL_back, Cond.static yL_back, Cond.codeWith yL_back cL_back 4 (some .int) [(0, 9, 12, 13)], Cond.methodLink RL 61 yX3_back, Cond.instanceMethod yX3_back, Cond.selects RX3 yX3_back yX3_back, Cond.code yX3_back cX3_back 5 (some .int), Cond.methodLink RX3 160 yX2_restore, Cond.instanceMethod yX2_restore]
def wsL_law0_r21 : List Cond := [Cond.selects RX2 yX2_restore yX2_restore, Cond.code yX2_restore cX2_restore 3 (some .boolean), Cond.methodLink RL 130 yX4_back, Cond.instanceMethod yX4_back, Cond.selects RX4 yX4_back yX4_back, Cond.code yX4_back cX4_back 5 (some .int), Cond.methodLink RL 131 yL_become, Cond.static yL_become, Cond.codeWith yL_become cL_become 5 (some .int) [(0, 10, 13, 13)], Cond.methodLink RL 64 yX3_become, Cond.instanceMethod yX3_become, Cond.selects RX3 yX3_become yX3_become, Cond.code yX3_become cX3_become 5 (some .int), Cond.methodLink RL 133 yX4_become, Cond.instanceMethod yX4_become, Cond.selects RX4 yX4_become yX4_become, Cond.code yX4_become cX4_become 4 (some .int)]
def wsL_law0 : List Cond := (wsL_law0_r1 ++ (wsL_law0_r2 ++ (wsL_law0_r3 ++ (wsL_law0_r4 ++ (wsL_law0_r5 ++ (wsL_law0_r6 ++ (wsL_law0_r7 ++ (wsL_law0_r8 ++ (wsL_law0_r9 ++ (wsL_law0_r10 ++ (wsL_law0_r11 ++ (wsL_law0_r12 ++ (wsL_law0_r13 ++ (wsL_law0_r14 ++ (wsL_law0_r15 ++ (wsL_law0_r16 ++ (wsL_law0_r17 ++ (wsL_law0_r18 ++ (wsL_law0_r19 ++ (wsL_law0_r20 ++ wsL_law0_r21)))))))))))))))))))) ++ wsX30 ++ wsX40 ++ wsX10 ++ wsX00 ++ wsX20 ++ ([] : List Cond)
def wsL_law : List Cond := wsL_law0 ++ (vx_atS RX3 57 "java/lang/IllegalStateException" ["java/lang/RuntimeException", "java/lang/Exception"]).filter goodWord ++ (vx_atS RX3 70 "java/lang/IllegalArgumentException" ["java/lang/RuntimeException", "java/lang/Exception"]).filter goodWord
theorem in_pos {big ws : List Cond} (ps : List Nat) (hp : ws = ps.filterMap (fun i => big[i]?)) : ∀ w ∈ ws, w ∈ big := by
  intro w hw
  rw [hp] at hw
  obtain ⟨i, -, hi⟩ := List.mem_filterMap.mp hw
  exact List.mem_of_getElem? hi
set_option maxRecDepth 20000 in
theorem in_wsL_law0_r1 : ∀ w ∈ wsL_law0_r1, w ∈ lw_tbl := in_pos [40, 41, 29, 530, 531, 31, 745, 42, 43, 44, 45, 46, 47, 48, 77, 78, 73, 79, 80, 81, 74, 82, 50, 51] (by decide +kernel)
set_option maxRecDepth 20000 in
theorem in_wsL_law0_r2 : ∀ w ∈ wsL_law0_r2, w ∈ lw_tbl := in_pos [30, 83, 75, 84, 85, 53, 54, 55, 56, 58, 59, 60, 61, 532, 533, 534, 535, 538, 539, 540, 541, 542, 543, 544] (by decide +kernel)
set_option maxRecDepth 20000 in
theorem in_wsL_law0_r3 : ∀ w ∈ wsL_law0_r3, w ∈ lw_tbl := in_pos [545, 546, 547, 548, 549, 551, 553, 554, 556, 558, 559, 127, 128, 28, 129, 130, 131, 132, 133, 134, 135, 207, 36, 223] (by decide +kernel)
set_option maxRecDepth 20000 in
theorem in_wsL_law0_r4 : ∀ w ∈ wsL_law0_r4, w ∈ lw_tbl := in_pos [37, 136, 137, 138, 140, 35, 139, 224, 225, 226, 227, 231, 233, 235, 237, 240, 243, 246, 248, 250, 252, 228, 616, 617] (by decide +kernel)
set_option maxRecDepth 20000 in
theorem in_wsL_law0_r5 : ∀ w ∈ wsL_law0_r5, w ∈ lw_tbl := in_pos [618, 619, 537, 536, 620, 621, 622, 612, 613, 614, 615, 277, 278, 279, 280, 281, 282, 283, 251, 284, 286, 4, 287, 623] (by decide +kernel)
set_option maxRecDepth 20000 in
theorem in_wsL_law0_r6 : ∀ w ∈ wsL_law0_r6, w ∈ lw_tbl := in_pos [624, 625, 626, 627, 629, 15, 630, 290, 291, 292, 293, 294, 295, 296, 232, 234, 631, 632, 633, 634, 297, 298, 299, 300] (by decide +kernel)
set_option maxRecDepth 20000 in
theorem in_wsL_law0_r7 : ∀ w ∈ wsL_law0_r7, w ∈ lw_tbl := in_pos [301, 302, 303, 230, 253, 304, 305, 306, 635, 636, 637, 638, 309, 310, 311, 312, 313, 314, 315, 236, 639, 640, 641, 642] (by decide +kernel)
set_option maxRecDepth 20000 in
theorem in_wsL_law0_r8 : ∀ w ∈ wsL_law0_r8, w ∈ lw_tbl := in_pos [316, 317, 318, 319, 320, 321, 322, 323, 324, 325, 643, 644, 645, 646, 327, 328, 329, 330, 331, 332, 333, 247, 249, 647] (by decide +kernel)
set_option maxRecDepth 20000 in
theorem in_wsL_law0_r9 : ∀ w ∈ wsL_law0_r9, w ∈ lw_tbl := in_pos [648, 649, 650, 105, 106, 107, 108, 109, 111, 0, 112, 113, 115, 1, 116, 117, 119, 2, 120, 121, 122, 123, 124, 655] (by decide +kernel)
set_option maxRecDepth 20000 in
theorem in_wsL_law0_r10 : ∀ w ∈ wsL_law0_r10, w ∈ lw_tbl := in_pos [656, 657, 658, 552, 659, 661, 16, 662, 663, 665, 17, 666, 667, 668, 669, 334, 335, 336, 337, 338, 339, 340, 670, 671] (by decide +kernel)
set_option maxRecDepth 20000 in
theorem in_wsL_law0_r11 : ∀ w ∈ wsL_law0_r11, w ∈ lw_tbl := in_pos [672, 673, 342, 343, 344, 345, 346, 347, 348, 352, 354, 5, 355, 356, 358, 6, 359, 360, 362, 7, 363, 239, 364, 365] (by decide +kernel)
set_option maxRecDepth 20000 in
theorem in_wsL_law0_r12 : ∀ w ∈ wsL_law0_r12, w ∈ lw_tbl := in_pos [366, 367, 368, 369, 370, 371, 372, 374, 8, 375, 376, 377, 378, 379, 380, 381, 382, 383, 384, 385, 386, 390, 391, 38] (by decide +kernel)
set_option maxRecDepth 20000 in
theorem in_wsL_law0_r13 : ∀ w ∈ wsL_law0_r13, w ∈ lw_tbl := in_pos [392, 393, 394, 395, 387, 388, 389, 396, 397, 398, 399, 400, 401, 402, 429, 404, 406, 9, 407, 408, 409, 410, 411, 412] (by decide +kernel)
set_option maxRecDepth 20000 in
theorem in_wsL_law0_r14 : ∀ w ∈ wsL_law0_r14, w ∈ lw_tbl := in_pos [414, 10, 415, 416, 418, 11, 419, 420, 422, 12, 423, 425, 427, 13, 428, 430, 432, 14, 433, 242, 674, 675, 676, 677] (by decide +kernel)
set_option maxRecDepth 20000 in
theorem in_wsL_law0_r15 : ∀ w ∈ wsL_law0_r15, w ∈ lw_tbl := in_pos [550, 678, 680, 18, 681, 560, 682, 684, 19, 685, 686, 688, 20, 689, 690, 691, 692, 693, 695, 21, 696, 697, 699, 22] (by decide +kernel)
set_option maxRecDepth 20000 in
theorem in_wsL_law0_r16 : ∀ w ∈ wsL_law0_r16, w ∈ lw_tbl := in_pos [700, 701, 703, 23, 704, 705, 707, 24, 708, 709, 711, 25, 712, 713, 715, 26, 716, 555, 717, 719, 27, 720, 434, 435] (by decide +kernel)
set_option maxRecDepth 20000 in
theorem in_wsL_law0_r17 : ∀ w ∈ wsL_law0_r17, w ∈ lw_tbl := in_pos [436, 437, 438, 439, 440, 721, 722, 723, 724, 441, 442, 443, 444, 445, 446, 447, 245, 725, 726, 727, 728, 449, 450, 451] (by decide +kernel)
set_option maxRecDepth 20000 in
theorem in_wsL_law0_r18 : ∀ w ∈ wsL_law0_r18, w ∈ lw_tbl := in_pos [452, 453, 454, 455, 57, 729, 730, 731, 732, 457, 458, 459, 460, 461, 462, 463, 464, 465, 466, 467, 468, 471, 472, 473] (by decide +kernel)
set_option maxRecDepth 20000 in
theorem in_wsL_law0_r19 : ∀ w ∈ wsL_law0_r19, w ∈ lw_tbl := in_pos [474, 475, 476, 38, 477, 733, 734, 735, 736, 478, 479, 480, 481, 482, 483, 484, 486, 39, 488, 489, 490, 491, 492, 493] (by decide +kernel)
set_option maxRecDepth 20000 in
theorem in_wsL_law0_r20 : ∀ w ∈ wsL_law0_r20, w ∈ lw_tbl := in_pos [494, 495, 507, 508, 509, 510, 229, 238, 241, 244, 737, 738, 739, 740, 557, 511, 512, 513, 514, 515, 516, 517, 519, 520] (by decide +kernel)
set_option maxRecDepth 20000 in
theorem in_wsL_law0_r21 : ∀ w ∈ wsL_law0_r21, w ∈ lw_tbl := in_pos [521, 522, 741, 742, 743, 744, 523, 524, 525, 526, 527, 528, 529, 651, 652, 653, 654] (by decide +kernel)
set_option maxRecDepth 20000 in
theorem in_wsX30 : ∀ w ∈ wsX30, w ∈ lw_tbl := in_pos [86, 88, 90, 92, 94, 96, 98, 100, 102] (by decide +kernel)
set_option maxRecDepth 20000 in
theorem in_wsX40 : ∀ w ∈ wsX40, w ∈ lw_tbl := in_pos [561, 563, 565, 567, 569, 571, 573, 575, 577, 579, 581, 583, 585, 587, 589, 591, 593, 595, 597, 599, 601, 603, 605, 607, 609] (by decide +kernel)
set_option maxRecDepth 20000 in
theorem in_wsX10 : ∀ w ∈ wsX10, w ∈ lw_tbl := in_pos [62, 64, 66, 68, 70] (by decide +kernel)
set_option maxRecDepth 20000 in
theorem in_wsX00 : ∀ w ∈ wsX00, w ∈ lw_tbl := in_pos [254, 256, 258, 260, 262, 264, 266, 268, 270, 272, 274] (by decide +kernel)
set_option maxRecDepth 20000 in
theorem in_wsX20 : ∀ w ∈ wsX20, w ∈ lw_tbl := in_pos [496, 498, 500, 502, 504] (by decide +kernel)
theorem wsL_law_in0 : ∀ w ∈ wsL_law0, w ∈ lw_tbl := by
  unfold wsL_law0
  exact List.forall_mem_append.mpr ⟨List.forall_mem_append.mpr ⟨List.forall_mem_append.mpr ⟨List.forall_mem_append.mpr ⟨List.forall_mem_append.mpr ⟨List.forall_mem_append.mpr ⟨List.forall_mem_append.mpr ⟨in_wsL_law0_r1, List.forall_mem_append.mpr ⟨in_wsL_law0_r2, List.forall_mem_append.mpr ⟨in_wsL_law0_r3, List.forall_mem_append.mpr ⟨in_wsL_law0_r4, List.forall_mem_append.mpr ⟨in_wsL_law0_r5, List.forall_mem_append.mpr ⟨in_wsL_law0_r6, List.forall_mem_append.mpr ⟨in_wsL_law0_r7, List.forall_mem_append.mpr ⟨in_wsL_law0_r8, List.forall_mem_append.mpr ⟨in_wsL_law0_r9, List.forall_mem_append.mpr ⟨in_wsL_law0_r10, List.forall_mem_append.mpr ⟨in_wsL_law0_r11, List.forall_mem_append.mpr ⟨in_wsL_law0_r12, List.forall_mem_append.mpr ⟨in_wsL_law0_r13, List.forall_mem_append.mpr ⟨in_wsL_law0_r14, List.forall_mem_append.mpr ⟨in_wsL_law0_r15, List.forall_mem_append.mpr ⟨in_wsL_law0_r16, List.forall_mem_append.mpr ⟨in_wsL_law0_r17, List.forall_mem_append.mpr ⟨in_wsL_law0_r18, List.forall_mem_append.mpr ⟨in_wsL_law0_r19, List.forall_mem_append.mpr ⟨in_wsL_law0_r20, in_wsL_law0_r21⟩⟩⟩⟩⟩⟩⟩⟩⟩⟩⟩⟩⟩⟩⟩⟩⟩⟩⟩⟩, in_wsX30⟩, in_wsX40⟩, in_wsX10⟩, in_wsX00⟩, in_wsX20⟩, fun _ h => absurd h List.not_mem_nil⟩
theorem wsL_law_x0 : ∀ w ∈ (vx_atS RX3 57 "java/lang/IllegalStateException" ["java/lang/RuntimeException", "java/lang/Exception"]).filter goodWord, w ∈ lw_tbl := by decide +kernel
theorem wsL_law_x1 : ∀ w ∈ (vx_atS RX3 70 "java/lang/IllegalArgumentException" ["java/lang/RuntimeException", "java/lang/Exception"]).filter goodWord, w ∈ lw_tbl := by decide +kernel
theorem wsL_law_in : ∀ w ∈ wsL_law, w ∈ lw_tbl := fun w h => (List.mem_append.mp h).elim (fun h => (List.mem_append.mp h).elim (fun h => wsL_law_in0 w h) (fun h => wsL_law_x0 w h)) (fun h => wsL_law_x1 w h)
theorem inlX0 : ∀ w ∈ wsX00, w ∈ wsL_law := fun _ h => List.mem_append_left _ (List.mem_append_left _ (List.mem_append_left _ (List.mem_append_left _ (List.mem_append_right _ h))))
theorem inX0 : ∀ w ∈ wsX00, w ∈ lw_tbl := fun w h => wsL_law_in w (inlX0 w h)
theorem inlX1 : ∀ w ∈ wsX10, w ∈ wsL_law := fun _ h => List.mem_append_left _ (List.mem_append_left _ (List.mem_append_left _ (List.mem_append_left _ (List.mem_append_left _ (List.mem_append_right _ h)))))
theorem inX1 : ∀ w ∈ wsX10, w ∈ lw_tbl := fun w h => wsL_law_in w (inlX1 w h)
theorem inlX2 : ∀ w ∈ wsX20, w ∈ wsL_law := fun _ h => List.mem_append_left _ (List.mem_append_left _ (List.mem_append_left _ (List.mem_append_right _ h)))
theorem inX2 : ∀ w ∈ wsX20, w ∈ lw_tbl := fun w h => wsL_law_in w (inlX2 w h)
theorem inlX3 : ∀ w ∈ wsX30, w ∈ wsL_law := fun _ h => List.mem_append_left _ (List.mem_append_left _ (List.mem_append_left _ (List.mem_append_left _ (List.mem_append_left _ (List.mem_append_left _ (List.mem_append_left _ (List.mem_append_right _ h)))))))
theorem inX3 : ∀ w ∈ wsX30, w ∈ lw_tbl := fun w h => wsL_law_in w (inlX3 w h)
theorem inlX4 : ∀ w ∈ wsX40, w ∈ wsL_law := fun _ h => List.mem_append_left _ (List.mem_append_left _ (List.mem_append_left _ (List.mem_append_left _ (List.mem_append_left _ (List.mem_append_left _ (List.mem_append_right _ h))))))
theorem inX4 : ∀ w ∈ wsX40, w ∈ lw_tbl := fun w h => wsL_law_in w (inlX4 w h)
theorem inJ9 : ∀ w ∈ wsJ90, w ∈ lw_tbl := by decide +kernel
theorem inJ0 : ∀ w ∈ wsJ00, w ∈ lw_tbl := by decide +kernel
abbrev vwCl : List vw_C := [(RX0, TX0, 11), (RX1, TX1, 5), (RX2, TX2, 5), (RX3, TX3, 9), (RX4, TX4, 25)]
end
section
theorem dX0_init_0 : decode cX0_init 0 = .ok (.aload_n 0, 1) := by decide +kernel
theorem dX0_init_1 : decode cX0_init 1 = .ok (.invokespecial 3, 3) := by decide +kernel
theorem dX0_init_4 : decode cX0_init 4 = .ok (.aload_n 0, 1) := by decide +kernel
theorem dX0_init_5 : decode cX0_init 5 = .ok (.iconst 0, 1) := by decide +kernel
theorem dX0_init_6 : decode cX0_init 6 = .ok (.putfield 9, 3) := by decide +kernel
theorem dX0_init_9 : decode cX0_init 9 = .ok (.aload_n 0, 1) := by decide +kernel
theorem dX0_init_10 : decode cX0_init 10 = .ok (.iconst 0, 1) := by decide +kernel
theorem dX0_init_11 : decode cX0_init 11 = .ok (.putfield 15, 3) := by decide +kernel
theorem dX0_init_14 : decode cX0_init 14 = .ok (.aload_n 0, 1) := by decide +kernel
theorem dX0_init_15 : decode cX0_init 15 = .ok (.iconst 0, 1) := by decide +kernel
theorem dX0_init_16 : decode cX0_init 16 = .ok (.putfield 18, 3) := by decide +kernel
theorem dX0_init_19 : decode cX0_init 19 = .ok (.aload_n 0, 1) := by decide +kernel
theorem dX0_init_20 : decode cX0_init 20 = .ok (.iconst 0, 1) := by decide +kernel
theorem dX0_init_21 : decode cX0_init 21 = .ok (.putfield 21, 3) := by decide +kernel
theorem dX0_init_24 : decode cX0_init 24 = .ok (.aload_n 0, 1) := by decide +kernel
theorem dX0_init_25 : decode cX0_init 25 = .ok (.iconst 0, 1) := by decide +kernel
theorem dX0_init_26 : decode cX0_init 26 = .ok (.putfield 24, 3) := by decide +kernel
theorem dX0_init_29 : decode cX0_init 29 = .ok (.aload_n 0, 1) := by decide +kernel
theorem dX0_init_30 : decode cX0_init 30 = .ok (.iconst 0, 1) := by decide +kernel
theorem dX0_init_31 : decode cX0_init 31 = .ok (.putfield 27, 3) := by decide +kernel
theorem dX0_init_34 : decode cX0_init 34 = .ok (.aload_n 0, 1) := by decide +kernel
theorem dX0_init_35 : decode cX0_init 35 = .ok (.iconst 0, 1) := by decide +kernel
theorem dX0_init_36 : decode cX0_init 36 = .ok (.putfield 30, 3) := by decide +kernel
theorem dX0_init_39 : decode cX0_init 39 = .ok (.aload_n 0, 1) := by decide +kernel
theorem dX0_init_40 : decode cX0_init 40 = .ok (.iconst 0, 1) := by decide +kernel
theorem dX0_init_41 : decode cX0_init 41 = .ok (.putfield 34, 3) := by decide +kernel
theorem dX0_init_44 : decode cX0_init 44 = .ok (.aload_n 0, 1) := by decide +kernel
theorem dX0_init_45 : decode cX0_init 45 = .ok (.iconst 3, 1) := by decide +kernel
theorem dX0_init_46 : decode cX0_init 46 = .ok (.newarray .int, 2) := by decide +kernel
theorem dX0_init_48 : decode cX0_init 48 = .ok (.dup, 1) := by decide +kernel
theorem dX0_init_49 : decode cX0_init 49 = .ok (.iconst 0, 1) := by decide +kernel
theorem dX0_init_50 : decode cX0_init 50 = .ok (.iconst (-1), 1) := by decide +kernel
theorem dX0_init_51 : decode cX0_init 51 = .ok (.iastore, 1) := by decide +kernel
theorem dX0_init_52 : decode cX0_init 52 = .ok (.dup, 1) := by decide +kernel
theorem dX0_init_53 : decode cX0_init 53 = .ok (.iconst 1, 1) := by decide +kernel
theorem dX0_init_54 : decode cX0_init 54 = .ok (.iconst (-1), 1) := by decide +kernel
theorem dX0_init_55 : decode cX0_init 55 = .ok (.iastore, 1) := by decide +kernel
theorem dX0_init_56 : decode cX0_init 56 = .ok (.dup, 1) := by decide +kernel
theorem dX0_init_57 : decode cX0_init 57 = .ok (.iconst 2, 1) := by decide +kernel
theorem dX0_init_58 : decode cX0_init 58 = .ok (.iconst (-1), 1) := by decide +kernel
theorem dX0_init_59 : decode cX0_init 59 = .ok (.iastore, 1) := by decide +kernel
theorem dX0_init_60 : decode cX0_init 60 = .ok (.putfield 37, 3) := by decide +kernel
theorem dX0_init_63 : decode cX0_init 63 = .ok (.aload_n 0, 1) := by decide +kernel
theorem dX0_init_64 : decode cX0_init 64 = .ok (.bipush 8, 2) := by decide +kernel
theorem dX0_init_66 : decode cX0_init 66 = .ok (.newarray .int, 2) := by decide +kernel
theorem dX0_init_68 : decode cX0_init 68 = .ok (.putfield 41, 3) := by decide +kernel
theorem dX0_init_71 : decode cX0_init 71 = .ok (.aload_n 0, 1) := by decide +kernel
theorem dX0_init_72 : decode cX0_init 72 = .ok (.iload_n 1, 1) := by decide +kernel
theorem dX0_init_73 : decode cX0_init 73 = .ok (.putfield 44, 3) := by decide +kernel
theorem dX0_init_76 : decode cX0_init 76 = .ok (.return_, 1) := by decide +kernel
theorem dX0_namedInputs_0 : decode cX0_namedInputs 0 = .ok (.aload_n 0, 1) := by decide +kernel
theorem dX0_namedInputs_1 : decode cX0_namedInputs 1 = .ok (.getfield 44, 3) := by decide +kernel
theorem dX0_namedInputs_4 : decode cX0_namedInputs 4 = .ok (.ifCond .lt 25, 3) := by decide +kernel
theorem dX0_namedInputs_7 : decode cX0_namedInputs 7 = .ok (.aload_n 0, 1) := by decide +kernel
theorem dX0_namedInputs_8 : decode cX0_namedInputs 8 = .ok (.getfield 44, 3) := by decide +kernel
theorem dX0_namedInputs_11 : decode cX0_namedInputs 11 = .ok (.getstatic 47, 3) := by decide +kernel
theorem dX0_namedInputs_14 : decode cX0_namedInputs 14 = .ok (.arraylength, 1) := by decide +kernel
theorem dX0_namedInputs_15 : decode cX0_namedInputs 15 = .ok (.if_icmp .ge 14, 3) := by decide +kernel
theorem dX0_namedInputs_18 : decode cX0_namedInputs 18 = .ok (.getstatic 47, 3) := by decide +kernel
theorem dX0_namedInputs_21 : decode cX0_namedInputs 21 = .ok (.aload_n 0, 1) := by decide +kernel
theorem dX0_namedInputs_22 : decode cX0_namedInputs 22 = .ok (.getfield 44, 3) := by decide +kernel
theorem dX0_namedInputs_25 : decode cX0_namedInputs 25 = .ok (.iaload, 1) := by decide +kernel
theorem dX0_namedInputs_26 : decode cX0_namedInputs 26 = .ok (.goto 4, 3) := by decide +kernel
theorem dX0_namedInputs_29 : decode cX0_namedInputs 29 = .ok (.iconst 0, 1) := by decide +kernel
theorem dX0_namedInputs_30 : decode cX0_namedInputs 30 = .ok (.ireturn, 1) := by decide +kernel
set_option maxRecDepth 20000 in
theorem ggX0_lacksWire_X0_namedInputs : GoodIn wsX0_lacksWire wsX0_namedInputs := goodIn_r _ [6, 7, 8, 9, 10, 11, 12, 13, 14, 15, 16, 17, 18] (by decide +kernel) (by decide +kernel)
set_option maxRecDepth 20000 in
theorem gX0_lacksWire_X0_namedInputs : GoodIn wsX0_lacksWire (wsV RX0 50 RX0 yX0_namedInputs wsX0_namedInputs) := goodIn_app (goodIn_of _ (by decide +kernel)) ggX0_lacksWire_X0_namedInputs
theorem dX0_lacksWire_0 : decode cX0_lacksWire 0 = .ok (.iconst 0, 1) := by decide +kernel
theorem dX0_lacksWire_1 : decode cX0_lacksWire 1 = .ok (.istore_n 1, 1) := by decide +kernel
theorem dX0_lacksWire_2 : decode cX0_lacksWire 2 = .ok (.iload_n 1, 1) := by decide +kernel
theorem dX0_lacksWire_3 : decode cX0_lacksWire 3 = .ok (.aload_n 0, 1) := by decide +kernel
theorem dX0_lacksWire_4 : decode cX0_lacksWire 4 = .ok (.invokevirtual 50, 3) := by decide +kernel
theorem dX0_lacksWire_7 : decode cX0_lacksWire 7 = .ok (.if_icmp .ge 21, 3) := by decide +kernel
theorem dX0_lacksWire_10 : decode cX0_lacksWire 10 = .ok (.aload_n 0, 1) := by decide +kernel
theorem dX0_lacksWire_11 : decode cX0_lacksWire 11 = .ok (.getfield 37, 3) := by decide +kernel
theorem dX0_lacksWire_14 : decode cX0_lacksWire 14 = .ok (.iload_n 1, 1) := by decide +kernel
theorem dX0_lacksWire_15 : decode cX0_lacksWire 15 = .ok (.iaload, 1) := by decide +kernel
theorem dX0_lacksWire_16 : decode cX0_lacksWire 16 = .ok (.iconst (-1), 1) := by decide +kernel
theorem dX0_lacksWire_17 : decode cX0_lacksWire 17 = .ok (.if_icmp .ne 5, 3) := by decide +kernel
theorem dX0_lacksWire_20 : decode cX0_lacksWire 20 = .ok (.iconst 1, 1) := by decide +kernel
theorem dX0_lacksWire_21 : decode cX0_lacksWire 21 = .ok (.ireturn, 1) := by decide +kernel
theorem dX0_lacksWire_22 : decode cX0_lacksWire 22 = .ok (.iinc 1 1, 3) := by decide +kernel
theorem dX0_lacksWire_25 : decode cX0_lacksWire 25 = .ok (.goto (-23), 3) := by decide +kernel
theorem dX0_lacksWire_28 : decode cX0_lacksWire 28 = .ok (.iconst 0, 1) := by decide +kernel
theorem dX0_lacksWire_29 : decode cX0_lacksWire 29 = .ok (.ireturn, 1) := by decide +kernel
theorem dX0_say_0 : decode cX0_say 0 = .ok (.aload_n 0, 1) := by decide +kernel
theorem dX0_say_1 : decode cX0_say 1 = .ok (.aload_n 0, 1) := by decide +kernel
theorem dX0_say_2 : decode cX0_say 2 = .ok (.getfield 30, 3) := by decide +kernel
theorem dX0_say_5 : decode cX0_say 5 = .ok (.ifCond .eq 10, 3) := by decide +kernel
theorem dX0_say_8 : decode cX0_say 8 = .ok (.aload_n 0, 1) := by decide +kernel
theorem dX0_say_9 : decode cX0_say 9 = .ok (.getfield 34, 3) := by decide +kernel
theorem dX0_say_12 : decode cX0_say 12 = .ok (.goto 4, 3) := by decide +kernel
theorem dX0_say_15 : decode cX0_say 15 = .ok (.iload_n 1, 1) := by decide +kernel
theorem dX0_say_16 : decode cX0_say 16 = .ok (.putfield 21, 3) := by decide +kernel
theorem dX0_say_19 : decode cX0_say 19 = .ok (.return_, 1) := by decide +kernel
set_option maxRecDepth 20000 in
theorem ggX0_ownReckoning_X3_isPlaceInRow : GoodIn wsX0_ownReckoning wsX3_isPlaceInRow := goodIn_r _ [13] (by decide +kernel) (by decide +kernel)
set_option maxRecDepth 20000 in
theorem gX0_ownReckoning_X3_isPlaceInRow_n54 : GoodIn wsX0_ownReckoning (wsX3_isPlaceInRow) := ggX0_ownReckoning_X3_isPlaceInRow
set_option maxRecDepth 20000 in
theorem ggX0_ownReckoning_X0_ramped : GoodIn wsX0_ownReckoning wsX0_ramped := goodIn_r _ [18, 2, 19, 20, 9, 21, 6, 22, 23, 24, 44, 45, 46, 47, 48, 49, 50, 51, 52, 53, 54] (by decide +kernel) (by decide +kernel)
set_option maxRecDepth 20000 in
theorem gX0_ownReckoning_X0_ramped : GoodIn wsX0_ownReckoning (wsV RX0 58 RX0 yX0_ramped wsX0_ramped) := goodIn_app (goodIn_of _ (by decide +kernel)) ggX0_ownReckoning_X0_ramped
set_option maxRecDepth 20000 in
theorem ggX0_ownReckoning_X0_counted : GoodIn wsX0_ownReckoning wsX0_counted := goodIn_r _ [28, 4, 29, 44, 45, 46, 47, 48, 49, 50, 51, 52, 53, 54] (by decide +kernel) (by decide +kernel)
set_option maxRecDepth 20000 in
theorem gX0_ownReckoning_X0_counted : GoodIn wsX0_ownReckoning (wsV RX0 62 RX0 yX0_counted wsX0_counted) := goodIn_app (goodIn_of _ (by decide +kernel)) ggX0_ownReckoning_X0_counted
set_option maxRecDepth 20000 in
theorem ggX0_ownReckoning_X0_latched : GoodIn wsX0_ownReckoning wsX0_latched := goodIn_r _ [33, 4, 44, 45, 46, 47, 48, 49, 50, 51, 52, 53, 54] (by decide +kernel) (by decide +kernel)
set_option maxRecDepth 20000 in
theorem gX0_ownReckoning_X0_latched : GoodIn wsX0_ownReckoning (wsV RX0 66 RX0 yX0_latched wsX0_latched) := goodIn_app (goodIn_of _ (by decide +kernel)) ggX0_ownReckoning_X0_latched
set_option maxRecDepth 20000 in
theorem ggX0_ownReckoning_X0_isClockOn : GoodIn wsX0_ownReckoning wsX0_isClockOn := goodIn_r _ [37, 2, 5, 44, 45, 46, 47, 48, 49, 50, 51, 52, 53, 54] (by decide +kernel) (by decide +kernel)
set_option maxRecDepth 20000 in
theorem gX0_ownReckoning_X0_isClockOn : GoodIn wsX0_ownReckoning (wsV RX0 69 RX0 yX0_isClockOn wsX0_isClockOn) := goodIn_app (goodIn_of _ (by decide +kernel)) ggX0_ownReckoning_X0_isClockOn
set_option maxRecDepth 20000 in
theorem ggX0_ownReckoning_X3_asNumber : GoodIn wsX0_ownReckoning wsX3_asNumber := goodIn_r _ [39] (by decide +kernel) (by decide +kernel)
set_option maxRecDepth 20000 in
theorem gX0_ownReckoning_X3_asNumber_n72 : GoodIn wsX0_ownReckoning (wsX3_asNumber) := ggX0_ownReckoning_X3_asNumber
set_option maxRecDepth 20000 in
theorem ggX0_ownReckoning_X0_pulsed : GoodIn wsX0_ownReckoning wsX0_pulsed := goodIn_r _ [43, 29, 2, 4, 44, 45, 46, 47, 48, 49, 50, 51, 52, 53, 54] (by decide +kernel) (by decide +kernel)
set_option maxRecDepth 20000 in
theorem gX0_ownReckoning_X0_pulsed : GoodIn wsX0_ownReckoning (wsV RX0 76 RX0 yX0_pulsed wsX0_pulsed) := goodIn_app (goodIn_of _ (by decide +kernel)) ggX0_ownReckoning_X0_pulsed
theorem dX0_ownReckoning_0 : decode cX0_ownReckoning 0 = .ok (.aload_n 0, 1) := by decide +kernel
theorem dX0_ownReckoning_1 : decode cX0_ownReckoning 1 = .ok (.getfield 44, 3) := by decide +kernel
theorem dX0_ownReckoning_4 : decode cX0_ownReckoning 4 = .ok (.tableswitch 281 1 25 #[116, 281, 281, 281, 281, 281, 281, 281, 281, 281, 281, 281, 281, 281, 121, 139, 144, 150, 157, 164, 177, 183, 215, 228, 251], 116) := by decide +kernel
theorem dX0_ownReckoning_120 : decode cX0_ownReckoning 120 = .ok (.aload_n 0, 1) := by decide +kernel
theorem dX0_ownReckoning_121 : decode cX0_ownReckoning 121 = .ok (.getfield 9, 3) := by decide +kernel
theorem dX0_ownReckoning_124 : decode cX0_ownReckoning 124 = .ok (.ireturn, 1) := by decide +kernel
theorem dX0_ownReckoning_125 : decode cX0_ownReckoning 125 = .ok (.iload_n 1, 1) := by decide +kernel
theorem dX0_ownReckoning_126 : decode cX0_ownReckoning 126 = .ok (.invokestatic 54, 3) := by decide +kernel
theorem dX0_ownReckoning_129 : decode cX0_ownReckoning 129 = .ok (.ifCond .eq 12, 3) := by decide +kernel
theorem dX0_ownReckoning_132 : decode cX0_ownReckoning 132 = .ok (.aload_n 0, 1) := by decide +kernel
theorem dX0_ownReckoning_133 : decode cX0_ownReckoning 133 = .ok (.getfield 41, 3) := by decide +kernel
theorem dX0_ownReckoning_136 : decode cX0_ownReckoning 136 = .ok (.iload_n 1, 1) := by decide +kernel
theorem dX0_ownReckoning_137 : decode cX0_ownReckoning 137 = .ok (.iaload, 1) := by decide +kernel
theorem dX0_ownReckoning_138 : decode cX0_ownReckoning 138 = .ok (.goto 4, 3) := by decide +kernel
theorem dX0_ownReckoning_141 : decode cX0_ownReckoning 141 = .ok (.iconst 0, 1) := by decide +kernel
theorem dX0_ownReckoning_142 : decode cX0_ownReckoning 142 = .ok (.ireturn, 1) := by decide +kernel
theorem dX0_ownReckoning_143 : decode cX0_ownReckoning 143 = .ok (.aload_n 0, 1) := by decide +kernel
theorem dX0_ownReckoning_144 : decode cX0_ownReckoning 144 = .ok (.getfield 24, 3) := by decide +kernel
theorem dX0_ownReckoning_147 : decode cX0_ownReckoning 147 = .ok (.ireturn, 1) := by decide +kernel
theorem dX0_ownReckoning_148 : decode cX0_ownReckoning 148 = .ok (.aload_n 0, 1) := by decide +kernel
theorem dX0_ownReckoning_149 : decode cX0_ownReckoning 149 = .ok (.iload_n 1, 1) := by decide +kernel
theorem dX0_ownReckoning_150 : decode cX0_ownReckoning 150 = .ok (.invokevirtual 58, 3) := by decide +kernel
theorem dX0_ownReckoning_153 : decode cX0_ownReckoning 153 = .ok (.ireturn, 1) := by decide +kernel
theorem dX0_ownReckoning_154 : decode cX0_ownReckoning 154 = .ok (.aload_n 0, 1) := by decide +kernel
theorem dX0_ownReckoning_155 : decode cX0_ownReckoning 155 = .ok (.iload_n 1, 1) := by decide +kernel
theorem dX0_ownReckoning_156 : decode cX0_ownReckoning 156 = .ok (.iload_n 2, 1) := by decide +kernel
theorem dX0_ownReckoning_157 : decode cX0_ownReckoning 157 = .ok (.invokevirtual 62, 3) := by decide +kernel
theorem dX0_ownReckoning_160 : decode cX0_ownReckoning 160 = .ok (.ireturn, 1) := by decide +kernel
theorem dX0_ownReckoning_161 : decode cX0_ownReckoning 161 = .ok (.aload_n 0, 1) := by decide +kernel
theorem dX0_ownReckoning_162 : decode cX0_ownReckoning 162 = .ok (.iload_n 1, 1) := by decide +kernel
theorem dX0_ownReckoning_163 : decode cX0_ownReckoning 163 = .ok (.iload_n 2, 1) := by decide +kernel
theorem dX0_ownReckoning_164 : decode cX0_ownReckoning 164 = .ok (.invokevirtual 66, 3) := by decide +kernel
theorem dX0_ownReckoning_167 : decode cX0_ownReckoning 167 = .ok (.ireturn, 1) := by decide +kernel
theorem dX0_ownReckoning_168 : decode cX0_ownReckoning 168 = .ok (.aload_n 0, 1) := by decide +kernel
theorem dX0_ownReckoning_169 : decode cX0_ownReckoning 169 = .ok (.iload_n 3, 1) := by decide +kernel
theorem dX0_ownReckoning_170 : decode cX0_ownReckoning 170 = .ok (.sipush 1440, 3) := by decide +kernel
theorem dX0_ownReckoning_173 : decode cX0_ownReckoning 173 = .ok (.irem, 1) := by decide +kernel
theorem dX0_ownReckoning_174 : decode cX0_ownReckoning 174 = .ok (.invokevirtual 69, 3) := by decide +kernel
theorem dX0_ownReckoning_177 : decode cX0_ownReckoning 177 = .ok (.invokestatic 72, 3) := by decide +kernel
theorem dX0_ownReckoning_180 : decode cX0_ownReckoning 180 = .ok (.ireturn, 1) := by decide +kernel
theorem dX0_ownReckoning_181 : decode cX0_ownReckoning 181 = .ok (.aload_n 0, 1) := by decide +kernel
theorem dX0_ownReckoning_182 : decode cX0_ownReckoning 182 = .ok (.iload_n 1, 1) := by decide +kernel
theorem dX0_ownReckoning_183 : decode cX0_ownReckoning 183 = .ok (.invokevirtual 76, 3) := by decide +kernel
theorem dX0_ownReckoning_186 : decode cX0_ownReckoning 186 = .ok (.ireturn, 1) := by decide +kernel
theorem dX0_ownReckoning_187 : decode cX0_ownReckoning 187 = .ok (.iload_n 1, 1) := by decide +kernel
theorem dX0_ownReckoning_188 : decode cX0_ownReckoning 188 = .ok (.aload_n 0, 1) := by decide +kernel
theorem dX0_ownReckoning_189 : decode cX0_ownReckoning 189 = .ok (.getfield 9, 3) := by decide +kernel
theorem dX0_ownReckoning_192 : decode cX0_ownReckoning 192 = .ok (.if_icmp .ge 10, 3) := by decide +kernel
theorem dX0_ownReckoning_195 : decode cX0_ownReckoning 195 = .ok (.aload_n 0, 1) := by decide +kernel
theorem dX0_ownReckoning_196 : decode cX0_ownReckoning 196 = .ok (.getfield 9, 3) := by decide +kernel
theorem dX0_ownReckoning_199 : decode cX0_ownReckoning 199 = .ok (.goto 19, 3) := by decide +kernel
theorem dX0_ownReckoning_202 : decode cX0_ownReckoning 202 = .ok (.iload_n 1, 1) := by decide +kernel
theorem dX0_ownReckoning_203 : decode cX0_ownReckoning 203 = .ok (.aload_n 0, 1) := by decide +kernel
theorem dX0_ownReckoning_204 : decode cX0_ownReckoning 204 = .ok (.getfield 15, 3) := by decide +kernel
theorem dX0_ownReckoning_207 : decode cX0_ownReckoning 207 = .ok (.if_icmp .le 10, 3) := by decide +kernel
theorem dX0_ownReckoning_210 : decode cX0_ownReckoning 210 = .ok (.aload_n 0, 1) := by decide +kernel
theorem dX0_ownReckoning_211 : decode cX0_ownReckoning 211 = .ok (.getfield 15, 3) := by decide +kernel
theorem dX0_ownReckoning_214 : decode cX0_ownReckoning 214 = .ok (.goto 4, 3) := by decide +kernel
theorem dX0_ownReckoning_217 : decode cX0_ownReckoning 217 = .ok (.iload_n 1, 1) := by decide +kernel
theorem dX0_ownReckoning_218 : decode cX0_ownReckoning 218 = .ok (.ireturn, 1) := by decide +kernel
theorem dX0_ownReckoning_219 : decode cX0_ownReckoning 219 = .ok (.iload_n 2, 1) := by decide +kernel
theorem dX0_ownReckoning_220 : decode cX0_ownReckoning 220 = .ok (.ifCond .eq 10, 3) := by decide +kernel
theorem dX0_ownReckoning_223 : decode cX0_ownReckoning 223 = .ok (.aload_n 0, 1) := by decide +kernel
theorem dX0_ownReckoning_224 : decode cX0_ownReckoning 224 = .ok (.getfield 21, 3) := by decide +kernel
theorem dX0_ownReckoning_227 : decode cX0_ownReckoning 227 = .ok (.goto 4, 3) := by decide +kernel
theorem dX0_ownReckoning_230 : decode cX0_ownReckoning 230 = .ok (.iload_n 1, 1) := by decide +kernel
theorem dX0_ownReckoning_231 : decode cX0_ownReckoning 231 = .ok (.ireturn, 1) := by decide +kernel
theorem dX0_ownReckoning_232 : decode cX0_ownReckoning 232 = .ok (.aload_n 0, 1) := by decide +kernel
theorem dX0_ownReckoning_233 : decode cX0_ownReckoning 233 = .ok (.iload_n 2, 1) := by decide +kernel
theorem dX0_ownReckoning_234 : decode cX0_ownReckoning 234 = .ok (.ifCond .eq 7, 3) := by decide +kernel
theorem dX0_ownReckoning_237 : decode cX0_ownReckoning 237 = .ok (.iconst 0, 1) := by decide +kernel
theorem dX0_ownReckoning_238 : decode cX0_ownReckoning 238 = .ok (.goto 9, 3) := by decide +kernel
theorem dX0_ownReckoning_241 : decode cX0_ownReckoning 241 = .ok (.aload_n 0, 1) := by decide +kernel
theorem dX0_ownReckoning_242 : decode cX0_ownReckoning 242 = .ok (.getfield 24, 3) := by decide +kernel
theorem dX0_ownReckoning_245 : decode cX0_ownReckoning 245 = .ok (.iload_n 1, 1) := by decide +kernel
theorem dX0_ownReckoning_246 : decode cX0_ownReckoning 246 = .ok (.iadd, 1) := by decide +kernel
theorem dX0_ownReckoning_247 : decode cX0_ownReckoning 247 = .ok (.putfield 24, 3) := by decide +kernel
theorem dX0_ownReckoning_250 : decode cX0_ownReckoning 250 = .ok (.aload_n 0, 1) := by decide +kernel
theorem dX0_ownReckoning_251 : decode cX0_ownReckoning 251 = .ok (.getfield 24, 3) := by decide +kernel
theorem dX0_ownReckoning_254 : decode cX0_ownReckoning 254 = .ok (.ireturn, 1) := by decide +kernel
theorem dX0_ownReckoning_255 : decode cX0_ownReckoning 255 = .ok (.aload_n 0, 1) := by decide +kernel
theorem dX0_ownReckoning_256 : decode cX0_ownReckoning 256 = .ok (.iload_n 1, 1) := by decide +kernel
theorem dX0_ownReckoning_257 : decode cX0_ownReckoning 257 = .ok (.ifCond .eq 12, 3) := by decide +kernel
theorem dX0_ownReckoning_260 : decode cX0_ownReckoning 260 = .ok (.aload_n 0, 1) := by decide +kernel
theorem dX0_ownReckoning_261 : decode cX0_ownReckoning 261 = .ok (.getfield 24, 3) := by decide +kernel
theorem dX0_ownReckoning_264 : decode cX0_ownReckoning 264 = .ok (.iconst 1, 1) := by decide +kernel
theorem dX0_ownReckoning_265 : decode cX0_ownReckoning 265 = .ok (.iadd, 1) := by decide +kernel
theorem dX0_ownReckoning_266 : decode cX0_ownReckoning 266 = .ok (.goto 4, 3) := by decide +kernel
theorem dX0_ownReckoning_269 : decode cX0_ownReckoning 269 = .ok (.iconst 0, 1) := by decide +kernel
theorem dX0_ownReckoning_270 : decode cX0_ownReckoning 270 = .ok (.aload_n 0, 1) := by decide +kernel
theorem dX0_ownReckoning_271 : decode cX0_ownReckoning 271 = .ok (.getfield 9, 3) := by decide +kernel
theorem dX0_ownReckoning_274 : decode cX0_ownReckoning 274 = .ok (.invokestatic 79, 3) := by decide +kernel
theorem dX0_ownReckoning_277 : decode cX0_ownReckoning 277 = .ok (.putfield 24, 3) := by decide +kernel
theorem dX0_ownReckoning_280 : decode cX0_ownReckoning 280 = .ok (.aload_n 0, 1) := by decide +kernel
theorem dX0_ownReckoning_281 : decode cX0_ownReckoning 281 = .ok (.getfield 24, 3) := by decide +kernel
theorem dX0_ownReckoning_284 : decode cX0_ownReckoning 284 = .ok (.ireturn, 1) := by decide +kernel
theorem dX0_ownReckoning_285 : decode cX0_ownReckoning 285 = .ok (.iconst 0, 1) := by decide +kernel
theorem dX0_ownReckoning_286 : decode cX0_ownReckoning 286 = .ok (.ireturn, 1) := by decide +kernel
theorem dX0_ramped_0 : decode cX0_ramped 0 = .ok (.aload_n 0, 1) := by decide +kernel
theorem dX0_ramped_1 : decode cX0_ramped 1 = .ok (.getfield 9, 3) := by decide +kernel
theorem dX0_ramped_4 : decode cX0_ramped 4 = .ok (.iconst 0, 1) := by decide +kernel
theorem dX0_ramped_5 : decode cX0_ramped 5 = .ok (.invokestatic 84, 3) := by decide +kernel
theorem dX0_ramped_8 : decode cX0_ramped 8 = .ok (.istore_n 2, 1) := by decide +kernel
theorem dX0_ramped_9 : decode cX0_ramped 9 = .ok (.iload_n 1, 1) := by decide +kernel
theorem dX0_ramped_10 : decode cX0_ramped 10 = .ok (.i2l, 1) := by decide +kernel
theorem dX0_ramped_11 : decode cX0_ramped 11 = .ok (.aload_n 0, 1) := by decide +kernel
theorem dX0_ramped_12 : decode cX0_ramped 12 = .ok (.getfield 21, 3) := by decide +kernel
theorem dX0_ramped_15 : decode cX0_ramped 15 = .ok (.i2l, 1) := by decide +kernel
theorem dX0_ramped_16 : decode cX0_ramped 16 = .ok (.lsub, 1) := by decide +kernel
theorem dX0_ramped_17 : decode cX0_ramped 17 = .ok (.lstore_n 3, 1) := by decide +kernel
theorem dX0_ramped_18 : decode cX0_ramped 18 = .ok (.lload_n 3, 1) := by decide +kernel
theorem dX0_ramped_19 : decode cX0_ramped 19 = .ok (.invokestatic 87, 3) := by decide +kernel
theorem dX0_ramped_22 : decode cX0_ramped 22 = .ok (.iload_n 2, 1) := by decide +kernel
theorem dX0_ramped_23 : decode cX0_ramped 23 = .ok (.i2l, 1) := by decide +kernel
theorem dX0_ramped_24 : decode cX0_ramped 24 = .ok (.lcmp, 1) := by decide +kernel
theorem dX0_ramped_25 : decode cX0_ramped 25 = .ok (.ifCond .gt 5, 3) := by decide +kernel
theorem dX0_ramped_28 : decode cX0_ramped 28 = .ok (.iload_n 1, 1) := by decide +kernel
theorem dX0_ramped_29 : decode cX0_ramped 29 = .ok (.ireturn, 1) := by decide +kernel
theorem dX0_ramped_30 : decode cX0_ramped 30 = .ok (.lload_n 3, 1) := by decide +kernel
theorem dX0_ramped_31 : decode cX0_ramped 31 = .ok (.lconst 0, 1) := by decide +kernel
theorem dX0_ramped_32 : decode cX0_ramped 32 = .ok (.lcmp, 1) := by decide +kernel
theorem dX0_ramped_33 : decode cX0_ramped 33 = .ok (.ifCond .le 12, 3) := by decide +kernel
theorem dX0_ramped_36 : decode cX0_ramped 36 = .ok (.aload_n 0, 1) := by decide +kernel
theorem dX0_ramped_37 : decode cX0_ramped 37 = .ok (.getfield 21, 3) := by decide +kernel
theorem dX0_ramped_40 : decode cX0_ramped 40 = .ok (.iload_n 2, 1) := by decide +kernel
theorem dX0_ramped_41 : decode cX0_ramped 41 = .ok (.iadd, 1) := by decide +kernel
theorem dX0_ramped_42 : decode cX0_ramped 42 = .ok (.goto 9, 3) := by decide +kernel
theorem dX0_ramped_45 : decode cX0_ramped 45 = .ok (.aload_n 0, 1) := by decide +kernel
theorem dX0_ramped_46 : decode cX0_ramped 46 = .ok (.getfield 21, 3) := by decide +kernel
theorem dX0_ramped_49 : decode cX0_ramped 49 = .ok (.iload_n 2, 1) := by decide +kernel
theorem dX0_ramped_50 : decode cX0_ramped 50 = .ok (.isub, 1) := by decide +kernel
theorem dX0_ramped_51 : decode cX0_ramped 51 = .ok (.ireturn, 1) := by decide +kernel
theorem dX0_counted_0 : decode cX0_counted 0 = .ok (.iload_n 2, 1) := by decide +kernel
theorem dX0_counted_1 : decode cX0_counted 1 = .ok (.ifCond .eq 11, 3) := by decide +kernel
theorem dX0_counted_4 : decode cX0_counted 4 = .ok (.aload_n 0, 1) := by decide +kernel
theorem dX0_counted_5 : decode cX0_counted 5 = .ok (.iconst 0, 1) := by decide +kernel
theorem dX0_counted_6 : decode cX0_counted 6 = .ok (.putfield 24, 3) := by decide +kernel
theorem dX0_counted_9 : decode cX0_counted 9 = .ok (.goto 24, 3) := by decide +kernel
theorem dX0_counted_12 : decode cX0_counted 12 = .ok (.iload_n 1, 1) := by decide +kernel
theorem dX0_counted_13 : decode cX0_counted 13 = .ok (.ifCond .eq 20, 3) := by decide +kernel
theorem dX0_counted_16 : decode cX0_counted 16 = .ok (.aload_n 0, 1) := by decide +kernel
theorem dX0_counted_17 : decode cX0_counted 17 = .ok (.getfield 27, 3) := by decide +kernel
theorem dX0_counted_20 : decode cX0_counted 20 = .ok (.ifCond .ne 13, 3) := by decide +kernel
theorem dX0_counted_23 : decode cX0_counted 23 = .ok (.aload_n 0, 1) := by decide +kernel
theorem dX0_counted_24 : decode cX0_counted 24 = .ok (.dup, 1) := by decide +kernel
theorem dX0_counted_25 : decode cX0_counted 25 = .ok (.getfield 24, 3) := by decide +kernel
theorem dX0_counted_28 : decode cX0_counted 28 = .ok (.iconst 1, 1) := by decide +kernel
theorem dX0_counted_29 : decode cX0_counted 29 = .ok (.iadd, 1) := by decide +kernel
theorem dX0_counted_30 : decode cX0_counted 30 = .ok (.putfield 24, 3) := by decide +kernel
theorem dX0_counted_33 : decode cX0_counted 33 = .ok (.aload_n 0, 1) := by decide +kernel
theorem dX0_counted_34 : decode cX0_counted 34 = .ok (.iload_n 1, 1) := by decide +kernel
theorem dX0_counted_35 : decode cX0_counted 35 = .ok (.putfield 27, 3) := by decide +kernel
theorem dX0_counted_38 : decode cX0_counted 38 = .ok (.aload_n 0, 1) := by decide +kernel
theorem dX0_counted_39 : decode cX0_counted 39 = .ok (.getfield 24, 3) := by decide +kernel
theorem dX0_counted_42 : decode cX0_counted 42 = .ok (.ireturn, 1) := by decide +kernel
theorem dX0_latched_0 : decode cX0_latched 0 = .ok (.iload_n 1, 1) := by decide +kernel
theorem dX0_latched_1 : decode cX0_latched 1 = .ok (.ifCond .eq 11, 3) := by decide +kernel
theorem dX0_latched_4 : decode cX0_latched 4 = .ok (.aload_n 0, 1) := by decide +kernel
theorem dX0_latched_5 : decode cX0_latched 5 = .ok (.iconst 1, 1) := by decide +kernel
theorem dX0_latched_6 : decode cX0_latched 6 = .ok (.putfield 24, 3) := by decide +kernel
theorem dX0_latched_9 : decode cX0_latched 9 = .ok (.goto 12, 3) := by decide +kernel
theorem dX0_latched_12 : decode cX0_latched 12 = .ok (.iload_n 2, 1) := by decide +kernel
theorem dX0_latched_13 : decode cX0_latched 13 = .ok (.ifCond .eq 8, 3) := by decide +kernel
theorem dX0_latched_16 : decode cX0_latched 16 = .ok (.aload_n 0, 1) := by decide +kernel
theorem dX0_latched_17 : decode cX0_latched 17 = .ok (.iconst 0, 1) := by decide +kernel
theorem dX0_latched_18 : decode cX0_latched 18 = .ok (.putfield 24, 3) := by decide +kernel
theorem dX0_latched_21 : decode cX0_latched 21 = .ok (.aload_n 0, 1) := by decide +kernel
theorem dX0_latched_22 : decode cX0_latched 22 = .ok (.getfield 24, 3) := by decide +kernel
theorem dX0_latched_25 : decode cX0_latched 25 = .ok (.ireturn, 1) := by decide +kernel
theorem dX0_isClockOn_0 : decode cX0_isClockOn 0 = .ok (.aload_n 0, 1) := by decide +kernel
theorem dX0_isClockOn_1 : decode cX0_isClockOn 1 = .ok (.getfield 9, 3) := by decide +kernel
theorem dX0_isClockOn_4 : decode cX0_isClockOn 4 = .ok (.aload_n 0, 1) := by decide +kernel
theorem dX0_isClockOn_5 : decode cX0_isClockOn 5 = .ok (.getfield 15, 3) := by decide +kernel
theorem dX0_isClockOn_8 : decode cX0_isClockOn 8 = .ok (.if_icmp .le 27, 3) := by decide +kernel
theorem dX0_isClockOn_11 : decode cX0_isClockOn 11 = .ok (.iload_n 1, 1) := by decide +kernel
theorem dX0_isClockOn_12 : decode cX0_isClockOn 12 = .ok (.aload_n 0, 1) := by decide +kernel
theorem dX0_isClockOn_13 : decode cX0_isClockOn 13 = .ok (.getfield 9, 3) := by decide +kernel
theorem dX0_isClockOn_16 : decode cX0_isClockOn 16 = .ok (.if_icmp .ge 11, 3) := by decide +kernel
theorem dX0_isClockOn_19 : decode cX0_isClockOn 19 = .ok (.iload_n 1, 1) := by decide +kernel
theorem dX0_isClockOn_20 : decode cX0_isClockOn 20 = .ok (.aload_n 0, 1) := by decide +kernel
theorem dX0_isClockOn_21 : decode cX0_isClockOn 21 = .ok (.getfield 15, 3) := by decide +kernel
theorem dX0_isClockOn_24 : decode cX0_isClockOn 24 = .ok (.if_icmp .ge 7, 3) := by decide +kernel
theorem dX0_isClockOn_27 : decode cX0_isClockOn 27 = .ok (.iconst 1, 1) := by decide +kernel
theorem dX0_isClockOn_28 : decode cX0_isClockOn 28 = .ok (.goto 28, 3) := by decide +kernel
theorem dX0_isClockOn_31 : decode cX0_isClockOn 31 = .ok (.iconst 0, 1) := by decide +kernel
theorem dX0_isClockOn_32 : decode cX0_isClockOn 32 = .ok (.goto 24, 3) := by decide +kernel
theorem dX0_isClockOn_35 : decode cX0_isClockOn 35 = .ok (.iload_n 1, 1) := by decide +kernel
theorem dX0_isClockOn_36 : decode cX0_isClockOn 36 = .ok (.aload_n 0, 1) := by decide +kernel
theorem dX0_isClockOn_37 : decode cX0_isClockOn 37 = .ok (.getfield 9, 3) := by decide +kernel
theorem dX0_isClockOn_40 : decode cX0_isClockOn 40 = .ok (.if_icmp .lt 15, 3) := by decide +kernel
theorem dX0_isClockOn_43 : decode cX0_isClockOn 43 = .ok (.iload_n 1, 1) := by decide +kernel
theorem dX0_isClockOn_44 : decode cX0_isClockOn 44 = .ok (.aload_n 0, 1) := by decide +kernel
theorem dX0_isClockOn_45 : decode cX0_isClockOn 45 = .ok (.getfield 15, 3) := by decide +kernel
theorem dX0_isClockOn_48 : decode cX0_isClockOn 48 = .ok (.if_icmp .ge 7, 3) := by decide +kernel
theorem dX0_isClockOn_51 : decode cX0_isClockOn 51 = .ok (.iconst 1, 1) := by decide +kernel
theorem dX0_isClockOn_52 : decode cX0_isClockOn 52 = .ok (.goto 4, 3) := by decide +kernel
theorem dX0_isClockOn_55 : decode cX0_isClockOn 55 = .ok (.iconst 0, 1) := by decide +kernel
theorem dX0_isClockOn_56 : decode cX0_isClockOn 56 = .ok (.ireturn, 1) := by decide +kernel
theorem dX0_pulsed_0 : decode cX0_pulsed 0 = .ok (.iload_n 1, 1) := by decide +kernel
theorem dX0_pulsed_1 : decode cX0_pulsed 1 = .ok (.ifCond .eq 18, 3) := by decide +kernel
theorem dX0_pulsed_4 : decode cX0_pulsed 4 = .ok (.aload_n 0, 1) := by decide +kernel
theorem dX0_pulsed_5 : decode cX0_pulsed 5 = .ok (.getfield 27, 3) := by decide +kernel
theorem dX0_pulsed_8 : decode cX0_pulsed 8 = .ok (.ifCond .ne 11, 3) := by decide +kernel
theorem dX0_pulsed_11 : decode cX0_pulsed 11 = .ok (.aload_n 0, 1) := by decide +kernel
theorem dX0_pulsed_12 : decode cX0_pulsed 12 = .ok (.aload_n 0, 1) := by decide +kernel
theorem dX0_pulsed_13 : decode cX0_pulsed 13 = .ok (.getfield 9, 3) := by decide +kernel
theorem dX0_pulsed_16 : decode cX0_pulsed 16 = .ok (.putfield 24, 3) := by decide +kernel
theorem dX0_pulsed_19 : decode cX0_pulsed 19 = .ok (.aload_n 0, 1) := by decide +kernel
theorem dX0_pulsed_20 : decode cX0_pulsed 20 = .ok (.iload_n 1, 1) := by decide +kernel
theorem dX0_pulsed_21 : decode cX0_pulsed 21 = .ok (.putfield 27, 3) := by decide +kernel
theorem dX0_pulsed_24 : decode cX0_pulsed 24 = .ok (.aload_n 0, 1) := by decide +kernel
theorem dX0_pulsed_25 : decode cX0_pulsed 25 = .ok (.getfield 24, 3) := by decide +kernel
theorem dX0_pulsed_28 : decode cX0_pulsed 28 = .ok (.ifCond .gt 5, 3) := by decide +kernel
theorem dX0_pulsed_31 : decode cX0_pulsed 31 = .ok (.iconst 0, 1) := by decide +kernel
theorem dX0_pulsed_32 : decode cX0_pulsed 32 = .ok (.ireturn, 1) := by decide +kernel
theorem dX0_pulsed_33 : decode cX0_pulsed 33 = .ok (.aload_n 0, 1) := by decide +kernel
theorem dX0_pulsed_34 : decode cX0_pulsed 34 = .ok (.dup, 1) := by decide +kernel
theorem dX0_pulsed_35 : decode cX0_pulsed 35 = .ok (.getfield 24, 3) := by decide +kernel
theorem dX0_pulsed_38 : decode cX0_pulsed 38 = .ok (.iconst 1, 1) := by decide +kernel
theorem dX0_pulsed_39 : decode cX0_pulsed 39 = .ok (.isub, 1) := by decide +kernel
theorem dX0_pulsed_40 : decode cX0_pulsed 40 = .ok (.putfield 24, 3) := by decide +kernel
theorem dX0_pulsed_43 : decode cX0_pulsed 43 = .ok (.iconst 1, 1) := by decide +kernel
theorem dX0_pulsed_44 : decode cX0_pulsed 44 = .ok (.ireturn, 1) := by decide +kernel
theorem dX1_init_0 : decode cX1_init 0 = .ok (.aload_n 0, 1) := by decide +kernel
theorem dX1_init_1 : decode cX1_init 1 = .ok (.invokespecial 3, 3) := by decide +kernel
theorem dX1_init_4 : decode cX1_init 4 = .ok (.aload_n 0, 1) := by decide +kernel
theorem dX1_init_5 : decode cX1_init 5 = .ok (.iconst 4, 1) := by decide +kernel
theorem dX1_init_6 : decode cX1_init 6 = .ok (.newarray .int, 2) := by decide +kernel
theorem dX1_init_8 : decode cX1_init 8 = .ok (.putfield 9, 3) := by decide +kernel
theorem dX1_init_11 : decode cX1_init 11 = .ok (.aload_n 0, 1) := by decide +kernel
theorem dX1_init_12 : decode cX1_init 12 = .ok (.bipush 32, 2) := by decide +kernel
theorem dX1_init_14 : decode cX1_init 14 = .ok (.newarray .int, 2) := by decide +kernel
theorem dX1_init_16 : decode cX1_init 16 = .ok (.putfield 15, 3) := by decide +kernel
theorem dX1_init_19 : decode cX1_init 19 = .ok (.aload_n 0, 1) := by decide +kernel
theorem dX1_init_20 : decode cX1_init 20 = .ok (.bipush 32, 2) := by decide +kernel
theorem dX1_init_22 : decode cX1_init 22 = .ok (.newarray .int, 2) := by decide +kernel
theorem dX1_init_24 : decode cX1_init 24 = .ok (.putfield 18, 3) := by decide +kernel
theorem dX1_init_27 : decode cX1_init 27 = .ok (.aload_n 0, 1) := by decide +kernel
theorem dX1_init_28 : decode cX1_init 28 = .ok (.bipush 32, 2) := by decide +kernel
theorem dX1_init_30 : decode cX1_init 30 = .ok (.newarray .int, 2) := by decide +kernel
theorem dX1_init_32 : decode cX1_init 32 = .ok (.putfield 21, 3) := by decide +kernel
theorem dX1_init_35 : decode cX1_init 35 = .ok (.aload_n 0, 1) := by decide +kernel
theorem dX1_init_36 : decode cX1_init 36 = .ok (.iconst 0, 1) := by decide +kernel
theorem dX1_init_37 : decode cX1_init 37 = .ok (.putfield 24, 3) := by decide +kernel
theorem dX1_init_40 : decode cX1_init 40 = .ok (.return_, 1) := by decide +kernel
theorem dX1_note_0 : decode cX1_note 0 = .ok (.aload_n 0, 1) := by decide +kernel
theorem dX1_note_1 : decode cX1_note 1 = .ok (.getfield 15, 3) := by decide +kernel
theorem dX1_note_4 : decode cX1_note 4 = .ok (.aload_n 0, 1) := by decide +kernel
theorem dX1_note_5 : decode cX1_note 5 = .ok (.getfield 24, 3) := by decide +kernel
theorem dX1_note_8 : decode cX1_note 8 = .ok (.iload_n 1, 1) := by decide +kernel
theorem dX1_note_9 : decode cX1_note 9 = .ok (.iastore, 1) := by decide +kernel
theorem dX1_note_10 : decode cX1_note 10 = .ok (.aload_n 0, 1) := by decide +kernel
theorem dX1_note_11 : decode cX1_note 11 = .ok (.getfield 18, 3) := by decide +kernel
theorem dX1_note_14 : decode cX1_note 14 = .ok (.aload_n 0, 1) := by decide +kernel
theorem dX1_note_15 : decode cX1_note 15 = .ok (.getfield 24, 3) := by decide +kernel
theorem dX1_note_18 : decode cX1_note 18 = .ok (.iload_n 2, 1) := by decide +kernel
theorem dX1_note_19 : decode cX1_note 19 = .ok (.iastore, 1) := by decide +kernel
theorem dX1_note_20 : decode cX1_note 20 = .ok (.aload_n 0, 1) := by decide +kernel
theorem dX1_note_21 : decode cX1_note 21 = .ok (.getfield 21, 3) := by decide +kernel
theorem dX1_note_24 : decode cX1_note 24 = .ok (.aload_n 0, 1) := by decide +kernel
theorem dX1_note_25 : decode cX1_note 25 = .ok (.getfield 24, 3) := by decide +kernel
theorem dX1_note_28 : decode cX1_note 28 = .ok (.iload_n 3, 1) := by decide +kernel
theorem dX1_note_29 : decode cX1_note 29 = .ok (.iastore, 1) := by decide +kernel
theorem dX1_note_30 : decode cX1_note 30 = .ok (.aload_n 0, 1) := by decide +kernel
theorem dX1_note_31 : decode cX1_note 31 = .ok (.aload_n 0, 1) := by decide +kernel
theorem dX1_note_32 : decode cX1_note 32 = .ok (.getfield 24, 3) := by decide +kernel
theorem dX1_note_35 : decode cX1_note 35 = .ok (.iconst 1, 1) := by decide +kernel
theorem dX1_note_36 : decode cX1_note 36 = .ok (.iadd, 1) := by decide +kernel
theorem dX1_note_37 : decode cX1_note 37 = .ok (.bipush 32, 2) := by decide +kernel
theorem dX1_note_39 : decode cX1_note 39 = .ok (.irem, 1) := by decide +kernel
theorem dX1_note_40 : decode cX1_note 40 = .ok (.putfield 24, 3) := by decide +kernel
theorem dX1_note_43 : decode cX1_note 43 = .ok (.aload_n 0, 1) := by decide +kernel
theorem dX1_note_44 : decode cX1_note 44 = .ok (.getfield 9, 3) := by decide +kernel
theorem dX1_note_47 : decode cX1_note 47 = .ok (.iconst 0, 1) := by decide +kernel
theorem dX1_note_48 : decode cX1_note 48 = .ok (.dup2, 1) := by decide +kernel
theorem dX1_note_49 : decode cX1_note 49 = .ok (.iaload, 1) := by decide +kernel
theorem dX1_note_50 : decode cX1_note 50 = .ok (.iconst 1, 1) := by decide +kernel
theorem dX1_note_51 : decode cX1_note 51 = .ok (.iadd, 1) := by decide +kernel
theorem dX1_note_52 : decode cX1_note 52 = .ok (.iastore, 1) := by decide +kernel
theorem dX1_note_53 : decode cX1_note 53 = .ok (.aload_n 0, 1) := by decide +kernel
theorem dX1_note_54 : decode cX1_note 54 = .ok (.getfield 9, 3) := by decide +kernel
theorem dX1_note_57 : decode cX1_note 57 = .ok (.iload_n 3, 1) := by decide +kernel
theorem dX1_note_58 : decode cX1_note 58 = .ok (.dup2, 1) := by decide +kernel
theorem dX1_note_59 : decode cX1_note 59 = .ok (.iaload, 1) := by decide +kernel
theorem dX1_note_60 : decode cX1_note 60 = .ok (.iconst 1, 1) := by decide +kernel
theorem dX1_note_61 : decode cX1_note 61 = .ok (.iadd, 1) := by decide +kernel
theorem dX1_note_62 : decode cX1_note 62 = .ok (.iastore, 1) := by decide +kernel
theorem dX1_note_63 : decode cX1_note 63 = .ok (.return_, 1) := by decide +kernel
theorem dX1_keptCount_0 : decode cX1_keptCount 0 = .ok (.aload_n 0, 1) := by decide +kernel
theorem dX1_keptCount_1 : decode cX1_keptCount 1 = .ok (.getfield 9, 3) := by decide +kernel
theorem dX1_keptCount_4 : decode cX1_keptCount 4 = .ok (.iconst 0, 1) := by decide +kernel
theorem dX1_keptCount_5 : decode cX1_keptCount 5 = .ok (.iaload, 1) := by decide +kernel
theorem dX1_keptCount_6 : decode cX1_keptCount 6 = .ok (.bipush 32, 2) := by decide +kernel
theorem dX1_keptCount_8 : decode cX1_keptCount 8 = .ok (.invokestatic 28, 3) := by decide +kernel
theorem dX1_keptCount_11 : decode cX1_keptCount 11 = .ok (.ireturn, 1) := by decide +kernel
set_option maxRecDepth 20000 in
theorem ggX1_fact_J9_floorMod_7cf53 : GoodIn wsX1_fact wsJ9_floorMod_7cf53 := goodIn_r _ [8] (by decide +kernel) (by decide +kernel)
set_option maxRecDepth 20000 in
theorem gX1_fact_J9_floorMod_7cf53 : GoodIn wsX1_fact (va_wsS RX1 34 yJ9_floorMod_7cf53 wsJ9_floorMod_7cf53) := goodIn_app (goodIn_of _ (by decide +kernel)) ggX1_fact_J9_floorMod_7cf53
theorem dX1_fact_0 : decode cX1_fact 0 = .ok (.aload_n 0, 1) := by decide +kernel
theorem dX1_fact_1 : decode cX1_fact 1 = .ok (.getfield 24, 3) := by decide +kernel
theorem dX1_fact_4 : decode cX1_fact 4 = .ok (.iconst 1, 1) := by decide +kernel
theorem dX1_fact_5 : decode cX1_fact 5 = .ok (.isub, 1) := by decide +kernel
theorem dX1_fact_6 : decode cX1_fact 6 = .ok (.iload_n 1, 1) := by decide +kernel
theorem dX1_fact_7 : decode cX1_fact 7 = .ok (.isub, 1) := by decide +kernel
theorem dX1_fact_8 : decode cX1_fact 8 = .ok (.bipush 32, 2) := by decide +kernel
theorem dX1_fact_10 : decode cX1_fact 10 = .ok (.invokestatic 34, 3) := by decide +kernel
theorem dX1_fact_13 : decode cX1_fact 13 = .ok (.istore_n 3, 1) := by decide +kernel
theorem dX1_fact_14 : decode cX1_fact 14 = .ok (.iload_n 2, 1) := by decide +kernel
theorem dX1_fact_15 : decode cX1_fact 15 = .ok (.ifCond .ne 12, 3) := by decide +kernel
theorem dX1_fact_18 : decode cX1_fact 18 = .ok (.aload_n 0, 1) := by decide +kernel
theorem dX1_fact_19 : decode cX1_fact 19 = .ok (.getfield 15, 3) := by decide +kernel
theorem dX1_fact_22 : decode cX1_fact 22 = .ok (.iload_n 3, 1) := by decide +kernel
theorem dX1_fact_23 : decode cX1_fact 23 = .ok (.iaload, 1) := by decide +kernel
theorem dX1_fact_24 : decode cX1_fact 24 = .ok (.goto 23, 3) := by decide +kernel
theorem dX1_fact_27 : decode cX1_fact 27 = .ok (.iload_n 2, 1) := by decide +kernel
theorem dX1_fact_28 : decode cX1_fact 28 = .ok (.iconst 1, 1) := by decide +kernel
theorem dX1_fact_29 : decode cX1_fact 29 = .ok (.if_icmp .ne 12, 3) := by decide +kernel
theorem dX1_fact_32 : decode cX1_fact 32 = .ok (.aload_n 0, 1) := by decide +kernel
theorem dX1_fact_33 : decode cX1_fact 33 = .ok (.getfield 18, 3) := by decide +kernel
theorem dX1_fact_36 : decode cX1_fact 36 = .ok (.iload_n 3, 1) := by decide +kernel
theorem dX1_fact_37 : decode cX1_fact 37 = .ok (.iaload, 1) := by decide +kernel
theorem dX1_fact_38 : decode cX1_fact 38 = .ok (.goto 9, 3) := by decide +kernel
theorem dX1_fact_41 : decode cX1_fact 41 = .ok (.aload_n 0, 1) := by decide +kernel
theorem dX1_fact_42 : decode cX1_fact 42 = .ok (.getfield 21, 3) := by decide +kernel
theorem dX1_fact_45 : decode cX1_fact 45 = .ok (.iload_n 3, 1) := by decide +kernel
theorem dX1_fact_46 : decode cX1_fact 46 = .ok (.iaload, 1) := by decide +kernel
theorem dX1_fact_47 : decode cX1_fact 47 = .ok (.ireturn, 1) := by decide +kernel
theorem dX2_init_0 : decode cX2_init 0 = .ok (.aload_n 0, 1) := by decide +kernel
theorem dX2_init_1 : decode cX2_init 1 = .ok (.invokespecial 3, 3) := by decide +kernel
theorem dX2_init_4 : decode cX2_init 4 = .ok (.aload_n 0, 1) := by decide +kernel
theorem dX2_init_5 : decode cX2_init 5 = .ok (.iconst 0, 1) := by decide +kernel
theorem dX2_init_6 : decode cX2_init 6 = .ok (.putfield 9, 3) := by decide +kernel
theorem dX2_init_9 : decode cX2_init 9 = .ok (.aload_n 0, 1) := by decide +kernel
theorem dX2_init_10 : decode cX2_init 10 = .ok (.bipush 40, 2) := by decide +kernel
theorem dX2_init_12 : decode cX2_init 12 = .ok (.newarray .int, 2) := by decide +kernel
theorem dX2_init_14 : decode cX2_init 14 = .ok (.putfield 15, 3) := by decide +kernel
theorem dX2_init_17 : decode cX2_init 17 = .ok (.aload_n 0, 1) := by decide +kernel
theorem dX2_init_18 : decode cX2_init 18 = .ok (.bipush 40, 2) := by decide +kernel
theorem dX2_init_20 : decode cX2_init 20 = .ok (.newarray .int, 2) := by decide +kernel
theorem dX2_init_22 : decode cX2_init 22 = .ok (.putfield 19, 3) := by decide +kernel
theorem dX2_init_25 : decode cX2_init 25 = .ok (.aload_n 0, 1) := by decide +kernel
theorem dX2_init_26 : decode cX2_init 26 = .ok (.bipush 40, 2) := by decide +kernel
theorem dX2_init_28 : decode cX2_init 28 = .ok (.newarray .int, 2) := by decide +kernel
theorem dX2_init_30 : decode cX2_init 30 = .ok (.putfield 22, 3) := by decide +kernel
theorem dX2_init_33 : decode cX2_init 33 = .ok (.aload_n 0, 1) := by decide +kernel
theorem dX2_init_34 : decode cX2_init 34 = .ok (.bipush 40, 2) := by decide +kernel
theorem dX2_init_36 : decode cX2_init 36 = .ok (.newarray .int, 2) := by decide +kernel
theorem dX2_init_38 : decode cX2_init 38 = .ok (.putfield 25, 3) := by decide +kernel
theorem dX2_init_41 : decode cX2_init 41 = .ok (.return_, 1) := by decide +kernel
theorem dX2_keep_0 : decode cX2_keep 0 = .ok (.aload_n 0, 1) := by decide +kernel
theorem dX2_keep_1 : decode cX2_keep 1 = .ok (.getfield 9, 3) := by decide +kernel
theorem dX2_keep_4 : decode cX2_keep 4 = .ok (.bipush 40, 2) := by decide +kernel
theorem dX2_keep_6 : decode cX2_keep 6 = .ok (.if_icmp .lt 4, 3) := by decide +kernel
theorem dX2_keep_9 : decode cX2_keep 9 = .ok (.return_, 1) := by decide +kernel
theorem dX2_keep_10 : decode cX2_keep 10 = .ok (.aload_n 0, 1) := by decide +kernel
theorem dX2_keep_11 : decode cX2_keep 11 = .ok (.getfield 15, 3) := by decide +kernel
theorem dX2_keep_14 : decode cX2_keep 14 = .ok (.aload_n 0, 1) := by decide +kernel
theorem dX2_keep_15 : decode cX2_keep 15 = .ok (.getfield 9, 3) := by decide +kernel
theorem dX2_keep_18 : decode cX2_keep 18 = .ok (.aload_n 1, 1) := by decide +kernel
theorem dX2_keep_19 : decode cX2_keep 19 = .ok (.getfield 28, 3) := by decide +kernel
theorem dX2_keep_22 : decode cX2_keep 22 = .ok (.iastore, 1) := by decide +kernel
theorem dX2_keep_23 : decode cX2_keep 23 = .ok (.aload_n 0, 1) := by decide +kernel
theorem dX2_keep_24 : decode cX2_keep 24 = .ok (.getfield 19, 3) := by decide +kernel
theorem dX2_keep_27 : decode cX2_keep 27 = .ok (.aload_n 0, 1) := by decide +kernel
theorem dX2_keep_28 : decode cX2_keep 28 = .ok (.getfield 9, 3) := by decide +kernel
theorem dX2_keep_31 : decode cX2_keep 31 = .ok (.aload_n 1, 1) := by decide +kernel
theorem dX2_keep_32 : decode cX2_keep 32 = .ok (.getfield 33, 3) := by decide +kernel
theorem dX2_keep_35 : decode cX2_keep 35 = .ok (.iastore, 1) := by decide +kernel
theorem dX2_keep_36 : decode cX2_keep 36 = .ok (.aload_n 0, 1) := by decide +kernel
theorem dX2_keep_37 : decode cX2_keep 37 = .ok (.getfield 22, 3) := by decide +kernel
theorem dX2_keep_40 : decode cX2_keep 40 = .ok (.aload_n 0, 1) := by decide +kernel
theorem dX2_keep_41 : decode cX2_keep 41 = .ok (.getfield 9, 3) := by decide +kernel
theorem dX2_keep_44 : decode cX2_keep 44 = .ok (.aload_n 1, 1) := by decide +kernel
theorem dX2_keep_45 : decode cX2_keep 45 = .ok (.getfield 36, 3) := by decide +kernel
theorem dX2_keep_48 : decode cX2_keep 48 = .ok (.iastore, 1) := by decide +kernel
theorem dX2_keep_49 : decode cX2_keep 49 = .ok (.aload_n 0, 1) := by decide +kernel
theorem dX2_keep_50 : decode cX2_keep 50 = .ok (.getfield 25, 3) := by decide +kernel
theorem dX2_keep_53 : decode cX2_keep 53 = .ok (.aload_n 0, 1) := by decide +kernel
theorem dX2_keep_54 : decode cX2_keep 54 = .ok (.getfield 9, 3) := by decide +kernel
theorem dX2_keep_57 : decode cX2_keep 57 = .ok (.aload_n 1, 1) := by decide +kernel
theorem dX2_keep_58 : decode cX2_keep 58 = .ok (.getfield 39, 3) := by decide +kernel
theorem dX2_keep_61 : decode cX2_keep 61 = .ok (.iastore, 1) := by decide +kernel
theorem dX2_keep_62 : decode cX2_keep 62 = .ok (.aload_n 0, 1) := by decide +kernel
theorem dX2_keep_63 : decode cX2_keep 63 = .ok (.dup, 1) := by decide +kernel
theorem dX2_keep_64 : decode cX2_keep 64 = .ok (.getfield 9, 3) := by decide +kernel
theorem dX2_keep_67 : decode cX2_keep 67 = .ok (.iconst 1, 1) := by decide +kernel
theorem dX2_keep_68 : decode cX2_keep 68 = .ok (.iadd, 1) := by decide +kernel
theorem dX2_keep_69 : decode cX2_keep 69 = .ok (.putfield 9, 3) := by decide +kernel
theorem dX2_keep_72 : decode cX2_keep 72 = .ok (.return_, 1) := by decide +kernel
theorem dX2_restore_0 : decode cX2_restore 0 = .ok (.iload_n 1, 1) := by decide +kernel
theorem dX2_restore_1 : decode cX2_restore 1 = .ok (.ifCond .lt 24, 3) := by decide +kernel
theorem dX2_restore_4 : decode cX2_restore 4 = .ok (.iload_n 1, 1) := by decide +kernel
theorem dX2_restore_5 : decode cX2_restore 5 = .ok (.aload_n 0, 1) := by decide +kernel
theorem dX2_restore_6 : decode cX2_restore 6 = .ok (.getfield 9, 3) := by decide +kernel
theorem dX2_restore_9 : decode cX2_restore 9 = .ok (.if_icmp .ge 16, 3) := by decide +kernel
theorem dX2_restore_12 : decode cX2_restore 12 = .ok (.aload_n 0, 1) := by decide +kernel
theorem dX2_restore_13 : decode cX2_restore 13 = .ok (.getfield 15, 3) := by decide +kernel
theorem dX2_restore_16 : decode cX2_restore 16 = .ok (.iload_n 1, 1) := by decide +kernel
theorem dX2_restore_17 : decode cX2_restore 17 = .ok (.iaload, 1) := by decide +kernel
theorem dX2_restore_18 : decode cX2_restore 18 = .ok (.aload_n 2, 1) := by decide +kernel
theorem dX2_restore_19 : decode cX2_restore 19 = .ok (.getfield 28, 3) := by decide +kernel
theorem dX2_restore_22 : decode cX2_restore 22 = .ok (.if_icmp .eq 5, 3) := by decide +kernel
theorem dX2_restore_25 : decode cX2_restore 25 = .ok (.iconst 0, 1) := by decide +kernel
theorem dX2_restore_26 : decode cX2_restore 26 = .ok (.ireturn, 1) := by decide +kernel
theorem dX2_restore_27 : decode cX2_restore 27 = .ok (.aload_n 2, 1) := by decide +kernel
theorem dX2_restore_28 : decode cX2_restore 28 = .ok (.aload_n 0, 1) := by decide +kernel
theorem dX2_restore_29 : decode cX2_restore 29 = .ok (.getfield 19, 3) := by decide +kernel
theorem dX2_restore_32 : decode cX2_restore 32 = .ok (.iload_n 1, 1) := by decide +kernel
theorem dX2_restore_33 : decode cX2_restore 33 = .ok (.iaload, 1) := by decide +kernel
theorem dX2_restore_34 : decode cX2_restore 34 = .ok (.putfield 33, 3) := by decide +kernel
theorem dX2_restore_37 : decode cX2_restore 37 = .ok (.aload_n 2, 1) := by decide +kernel
theorem dX2_restore_38 : decode cX2_restore 38 = .ok (.aload_n 0, 1) := by decide +kernel
theorem dX2_restore_39 : decode cX2_restore 39 = .ok (.getfield 22, 3) := by decide +kernel
theorem dX2_restore_42 : decode cX2_restore 42 = .ok (.iload_n 1, 1) := by decide +kernel
theorem dX2_restore_43 : decode cX2_restore 43 = .ok (.iaload, 1) := by decide +kernel
theorem dX2_restore_44 : decode cX2_restore 44 = .ok (.putfield 36, 3) := by decide +kernel
theorem dX2_restore_47 : decode cX2_restore 47 = .ok (.aload_n 2, 1) := by decide +kernel
theorem dX2_restore_48 : decode cX2_restore 48 = .ok (.aload_n 0, 1) := by decide +kernel
theorem dX2_restore_49 : decode cX2_restore 49 = .ok (.getfield 25, 3) := by decide +kernel
theorem dX2_restore_52 : decode cX2_restore 52 = .ok (.iload_n 1, 1) := by decide +kernel
theorem dX2_restore_53 : decode cX2_restore 53 = .ok (.iaload, 1) := by decide +kernel
theorem dX2_restore_54 : decode cX2_restore 54 = .ok (.putfield 39, 3) := by decide +kernel
theorem dX2_restore_57 : decode cX2_restore 57 = .ok (.iconst 1, 1) := by decide +kernel
theorem dX2_restore_58 : decode cX2_restore 58 = .ok (.ireturn, 1) := by decide +kernel
set_option maxRecDepth 20000 in
theorem ggX3_init_X1_init : GoodIn wsX3_init wsX1_init := goodIn_r _ [21, 22, 2, 3, 7, 23, 24, 25, 26, 27, 37, 38, 39, 40, 41] (by decide +kernel) (by decide +kernel)
set_option maxRecDepth 20000 in
theorem gX3_init_X1_init_n35 : GoodIn wsX3_init (wsX1_init) := ggX3_init_X1_init
theorem dX3_init_0 : decode cX3_init 0 = .ok (.aload_n 0, 1) := by decide +kernel
theorem dX3_init_1 : decode cX3_init 1 = .ok (.invokespecial 1, 3) := by decide +kernel
theorem dX3_init_4 : decode cX3_init 4 = .ok (.aload_n 0, 1) := by decide +kernel
theorem dX3_init_5 : decode cX3_init 5 = .ok (.bipush 40, 2) := by decide +kernel
theorem dX3_init_7 : decode cX3_init 7 = .ok (.anewarray 9, 3) := by decide +kernel
theorem dX3_init_10 : decode cX3_init 10 = .ok (.putfield 11, 3) := by decide +kernel
theorem dX3_init_13 : decode cX3_init 13 = .ok (.aload_n 0, 1) := by decide +kernel
theorem dX3_init_14 : decode cX3_init 14 = .ok (.iconst 0, 1) := by decide +kernel
theorem dX3_init_15 : decode cX3_init 15 = .ok (.putfield 15, 3) := by decide +kernel
theorem dX3_init_18 : decode cX3_init 18 = .ok (.aload_n 0, 1) := by decide +kernel
theorem dX3_init_19 : decode cX3_init 19 = .ok (.bipush 10, 2) := by decide +kernel
theorem dX3_init_21 : decode cX3_init 21 = .ok (.newarray .int, 2) := by decide +kernel
theorem dX3_init_23 : decode cX3_init 23 = .ok (.putfield 19, 3) := by decide +kernel
theorem dX3_init_26 : decode cX3_init 26 = .ok (.aload_n 0, 1) := by decide +kernel
theorem dX3_init_27 : decode cX3_init 27 = .ok (.iconst 0, 1) := by decide +kernel
theorem dX3_init_28 : decode cX3_init 28 = .ok (.putfield 23, 3) := by decide +kernel
theorem dX3_init_31 : decode cX3_init 31 = .ok (.aload_n 0, 1) := by decide +kernel
theorem dX3_init_32 : decode cX3_init 32 = .ok (.bipush 40, 2) := by decide +kernel
theorem dX3_init_34 : decode cX3_init 34 = .ok (.newarray .int, 2) := by decide +kernel
theorem dX3_init_36 : decode cX3_init 36 = .ok (.putfield 26, 3) := by decide +kernel
theorem dX3_init_39 : decode cX3_init 39 = .ok (.aload_n 0, 1) := by decide +kernel
theorem dX3_init_40 : decode cX3_init 40 = .ok (.bipush 40, 2) := by decide +kernel
theorem dX3_init_42 : decode cX3_init 42 = .ok (.newarray .boolean, 2) := by decide +kernel
theorem dX3_init_44 : decode cX3_init 44 = .ok (.putfield 29, 3) := by decide +kernel
theorem dX3_init_47 : decode cX3_init 47 = .ok (.aload_n 0, 1) := by decide +kernel
theorem dX3_init_48 : decode cX3_init 48 = .ok (.new 33, 3) := by decide +kernel
theorem dX3_init_51 : decode cX3_init 51 = .ok (.dup, 1) := by decide +kernel
theorem dX3_init_52 : decode cX3_init 52 = .ok (.invokespecial 35, 3) := by decide +kernel
theorem dX3_init_55 : decode cX3_init 55 = .ok (.putfield 36, 3) := by decide +kernel
theorem dX3_init_58 : decode cX3_init 58 = .ok (.aload_n 0, 1) := by decide +kernel
theorem dX3_init_59 : decode cX3_init 59 = .ok (.iconst 5, 1) := by decide +kernel
theorem dX3_init_60 : decode cX3_init 60 = .ok (.anewarray 40, 3) := by decide +kernel
theorem dX3_init_63 : decode cX3_init 63 = .ok (.putfield 42, 3) := by decide +kernel
theorem dX3_init_66 : decode cX3_init 66 = .ok (.aload_n 0, 1) := by decide +kernel
theorem dX3_init_67 : decode cX3_init 67 = .ok (.iconst 0, 1) := by decide +kernel
theorem dX3_init_68 : decode cX3_init 68 = .ok (.putfield 46, 3) := by decide +kernel
theorem dX3_init_71 : decode cX3_init 71 = .ok (.return_, 1) := by decide +kernel
set_option maxRecDepth 20000 in
theorem ggX3_block_X3_requireKind : GoodIn wsX3_block wsX3_requireKind := goodIn_ca (goodIn_r _ [11, 12, 13, 14] (by decide +kernel) (by decide +kernel)) (goodIn_sub (fun _ h => List.mem_cons_of_mem _ (List.mem_append_right _ h)) (by decide +kernel))
set_option maxRecDepth 20000 in
theorem gX3_block_X3_requireKind : GoodIn wsX3_block (va_wsS RX3 49 yX3_requireKind wsX3_requireKind) := goodIn_app (goodIn_of _ (by decide +kernel)) ggX3_block_X3_requireKind
set_option maxRecDepth 20000 in
theorem ggX3_block_X0_init : GoodIn wsX3_block wsX0_init := goodIn_r _ [17, 18, 19, 20, 21, 22, 23, 24, 25, 26, 27, 28, 29, 30, 31, 32, 42, 43, 44, 45, 46, 47, 48, 49, 50, 51, 52] (by decide +kernel) (by decide +kernel)
set_option maxRecDepth 20000 in
theorem gX3_block_X0_init : GoodIn wsX3_block (wsX0_init) := ggX3_block_X0_init
theorem dX3_block_0 : decode cX3_block 0 = .ok (.iload_n 1, 1) := by decide +kernel
theorem dX3_block_1 : decode cX3_block 1 = .ok (.invokestatic 49, 3) := by decide +kernel
theorem dX3_block_4 : decode cX3_block 4 = .ok (.aload_n 0, 1) := by decide +kernel
theorem dX3_block_5 : decode cX3_block 5 = .ok (.getfield 15, 3) := by decide +kernel
theorem dX3_block_8 : decode cX3_block 8 = .ok (.bipush 40, 2) := by decide +kernel
theorem dX3_block_10 : decode cX3_block 10 = .ok (.if_icmp .lt 13, 3) := by decide +kernel
theorem dX3_block_13 : decode cX3_block 13 = .ok (.new 53, 3) := by decide +kernel
theorem dX3_block_16 : decode cX3_block 16 = .ok (.dup, 1) := by decide +kernel
theorem dX3_block_17 : decode cX3_block 17 = .ok (.ldc 55, 2) := by decide +kernel
theorem dX3_block_19 : decode cX3_block 19 = .ok (.invokespecial 57, 3) := by decide +kernel
theorem dX3_block_22 : decode cX3_block 22 = .ok (.athrow, 1) := by decide +kernel
theorem dX3_block_23 : decode cX3_block 23 = .ok (.aload_n 0, 1) := by decide +kernel
theorem dX3_block_24 : decode cX3_block 24 = .ok (.getfield 11, 3) := by decide +kernel
theorem dX3_block_27 : decode cX3_block 27 = .ok (.aload_n 0, 1) := by decide +kernel
theorem dX3_block_28 : decode cX3_block 28 = .ok (.getfield 15, 3) := by decide +kernel
theorem dX3_block_31 : decode cX3_block 31 = .ok (.new 9, 3) := by decide +kernel
theorem dX3_block_34 : decode cX3_block 34 = .ok (.dup, 1) := by decide +kernel
theorem dX3_block_35 : decode cX3_block 35 = .ok (.iload_n 1, 1) := by decide +kernel
theorem dX3_block_36 : decode cX3_block 36 = .ok (.invokespecial 60, 3) := by decide +kernel
theorem dX3_block_39 : decode cX3_block 39 = .ok (.aastore, 1) := by decide +kernel
theorem dX3_block_40 : decode cX3_block 40 = .ok (.aload_n 0, 1) := by decide +kernel
theorem dX3_block_41 : decode cX3_block 41 = .ok (.dup, 1) := by decide +kernel
theorem dX3_block_42 : decode cX3_block 42 = .ok (.getfield 15, 3) := by decide +kernel
theorem dX3_block_45 : decode cX3_block 45 = .ok (.iconst 1, 1) := by decide +kernel
theorem dX3_block_46 : decode cX3_block 46 = .ok (.iadd, 1) := by decide +kernel
theorem dX3_block_47 : decode cX3_block 47 = .ok (.putfield 15, 3) := by decide +kernel
theorem dX3_block_50 : decode cX3_block 50 = .ok (.aload_n 0, 1) := by decide +kernel
theorem dX3_block_51 : decode cX3_block 51 = .ok (.getfield 15, 3) := by decide +kernel
theorem dX3_block_54 : decode cX3_block 54 = .ok (.iconst 1, 1) := by decide +kernel
theorem dX3_block_55 : decode cX3_block 55 = .ok (.isub, 1) := by decide +kernel
theorem dX3_block_56 : decode cX3_block 56 = .ok (.ireturn, 1) := by decide +kernel
set_option maxRecDepth 20000 in
theorem ggX3_wire_X3_existing : GoodIn wsX3_wire wsX3_existing := goodIn_ca (goodIn_r _ [8, 1, 2, 9, 10, 22, 23, 24, 25, 26, 27, 28, 29, 30] (by decide +kernel) (by decide +kernel)) (goodIn_sub (fun _ h => List.mem_cons_of_mem _ (List.mem_append_right _ h)) (by decide +kernel))
set_option maxRecDepth 20000 in
theorem gX3_wire_X3_existing : GoodIn wsX3_wire (wsV RX3 62 RX3 yX3_existing wsX3_existing) := goodIn_app (goodIn_of _ (by decide +kernel)) ggX3_wire_X3_existing
theorem dX3_wire_0 : decode cX3_wire 0 = .ok (.aload_n 0, 1) := by decide +kernel
theorem dX3_wire_1 : decode cX3_wire 1 = .ok (.iload_n 1, 1) := by decide +kernel
theorem dX3_wire_2 : decode cX3_wire 2 = .ok (.invokevirtual 62, 3) := by decide +kernel
theorem dX3_wire_5 : decode cX3_wire 5 = .ok (.astore 4, 2) := by decide +kernel
theorem dX3_wire_7 : decode cX3_wire 7 = .ok (.iload_n 2, 1) := by decide +kernel
theorem dX3_wire_8 : decode cX3_wire 8 = .ok (.ifCond .lt 8, 3) := by decide +kernel
theorem dX3_wire_11 : decode cX3_wire 11 = .ok (.iload_n 2, 1) := by decide +kernel
theorem dX3_wire_12 : decode cX3_wire 12 = .ok (.iconst 3, 1) := by decide +kernel
theorem dX3_wire_13 : decode cX3_wire 13 = .ok (.if_icmp .lt 13, 3) := by decide +kernel
theorem dX3_wire_16 : decode cX3_wire 16 = .ok (.new 66, 3) := by decide +kernel
theorem dX3_wire_19 : decode cX3_wire 19 = .ok (.dup, 1) := by decide +kernel
theorem dX3_wire_20 : decode cX3_wire 20 = .ok (.ldc 68, 2) := by decide +kernel
theorem dX3_wire_22 : decode cX3_wire 22 = .ok (.invokespecial 70, 3) := by decide +kernel
theorem dX3_wire_25 : decode cX3_wire 25 = .ok (.athrow, 1) := by decide +kernel
theorem dX3_wire_26 : decode cX3_wire 26 = .ok (.iload_n 3, 1) := by decide +kernel
theorem dX3_wire_27 : decode cX3_wire 27 = .ok (.iconst (-1), 1) := by decide +kernel
theorem dX3_wire_28 : decode cX3_wire 28 = .ok (.if_icmp .eq 9, 3) := by decide +kernel
theorem dX3_wire_31 : decode cX3_wire 31 = .ok (.aload_n 0, 1) := by decide +kernel
theorem dX3_wire_32 : decode cX3_wire 32 = .ok (.iload_n 3, 1) := by decide +kernel
theorem dX3_wire_33 : decode cX3_wire 33 = .ok (.invokevirtual 62, 3) := by decide +kernel
theorem dX3_wire_36 : decode cX3_wire 36 = .ok (.pop, 1) := by decide +kernel
theorem dX3_wire_37 : decode cX3_wire 37 = .ok (.aload 4, 2) := by decide +kernel
theorem dX3_wire_39 : decode cX3_wire 39 = .ok (.getfield 71, 3) := by decide +kernel
theorem dX3_wire_42 : decode cX3_wire 42 = .ok (.iload_n 2, 1) := by decide +kernel
theorem dX3_wire_43 : decode cX3_wire 43 = .ok (.iaload, 1) := by decide +kernel
theorem dX3_wire_44 : decode cX3_wire 44 = .ok (.istore 5, 2) := by decide +kernel
theorem dX3_wire_46 : decode cX3_wire 46 = .ok (.aload 4, 2) := by decide +kernel
theorem dX3_wire_48 : decode cX3_wire 48 = .ok (.getfield 71, 3) := by decide +kernel
theorem dX3_wire_51 : decode cX3_wire 51 = .ok (.iload_n 2, 1) := by decide +kernel
theorem dX3_wire_52 : decode cX3_wire 52 = .ok (.iload_n 3, 1) := by decide +kernel
theorem dX3_wire_53 : decode cX3_wire 53 = .ok (.iastore, 1) := by decide +kernel
theorem dX3_wire_54 : decode cX3_wire 54 = .ok (.iload 5, 2) := by decide +kernel
theorem dX3_wire_56 : decode cX3_wire 56 = .ok (.ireturn, 1) := by decide +kernel
set_option maxRecDepth 20000 in
theorem ggX3_numbers_X3_existing : GoodIn wsX3_numbers wsX3_existing := goodIn_ca (goodIn_r _ [7, 8, 9, 10, 11, 23, 24, 25, 26, 27, 28, 29, 30, 31] (by decide +kernel) (by decide +kernel)) (goodIn_sub (fun _ h => List.mem_cons_of_mem _ (List.mem_append_right _ h)) (by decide +kernel))
set_option maxRecDepth 20000 in
theorem gX3_numbers_X3_existing : GoodIn wsX3_numbers (wsV RX3 62 RX3 yX3_existing wsX3_existing) := goodIn_app (goodIn_of _ (by decide +kernel)) ggX3_numbers_X3_existing
theorem dX3_numbers_0 : decode cX3_numbers 0 = .ok (.aload_n 0, 1) := by decide +kernel
theorem dX3_numbers_1 : decode cX3_numbers 1 = .ok (.iload_n 1, 1) := by decide +kernel
theorem dX3_numbers_2 : decode cX3_numbers 2 = .ok (.invokevirtual 62, 3) := by decide +kernel
theorem dX3_numbers_5 : decode cX3_numbers 5 = .ok (.astore 4, 2) := by decide +kernel
theorem dX3_numbers_7 : decode cX3_numbers 7 = .ok (.aload 4, 2) := by decide +kernel
theorem dX3_numbers_9 : decode cX3_numbers 9 = .ok (.iload_n 2, 1) := by decide +kernel
theorem dX3_numbers_10 : decode cX3_numbers 10 = .ok (.putfield 74, 3) := by decide +kernel
theorem dX3_numbers_13 : decode cX3_numbers 13 = .ok (.aload 4, 2) := by decide +kernel
theorem dX3_numbers_15 : decode cX3_numbers 15 = .ok (.iload_n 3, 1) := by decide +kernel
theorem dX3_numbers_16 : decode cX3_numbers 16 = .ok (.putfield 77, 3) := by decide +kernel
theorem dX3_numbers_19 : decode cX3_numbers 19 = .ok (.return_, 1) := by decide +kernel
set_option maxRecDepth 20000 in
theorem ggX3_row_X3_existing : GoodIn wsX3_row wsX3_existing := goodIn_ca (goodIn_r _ [11, 1, 2, 12, 13, 28, 29, 30, 31, 32, 33, 34, 35, 36] (by decide +kernel) (by decide +kernel)) (goodIn_sub (fun _ h => List.mem_cons_of_mem _ (List.mem_append_left _ (List.mem_append_right _ h))) (by decide +kernel))
set_option maxRecDepth 20000 in
theorem gX3_row_X3_existing : GoodIn wsX3_row (wsV RX3 62 RX3 yX3_existing wsX3_existing) := goodIn_app (goodIn_of _ (by decide +kernel)) ggX3_row_X3_existing
set_option maxRecDepth 20000 in
theorem ggX3_row_X3_isPlaceInRow : GoodIn wsX3_row wsX3_isPlaceInRow := goodIn_r _ [16] (by decide +kernel) (by decide +kernel)
set_option maxRecDepth 20000 in
theorem gX3_row_X3_isPlaceInRow : GoodIn wsX3_row (va_wsS RX3 80 yX3_isPlaceInRow wsX3_isPlaceInRow) := goodIn_app (goodIn_of _ (by decide +kernel)) ggX3_row_X3_isPlaceInRow
theorem dX3_row_0 : decode cX3_row 0 = .ok (.aload_n 0, 1) := by decide +kernel
theorem dX3_row_1 : decode cX3_row 1 = .ok (.iload_n 1, 1) := by decide +kernel
theorem dX3_row_2 : decode cX3_row 2 = .ok (.invokevirtual 62, 3) := by decide +kernel
theorem dX3_row_5 : decode cX3_row 5 = .ok (.astore 4, 2) := by decide +kernel
theorem dX3_row_7 : decode cX3_row 7 = .ok (.iload_n 2, 1) := by decide +kernel
theorem dX3_row_8 : decode cX3_row 8 = .ok (.invokestatic 80, 3) := by decide +kernel
theorem dX3_row_11 : decode cX3_row 11 = .ok (.ifCond .ne 13, 3) := by decide +kernel
theorem dX3_row_14 : decode cX3_row 14 = .ok (.new 66, 3) := by decide +kernel
theorem dX3_row_17 : decode cX3_row 17 = .ok (.dup, 1) := by decide +kernel
theorem dX3_row_18 : decode cX3_row 18 = .ok (.ldc 84, 2) := by decide +kernel
theorem dX3_row_20 : decode cX3_row 20 = .ok (.invokespecial 70, 3) := by decide +kernel
theorem dX3_row_23 : decode cX3_row 23 = .ok (.athrow, 1) := by decide +kernel
theorem dX3_row_24 : decode cX3_row 24 = .ok (.aload 4, 2) := by decide +kernel
theorem dX3_row_26 : decode cX3_row 26 = .ok (.getfield 86, 3) := by decide +kernel
theorem dX3_row_29 : decode cX3_row 29 = .ok (.bipush 15, 2) := by decide +kernel
theorem dX3_row_31 : decode cX3_row 31 = .ok (.if_icmp .eq 13, 3) := by decide +kernel
theorem dX3_row_34 : decode cX3_row 34 = .ok (.new 53, 3) := by decide +kernel
theorem dX3_row_37 : decode cX3_row 37 = .ok (.dup, 1) := by decide +kernel
theorem dX3_row_38 : decode cX3_row 38 = .ok (.ldc 89, 2) := by decide +kernel
theorem dX3_row_40 : decode cX3_row 40 = .ok (.invokespecial 57, 3) := by decide +kernel
theorem dX3_row_43 : decode cX3_row 43 = .ok (.athrow, 1) := by decide +kernel
theorem dX3_row_44 : decode cX3_row 44 = .ok (.aload 4, 2) := by decide +kernel
theorem dX3_row_46 : decode cX3_row 46 = .ok (.getfield 91, 3) := by decide +kernel
theorem dX3_row_49 : decode cX3_row 49 = .ok (.iload_n 2, 1) := by decide +kernel
theorem dX3_row_50 : decode cX3_row 50 = .ok (.iaload, 1) := by decide +kernel
theorem dX3_row_51 : decode cX3_row 51 = .ok (.istore 5, 2) := by decide +kernel
theorem dX3_row_53 : decode cX3_row 53 = .ok (.aload 4, 2) := by decide +kernel
theorem dX3_row_55 : decode cX3_row 55 = .ok (.getfield 91, 3) := by decide +kernel
theorem dX3_row_58 : decode cX3_row 58 = .ok (.iload_n 2, 1) := by decide +kernel
theorem dX3_row_59 : decode cX3_row 59 = .ok (.iload_n 3, 1) := by decide +kernel
theorem dX3_row_60 : decode cX3_row 60 = .ok (.iastore, 1) := by decide +kernel
theorem dX3_row_61 : decode cX3_row 61 = .ok (.iload 5, 2) := by decide +kernel
theorem dX3_row_63 : decode cX3_row 63 = .ok (.ireturn, 1) := by decide +kernel
set_option maxRecDepth 20000 in
theorem ggX3_safe_X3_existing : GoodIn wsX3_safe wsX3_existing := goodIn_ca (goodIn_r _ [6, 7, 8, 9, 10, 22, 23, 24, 25, 26, 27, 28, 29, 30] (by decide +kernel) (by decide +kernel)) (goodIn_sub (fun _ h => List.mem_cons_of_mem _ (List.mem_append_right _ h)) (by decide +kernel))
set_option maxRecDepth 20000 in
theorem gX3_safe_X3_existing : GoodIn wsX3_safe (wsV RX3 62 RX3 yX3_existing wsX3_existing) := goodIn_app (goodIn_of _ (by decide +kernel)) ggX3_safe_X3_existing
theorem dX3_safe_0 : decode cX3_safe 0 = .ok (.aload_n 0, 1) := by decide +kernel
theorem dX3_safe_1 : decode cX3_safe 1 = .ok (.iload_n 1, 1) := by decide +kernel
theorem dX3_safe_2 : decode cX3_safe 2 = .ok (.invokevirtual 62, 3) := by decide +kernel
theorem dX3_safe_5 : decode cX3_safe 5 = .ok (.astore_n 3, 1) := by decide +kernel
theorem dX3_safe_6 : decode cX3_safe 6 = .ok (.aload_n 3, 1) := by decide +kernel
theorem dX3_safe_7 : decode cX3_safe 7 = .ok (.getfield 94, 3) := by decide +kernel
theorem dX3_safe_10 : decode cX3_safe 10 = .ok (.istore 4, 2) := by decide +kernel
theorem dX3_safe_12 : decode cX3_safe 12 = .ok (.aload_n 3, 1) := by decide +kernel
theorem dX3_safe_13 : decode cX3_safe 13 = .ok (.iload_n 2, 1) := by decide +kernel
theorem dX3_safe_14 : decode cX3_safe 14 = .ok (.putfield 94, 3) := by decide +kernel
theorem dX3_safe_17 : decode cX3_safe 17 = .ok (.iload 4, 2) := by decide +kernel
theorem dX3_safe_19 : decode cX3_safe 19 = .ok (.ireturn, 1) := by decide +kernel
set_option maxRecDepth 20000 in
theorem ggX3_point_X3_isPoint : GoodIn wsX3_point wsX3_isPoint := goodIn_r _ [7] (by decide +kernel) (by decide +kernel)
set_option maxRecDepth 20000 in
theorem gX3_point_X3_isPoint : GoodIn wsX3_point (va_wsS RX3 97 yX3_isPoint wsX3_isPoint) := goodIn_app (goodIn_of _ (by decide +kernel)) ggX3_point_X3_isPoint
theorem dX3_point_0 : decode cX3_point 0 = .ok (.iload_n 1, 1) := by decide +kernel
theorem dX3_point_1 : decode cX3_point 1 = .ok (.invokestatic 97, 3) := by decide +kernel
theorem dX3_point_4 : decode cX3_point 4 = .ok (.ifCond .ne 13, 3) := by decide +kernel
theorem dX3_point_7 : decode cX3_point 7 = .ok (.new 66, 3) := by decide +kernel
theorem dX3_point_10 : decode cX3_point 10 = .ok (.dup, 1) := by decide +kernel
theorem dX3_point_11 : decode cX3_point 11 = .ok (.ldc 100, 2) := by decide +kernel
theorem dX3_point_13 : decode cX3_point 13 = .ok (.invokespecial 70, 3) := by decide +kernel
theorem dX3_point_16 : decode cX3_point 16 = .ok (.athrow, 1) := by decide +kernel
theorem dX3_point_17 : decode cX3_point 17 = .ok (.aload_n 0, 1) := by decide +kernel
theorem dX3_point_18 : decode cX3_point 18 = .ok (.getfield 19, 3) := by decide +kernel
theorem dX3_point_21 : decode cX3_point 21 = .ok (.iload_n 1, 1) := by decide +kernel
theorem dX3_point_22 : decode cX3_point 22 = .ok (.iaload, 1) := by decide +kernel
theorem dX3_point_23 : decode cX3_point 23 = .ok (.istore_n 3, 1) := by decide +kernel
theorem dX3_point_24 : decode cX3_point 24 = .ok (.aload_n 0, 1) := by decide +kernel
theorem dX3_point_25 : decode cX3_point 25 = .ok (.getfield 19, 3) := by decide +kernel
theorem dX3_point_28 : decode cX3_point 28 = .ok (.iload_n 1, 1) := by decide +kernel
theorem dX3_point_29 : decode cX3_point 29 = .ok (.iload_n 2, 1) := by decide +kernel
theorem dX3_point_30 : decode cX3_point 30 = .ok (.iastore, 1) := by decide +kernel
theorem dX3_point_31 : decode cX3_point 31 = .ok (.iload_n 3, 1) := by decide +kernel
theorem dX3_point_32 : decode cX3_point 32 = .ok (.ireturn, 1) := by decide +kernel
set_option maxRecDepth 20000 in
theorem ggX3_hand_X3_existing : GoodIn wsX3_hand wsX3_existing := goodIn_ca (goodIn_r _ [7, 8, 9, 10, 11, 23, 24, 25, 26, 27, 28, 29, 30, 31] (by decide +kernel) (by decide +kernel)) (goodIn_sub (fun _ h => List.mem_cons_of_mem _ (List.mem_append_right _ h)) (by decide +kernel))
set_option maxRecDepth 20000 in
theorem gX3_hand_X3_existing : GoodIn wsX3_hand (wsV RX3 62 RX3 yX3_existing wsX3_existing) := goodIn_app (goodIn_of _ (by decide +kernel)) ggX3_hand_X3_existing
theorem dX3_hand_0 : decode cX3_hand 0 = .ok (.aload_n 0, 1) := by decide +kernel
theorem dX3_hand_1 : decode cX3_hand 1 = .ok (.iload_n 1, 1) := by decide +kernel
theorem dX3_hand_2 : decode cX3_hand 2 = .ok (.invokevirtual 62, 3) := by decide +kernel
theorem dX3_hand_5 : decode cX3_hand 5 = .ok (.astore 4, 2) := by decide +kernel
theorem dX3_hand_7 : decode cX3_hand 7 = .ok (.aload 4, 2) := by decide +kernel
theorem dX3_hand_9 : decode cX3_hand 9 = .ok (.getfield 102, 3) := by decide +kernel
theorem dX3_hand_12 : decode cX3_hand 12 = .ok (.istore 5, 2) := by decide +kernel
theorem dX3_hand_14 : decode cX3_hand 14 = .ok (.aload 4, 2) := by decide +kernel
theorem dX3_hand_16 : decode cX3_hand 16 = .ok (.iload_n 2, 1) := by decide +kernel
theorem dX3_hand_17 : decode cX3_hand 17 = .ok (.putfield 102, 3) := by decide +kernel
theorem dX3_hand_20 : decode cX3_hand 20 = .ok (.aload 4, 2) := by decide +kernel
theorem dX3_hand_22 : decode cX3_hand 22 = .ok (.iload_n 3, 1) := by decide +kernel
theorem dX3_hand_23 : decode cX3_hand 23 = .ok (.putfield 106, 3) := by decide +kernel
theorem dX3_hand_26 : decode cX3_hand 26 = .ok (.iload 5, 2) := by decide +kernel
theorem dX3_hand_28 : decode cX3_hand 28 = .ok (.ireturn, 1) := by decide +kernel
set_option maxRecDepth 20000 in
theorem ggX3_order_X3_lineUp : GoodIn wsX3_order wsX3_lineUp := goodIn_r _ [5, 6, 7, 8, 9, 10, 11, 4, 12, 13, 14, 15, 16, 17, 18, 19, 20, 21, 22, 23, 24, 25, 26, 27, 28, 29, 30, 31, 32, 33, 34, 35, 36, 37, 38, 39, 40, 41, 42, 43, 44, 45] (by decide +kernel) (by decide +kernel)
set_option maxRecDepth 20000 in
theorem gX3_order_X3_lineUp : GoodIn wsX3_order (wsV RX3 109 RX3 yX3_lineUp wsX3_lineUp) := goodIn_app (goodIn_of _ (by decide +kernel)) ggX3_order_X3_lineUp
theorem dX3_order_0 : decode cX3_order 0 = .ok (.aload_n 0, 1) := by decide +kernel
theorem dX3_order_1 : decode cX3_order 1 = .ok (.invokevirtual 109, 3) := by decide +kernel
theorem dX3_order_4 : decode cX3_order 4 = .ok (.ireturn, 1) := by decide +kernel
set_option maxRecDepth 20000 in
theorem ggX3_at_X3_lineUp : GoodIn wsX3_at wsX3_lineUp := goodIn_r _ [9, 3, 10, 4, 11, 12, 13, 8, 14, 15, 16, 17, 18, 19, 20, 21, 22, 23, 24, 25, 26, 27, 28, 29, 30, 31, 32, 33, 34, 35, 36, 37, 38, 39, 40, 41, 42, 43, 44, 45, 46, 47] (by decide +kernel) (by decide +kernel)
set_option maxRecDepth 20000 in
theorem gX3_at_X3_lineUp : GoodIn wsX3_at (wsV RX3 109 RX3 yX3_lineUp wsX3_lineUp) := goodIn_app (goodIn_of _ (by decide +kernel)) ggX3_at_X3_lineUp
theorem dX3_at_0 : decode cX3_at 0 = .ok (.iload_n 1, 1) := by decide +kernel
theorem dX3_at_1 : decode cX3_at 1 = .ok (.ifCond .lt 11, 3) := by decide +kernel
theorem dX3_at_4 : decode cX3_at 4 = .ok (.iload_n 1, 1) := by decide +kernel
theorem dX3_at_5 : decode cX3_at 5 = .ok (.aload_n 0, 1) := by decide +kernel
theorem dX3_at_6 : decode cX3_at 6 = .ok (.getfield 15, 3) := by decide +kernel
theorem dX3_at_9 : decode cX3_at 9 = .ok (.if_icmp .lt 13, 3) := by decide +kernel
theorem dX3_at_12 : decode cX3_at 12 = .ok (.new 66, 3) := by decide +kernel
theorem dX3_at_15 : decode cX3_at 15 = .ok (.dup, 1) := by decide +kernel
theorem dX3_at_16 : decode cX3_at 16 = .ok (.ldc 113, 2) := by decide +kernel
theorem dX3_at_18 : decode cX3_at 18 = .ok (.invokespecial 70, 3) := by decide +kernel
theorem dX3_at_21 : decode cX3_at 21 = .ok (.athrow, 1) := by decide +kernel
theorem dX3_at_22 : decode cX3_at 22 = .ok (.aload_n 0, 1) := by decide +kernel
theorem dX3_at_23 : decode cX3_at 23 = .ok (.invokevirtual 109, 3) := by decide +kernel
theorem dX3_at_26 : decode cX3_at 26 = .ok (.pop, 1) := by decide +kernel
theorem dX3_at_27 : decode cX3_at 27 = .ok (.aload_n 0, 1) := by decide +kernel
theorem dX3_at_28 : decode cX3_at 28 = .ok (.getfield 26, 3) := by decide +kernel
theorem dX3_at_31 : decode cX3_at 31 = .ok (.iload_n 1, 1) := by decide +kernel
theorem dX3_at_32 : decode cX3_at 32 = .ok (.iaload, 1) := by decide +kernel
theorem dX3_at_33 : decode cX3_at 33 = .ok (.ireturn, 1) := by decide +kernel
set_option maxRecDepth 20000 in
theorem ggX3_run_X3_lineUp : GoodIn wsX3_run wsX3_lineUp := goodIn_r _ [11, 5, 12, 13, 14, 15, 16, 10, 17, 18, 19, 20, 21, 22, 23, 24, 25, 26, 27, 28, 29, 30, 139, 140, 141, 142, 143, 144, 145, 146, 147, 148, 149, 150, 151, 152, 153, 154, 155, 156, 157, 158] (by decide +kernel) (by decide +kernel)
set_option maxRecDepth 20000 in
theorem gX3_run_X3_lineUp : GoodIn wsX3_run (wsV RX3 109 RX3 yX3_lineUp wsX3_lineUp) := goodIn_app (goodIn_of _ (by decide +kernel)) ggX3_run_X3_lineUp
set_option maxRecDepth 20000 in
theorem ggX3_run_X3_tick : GoodIn wsX3_run wsX3_tick := goodIn_r _ [34, 6, 5, 13, 18, 23, 35, 36, 37, 10, 38, 24, 39, 40, 41, 42, 43, 44, 45, 46, 47, 48, 49, 50, 51, 28, 52, 53, 54, 26, 27, 29, 30, 55, 56, 57, 58, 59, 60, 61, 62, 63, 64, 65, 66, 67, 68, 69, 70, 71, 72, 73, 74, 75, 76, 77, 78, 79, 80, 81, 82, 83, 84, 85, 86, 87, 88, 89, 90, 91, 92, 93, 94, 95, 96, 97, 98, 99, 100, 101, 102, 103, 104, 105, 106, 107, 108, 109, 110, 111, 112, 113, 114, 115, 116, 117, 118, 119, 120, 121, 122, 123, 124, 125, 126, 127, 128, 129, 130, 131, 132, 133, 134, 135, 136, 137, 138, 139, 140, 141, 142, 143, 144, 145, 146, 147, 148, 149, 150, 151, 152, 153, 154, 155, 156, 157, 158, 159, 160, 161, 162, 163] (by decide +kernel) (by decide +kernel)
set_option maxRecDepth 20000 in
theorem gX3_run_X3_tick : GoodIn wsX3_run (wsV RX3 121 RX3 yX3_tick wsX3_tick) := goodIn_app (goodIn_of _ (by decide +kernel)) ggX3_run_X3_tick
theorem dX3_run_0 : decode cX3_run 0 = .ok (.iload_n 1, 1) := by decide +kernel
theorem dX3_run_1 : decode cX3_run 1 = .ok (.iconst 1, 1) := by decide +kernel
theorem dX3_run_2 : decode cX3_run 2 = .ok (.if_icmp .lt 10, 3) := by decide +kernel
theorem dX3_run_5 : decode cX3_run 5 = .ok (.iload_n 1, 1) := by decide +kernel
theorem dX3_run_6 : decode cX3_run 6 = .ok (.sipush 500, 3) := by decide +kernel
theorem dX3_run_9 : decode cX3_run 9 = .ok (.if_icmp .le 13, 3) := by decide +kernel
theorem dX3_run_12 : decode cX3_run 12 = .ok (.new 66, 3) := by decide +kernel
theorem dX3_run_15 : decode cX3_run 15 = .ok (.dup, 1) := by decide +kernel
theorem dX3_run_16 : decode cX3_run 16 = .ok (.ldc 115, 2) := by decide +kernel
theorem dX3_run_18 : decode cX3_run 18 = .ok (.invokespecial 70, 3) := by decide +kernel
theorem dX3_run_21 : decode cX3_run 21 = .ok (.athrow, 1) := by decide +kernel
theorem dX3_run_22 : decode cX3_run 22 = .ok (.aload_n 0, 1) := by decide +kernel
theorem dX3_run_23 : decode cX3_run 23 = .ok (.invokevirtual 109, 3) := by decide +kernel
theorem dX3_run_26 : decode cX3_run 26 = .ok (.aload_n 0, 1) := by decide +kernel
theorem dX3_run_27 : decode cX3_run 27 = .ok (.getfield 15, 3) := by decide +kernel
theorem dX3_run_30 : decode cX3_run 30 = .ok (.if_icmp .ge 13, 3) := by decide +kernel
theorem dX3_run_33 : decode cX3_run 33 = .ok (.new 53, 3) := by decide +kernel
theorem dX3_run_36 : decode cX3_run 36 = .ok (.dup, 1) := by decide +kernel
theorem dX3_run_37 : decode cX3_run 37 = .ok (.ldc 117, 2) := by decide +kernel
theorem dX3_run_39 : decode cX3_run 39 = .ok (.invokespecial 57, 3) := by decide +kernel
theorem dX3_run_42 : decode cX3_run 42 = .ok (.athrow, 1) := by decide +kernel
theorem dX3_run_43 : decode cX3_run 43 = .ok (.aload_n 0, 1) := by decide +kernel
theorem dX3_run_44 : decode cX3_run 44 = .ok (.getfield 23, 3) := by decide +kernel
theorem dX3_run_47 : decode cX3_run 47 = .ok (.iload_n 1, 1) := by decide +kernel
theorem dX3_run_48 : decode cX3_run 48 = .ok (.iadd, 1) := by decide +kernel
theorem dX3_run_49 : decode cX3_run 49 = .ok (.sipush 3000, 3) := by decide +kernel
theorem dX3_run_52 : decode cX3_run 52 = .ok (.if_icmp .le 13, 3) := by decide +kernel
theorem dX3_run_55 : decode cX3_run 55 = .ok (.new 53, 3) := by decide +kernel
theorem dX3_run_58 : decode cX3_run 58 = .ok (.dup, 1) := by decide +kernel
theorem dX3_run_59 : decode cX3_run 59 = .ok (.ldc 119, 2) := by decide +kernel
theorem dX3_run_61 : decode cX3_run 61 = .ok (.invokespecial 57, 3) := by decide +kernel
theorem dX3_run_64 : decode cX3_run 64 = .ok (.athrow, 1) := by decide +kernel
theorem dX3_run_65 : decode cX3_run 65 = .ok (.iconst 0, 1) := by decide +kernel
theorem dX3_run_66 : decode cX3_run 66 = .ok (.istore_n 2, 1) := by decide +kernel
theorem dX3_run_67 : decode cX3_run 67 = .ok (.iload_n 2, 1) := by decide +kernel
theorem dX3_run_68 : decode cX3_run 68 = .ok (.iload_n 1, 1) := by decide +kernel
theorem dX3_run_69 : decode cX3_run 69 = .ok (.if_icmp .ge 13, 3) := by decide +kernel
theorem dX3_run_72 : decode cX3_run 72 = .ok (.aload_n 0, 1) := by decide +kernel
theorem dX3_run_73 : decode cX3_run 73 = .ok (.invokevirtual 121, 3) := by decide +kernel
theorem dX3_run_76 : decode cX3_run 76 = .ok (.iinc 2 1, 3) := by decide +kernel
theorem dX3_run_79 : decode cX3_run 79 = .ok (.goto (-12), 3) := by decide +kernel
theorem dX3_run_82 : decode cX3_run 82 = .ok (.aload_n 0, 1) := by decide +kernel
theorem dX3_run_83 : decode cX3_run 83 = .ok (.getfield 23, 3) := by decide +kernel
theorem dX3_run_86 : decode cX3_run 86 = .ok (.ireturn, 1) := by decide +kernel
set_option maxRecDepth 20000 in
theorem ggX3_out_X3_existing : GoodIn wsX3_out wsX3_existing := goodIn_ca (goodIn_r _ [6, 7, 8, 9, 10, 22, 23, 24, 25, 26, 27, 28, 29, 30] (by decide +kernel) (by decide +kernel)) (goodIn_sub (fun _ h => List.mem_cons_of_mem _ (List.mem_append_right _ h)) (by decide +kernel))
set_option maxRecDepth 20000 in
theorem gX3_out_X3_existing : GoodIn wsX3_out (wsV RX3 62 RX3 yX3_existing wsX3_existing) := goodIn_app (goodIn_of _ (by decide +kernel)) ggX3_out_X3_existing
theorem dX3_out_0 : decode cX3_out 0 = .ok (.aload_n 0, 1) := by decide +kernel
theorem dX3_out_1 : decode cX3_out 1 = .ok (.iload_n 1, 1) := by decide +kernel
theorem dX3_out_2 : decode cX3_out 2 = .ok (.invokevirtual 62, 3) := by decide +kernel
theorem dX3_out_5 : decode cX3_out 5 = .ok (.getfield 124, 3) := by decide +kernel
theorem dX3_out_8 : decode cX3_out 8 = .ok (.ireturn, 1) := by decide +kernel
set_option maxRecDepth 20000 in
theorem ggX3_state_X3_existing : GoodIn wsX3_state wsX3_existing := goodIn_ca (goodIn_r _ [9, 1, 2, 10, 11, 23, 24, 25, 26, 27, 28, 29, 30, 31] (by decide +kernel) (by decide +kernel)) (goodIn_sub (fun _ h => List.mem_cons_of_mem _ (List.mem_append_right _ h)) (by decide +kernel))
set_option maxRecDepth 20000 in
theorem gX3_state_X3_existing : GoodIn wsX3_state (wsV RX3 62 RX3 yX3_existing wsX3_existing) := goodIn_app (goodIn_of _ (by decide +kernel)) ggX3_state_X3_existing
theorem dX3_state_0 : decode cX3_state 0 = .ok (.aload_n 0, 1) := by decide +kernel
theorem dX3_state_1 : decode cX3_state 1 = .ok (.iload_n 1, 1) := by decide +kernel
theorem dX3_state_2 : decode cX3_state 2 = .ok (.invokevirtual 62, 3) := by decide +kernel
theorem dX3_state_5 : decode cX3_state 5 = .ok (.astore_n 3, 1) := by decide +kernel
theorem dX3_state_6 : decode cX3_state 6 = .ok (.iload_n 2, 1) := by decide +kernel
theorem dX3_state_7 : decode cX3_state 7 = .ok (.ifCond .lt 8, 3) := by decide +kernel
theorem dX3_state_10 : decode cX3_state 10 = .ok (.iload_n 2, 1) := by decide +kernel
theorem dX3_state_11 : decode cX3_state 11 = .ok (.iconst 1, 1) := by decide +kernel
theorem dX3_state_12 : decode cX3_state 12 = .ok (.if_icmp .le 13, 3) := by decide +kernel
theorem dX3_state_15 : decode cX3_state 15 = .ok (.new 66, 3) := by decide +kernel
theorem dX3_state_18 : decode cX3_state 18 = .ok (.dup, 1) := by decide +kernel
theorem dX3_state_19 : decode cX3_state 19 = .ok (.ldc 127, 2) := by decide +kernel
theorem dX3_state_21 : decode cX3_state 21 = .ok (.invokespecial 70, 3) := by decide +kernel
theorem dX3_state_24 : decode cX3_state 24 = .ok (.athrow, 1) := by decide +kernel
theorem dX3_state_25 : decode cX3_state 25 = .ok (.iload_n 2, 1) := by decide +kernel
theorem dX3_state_26 : decode cX3_state 26 = .ok (.ifCond .ne 10, 3) := by decide +kernel
theorem dX3_state_29 : decode cX3_state 29 = .ok (.aload_n 3, 1) := by decide +kernel
theorem dX3_state_30 : decode cX3_state 30 = .ok (.getfield 129, 3) := by decide +kernel
theorem dX3_state_33 : decode cX3_state 33 = .ok (.goto 7, 3) := by decide +kernel
theorem dX3_state_36 : decode cX3_state 36 = .ok (.aload_n 3, 1) := by decide +kernel
theorem dX3_state_37 : decode cX3_state 37 = .ok (.getfield 132, 3) := by decide +kernel
theorem dX3_state_40 : decode cX3_state 40 = .ok (.ireturn, 1) := by decide +kernel
theorem dX3_failed_0 : decode cX3_failed 0 = .ok (.iload_n 1, 1) := by decide +kernel
end
section
theorem dX3_failed_1 : decode cX3_failed 1 = .ok (.ifCond .lt 8, 3) := by decide +kernel
theorem dX3_failed_4 : decode cX3_failed 4 = .ok (.iload_n 1, 1) := by decide +kernel
theorem dX3_failed_5 : decode cX3_failed 5 = .ok (.iconst 3, 1) := by decide +kernel
theorem dX3_failed_6 : decode cX3_failed 6 = .ok (.if_icmp .le 13, 3) := by decide +kernel
theorem dX3_failed_9 : decode cX3_failed 9 = .ok (.new 66, 3) := by decide +kernel
theorem dX3_failed_12 : decode cX3_failed 12 = .ok (.dup, 1) := by decide +kernel
theorem dX3_failed_13 : decode cX3_failed 13 = .ok (.ldc 135, 2) := by decide +kernel
theorem dX3_failed_15 : decode cX3_failed 15 = .ok (.invokespecial 70, 3) := by decide +kernel
theorem dX3_failed_18 : decode cX3_failed 18 = .ok (.athrow, 1) := by decide +kernel
theorem dX3_failed_19 : decode cX3_failed 19 = .ok (.aload_n 0, 1) := by decide +kernel
theorem dX3_failed_20 : decode cX3_failed 20 = .ok (.getfield 36, 3) := by decide +kernel
theorem dX3_failed_23 : decode cX3_failed 23 = .ok (.getfield 137, 3) := by decide +kernel
theorem dX3_failed_26 : decode cX3_failed 26 = .ok (.iload_n 1, 1) := by decide +kernel
theorem dX3_failed_27 : decode cX3_failed 27 = .ok (.iaload, 1) := by decide +kernel
theorem dX3_failed_28 : decode cX3_failed 28 = .ok (.ireturn, 1) := by decide +kernel
set_option maxRecDepth 20000 in
theorem ggX3_failure_X1_keptCount : GoodIn wsX3_failure wsX1_keptCount := goodIn_r _ [8, 9, 10, 11, 12, 13, 35, 36, 37, 38, 39] (by decide +kernel) (by decide +kernel)
set_option maxRecDepth 20000 in
theorem gX3_failure_X1_keptCount : GoodIn wsX3_failure (wsV RX3 140 RX1 yX1_keptCount wsX1_keptCount) := goodIn_app (goodIn_of _ (by decide +kernel)) ggX3_failure_X1_keptCount
set_option maxRecDepth 20000 in
theorem ggX3_failure_X1_fact : GoodIn wsX3_failure wsX1_fact := goodIn_r _ [17, 18, 19, 20, 21, 22, 23, 24, 25, 35, 36, 37, 38, 39] (by decide +kernel) (by decide +kernel)
set_option maxRecDepth 20000 in
theorem gX3_failure_X1_fact : GoodIn wsX3_failure (wsV RX3 147 RX1 yX1_fact wsX1_fact) := goodIn_app (goodIn_of _ (by decide +kernel)) ggX3_failure_X1_fact
theorem dX3_failure_0 : decode cX3_failure 0 = .ok (.iload_n 1, 1) := by decide +kernel
theorem dX3_failure_1 : decode cX3_failure 1 = .ok (.ifCond .lt 14, 3) := by decide +kernel
theorem dX3_failure_4 : decode cX3_failure 4 = .ok (.iload_n 1, 1) := by decide +kernel
theorem dX3_failure_5 : decode cX3_failure 5 = .ok (.aload_n 0, 1) := by decide +kernel
theorem dX3_failure_6 : decode cX3_failure 6 = .ok (.getfield 36, 3) := by decide +kernel
theorem dX3_failure_9 : decode cX3_failure 9 = .ok (.invokevirtual 140, 3) := by decide +kernel
theorem dX3_failure_12 : decode cX3_failure 12 = .ok (.if_icmp .lt 13, 3) := by decide +kernel
theorem dX3_failure_15 : decode cX3_failure 15 = .ok (.new 66, 3) := by decide +kernel
theorem dX3_failure_18 : decode cX3_failure 18 = .ok (.dup, 1) := by decide +kernel
theorem dX3_failure_19 : decode cX3_failure 19 = .ok (.ldc 143, 2) := by decide +kernel
theorem dX3_failure_21 : decode cX3_failure 21 = .ok (.invokespecial 70, 3) := by decide +kernel
theorem dX3_failure_24 : decode cX3_failure 24 = .ok (.athrow, 1) := by decide +kernel
theorem dX3_failure_25 : decode cX3_failure 25 = .ok (.iload_n 2, 1) := by decide +kernel
theorem dX3_failure_26 : decode cX3_failure 26 = .ok (.ifCond .lt 8, 3) := by decide +kernel
theorem dX3_failure_29 : decode cX3_failure 29 = .ok (.iload_n 2, 1) := by decide +kernel
theorem dX3_failure_30 : decode cX3_failure 30 = .ok (.iconst 3, 1) := by decide +kernel
theorem dX3_failure_31 : decode cX3_failure 31 = .ok (.if_icmp .lt 13, 3) := by decide +kernel
theorem dX3_failure_34 : decode cX3_failure 34 = .ok (.new 66, 3) := by decide +kernel
theorem dX3_failure_37 : decode cX3_failure 37 = .ok (.dup, 1) := by decide +kernel
theorem dX3_failure_38 : decode cX3_failure 38 = .ok (.ldc 145, 2) := by decide +kernel
theorem dX3_failure_40 : decode cX3_failure 40 = .ok (.invokespecial 70, 3) := by decide +kernel
theorem dX3_failure_43 : decode cX3_failure 43 = .ok (.athrow, 1) := by decide +kernel
theorem dX3_failure_44 : decode cX3_failure 44 = .ok (.aload_n 0, 1) := by decide +kernel
theorem dX3_failure_45 : decode cX3_failure 45 = .ok (.getfield 36, 3) := by decide +kernel
theorem dX3_failure_48 : decode cX3_failure 48 = .ok (.iload_n 1, 1) := by decide +kernel
theorem dX3_failure_49 : decode cX3_failure 49 = .ok (.iload_n 2, 1) := by decide +kernel
theorem dX3_failure_50 : decode cX3_failure 50 = .ok (.invokevirtual 147, 3) := by decide +kernel
theorem dX3_failure_53 : decode cX3_failure 53 = .ok (.ireturn, 1) := by decide +kernel
set_option maxRecDepth 20000 in
theorem ggX3_save_X2_init : GoodIn wsX3_save wsX2_init := goodIn_r _ [11, 12, 13, 14, 15, 16, 17, 18, 19, 20, 38, 39, 40, 41, 42] (by decide +kernel) (by decide +kernel)
set_option maxRecDepth 20000 in
theorem gX3_save_X2_init_n153 : GoodIn wsX3_save (wsX2_init) := ggX3_save_X2_init
set_option maxRecDepth 20000 in
theorem ggX3_save_X2_keep : GoodIn wsX3_save wsX2_keep := goodIn_r _ [24, 15, 17, 25, 18, 26, 19, 27, 20, 28, 38, 39, 40, 41, 42, 43, 44, 45, 46, 47, 48, 49, 50, 51, 52, 53] (by decide +kernel) (by decide +kernel)
set_option maxRecDepth 20000 in
theorem gX3_save_X2_keep : GoodIn wsX3_save (wsV RX3 154 RX2 yX2_keep wsX2_keep) := goodIn_app (goodIn_of _ (by decide +kernel)) ggX3_save_X2_keep
theorem dX3_save_0 : decode cX3_save 0 = .ok (.aload_n 0, 1) := by decide +kernel
theorem dX3_save_1 : decode cX3_save 1 = .ok (.getfield 46, 3) := by decide +kernel
theorem dX3_save_4 : decode cX3_save 4 = .ok (.iconst 5, 1) := by decide +kernel
theorem dX3_save_5 : decode cX3_save 5 = .ok (.if_icmp .lt 13, 3) := by decide +kernel
theorem dX3_save_8 : decode cX3_save 8 = .ok (.new 53, 3) := by decide +kernel
theorem dX3_save_11 : decode cX3_save 11 = .ok (.dup, 1) := by decide +kernel
theorem dX3_save_12 : decode cX3_save 12 = .ok (.ldc 151, 2) := by decide +kernel
theorem dX3_save_14 : decode cX3_save 14 = .ok (.invokespecial 57, 3) := by decide +kernel
theorem dX3_save_17 : decode cX3_save 17 = .ok (.athrow, 1) := by decide +kernel
theorem dX3_save_18 : decode cX3_save 18 = .ok (.new 40, 3) := by decide +kernel
theorem dX3_save_21 : decode cX3_save 21 = .ok (.dup, 1) := by decide +kernel
theorem dX3_save_22 : decode cX3_save 22 = .ok (.invokespecial 153, 3) := by decide +kernel
theorem dX3_save_25 : decode cX3_save 25 = .ok (.astore_n 1, 1) := by decide +kernel
theorem dX3_save_26 : decode cX3_save 26 = .ok (.iconst 0, 1) := by decide +kernel
theorem dX3_save_27 : decode cX3_save 27 = .ok (.istore_n 2, 1) := by decide +kernel
theorem dX3_save_28 : decode cX3_save 28 = .ok (.iload_n 2, 1) := by decide +kernel
theorem dX3_save_29 : decode cX3_save 29 = .ok (.aload_n 0, 1) := by decide +kernel
theorem dX3_save_30 : decode cX3_save 30 = .ok (.getfield 15, 3) := by decide +kernel
theorem dX3_save_33 : decode cX3_save 33 = .ok (.if_icmp .ge 19, 3) := by decide +kernel
theorem dX3_save_36 : decode cX3_save 36 = .ok (.aload_n 1, 1) := by decide +kernel
theorem dX3_save_37 : decode cX3_save 37 = .ok (.aload_n 0, 1) := by decide +kernel
theorem dX3_save_38 : decode cX3_save 38 = .ok (.getfield 11, 3) := by decide +kernel
theorem dX3_save_41 : decode cX3_save 41 = .ok (.iload_n 2, 1) := by decide +kernel
theorem dX3_save_42 : decode cX3_save 42 = .ok (.aaload, 1) := by decide +kernel
theorem dX3_save_43 : decode cX3_save 43 = .ok (.invokevirtual 154, 3) := by decide +kernel
theorem dX3_save_46 : decode cX3_save 46 = .ok (.iinc 2 1, 3) := by decide +kernel
theorem dX3_save_49 : decode cX3_save 49 = .ok (.goto (-21), 3) := by decide +kernel
theorem dX3_save_52 : decode cX3_save 52 = .ok (.aload_n 0, 1) := by decide +kernel
theorem dX3_save_53 : decode cX3_save 53 = .ok (.getfield 42, 3) := by decide +kernel
theorem dX3_save_56 : decode cX3_save 56 = .ok (.aload_n 0, 1) := by decide +kernel
theorem dX3_save_57 : decode cX3_save 57 = .ok (.getfield 46, 3) := by decide +kernel
theorem dX3_save_60 : decode cX3_save 60 = .ok (.aload_n 1, 1) := by decide +kernel
theorem dX3_save_61 : decode cX3_save 61 = .ok (.aastore, 1) := by decide +kernel
theorem dX3_save_62 : decode cX3_save 62 = .ok (.aload_n 0, 1) := by decide +kernel
theorem dX3_save_63 : decode cX3_save 63 = .ok (.dup, 1) := by decide +kernel
theorem dX3_save_64 : decode cX3_save 64 = .ok (.getfield 46, 3) := by decide +kernel
theorem dX3_save_67 : decode cX3_save 67 = .ok (.iconst 1, 1) := by decide +kernel
theorem dX3_save_68 : decode cX3_save 68 = .ok (.iadd, 1) := by decide +kernel
theorem dX3_save_69 : decode cX3_save 69 = .ok (.putfield 46, 3) := by decide +kernel
theorem dX3_save_72 : decode cX3_save 72 = .ok (.aload_n 0, 1) := by decide +kernel
theorem dX3_save_73 : decode cX3_save 73 = .ok (.getfield 46, 3) := by decide +kernel
theorem dX3_save_76 : decode cX3_save 76 = .ok (.iconst 1, 1) := by decide +kernel
theorem dX3_save_77 : decode cX3_save 77 = .ok (.isub, 1) := by decide +kernel
theorem dX3_save_78 : decode cX3_save 78 = .ok (.ireturn, 1) := by decide +kernel
set_option maxRecDepth 20000 in
theorem ggX3_back_X2_restore : GoodIn wsX3_back wsX2_restore := goodIn_r _ [11, 12, 13, 14, 15, 16, 17, 18, 19, 20, 30, 31, 32, 33, 34, 35, 36, 37, 38, 39, 40, 41, 42, 43, 44, 45] (by decide +kernel) (by decide +kernel)
set_option maxRecDepth 20000 in
theorem gX3_back_X2_restore : GoodIn wsX3_back (wsV RX3 160 RX2 yX2_restore wsX2_restore) := goodIn_app (goodIn_of _ (by decide +kernel)) ggX3_back_X2_restore
theorem dX3_back_0 : decode cX3_back 0 = .ok (.iload_n 1, 1) := by decide +kernel
theorem dX3_back_1 : decode cX3_back 1 = .ok (.ifCond .lt 11, 3) := by decide +kernel
theorem dX3_back_4 : decode cX3_back 4 = .ok (.iload_n 1, 1) := by decide +kernel
theorem dX3_back_5 : decode cX3_back 5 = .ok (.aload_n 0, 1) := by decide +kernel
theorem dX3_back_6 : decode cX3_back 6 = .ok (.getfield 46, 3) := by decide +kernel
theorem dX3_back_9 : decode cX3_back 9 = .ok (.if_icmp .lt 13, 3) := by decide +kernel
theorem dX3_back_12 : decode cX3_back 12 = .ok (.new 66, 3) := by decide +kernel
theorem dX3_back_15 : decode cX3_back 15 = .ok (.dup, 1) := by decide +kernel
theorem dX3_back_16 : decode cX3_back 16 = .ok (.ldc 158, 2) := by decide +kernel
theorem dX3_back_18 : decode cX3_back 18 = .ok (.invokespecial 70, 3) := by decide +kernel
theorem dX3_back_21 : decode cX3_back 21 = .ok (.athrow, 1) := by decide +kernel
theorem dX3_back_22 : decode cX3_back 22 = .ok (.aload_n 0, 1) := by decide +kernel
theorem dX3_back_23 : decode cX3_back 23 = .ok (.getfield 42, 3) := by decide +kernel
theorem dX3_back_26 : decode cX3_back 26 = .ok (.iload_n 1, 1) := by decide +kernel
theorem dX3_back_27 : decode cX3_back 27 = .ok (.aaload, 1) := by decide +kernel
theorem dX3_back_28 : decode cX3_back 28 = .ok (.astore_n 2, 1) := by decide +kernel
theorem dX3_back_29 : decode cX3_back 29 = .ok (.iconst 0, 1) := by decide +kernel
theorem dX3_back_30 : decode cX3_back 30 = .ok (.istore_n 3, 1) := by decide +kernel
theorem dX3_back_31 : decode cX3_back 31 = .ok (.iconst 0, 1) := by decide +kernel
theorem dX3_back_32 : decode cX3_back 32 = .ok (.istore 4, 2) := by decide +kernel
theorem dX3_back_34 : decode cX3_back 34 = .ok (.iload 4, 2) := by decide +kernel
theorem dX3_back_36 : decode cX3_back 36 = .ok (.aload_n 0, 1) := by decide +kernel
theorem dX3_back_37 : decode cX3_back 37 = .ok (.getfield 15, 3) := by decide +kernel
theorem dX3_back_40 : decode cX3_back 40 = .ok (.if_icmp .ge 28, 3) := by decide +kernel
theorem dX3_back_43 : decode cX3_back 43 = .ok (.aload_n 2, 1) := by decide +kernel
theorem dX3_back_44 : decode cX3_back 44 = .ok (.iload 4, 2) := by decide +kernel
theorem dX3_back_46 : decode cX3_back 46 = .ok (.aload_n 0, 1) := by decide +kernel
theorem dX3_back_47 : decode cX3_back 47 = .ok (.getfield 11, 3) := by decide +kernel
theorem dX3_back_50 : decode cX3_back 50 = .ok (.iload 4, 2) := by decide +kernel
theorem dX3_back_52 : decode cX3_back 52 = .ok (.aaload, 1) := by decide +kernel
theorem dX3_back_53 : decode cX3_back 53 = .ok (.invokevirtual 160, 3) := by decide +kernel
theorem dX3_back_56 : decode cX3_back 56 = .ok (.ifCond .eq 6, 3) := by decide +kernel
theorem dX3_back_59 : decode cX3_back 59 = .ok (.iinc 3 1, 3) := by decide +kernel
theorem dX3_back_62 : decode cX3_back 62 = .ok (.iinc 4 1, 3) := by decide +kernel
theorem dX3_back_65 : decode cX3_back 65 = .ok (.goto (-31), 3) := by decide +kernel
theorem dX3_back_68 : decode cX3_back 68 = .ok (.iload_n 3, 1) := by decide +kernel
theorem dX3_back_69 : decode cX3_back 69 = .ok (.ireturn, 1) := by decide +kernel
set_option maxRecDepth 20000 in
theorem ggX3_become_X3_existing : GoodIn wsX3_become wsX3_existing := goodIn_ca (goodIn_r _ [9, 10, 11, 12, 13, 29, 30, 31, 32, 33, 34, 35, 36, 37] (by decide +kernel) (by decide +kernel)) (goodIn_sub (fun _ h => List.mem_cons_of_mem _ (List.mem_append_right _ h)) (by decide +kernel))
set_option maxRecDepth 20000 in
theorem gX3_become_X3_existing : GoodIn wsX3_become (wsV RX3 62 RX3 yX3_existing wsX3_existing) := goodIn_app (goodIn_of _ (by decide +kernel)) ggX3_become_X3_existing
set_option maxRecDepth 20000 in
theorem ggX3_become_X3_requireKind : GoodIn wsX3_become wsX3_requireKind := goodIn_ca (goodIn_r _ [16, 10, 11, 17] (by decide +kernel) (by decide +kernel)) (goodIn_sub (fun _ h => List.mem_cons_of_mem _ (List.mem_append_right _ h)) (by decide +kernel))
set_option maxRecDepth 20000 in
theorem gX3_become_X3_requireKind : GoodIn wsX3_become (va_wsS RX3 49 yX3_requireKind wsX3_requireKind) := goodIn_app (goodIn_of _ (by decide +kernel)) ggX3_become_X3_requireKind
theorem dX3_become_0 : decode cX3_become 0 = .ok (.aload_n 0, 1) := by decide +kernel
theorem dX3_become_1 : decode cX3_become 1 = .ok (.iload_n 1, 1) := by decide +kernel
theorem dX3_become_2 : decode cX3_become 2 = .ok (.invokevirtual 62, 3) := by decide +kernel
theorem dX3_become_5 : decode cX3_become 5 = .ok (.astore_n 3, 1) := by decide +kernel
theorem dX3_become_6 : decode cX3_become 6 = .ok (.iload_n 2, 1) := by decide +kernel
theorem dX3_become_7 : decode cX3_become 7 = .ok (.invokestatic 49, 3) := by decide +kernel
theorem dX3_become_10 : decode cX3_become 10 = .ok (.aload_n 3, 1) := by decide +kernel
theorem dX3_become_11 : decode cX3_become 11 = .ok (.getfield 86, 3) := by decide +kernel
theorem dX3_become_14 : decode cX3_become 14 = .ok (.istore 4, 2) := by decide +kernel
theorem dX3_become_16 : decode cX3_become 16 = .ok (.aload_n 3, 1) := by decide +kernel
theorem dX3_become_17 : decode cX3_become 17 = .ok (.iload_n 2, 1) := by decide +kernel
theorem dX3_become_18 : decode cX3_become 18 = .ok (.putfield 86, 3) := by decide +kernel
theorem dX3_become_21 : decode cX3_become 21 = .ok (.aload_n 3, 1) := by decide +kernel
theorem dX3_become_22 : decode cX3_become 22 = .ok (.iconst 0, 1) := by decide +kernel
theorem dX3_become_23 : decode cX3_become 23 = .ok (.putfield 124, 3) := by decide +kernel
theorem dX3_become_26 : decode cX3_become 26 = .ok (.aload_n 3, 1) := by decide +kernel
theorem dX3_become_27 : decode cX3_become 27 = .ok (.iconst 0, 1) := by decide +kernel
theorem dX3_become_28 : decode cX3_become 28 = .ok (.putfield 129, 3) := by decide +kernel
theorem dX3_become_31 : decode cX3_become 31 = .ok (.aload_n 3, 1) := by decide +kernel
theorem dX3_become_32 : decode cX3_become 32 = .ok (.iconst 0, 1) := by decide +kernel
theorem dX3_become_33 : decode cX3_become 33 = .ok (.putfield 132, 3) := by decide +kernel
theorem dX3_become_36 : decode cX3_become 36 = .ok (.iload 4, 2) := by decide +kernel
theorem dX3_become_38 : decode cX3_become 38 = .ok (.ireturn, 1) := by decide +kernel
theorem dX3_requireKind_0 : decode cX3_requireKind 0 = .ok (.iload_n 0, 1) := by decide +kernel
theorem dX3_requireKind_1 : decode cX3_requireKind 1 = .ok (.ifCond .lt 11, 3) := by decide +kernel
theorem dX3_requireKind_4 : decode cX3_requireKind 4 = .ok (.iload_n 0, 1) := by decide +kernel
theorem dX3_requireKind_5 : decode cX3_requireKind 5 = .ok (.getstatic 164, 3) := by decide +kernel
theorem dX3_requireKind_8 : decode cX3_requireKind 8 = .ok (.arraylength, 1) := by decide +kernel
theorem dX3_requireKind_9 : decode cX3_requireKind 9 = .ok (.if_icmp .lt 13, 3) := by decide +kernel
theorem dX3_requireKind_12 : decode cX3_requireKind 12 = .ok (.new 66, 3) := by decide +kernel
theorem dX3_requireKind_15 : decode cX3_requireKind 15 = .ok (.dup, 1) := by decide +kernel
theorem dX3_requireKind_16 : decode cX3_requireKind 16 = .ok (.ldc 167, 2) := by decide +kernel
theorem dX3_requireKind_18 : decode cX3_requireKind 18 = .ok (.invokespecial 70, 3) := by decide +kernel
theorem dX3_requireKind_21 : decode cX3_requireKind 21 = .ok (.athrow, 1) := by decide +kernel
theorem dX3_requireKind_22 : decode cX3_requireKind 22 = .ok (.return_, 1) := by decide +kernel
theorem dX3_existing_0 : decode cX3_existing 0 = .ok (.iload_n 1, 1) := by decide +kernel
theorem dX3_existing_1 : decode cX3_existing 1 = .ok (.ifCond .lt 11, 3) := by decide +kernel
theorem dX3_existing_4 : decode cX3_existing 4 = .ok (.iload_n 1, 1) := by decide +kernel
theorem dX3_existing_5 : decode cX3_existing 5 = .ok (.aload_n 0, 1) := by decide +kernel
theorem dX3_existing_6 : decode cX3_existing 6 = .ok (.getfield 15, 3) := by decide +kernel
theorem dX3_existing_9 : decode cX3_existing 9 = .ok (.if_icmp .lt 13, 3) := by decide +kernel
theorem dX3_existing_12 : decode cX3_existing 12 = .ok (.new 66, 3) := by decide +kernel
theorem dX3_existing_15 : decode cX3_existing 15 = .ok (.dup, 1) := by decide +kernel
theorem dX3_existing_16 : decode cX3_existing 16 = .ok (.ldc 169, 2) := by decide +kernel
theorem dX3_existing_18 : decode cX3_existing 18 = .ok (.invokespecial 70, 3) := by decide +kernel
theorem dX3_existing_21 : decode cX3_existing 21 = .ok (.athrow, 1) := by decide +kernel
theorem dX3_existing_22 : decode cX3_existing 22 = .ok (.aload_n 0, 1) := by decide +kernel
theorem dX3_existing_23 : decode cX3_existing 23 = .ok (.getfield 11, 3) := by decide +kernel
theorem dX3_existing_26 : decode cX3_existing 26 = .ok (.iload_n 1, 1) := by decide +kernel
theorem dX3_existing_27 : decode cX3_existing 27 = .ok (.aaload, 1) := by decide +kernel
theorem dX3_existing_28 : decode cX3_existing 28 = .ok (.areturn, 1) := by decide +kernel
theorem dX3_isPoint_0 : decode cX3_isPoint 0 = .ok (.iload_n 0, 1) := by decide +kernel
theorem dX3_isPoint_1 : decode cX3_isPoint 1 = .ok (.ifCond .lt 13, 3) := by decide +kernel
theorem dX3_isPoint_4 : decode cX3_isPoint 4 = .ok (.iload_n 0, 1) := by decide +kernel
theorem dX3_isPoint_5 : decode cX3_isPoint 5 = .ok (.bipush 10, 2) := by decide +kernel
theorem dX3_isPoint_7 : decode cX3_isPoint 7 = .ok (.if_icmp .ge 7, 3) := by decide +kernel
theorem dX3_isPoint_10 : decode cX3_isPoint 10 = .ok (.iconst 1, 1) := by decide +kernel
theorem dX3_isPoint_11 : decode cX3_isPoint 11 = .ok (.goto 4, 3) := by decide +kernel
theorem dX3_isPoint_14 : decode cX3_isPoint 14 = .ok (.iconst 0, 1) := by decide +kernel
theorem dX3_isPoint_15 : decode cX3_isPoint 15 = .ok (.ireturn, 1) := by decide +kernel
theorem dX3_isPlaceInRow_0 : decode cX3_isPlaceInRow 0 = .ok (.iload_n 0, 1) := by decide +kernel
theorem dX3_isPlaceInRow_1 : decode cX3_isPlaceInRow 1 = .ok (.ifCond .lt 13, 3) := by decide +kernel
theorem dX3_isPlaceInRow_4 : decode cX3_isPlaceInRow 4 = .ok (.iload_n 0, 1) := by decide +kernel
theorem dX3_isPlaceInRow_5 : decode cX3_isPlaceInRow 5 = .ok (.bipush 8, 2) := by decide +kernel
theorem dX3_isPlaceInRow_7 : decode cX3_isPlaceInRow 7 = .ok (.if_icmp .ge 7, 3) := by decide +kernel
theorem dX3_isPlaceInRow_10 : decode cX3_isPlaceInRow 10 = .ok (.iconst 1, 1) := by decide +kernel
theorem dX3_isPlaceInRow_11 : decode cX3_isPlaceInRow 11 = .ok (.goto 4, 3) := by decide +kernel
theorem dX3_isPlaceInRow_14 : decode cX3_isPlaceInRow 14 = .ok (.iconst 0, 1) := by decide +kernel
theorem dX3_isPlaceInRow_15 : decode cX3_isPlaceInRow 15 = .ok (.ireturn, 1) := by decide +kernel
set_option maxRecDepth 20000 in
theorem ggX3_lineUp_X3_leastThatMayCome : GoodIn wsX3_lineUp wsX3_leastThatMayCome := goodIn_r _ [8, 1, 2, 9, 10, 11, 12, 7, 13, 14, 15, 16, 17, 18, 19, 20, 21, 22, 23, 24, 25, 26, 27, 28, 29, 30, 31, 32, 33, 34, 35, 36, 37, 38, 39, 40, 41] (by decide +kernel) (by decide +kernel)
set_option maxRecDepth 20000 in
theorem gX3_lineUp_X3_leastThatMayCome : GoodIn wsX3_lineUp (wsV RX3 171 RX3 yX3_leastThatMayCome wsX3_leastThatMayCome) := goodIn_app (goodIn_of _ (by decide +kernel)) ggX3_lineUp_X3_leastThatMayCome
theorem dX3_lineUp_0 : decode cX3_lineUp 0 = .ok (.iconst 0, 1) := by decide +kernel
theorem dX3_lineUp_1 : decode cX3_lineUp 1 = .ok (.istore_n 1, 1) := by decide +kernel
theorem dX3_lineUp_2 : decode cX3_lineUp 2 = .ok (.iload_n 1, 1) := by decide +kernel
theorem dX3_lineUp_3 : decode cX3_lineUp 3 = .ok (.aload_n 0, 1) := by decide +kernel
theorem dX3_lineUp_4 : decode cX3_lineUp 4 = .ok (.getfield 15, 3) := by decide +kernel
theorem dX3_lineUp_7 : decode cX3_lineUp 7 = .ok (.if_icmp .ge 16, 3) := by decide +kernel
theorem dX3_lineUp_10 : decode cX3_lineUp 10 = .ok (.aload_n 0, 1) := by decide +kernel
theorem dX3_lineUp_11 : decode cX3_lineUp 11 = .ok (.getfield 29, 3) := by decide +kernel
theorem dX3_lineUp_14 : decode cX3_lineUp 14 = .ok (.iload_n 1, 1) := by decide +kernel
theorem dX3_lineUp_15 : decode cX3_lineUp 15 = .ok (.iconst 0, 1) := by decide +kernel
theorem dX3_lineUp_16 : decode cX3_lineUp 16 = .ok (.bastore, 1) := by decide +kernel
theorem dX3_lineUp_17 : decode cX3_lineUp 17 = .ok (.iinc 1 1, 3) := by decide +kernel
theorem dX3_lineUp_20 : decode cX3_lineUp 20 = .ok (.goto (-18), 3) := by decide +kernel
theorem dX3_lineUp_23 : decode cX3_lineUp 23 = .ok (.iconst 0, 1) := by decide +kernel
theorem dX3_lineUp_24 : decode cX3_lineUp 24 = .ok (.istore_n 1, 1) := by decide +kernel
theorem dX3_lineUp_25 : decode cX3_lineUp 25 = .ok (.iload_n 1, 1) := by decide +kernel
theorem dX3_lineUp_26 : decode cX3_lineUp 26 = .ok (.aload_n 0, 1) := by decide +kernel
theorem dX3_lineUp_27 : decode cX3_lineUp 27 = .ok (.getfield 15, 3) := by decide +kernel
theorem dX3_lineUp_30 : decode cX3_lineUp 30 = .ok (.if_icmp .ge 36, 3) := by decide +kernel
theorem dX3_lineUp_33 : decode cX3_lineUp 33 = .ok (.aload_n 0, 1) := by decide +kernel
theorem dX3_lineUp_34 : decode cX3_lineUp 34 = .ok (.invokevirtual 171, 3) := by decide +kernel
theorem dX3_lineUp_37 : decode cX3_lineUp 37 = .ok (.istore_n 2, 1) := by decide +kernel
theorem dX3_lineUp_38 : decode cX3_lineUp 38 = .ok (.iload_n 2, 1) := by decide +kernel
theorem dX3_lineUp_39 : decode cX3_lineUp 39 = .ok (.iconst (-1), 1) := by decide +kernel
theorem dX3_lineUp_40 : decode cX3_lineUp 40 = .ok (.if_icmp .ne 6, 3) := by decide +kernel
theorem dX3_lineUp_43 : decode cX3_lineUp 43 = .ok (.goto 23, 3) := by decide +kernel
theorem dX3_lineUp_46 : decode cX3_lineUp 46 = .ok (.aload_n 0, 1) := by decide +kernel
theorem dX3_lineUp_47 : decode cX3_lineUp 47 = .ok (.getfield 29, 3) := by decide +kernel
theorem dX3_lineUp_50 : decode cX3_lineUp 50 = .ok (.iload_n 2, 1) := by decide +kernel
theorem dX3_lineUp_51 : decode cX3_lineUp 51 = .ok (.iconst 1, 1) := by decide +kernel
theorem dX3_lineUp_52 : decode cX3_lineUp 52 = .ok (.bastore, 1) := by decide +kernel
theorem dX3_lineUp_53 : decode cX3_lineUp 53 = .ok (.aload_n 0, 1) := by decide +kernel
theorem dX3_lineUp_54 : decode cX3_lineUp 54 = .ok (.getfield 26, 3) := by decide +kernel
theorem dX3_lineUp_57 : decode cX3_lineUp 57 = .ok (.iload_n 1, 1) := by decide +kernel
theorem dX3_lineUp_58 : decode cX3_lineUp 58 = .ok (.iload_n 2, 1) := by decide +kernel
theorem dX3_lineUp_59 : decode cX3_lineUp 59 = .ok (.iastore, 1) := by decide +kernel
theorem dX3_lineUp_60 : decode cX3_lineUp 60 = .ok (.iinc 1 1, 3) := by decide +kernel
theorem dX3_lineUp_63 : decode cX3_lineUp 63 = .ok (.goto (-38), 3) := by decide +kernel
theorem dX3_lineUp_66 : decode cX3_lineUp 66 = .ok (.iload_n 1, 1) := by decide +kernel
theorem dX3_lineUp_67 : decode cX3_lineUp 67 = .ok (.istore_n 2, 1) := by decide +kernel
theorem dX3_lineUp_68 : decode cX3_lineUp 68 = .ok (.iconst 0, 1) := by decide +kernel
theorem dX3_lineUp_69 : decode cX3_lineUp 69 = .ok (.istore_n 3, 1) := by decide +kernel
theorem dX3_lineUp_70 : decode cX3_lineUp 70 = .ok (.iload_n 3, 1) := by decide +kernel
theorem dX3_lineUp_71 : decode cX3_lineUp 71 = .ok (.aload_n 0, 1) := by decide +kernel
theorem dX3_lineUp_72 : decode cX3_lineUp 72 = .ok (.getfield 15, 3) := by decide +kernel
theorem dX3_lineUp_75 : decode cX3_lineUp 75 = .ok (.if_icmp .ge 36, 3) := by decide +kernel
theorem dX3_lineUp_78 : decode cX3_lineUp 78 = .ok (.iload_n 2, 1) := by decide +kernel
theorem dX3_lineUp_79 : decode cX3_lineUp 79 = .ok (.aload_n 0, 1) := by decide +kernel
theorem dX3_lineUp_80 : decode cX3_lineUp 80 = .ok (.getfield 15, 3) := by decide +kernel
theorem dX3_lineUp_83 : decode cX3_lineUp 83 = .ok (.if_icmp .ge 28, 3) := by decide +kernel
theorem dX3_lineUp_86 : decode cX3_lineUp 86 = .ok (.aload_n 0, 1) := by decide +kernel
theorem dX3_lineUp_87 : decode cX3_lineUp 87 = .ok (.getfield 29, 3) := by decide +kernel
theorem dX3_lineUp_90 : decode cX3_lineUp 90 = .ok (.iload_n 3, 1) := by decide +kernel
theorem dX3_lineUp_91 : decode cX3_lineUp 91 = .ok (.baload, 1) := by decide +kernel
theorem dX3_lineUp_92 : decode cX3_lineUp 92 = .ok (.ifCond .ne 13, 3) := by decide +kernel
theorem dX3_lineUp_95 : decode cX3_lineUp 95 = .ok (.aload_n 0, 1) := by decide +kernel
theorem dX3_lineUp_96 : decode cX3_lineUp 96 = .ok (.getfield 26, 3) := by decide +kernel
theorem dX3_lineUp_99 : decode cX3_lineUp 99 = .ok (.iload_n 2, 1) := by decide +kernel
theorem dX3_lineUp_100 : decode cX3_lineUp 100 = .ok (.iload_n 3, 1) := by decide +kernel
theorem dX3_lineUp_101 : decode cX3_lineUp 101 = .ok (.iastore, 1) := by decide +kernel
theorem dX3_lineUp_102 : decode cX3_lineUp 102 = .ok (.iinc 2 1, 3) := by decide +kernel
theorem dX3_lineUp_105 : decode cX3_lineUp 105 = .ok (.iinc 3 1, 3) := by decide +kernel
theorem dX3_lineUp_108 : decode cX3_lineUp 108 = .ok (.goto (-38), 3) := by decide +kernel
theorem dX3_lineUp_111 : decode cX3_lineUp 111 = .ok (.iload_n 1, 1) := by decide +kernel
theorem dX3_lineUp_112 : decode cX3_lineUp 112 = .ok (.ireturn, 1) := by decide +kernel
set_option maxRecDepth 20000 in
theorem ggX3_leastThatMayCome_X3_mayCome : GoodIn wsX3_leastThatMayCome wsX3_mayCome := goodIn_r _ [8, 9, 10, 1, 2, 11, 12, 13, 14, 15, 16, 26, 27, 28, 29, 30, 31, 32, 33, 34, 35, 36, 17, 18, 19, 20, 21, 22, 23, 24, 25] (by decide +kernel) (by decide +kernel)
set_option maxRecDepth 20000 in
theorem gX3_leastThatMayCome_X3_mayCome : GoodIn wsX3_leastThatMayCome (wsV RX3 174 RX3 yX3_mayCome wsX3_mayCome) := goodIn_app (goodIn_of _ (by decide +kernel)) ggX3_leastThatMayCome_X3_mayCome
theorem dX3_leastThatMayCome_0 : decode cX3_leastThatMayCome 0 = .ok (.iconst 0, 1) := by decide +kernel
theorem dX3_leastThatMayCome_1 : decode cX3_leastThatMayCome 1 = .ok (.istore_n 1, 1) := by decide +kernel
theorem dX3_leastThatMayCome_2 : decode cX3_leastThatMayCome 2 = .ok (.iload_n 1, 1) := by decide +kernel
theorem dX3_leastThatMayCome_3 : decode cX3_leastThatMayCome 3 = .ok (.aload_n 0, 1) := by decide +kernel
theorem dX3_leastThatMayCome_4 : decode cX3_leastThatMayCome 4 = .ok (.getfield 15, 3) := by decide +kernel
theorem dX3_leastThatMayCome_7 : decode cX3_leastThatMayCome 7 = .ok (.if_icmp .ge 33, 3) := by decide +kernel
theorem dX3_leastThatMayCome_10 : decode cX3_leastThatMayCome 10 = .ok (.aload_n 0, 1) := by decide +kernel
theorem dX3_leastThatMayCome_11 : decode cX3_leastThatMayCome 11 = .ok (.getfield 29, 3) := by decide +kernel
theorem dX3_leastThatMayCome_14 : decode cX3_leastThatMayCome 14 = .ok (.iload_n 1, 1) := by decide +kernel
theorem dX3_leastThatMayCome_15 : decode cX3_leastThatMayCome 15 = .ok (.baload, 1) := by decide +kernel
theorem dX3_leastThatMayCome_16 : decode cX3_leastThatMayCome 16 = .ok (.ifCond .ne 18, 3) := by decide +kernel
theorem dX3_leastThatMayCome_19 : decode cX3_leastThatMayCome 19 = .ok (.aload_n 0, 1) := by decide +kernel
theorem dX3_leastThatMayCome_20 : decode cX3_leastThatMayCome 20 = .ok (.aload_n 0, 1) := by decide +kernel
theorem dX3_leastThatMayCome_21 : decode cX3_leastThatMayCome 21 = .ok (.getfield 11, 3) := by decide +kernel
theorem dX3_leastThatMayCome_24 : decode cX3_leastThatMayCome 24 = .ok (.iload_n 1, 1) := by decide +kernel
theorem dX3_leastThatMayCome_25 : decode cX3_leastThatMayCome 25 = .ok (.aaload, 1) := by decide +kernel
theorem dX3_leastThatMayCome_26 : decode cX3_leastThatMayCome 26 = .ok (.invokevirtual 174, 3) := by decide +kernel
theorem dX3_leastThatMayCome_29 : decode cX3_leastThatMayCome 29 = .ok (.ifCond .eq 5, 3) := by decide +kernel
theorem dX3_leastThatMayCome_32 : decode cX3_leastThatMayCome 32 = .ok (.iload_n 1, 1) := by decide +kernel
theorem dX3_leastThatMayCome_33 : decode cX3_leastThatMayCome 33 = .ok (.ireturn, 1) := by decide +kernel
theorem dX3_leastThatMayCome_34 : decode cX3_leastThatMayCome 34 = .ok (.iinc 1 1, 3) := by decide +kernel
theorem dX3_leastThatMayCome_37 : decode cX3_leastThatMayCome 37 = .ok (.goto (-35), 3) := by decide +kernel
theorem dX3_leastThatMayCome_40 : decode cX3_leastThatMayCome 40 = .ok (.iconst (-1), 1) := by decide +kernel
theorem dX3_leastThatMayCome_41 : decode cX3_leastThatMayCome 41 = .ok (.ireturn, 1) := by decide +kernel
set_option maxRecDepth 20000 in
theorem ggX3_mayCome_X0_namedInputs : GoodIn wsX3_mayCome wsX0_namedInputs := goodIn_r _ [9, 10, 11, 12, 13, 14, 15, 16, 17, 18, 19, 20, 21] (by decide +kernel) (by decide +kernel)
set_option maxRecDepth 20000 in
theorem gX3_mayCome_X0_namedInputs : GoodIn wsX3_mayCome (wsV RX3 178 RX0 yX0_namedInputs wsX0_namedInputs) := goodIn_app (goodIn_of _ (by decide +kernel)) ggX3_mayCome_X0_namedInputs
theorem dX3_mayCome_0 : decode cX3_mayCome 0 = .ok (.aload_n 1, 1) := by decide +kernel
theorem dX3_mayCome_1 : decode cX3_mayCome 1 = .ok (.getfield 86, 3) := by decide +kernel
theorem dX3_mayCome_4 : decode cX3_mayCome 4 = .ok (.bipush 16, 2) := by decide +kernel
theorem dX3_mayCome_6 : decode cX3_mayCome 6 = .ok (.if_icmp .ne 5, 3) := by decide +kernel
theorem dX3_mayCome_9 : decode cX3_mayCome 9 = .ok (.iconst 1, 1) := by decide +kernel
theorem dX3_mayCome_10 : decode cX3_mayCome 10 = .ok (.ireturn, 1) := by decide +kernel
theorem dX3_mayCome_11 : decode cX3_mayCome 11 = .ok (.iconst 0, 1) := by decide +kernel
theorem dX3_mayCome_12 : decode cX3_mayCome 12 = .ok (.istore_n 2, 1) := by decide +kernel
theorem dX3_mayCome_13 : decode cX3_mayCome 13 = .ok (.iload_n 2, 1) := by decide +kernel
theorem dX3_mayCome_14 : decode cX3_mayCome 14 = .ok (.aload_n 1, 1) := by decide +kernel
theorem dX3_mayCome_15 : decode cX3_mayCome 15 = .ok (.invokevirtual 178, 3) := by decide +kernel
theorem dX3_mayCome_18 : decode cX3_mayCome 18 = .ok (.if_icmp .ge 39, 3) := by decide +kernel
theorem dX3_mayCome_21 : decode cX3_mayCome 21 = .ok (.aload_n 1, 1) := by decide +kernel
theorem dX3_mayCome_22 : decode cX3_mayCome 22 = .ok (.getfield 71, 3) := by decide +kernel
theorem dX3_mayCome_25 : decode cX3_mayCome 25 = .ok (.iload_n 2, 1) := by decide +kernel
theorem dX3_mayCome_26 : decode cX3_mayCome 26 = .ok (.iaload, 1) := by decide +kernel
theorem dX3_mayCome_27 : decode cX3_mayCome 27 = .ok (.istore_n 3, 1) := by decide +kernel
theorem dX3_mayCome_28 : decode cX3_mayCome 28 = .ok (.iload_n 3, 1) := by decide +kernel
theorem dX3_mayCome_29 : decode cX3_mayCome 29 = .ok (.ifCond .lt 22, 3) := by decide +kernel
theorem dX3_mayCome_32 : decode cX3_mayCome 32 = .ok (.iload_n 3, 1) := by decide +kernel
theorem dX3_mayCome_33 : decode cX3_mayCome 33 = .ok (.aload_n 0, 1) := by decide +kernel
theorem dX3_mayCome_34 : decode cX3_mayCome 34 = .ok (.getfield 15, 3) := by decide +kernel
theorem dX3_mayCome_37 : decode cX3_mayCome 37 = .ok (.if_icmp .ge 14, 3) := by decide +kernel
theorem dX3_mayCome_40 : decode cX3_mayCome 40 = .ok (.aload_n 0, 1) := by decide +kernel
theorem dX3_mayCome_41 : decode cX3_mayCome 41 = .ok (.getfield 29, 3) := by decide +kernel
theorem dX3_mayCome_44 : decode cX3_mayCome 44 = .ok (.iload_n 3, 1) := by decide +kernel
theorem dX3_mayCome_45 : decode cX3_mayCome 45 = .ok (.baload, 1) := by decide +kernel
theorem dX3_mayCome_46 : decode cX3_mayCome 46 = .ok (.ifCond .ne 5, 3) := by decide +kernel
theorem dX3_mayCome_49 : decode cX3_mayCome 49 = .ok (.iconst 0, 1) := by decide +kernel
theorem dX3_mayCome_50 : decode cX3_mayCome 50 = .ok (.ireturn, 1) := by decide +kernel
theorem dX3_mayCome_51 : decode cX3_mayCome 51 = .ok (.iinc 2 1, 3) := by decide +kernel
theorem dX3_mayCome_54 : decode cX3_mayCome 54 = .ok (.goto (-41), 3) := by decide +kernel
theorem dX3_mayCome_57 : decode cX3_mayCome 57 = .ok (.iconst 1, 1) := by decide +kernel
theorem dX3_mayCome_58 : decode cX3_mayCome 58 = .ok (.ireturn, 1) := by decide +kernel
set_option maxRecDepth 20000 in
theorem ggX3_tick_X3_reckon : GoodIn wsX3_tick wsX3_reckon := goodIn_r _ [10, 4, 11, 5, 12, 13, 1, 14, 15, 16, 9, 17, 2, 18, 19, 20, 21, 22, 23, 24, 25, 26, 27, 28, 29, 30, 31, 32, 33, 34, 35, 36, 37, 38, 39, 40, 41, 42, 43, 44, 45, 46, 47, 48, 49, 50, 51, 52, 53, 54, 55, 56, 57, 58, 59, 60, 61, 62, 63, 64, 65, 66, 67, 68, 69, 70, 71, 72, 73, 74, 75, 76, 77, 78, 79, 80, 81, 82, 83, 84, 85, 86, 87, 88, 89, 90, 91, 92, 93, 94, 95, 96, 97, 98, 99, 100, 101, 102, 103, 104, 105, 106, 107, 108, 109, 110, 111, 117, 118, 119, 120, 121, 122, 123, 124, 125, 126, 127, 128, 129, 130, 131, 132, 133, 134, 135, 136, 137, 138, 139, 140, 141] (by decide +kernel) (by decide +kernel)
set_option maxRecDepth 20000 in
theorem gX3_tick_X3_reckon : GoodIn wsX3_tick (wsV RX3 181 RX3 yX3_reckon wsX3_reckon) := goodIn_app (goodIn_of _ (by decide +kernel)) ggX3_tick_X3_reckon
set_option maxRecDepth 20000 in
theorem ggX3_tick_X3_takeUp : GoodIn wsX3_tick wsX3_takeUp := goodIn_r _ [115, 4, 11, 116, 39, 40, 41, 9, 42, 43, 1, 44, 45, 46, 47, 48, 49, 50, 51, 52, 53, 54, 55, 56, 57, 25, 58, 59, 60, 61, 14, 15, 16, 17, 2, 18, 117, 118, 119, 120, 121, 122, 123, 124, 125, 126, 127, 128, 129, 130, 131, 132, 133, 134, 135, 136, 137, 138, 139, 140, 141] (by decide +kernel) (by decide +kernel)
set_option maxRecDepth 20000 in
theorem gX3_tick_X3_takeUp : GoodIn wsX3_tick (wsV RX3 184 RX3 yX3_takeUp wsX3_takeUp) := goodIn_app (goodIn_of _ (by decide +kernel)) ggX3_tick_X3_takeUp
theorem dX3_tick_0 : decode cX3_tick 0 = .ok (.aload_n 0, 1) := by decide +kernel
theorem dX3_tick_1 : decode cX3_tick 1 = .ok (.dup, 1) := by decide +kernel
theorem dX3_tick_2 : decode cX3_tick 2 = .ok (.getfield 23, 3) := by decide +kernel
theorem dX3_tick_5 : decode cX3_tick 5 = .ok (.iconst 1, 1) := by decide +kernel
theorem dX3_tick_6 : decode cX3_tick 6 = .ok (.iadd, 1) := by decide +kernel
theorem dX3_tick_7 : decode cX3_tick 7 = .ok (.putfield 23, 3) := by decide +kernel
theorem dX3_tick_10 : decode cX3_tick 10 = .ok (.iconst 0, 1) := by decide +kernel
theorem dX3_tick_11 : decode cX3_tick 11 = .ok (.istore_n 1, 1) := by decide +kernel
theorem dX3_tick_12 : decode cX3_tick 12 = .ok (.iload_n 1, 1) := by decide +kernel
theorem dX3_tick_13 : decode cX3_tick 13 = .ok (.aload_n 0, 1) := by decide +kernel
theorem dX3_tick_14 : decode cX3_tick 14 = .ok (.getfield 15, 3) := by decide +kernel
theorem dX3_tick_17 : decode cX3_tick 17 = .ok (.if_icmp .ge 19, 3) := by decide +kernel
theorem dX3_tick_20 : decode cX3_tick 20 = .ok (.aload_n 0, 1) := by decide +kernel
theorem dX3_tick_21 : decode cX3_tick 21 = .ok (.aload_n 0, 1) := by decide +kernel
theorem dX3_tick_22 : decode cX3_tick 22 = .ok (.getfield 26, 3) := by decide +kernel
theorem dX3_tick_25 : decode cX3_tick 25 = .ok (.iload_n 1, 1) := by decide +kernel
theorem dX3_tick_26 : decode cX3_tick 26 = .ok (.iaload, 1) := by decide +kernel
theorem dX3_tick_27 : decode cX3_tick 27 = .ok (.invokevirtual 181, 3) := by decide +kernel
theorem dX3_tick_30 : decode cX3_tick 30 = .ok (.iinc 1 1, 3) := by decide +kernel
theorem dX3_tick_33 : decode cX3_tick 33 = .ok (.goto (-21), 3) := by decide +kernel
theorem dX3_tick_36 : decode cX3_tick 36 = .ok (.iconst 0, 1) := by decide +kernel
theorem dX3_tick_37 : decode cX3_tick 37 = .ok (.istore_n 1, 1) := by decide +kernel
theorem dX3_tick_38 : decode cX3_tick 38 = .ok (.iload_n 1, 1) := by decide +kernel
theorem dX3_tick_39 : decode cX3_tick 39 = .ok (.aload_n 0, 1) := by decide +kernel
theorem dX3_tick_40 : decode cX3_tick 40 = .ok (.getfield 15, 3) := by decide +kernel
theorem dX3_tick_43 : decode cX3_tick 43 = .ok (.if_icmp .ge 28, 3) := by decide +kernel
theorem dX3_tick_46 : decode cX3_tick 46 = .ok (.aload_n 0, 1) := by decide +kernel
theorem dX3_tick_47 : decode cX3_tick 47 = .ok (.getfield 11, 3) := by decide +kernel
theorem dX3_tick_50 : decode cX3_tick 50 = .ok (.iload_n 1, 1) := by decide +kernel
theorem dX3_tick_51 : decode cX3_tick 51 = .ok (.aaload, 1) := by decide +kernel
theorem dX3_tick_52 : decode cX3_tick 52 = .ok (.getfield 86, 3) := by decide +kernel
theorem dX3_tick_55 : decode cX3_tick 55 = .ok (.bipush 16, 2) := by decide +kernel
theorem dX3_tick_57 : decode cX3_tick 57 = .ok (.if_icmp .ne 8, 3) := by decide +kernel
theorem dX3_tick_60 : decode cX3_tick 60 = .ok (.aload_n 0, 1) := by decide +kernel
theorem dX3_tick_61 : decode cX3_tick 61 = .ok (.iload_n 1, 1) := by decide +kernel
theorem dX3_tick_62 : decode cX3_tick 62 = .ok (.invokevirtual 184, 3) := by decide +kernel
theorem dX3_tick_65 : decode cX3_tick 65 = .ok (.iinc 1 1, 3) := by decide +kernel
theorem dX3_tick_68 : decode cX3_tick 68 = .ok (.goto (-30), 3) := by decide +kernel
theorem dX3_tick_71 : decode cX3_tick 71 = .ok (.return_, 1) := by decide +kernel
set_option maxRecDepth 20000 in
theorem ggX3_reckon_X3_outputOf : GoodIn wsX3_reckon wsX3_outputOf := goodIn_r _ [11, 12, 1, 13, 107, 108, 109, 110, 111, 112, 113, 114, 115, 116, 117, 118, 119, 120, 121, 122, 123, 124, 125, 126] (by decide +kernel) (by decide +kernel)
set_option maxRecDepth 20000 in
theorem gX3_reckon_X3_outputOf : GoodIn wsX3_reckon (wsV RX3 187 RX3 yX3_outputOf wsX3_outputOf) := goodIn_app (goodIn_of _ (by decide +kernel)) ggX3_reckon_X3_outputOf
set_option maxRecDepth 20000 in
theorem ggX3_reckon_X3_failureOf : GoodIn wsX3_reckon wsX3_failureOf := goodIn_r _ [16, 3, 4, 17, 18, 19, 20, 21, 22, 23, 24, 25, 26, 27, 28, 29, 10, 30, 31, 32, 33, 116, 117, 118, 119, 120, 121, 122, 123, 124, 125, 126] (by decide +kernel) (by decide +kernel)
set_option maxRecDepth 20000 in
theorem gX3_reckon_X3_failureOf : GoodIn wsX3_reckon (va_wsS RX3 191 yX3_failureOf wsX3_failureOf) := goodIn_app (goodIn_of _ (by decide +kernel)) ggX3_reckon_X3_failureOf
set_option maxRecDepth 20000 in
theorem ggX3_reckon_X3_fail : GoodIn wsX3_reckon wsX3_fail := goodIn_r _ [37, 38, 6, 1, 39, 40, 41, 42, 43, 44, 45, 46, 47, 48, 49, 50, 51, 52, 20, 53, 54, 55, 56, 107, 108, 109, 110, 111, 112, 113, 114, 115, 116, 117, 118, 119, 120, 121, 122, 123, 124, 125, 126, 127, 128, 129, 130, 131] (by decide +kernel) (by decide +kernel)
set_option maxRecDepth 20000 in
theorem gX3_reckon_X3_fail : GoodIn wsX3_reckon (wsV RX3 195 RX3 yX3_fail wsX3_fail) := goodIn_app (goodIn_of _ (by decide +kernel)) ggX3_reckon_X3_fail
set_option maxRecDepth 20000 in
theorem ggX3_reckon_X3_isPoint : GoodIn wsX3_reckon wsX3_isPoint := goodIn_r _ [30] (by decide +kernel) (by decide +kernel)
set_option maxRecDepth 20000 in
theorem gX3_reckon_X3_isPoint : GoodIn wsX3_reckon (va_wsS RX3 97 yX3_isPoint wsX3_isPoint) := goodIn_app (goodIn_of _ (by decide +kernel)) ggX3_reckon_X3_isPoint
set_option maxRecDepth 20000 in
theorem ggX3_reckon_X0_say : GoodIn wsX3_reckon wsX0_say := goodIn_r _ [53, 54, 55, 56, 116, 117, 118, 119, 120, 121, 122, 123, 124, 125, 126] (by decide +kernel) (by decide +kernel)
set_option maxRecDepth 20000 in
theorem gX3_reckon_X0_say : GoodIn wsX3_reckon (wsV RX3 199 RX0 yX0_say wsX0_say) := goodIn_app (goodIn_of _ (by decide +kernel)) ggX3_reckon_X0_say
set_option maxRecDepth 20000 in
theorem ggX3_reckon_X3_combined : GoodIn wsX3_reckon wsX3_combined := goodIn_r _ [59, 60, 61, 62, 63, 64, 65, 66, 67, 68, 10, 69, 70, 71, 72] (by decide +kernel) (by decide +kernel)
set_option maxRecDepth 20000 in
theorem gX3_reckon_X3_combined : GoodIn wsX3_reckon (va_wsS RX3 202 yX3_combined wsX3_combined) := goodIn_app (goodIn_of _ (by decide +kernel)) ggX3_reckon_X3_combined
set_option maxRecDepth 20000 in
theorem ggX3_reckon_X0_ownReckoning : GoodIn wsX3_reckon wsX0_ownReckoning := goodIn_r _ [76, 27, 77, 78, 79, 80, 56, 81, 61, 62, 63, 32, 10, 33, 82, 83, 84, 20, 85, 86, 65, 66, 87, 88, 89, 90, 91, 92, 93, 94, 95, 96, 97, 98, 99, 100, 101, 102, 71, 72, 103, 104, 105, 106, 116, 117, 118, 119, 120, 121, 122, 123, 124, 125, 126] (by decide +kernel) (by decide +kernel)
set_option maxRecDepth 20000 in
theorem gX3_reckon_X0_ownReckoning : GoodIn wsX3_reckon (wsV RX3 206 RX0 yX0_ownReckoning wsX0_ownReckoning) := goodIn_app (goodIn_of _ (by decide +kernel)) ggX3_reckon_X0_ownReckoning
theorem dX3_reckon_0 : decode cX3_reckon 0 = .ok (.aload_n 0, 1) := by decide +kernel
theorem dX3_reckon_1 : decode cX3_reckon 1 = .ok (.getfield 11, 3) := by decide +kernel
theorem dX3_reckon_4 : decode cX3_reckon 4 = .ok (.iload_n 1, 1) := by decide +kernel
theorem dX3_reckon_5 : decode cX3_reckon 5 = .ok (.aaload, 1) := by decide +kernel
theorem dX3_reckon_6 : decode cX3_reckon 6 = .ok (.astore_n 2, 1) := by decide +kernel
theorem dX3_reckon_7 : decode cX3_reckon 7 = .ok (.aload_n 0, 1) := by decide +kernel
theorem dX3_reckon_8 : decode cX3_reckon 8 = .ok (.aload_n 2, 1) := by decide +kernel
theorem dX3_reckon_9 : decode cX3_reckon 9 = .ok (.getfield 71, 3) := by decide +kernel
theorem dX3_reckon_12 : decode cX3_reckon 12 = .ok (.iconst 0, 1) := by decide +kernel
theorem dX3_reckon_13 : decode cX3_reckon 13 = .ok (.iaload, 1) := by decide +kernel
theorem dX3_reckon_14 : decode cX3_reckon 14 = .ok (.invokevirtual 187, 3) := by decide +kernel
theorem dX3_reckon_17 : decode cX3_reckon 17 = .ok (.istore_n 3, 1) := by decide +kernel
theorem dX3_reckon_18 : decode cX3_reckon 18 = .ok (.aload_n 0, 1) := by decide +kernel
theorem dX3_reckon_19 : decode cX3_reckon 19 = .ok (.aload_n 2, 1) := by decide +kernel
theorem dX3_reckon_20 : decode cX3_reckon 20 = .ok (.getfield 71, 3) := by decide +kernel
theorem dX3_reckon_23 : decode cX3_reckon 23 = .ok (.iconst 1, 1) := by decide +kernel
theorem dX3_reckon_24 : decode cX3_reckon 24 = .ok (.iaload, 1) := by decide +kernel
theorem dX3_reckon_25 : decode cX3_reckon 25 = .ok (.invokevirtual 187, 3) := by decide +kernel
theorem dX3_reckon_28 : decode cX3_reckon 28 = .ok (.istore 4, 2) := by decide +kernel
theorem dX3_reckon_30 : decode cX3_reckon 30 = .ok (.aload_n 0, 1) := by decide +kernel
theorem dX3_reckon_31 : decode cX3_reckon 31 = .ok (.aload_n 2, 1) := by decide +kernel
theorem dX3_reckon_32 : decode cX3_reckon 32 = .ok (.getfield 71, 3) := by decide +kernel
theorem dX3_reckon_35 : decode cX3_reckon 35 = .ok (.iconst 2, 1) := by decide +kernel
theorem dX3_reckon_36 : decode cX3_reckon 36 = .ok (.iaload, 1) := by decide +kernel
theorem dX3_reckon_37 : decode cX3_reckon 37 = .ok (.invokevirtual 187, 3) := by decide +kernel
theorem dX3_reckon_40 : decode cX3_reckon 40 = .ok (.istore 5, 2) := by decide +kernel
theorem dX3_reckon_42 : decode cX3_reckon 42 = .ok (.aload_n 2, 1) := by decide +kernel
theorem dX3_reckon_43 : decode cX3_reckon 43 = .ok (.iload_n 3, 1) := by decide +kernel
theorem dX3_reckon_44 : decode cX3_reckon 44 = .ok (.iload 4, 2) := by decide +kernel
theorem dX3_reckon_46 : decode cX3_reckon 46 = .ok (.invokestatic 191, 3) := by decide +kernel
theorem dX3_reckon_49 : decode cX3_reckon 49 = .ok (.istore 6, 2) := by decide +kernel
theorem dX3_reckon_51 : decode cX3_reckon 51 = .ok (.iload 6, 2) := by decide +kernel
theorem dX3_reckon_53 : decode cX3_reckon 53 = .ok (.ifCond .eq 13, 3) := by decide +kernel
theorem dX3_reckon_56 : decode cX3_reckon 56 = .ok (.aload_n 0, 1) := by decide +kernel
theorem dX3_reckon_57 : decode cX3_reckon 57 = .ok (.iload_n 1, 1) := by decide +kernel
theorem dX3_reckon_58 : decode cX3_reckon 58 = .ok (.iload 6, 2) := by decide +kernel
theorem dX3_reckon_60 : decode cX3_reckon 60 = .ok (.invokevirtual 195, 3) := by decide +kernel
theorem dX3_reckon_63 : decode cX3_reckon 63 = .ok (.goto 91, 3) := by decide +kernel
theorem dX3_reckon_66 : decode cX3_reckon 66 = .ok (.aload_n 2, 1) := by decide +kernel
theorem dX3_reckon_67 : decode cX3_reckon 67 = .ok (.getfield 86, 3) := by decide +kernel
theorem dX3_reckon_70 : decode cX3_reckon 70 = .ok (.ifCond .ne 33, 3) := by decide +kernel
theorem dX3_reckon_73 : decode cX3_reckon 73 = .ok (.aload_n 2, 1) := by decide +kernel
theorem dX3_reckon_74 : decode cX3_reckon 74 = .ok (.aload_n 2, 1) := by decide +kernel
theorem dX3_reckon_75 : decode cX3_reckon 75 = .ok (.getfield 74, 3) := by decide +kernel
theorem dX3_reckon_78 : decode cX3_reckon 78 = .ok (.invokestatic 97, 3) := by decide +kernel
theorem dX3_reckon_81 : decode cX3_reckon 81 = .ok (.ifCond .eq 15, 3) := by decide +kernel
theorem dX3_reckon_84 : decode cX3_reckon 84 = .ok (.aload_n 0, 1) := by decide +kernel
theorem dX3_reckon_85 : decode cX3_reckon 85 = .ok (.getfield 19, 3) := by decide +kernel
theorem dX3_reckon_88 : decode cX3_reckon 88 = .ok (.aload_n 2, 1) := by decide +kernel
theorem dX3_reckon_89 : decode cX3_reckon 89 = .ok (.getfield 74, 3) := by decide +kernel
theorem dX3_reckon_92 : decode cX3_reckon 92 = .ok (.iaload, 1) := by decide +kernel
theorem dX3_reckon_93 : decode cX3_reckon 93 = .ok (.goto 4, 3) := by decide +kernel
theorem dX3_reckon_96 : decode cX3_reckon 96 = .ok (.iconst 0, 1) := by decide +kernel
theorem dX3_reckon_97 : decode cX3_reckon 97 = .ok (.invokevirtual 199, 3) := by decide +kernel
theorem dX3_reckon_100 : decode cX3_reckon 100 = .ok (.goto 54, 3) := by decide +kernel
theorem dX3_reckon_103 : decode cX3_reckon 103 = .ok (.aload_n 2, 1) := by decide +kernel
theorem dX3_reckon_104 : decode cX3_reckon 104 = .ok (.getfield 86, 3) := by decide +kernel
theorem dX3_reckon_107 : decode cX3_reckon 107 = .ok (.iconst 2, 1) := by decide +kernel
theorem dX3_reckon_108 : decode cX3_reckon 108 = .ok (.if_icmp .lt 31, 3) := by decide +kernel
theorem dX3_reckon_111 : decode cX3_reckon 111 = .ok (.aload_n 2, 1) := by decide +kernel
theorem dX3_reckon_112 : decode cX3_reckon 112 = .ok (.getfield 86, 3) := by decide +kernel
theorem dX3_reckon_115 : decode cX3_reckon 115 = .ok (.bipush 14, 2) := by decide +kernel
theorem dX3_reckon_117 : decode cX3_reckon 117 = .ok (.if_icmp .gt 22, 3) := by decide +kernel
theorem dX3_reckon_120 : decode cX3_reckon 120 = .ok (.aload_n 2, 1) := by decide +kernel
theorem dX3_reckon_121 : decode cX3_reckon 121 = .ok (.aload_n 2, 1) := by decide +kernel
theorem dX3_reckon_122 : decode cX3_reckon 122 = .ok (.getfield 86, 3) := by decide +kernel
theorem dX3_reckon_125 : decode cX3_reckon 125 = .ok (.iload_n 3, 1) := by decide +kernel
theorem dX3_reckon_126 : decode cX3_reckon 126 = .ok (.iload 4, 2) := by decide +kernel
theorem dX3_reckon_128 : decode cX3_reckon 128 = .ok (.iload 5, 2) := by decide +kernel
theorem dX3_reckon_130 : decode cX3_reckon 130 = .ok (.invokestatic 202, 3) := by decide +kernel
theorem dX3_reckon_133 : decode cX3_reckon 133 = .ok (.invokevirtual 199, 3) := by decide +kernel
theorem dX3_reckon_136 : decode cX3_reckon 136 = .ok (.goto 18, 3) := by decide +kernel
theorem dX3_reckon_139 : decode cX3_reckon 139 = .ok (.aload_n 2, 1) := by decide +kernel
theorem dX3_reckon_140 : decode cX3_reckon 140 = .ok (.aload_n 2, 1) := by decide +kernel
theorem dX3_reckon_141 : decode cX3_reckon 141 = .ok (.iload_n 3, 1) := by decide +kernel
theorem dX3_reckon_142 : decode cX3_reckon 142 = .ok (.iload 4, 2) := by decide +kernel
theorem dX3_reckon_144 : decode cX3_reckon 144 = .ok (.aload_n 0, 1) := by decide +kernel
theorem dX3_reckon_145 : decode cX3_reckon 145 = .ok (.getfield 23, 3) := by decide +kernel
theorem dX3_reckon_148 : decode cX3_reckon 148 = .ok (.invokevirtual 206, 3) := by decide +kernel
theorem dX3_reckon_151 : decode cX3_reckon 151 = .ok (.invokevirtual 199, 3) := by decide +kernel
theorem dX3_reckon_154 : decode cX3_reckon 154 = .ok (.return_, 1) := by decide +kernel
set_option maxRecDepth 20000 in
theorem ggX3_fail_X1_note : GoodIn wsX3_fail wsX1_note := goodIn_r _ [9, 10, 11, 12, 13, 14, 43, 44, 45, 46, 47] (by decide +kernel) (by decide +kernel)
set_option maxRecDepth 20000 in
theorem gX3_fail_X1_note : GoodIn wsX3_fail (wsV RX3 210 RX1 yX1_note wsX1_note) := goodIn_app (goodIn_of _ (by decide +kernel)) ggX3_fail_X1_note
set_option maxRecDepth 20000 in
theorem ggX3_fail_X0_say : GoodIn wsX3_fail wsX0_say := goodIn_r _ [19, 20, 21, 22, 32, 33, 34, 35, 36, 37, 38, 39, 40, 41, 42] (by decide +kernel) (by decide +kernel)
set_option maxRecDepth 20000 in
theorem gX3_fail_X0_say : GoodIn wsX3_fail (wsV RX3 199 RX0 yX0_say wsX0_say) := goodIn_app (goodIn_of _ (by decide +kernel)) ggX3_fail_X0_say
theorem dX3_fail_0 : decode cX3_fail 0 = .ok (.aload_n 0, 1) := by decide +kernel
theorem dX3_fail_1 : decode cX3_fail 1 = .ok (.getfield 36, 3) := by decide +kernel
theorem dX3_fail_4 : decode cX3_fail 4 = .ok (.aload_n 0, 1) := by decide +kernel
theorem dX3_fail_5 : decode cX3_fail 5 = .ok (.getfield 23, 3) := by decide +kernel
theorem dX3_fail_8 : decode cX3_fail 8 = .ok (.iload_n 1, 1) := by decide +kernel
theorem dX3_fail_9 : decode cX3_fail 9 = .ok (.iload_n 2, 1) := by decide +kernel
theorem dX3_fail_10 : decode cX3_fail 10 = .ok (.invokevirtual 210, 3) := by decide +kernel
theorem dX3_fail_13 : decode cX3_fail 13 = .ok (.aload_n 0, 1) := by decide +kernel
theorem dX3_fail_14 : decode cX3_fail 14 = .ok (.getfield 11, 3) := by decide +kernel
theorem dX3_fail_17 : decode cX3_fail 17 = .ok (.iload_n 1, 1) := by decide +kernel
theorem dX3_fail_18 : decode cX3_fail 18 = .ok (.aaload, 1) := by decide +kernel
theorem dX3_fail_19 : decode cX3_fail 19 = .ok (.aload_n 0, 1) := by decide +kernel
theorem dX3_fail_20 : decode cX3_fail 20 = .ok (.getfield 11, 3) := by decide +kernel
theorem dX3_fail_23 : decode cX3_fail 23 = .ok (.iload_n 1, 1) := by decide +kernel
theorem dX3_fail_24 : decode cX3_fail 24 = .ok (.aaload, 1) := by decide +kernel
theorem dX3_fail_25 : decode cX3_fail 25 = .ok (.getfield 94, 3) := by decide +kernel
theorem dX3_fail_28 : decode cX3_fail 28 = .ok (.invokevirtual 199, 3) := by decide +kernel
theorem dX3_fail_31 : decode cX3_fail 31 = .ok (.return_, 1) := by decide +kernel
set_option maxRecDepth 20000 in
theorem ggX3_takeUp_X3_fail : GoodIn wsX3_takeUp wsX3_fail := goodIn_r _ [8, 9, 10, 1, 11, 12, 13, 14, 15, 16, 17, 18, 19, 20, 21, 22, 23, 24, 25, 26, 27, 28, 29, 36, 37, 38, 39, 40, 41, 42, 43, 44, 45, 46, 47, 48, 49, 50, 51, 52, 53, 54, 55, 56, 57, 58, 59, 60] (by decide +kernel) (by decide +kernel)
set_option maxRecDepth 20000 in
theorem gX3_takeUp_X3_fail : GoodIn wsX3_takeUp (wsV RX3 195 RX3 yX3_fail wsX3_fail) := goodIn_app (goodIn_of _ (by decide +kernel)) ggX3_takeUp_X3_fail
set_option maxRecDepth 20000 in
theorem ggX3_takeUp_X3_outputOf : GoodIn wsX3_takeUp wsX3_outputOf := goodIn_r _ [33, 34, 1, 35, 36, 37, 38, 39, 40, 41, 42, 43, 44, 45, 46, 47, 48, 49, 50, 51, 52, 53, 54, 55] (by decide +kernel) (by decide +kernel)
set_option maxRecDepth 20000 in
theorem gX3_takeUp_X3_outputOf : GoodIn wsX3_takeUp (wsV RX3 187 RX3 yX3_outputOf wsX3_outputOf) := goodIn_app (goodIn_of _ (by decide +kernel)) ggX3_takeUp_X3_outputOf
theorem dX3_takeUp_0 : decode cX3_takeUp 0 = .ok (.aload_n 0, 1) := by decide +kernel
theorem dX3_takeUp_1 : decode cX3_takeUp 1 = .ok (.getfield 11, 3) := by decide +kernel
theorem dX3_takeUp_4 : decode cX3_takeUp 4 = .ok (.iload_n 1, 1) := by decide +kernel
theorem dX3_takeUp_5 : decode cX3_takeUp 5 = .ok (.aaload, 1) := by decide +kernel
theorem dX3_takeUp_6 : decode cX3_takeUp 6 = .ok (.astore_n 2, 1) := by decide +kernel
theorem dX3_takeUp_7 : decode cX3_takeUp 7 = .ok (.aload_n 2, 1) := by decide +kernel
theorem dX3_takeUp_8 : decode cX3_takeUp 8 = .ok (.getfield 71, 3) := by decide +kernel
theorem dX3_takeUp_11 : decode cX3_takeUp 11 = .ok (.iconst 0, 1) := by decide +kernel
theorem dX3_takeUp_12 : decode cX3_takeUp 12 = .ok (.iaload, 1) := by decide +kernel
theorem dX3_takeUp_13 : decode cX3_takeUp 13 = .ok (.iconst (-1), 1) := by decide +kernel
theorem dX3_takeUp_14 : decode cX3_takeUp 14 = .ok (.if_icmp .ne 12, 3) := by decide +kernel
theorem dX3_takeUp_17 : decode cX3_takeUp 17 = .ok (.aload_n 0, 1) := by decide +kernel
theorem dX3_takeUp_18 : decode cX3_takeUp 18 = .ok (.iload_n 1, 1) := by decide +kernel
theorem dX3_takeUp_19 : decode cX3_takeUp 19 = .ok (.iconst 3, 1) := by decide +kernel
theorem dX3_takeUp_20 : decode cX3_takeUp 20 = .ok (.invokevirtual 195, 3) := by decide +kernel
theorem dX3_takeUp_23 : decode cX3_takeUp 23 = .ok (.goto 17, 3) := by decide +kernel
theorem dX3_takeUp_26 : decode cX3_takeUp 26 = .ok (.aload_n 2, 1) := by decide +kernel
theorem dX3_takeUp_27 : decode cX3_takeUp 27 = .ok (.aload_n 0, 1) := by decide +kernel
theorem dX3_takeUp_28 : decode cX3_takeUp 28 = .ok (.aload_n 2, 1) := by decide +kernel
theorem dX3_takeUp_29 : decode cX3_takeUp 29 = .ok (.getfield 71, 3) := by decide +kernel
theorem dX3_takeUp_32 : decode cX3_takeUp 32 = .ok (.iconst 0, 1) := by decide +kernel
theorem dX3_takeUp_33 : decode cX3_takeUp 33 = .ok (.iaload, 1) := by decide +kernel
theorem dX3_takeUp_34 : decode cX3_takeUp 34 = .ok (.invokevirtual 187, 3) := by decide +kernel
theorem dX3_takeUp_37 : decode cX3_takeUp 37 = .ok (.putfield 129, 3) := by decide +kernel
theorem dX3_takeUp_40 : decode cX3_takeUp 40 = .ok (.return_, 1) := by decide +kernel
theorem dX3_outputOf_0 : decode cX3_outputOf 0 = .ok (.iload_n 1, 1) := by decide +kernel
theorem dX3_outputOf_1 : decode cX3_outputOf 1 = .ok (.ifCond .lt 23, 3) := by decide +kernel
theorem dX3_outputOf_4 : decode cX3_outputOf 4 = .ok (.iload_n 1, 1) := by decide +kernel
theorem dX3_outputOf_5 : decode cX3_outputOf 5 = .ok (.aload_n 0, 1) := by decide +kernel
theorem dX3_outputOf_6 : decode cX3_outputOf 6 = .ok (.getfield 15, 3) := by decide +kernel
theorem dX3_outputOf_9 : decode cX3_outputOf 9 = .ok (.if_icmp .ge 15, 3) := by decide +kernel
theorem dX3_outputOf_12 : decode cX3_outputOf 12 = .ok (.aload_n 0, 1) := by decide +kernel
theorem dX3_outputOf_13 : decode cX3_outputOf 13 = .ok (.getfield 11, 3) := by decide +kernel
theorem dX3_outputOf_16 : decode cX3_outputOf 16 = .ok (.iload_n 1, 1) := by decide +kernel
theorem dX3_outputOf_17 : decode cX3_outputOf 17 = .ok (.aaload, 1) := by decide +kernel
theorem dX3_outputOf_18 : decode cX3_outputOf 18 = .ok (.getfield 124, 3) := by decide +kernel
theorem dX3_outputOf_21 : decode cX3_outputOf 21 = .ok (.goto 4, 3) := by decide +kernel
theorem dX3_outputOf_24 : decode cX3_outputOf 24 = .ok (.iconst 0, 1) := by decide +kernel
theorem dX3_outputOf_25 : decode cX3_outputOf 25 = .ok (.ireturn, 1) := by decide +kernel
set_option maxRecDepth 20000 in
theorem ggX3_failureOf_X0_lacksWire : GoodIn wsX3_failureOf wsX0_lacksWire := goodIn_r _ [7, 8, 9, 10, 11, 6, 12, 13, 21, 22, 23, 24, 25, 26, 27, 28, 29, 30, 31] (by decide +kernel) (by decide +kernel)
set_option maxRecDepth 20000 in
theorem gX3_failureOf_X0_lacksWire : GoodIn wsX3_failureOf (wsV RX3 214 RX0 yX0_lacksWire wsX0_lacksWire) := goodIn_app (goodIn_of _ (by decide +kernel)) ggX3_failureOf_X0_lacksWire
set_option maxRecDepth 20000 in
theorem ggX3_failureOf_X3_isPoint : GoodIn wsX3_failureOf wsX3_isPoint := goodIn_r _ [17] (by decide +kernel) (by decide +kernel)
set_option maxRecDepth 20000 in
theorem gX3_failureOf_X3_isPoint : GoodIn wsX3_failureOf (va_wsS RX3 97 yX3_isPoint wsX3_isPoint) := goodIn_app (goodIn_of _ (by decide +kernel)) ggX3_failureOf_X3_isPoint
set_option maxRecDepth 20000 in
theorem ggX3_failureOf_X3_isPlaceInRow : GoodIn wsX3_failureOf wsX3_isPlaceInRow := goodIn_r _ [20] (by decide +kernel) (by decide +kernel)
set_option maxRecDepth 20000 in
theorem gX3_failureOf_X3_isPlaceInRow : GoodIn wsX3_failureOf (va_wsS RX3 80 yX3_isPlaceInRow wsX3_isPlaceInRow) := goodIn_app (goodIn_of _ (by decide +kernel)) ggX3_failureOf_X3_isPlaceInRow
theorem dX3_failureOf_0 : decode cX3_failureOf 0 = .ok (.aload_n 0, 1) := by decide +kernel
theorem dX3_failureOf_1 : decode cX3_failureOf 1 = .ok (.getfield 86, 3) := by decide +kernel
theorem dX3_failureOf_4 : decode cX3_failureOf 4 = .ok (.bipush 16, 2) := by decide +kernel
theorem dX3_failureOf_6 : decode cX3_failureOf 6 = .ok (.if_icmp .eq 12, 3) := by decide +kernel
theorem dX3_failureOf_9 : decode cX3_failureOf 9 = .ok (.aload_n 0, 1) := by decide +kernel
theorem dX3_failureOf_10 : decode cX3_failureOf 10 = .ok (.invokevirtual 214, 3) := by decide +kernel
theorem dX3_failureOf_13 : decode cX3_failureOf 13 = .ok (.ifCond .eq 5, 3) := by decide +kernel
theorem dX3_failureOf_16 : decode cX3_failureOf 16 = .ok (.iconst 3, 1) := by decide +kernel
theorem dX3_failureOf_17 : decode cX3_failureOf 17 = .ok (.ireturn, 1) := by decide +kernel
theorem dX3_failureOf_18 : decode cX3_failureOf 18 = .ok (.aload_n 0, 1) := by decide +kernel
theorem dX3_failureOf_19 : decode cX3_failureOf 19 = .ok (.getfield 86, 3) := by decide +kernel
theorem dX3_failureOf_22 : decode cX3_failureOf 22 = .ok (.lookupswitch 81 #[(0, 42), (5, 71), (6, 71), (15, 58)], 42) := by decide +kernel
theorem dX3_failureOf_64 : decode cX3_failureOf 64 = .ok (.aload_n 0, 1) := by decide +kernel
theorem dX3_failureOf_65 : decode cX3_failureOf 65 = .ok (.getfield 74, 3) := by decide +kernel
theorem dX3_failureOf_68 : decode cX3_failureOf 68 = .ok (.invokestatic 97, 3) := by decide +kernel
theorem dX3_failureOf_71 : decode cX3_failureOf 71 = .ok (.ifCond .eq 7, 3) := by decide +kernel
theorem dX3_failureOf_74 : decode cX3_failureOf 74 = .ok (.iconst 0, 1) := by decide +kernel
theorem dX3_failureOf_75 : decode cX3_failureOf 75 = .ok (.goto 4, 3) := by decide +kernel
theorem dX3_failureOf_78 : decode cX3_failureOf 78 = .ok (.iconst 2, 1) := by decide +kernel
theorem dX3_failureOf_79 : decode cX3_failureOf 79 = .ok (.ireturn, 1) := by decide +kernel
theorem dX3_failureOf_80 : decode cX3_failureOf 80 = .ok (.iload_n 1, 1) := by decide +kernel
theorem dX3_failureOf_81 : decode cX3_failureOf 81 = .ok (.invokestatic 80, 3) := by decide +kernel
theorem dX3_failureOf_84 : decode cX3_failureOf 84 = .ok (.ifCond .eq 7, 3) := by decide +kernel
theorem dX3_failureOf_87 : decode cX3_failureOf 87 = .ok (.iconst 0, 1) := by decide +kernel
theorem dX3_failureOf_88 : decode cX3_failureOf 88 = .ok (.goto 4, 3) := by decide +kernel
theorem dX3_failureOf_91 : decode cX3_failureOf 91 = .ok (.iconst 2, 1) := by decide +kernel
theorem dX3_failureOf_92 : decode cX3_failureOf 92 = .ok (.ireturn, 1) := by decide +kernel
theorem dX3_failureOf_93 : decode cX3_failureOf 93 = .ok (.iload_n 2, 1) := by decide +kernel
theorem dX3_failureOf_94 : decode cX3_failureOf 94 = .ok (.ifCond .ne 7, 3) := by decide +kernel
theorem dX3_failureOf_97 : decode cX3_failureOf 97 = .ok (.iconst 1, 1) := by decide +kernel
theorem dX3_failureOf_98 : decode cX3_failureOf 98 = .ok (.goto 4, 3) := by decide +kernel
theorem dX3_failureOf_101 : decode cX3_failureOf 101 = .ok (.iconst 0, 1) := by decide +kernel
theorem dX3_failureOf_102 : decode cX3_failureOf 102 = .ok (.ireturn, 1) := by decide +kernel
theorem dX3_failureOf_103 : decode cX3_failureOf 103 = .ok (.iconst 0, 1) := by decide +kernel
theorem dX3_failureOf_104 : decode cX3_failureOf 104 = .ok (.ireturn, 1) := by decide +kernel
set_option maxRecDepth 20000 in
theorem ggX3_combined_X3_quotient : GoodIn wsX3_combined wsX3_quotient := goodIn_r _ [11] (by decide +kernel) (by decide +kernel)
set_option maxRecDepth 20000 in
theorem gX3_combined_X3_quotient : GoodIn wsX3_combined (va_wsS RX3 218 yX3_quotient wsX3_quotient) := goodIn_app (goodIn_of _ (by decide +kernel)) ggX3_combined_X3_quotient
set_option maxRecDepth 20000 in
theorem ggX3_combined_X3_asNumber : GoodIn wsX3_combined wsX3_asNumber := goodIn_r _ [14] (by decide +kernel) (by decide +kernel)
set_option maxRecDepth 20000 in
theorem gX3_combined_X3_asNumber : GoodIn wsX3_combined (va_wsS RX3 229 yX3_asNumber wsX3_asNumber) := goodIn_app (goodIn_of _ (by decide +kernel)) ggX3_combined_X3_asNumber
theorem dX3_combined_0 : decode cX3_combined 0 = .ok (.iload_n 0, 1) := by decide +kernel
theorem dX3_combined_1 : decode cX3_combined 1 = .ok (.tableswitch 192 2 14 #[67, 71, 75, 79, 85, 95, 101, 107, 121, 135, 152, 169, 182], 67) := by decide +kernel
theorem dX3_combined_68 : decode cX3_combined 68 = .ok (.iload_n 1, 1) := by decide +kernel
theorem dX3_combined_69 : decode cX3_combined 69 = .ok (.iload_n 2, 1) := by decide +kernel
theorem dX3_combined_70 : decode cX3_combined 70 = .ok (.iadd, 1) := by decide +kernel
theorem dX3_combined_71 : decode cX3_combined 71 = .ok (.ireturn, 1) := by decide +kernel
theorem dX3_combined_72 : decode cX3_combined 72 = .ok (.iload_n 1, 1) := by decide +kernel
theorem dX3_combined_73 : decode cX3_combined 73 = .ok (.iload_n 2, 1) := by decide +kernel
theorem dX3_combined_74 : decode cX3_combined 74 = .ok (.isub, 1) := by decide +kernel
theorem dX3_combined_75 : decode cX3_combined 75 = .ok (.ireturn, 1) := by decide +kernel
theorem dX3_combined_76 : decode cX3_combined 76 = .ok (.iload_n 1, 1) := by decide +kernel
theorem dX3_combined_77 : decode cX3_combined 77 = .ok (.iload_n 2, 1) := by decide +kernel
theorem dX3_combined_78 : decode cX3_combined 78 = .ok (.imul, 1) := by decide +kernel
theorem dX3_combined_79 : decode cX3_combined 79 = .ok (.ireturn, 1) := by decide +kernel
theorem dX3_combined_80 : decode cX3_combined 80 = .ok (.iload_n 1, 1) := by decide +kernel
theorem dX3_combined_81 : decode cX3_combined 81 = .ok (.iload_n 2, 1) := by decide +kernel
theorem dX3_combined_82 : decode cX3_combined 82 = .ok (.invokestatic 218, 3) := by decide +kernel
theorem dX3_combined_85 : decode cX3_combined 85 = .ok (.ireturn, 1) := by decide +kernel
theorem dX3_combined_86 : decode cX3_combined 86 = .ok (.iload_n 1, 1) := by decide +kernel
theorem dX3_combined_87 : decode cX3_combined 87 = .ok (.iload_n 2, 1) := by decide +kernel
theorem dX3_combined_88 : decode cX3_combined 88 = .ok (.iload_n 1, 1) := by decide +kernel
theorem dX3_combined_89 : decode cX3_combined 89 = .ok (.iload_n 2, 1) := by decide +kernel
theorem dX3_combined_90 : decode cX3_combined 90 = .ok (.invokestatic 218, 3) := by decide +kernel
theorem dX3_combined_93 : decode cX3_combined 93 = .ok (.imul, 1) := by decide +kernel
theorem dX3_combined_94 : decode cX3_combined 94 = .ok (.isub, 1) := by decide +kernel
theorem dX3_combined_95 : decode cX3_combined 95 = .ok (.ireturn, 1) := by decide +kernel
theorem dX3_combined_96 : decode cX3_combined 96 = .ok (.iload_n 1, 1) := by decide +kernel
theorem dX3_combined_97 : decode cX3_combined 97 = .ok (.iload_n 2, 1) := by decide +kernel
theorem dX3_combined_98 : decode cX3_combined 98 = .ok (.invokestatic 221, 3) := by decide +kernel
theorem dX3_combined_101 : decode cX3_combined 101 = .ok (.ireturn, 1) := by decide +kernel
theorem dX3_combined_102 : decode cX3_combined 102 = .ok (.iload_n 1, 1) := by decide +kernel
theorem dX3_combined_103 : decode cX3_combined 103 = .ok (.iload_n 2, 1) := by decide +kernel
theorem dX3_combined_104 : decode cX3_combined 104 = .ok (.invokestatic 226, 3) := by decide +kernel
theorem dX3_combined_107 : decode cX3_combined 107 = .ok (.ireturn, 1) := by decide +kernel
theorem dX3_combined_108 : decode cX3_combined 108 = .ok (.iload_n 1, 1) := by decide +kernel
theorem dX3_combined_109 : decode cX3_combined 109 = .ok (.iload_n 2, 1) := by decide +kernel
theorem dX3_combined_110 : decode cX3_combined 110 = .ok (.if_icmp .ge 7, 3) := by decide +kernel
theorem dX3_combined_113 : decode cX3_combined 113 = .ok (.iconst 1, 1) := by decide +kernel
theorem dX3_combined_114 : decode cX3_combined 114 = .ok (.goto 4, 3) := by decide +kernel
theorem dX3_combined_117 : decode cX3_combined 117 = .ok (.iconst 0, 1) := by decide +kernel
theorem dX3_combined_118 : decode cX3_combined 118 = .ok (.invokestatic 229, 3) := by decide +kernel
theorem dX3_combined_121 : decode cX3_combined 121 = .ok (.ireturn, 1) := by decide +kernel
theorem dX3_combined_122 : decode cX3_combined 122 = .ok (.iload_n 1, 1) := by decide +kernel
theorem dX3_combined_123 : decode cX3_combined 123 = .ok (.iload_n 2, 1) := by decide +kernel
theorem dX3_combined_124 : decode cX3_combined 124 = .ok (.if_icmp .ne 7, 3) := by decide +kernel
theorem dX3_combined_127 : decode cX3_combined 127 = .ok (.iconst 1, 1) := by decide +kernel
theorem dX3_combined_128 : decode cX3_combined 128 = .ok (.goto 4, 3) := by decide +kernel
theorem dX3_combined_131 : decode cX3_combined 131 = .ok (.iconst 0, 1) := by decide +kernel
theorem dX3_combined_132 : decode cX3_combined 132 = .ok (.invokestatic 229, 3) := by decide +kernel
theorem dX3_combined_135 : decode cX3_combined 135 = .ok (.ireturn, 1) := by decide +kernel
theorem dX3_combined_136 : decode cX3_combined 136 = .ok (.iload_n 1, 1) := by decide +kernel
theorem dX3_combined_137 : decode cX3_combined 137 = .ok (.ifCond .eq 11, 3) := by decide +kernel
theorem dX3_combined_140 : decode cX3_combined 140 = .ok (.iload_n 2, 1) := by decide +kernel
theorem dX3_combined_141 : decode cX3_combined 141 = .ok (.ifCond .eq 7, 3) := by decide +kernel
theorem dX3_combined_144 : decode cX3_combined 144 = .ok (.iconst 1, 1) := by decide +kernel
theorem dX3_combined_145 : decode cX3_combined 145 = .ok (.goto 4, 3) := by decide +kernel
theorem dX3_combined_148 : decode cX3_combined 148 = .ok (.iconst 0, 1) := by decide +kernel
theorem dX3_combined_149 : decode cX3_combined 149 = .ok (.invokestatic 229, 3) := by decide +kernel
theorem dX3_combined_152 : decode cX3_combined 152 = .ok (.ireturn, 1) := by decide +kernel
theorem dX3_combined_153 : decode cX3_combined 153 = .ok (.iload_n 1, 1) := by decide +kernel
theorem dX3_combined_154 : decode cX3_combined 154 = .ok (.ifCond .ne 7, 3) := by decide +kernel
theorem dX3_combined_157 : decode cX3_combined 157 = .ok (.iload_n 2, 1) := by decide +kernel
theorem dX3_combined_158 : decode cX3_combined 158 = .ok (.ifCond .eq 7, 3) := by decide +kernel
theorem dX3_combined_161 : decode cX3_combined 161 = .ok (.iconst 1, 1) := by decide +kernel
theorem dX3_combined_162 : decode cX3_combined 162 = .ok (.goto 4, 3) := by decide +kernel
theorem dX3_combined_165 : decode cX3_combined 165 = .ok (.iconst 0, 1) := by decide +kernel
theorem dX3_combined_166 : decode cX3_combined 166 = .ok (.invokestatic 229, 3) := by decide +kernel
theorem dX3_combined_169 : decode cX3_combined 169 = .ok (.ireturn, 1) := by decide +kernel
theorem dX3_combined_170 : decode cX3_combined 170 = .ok (.iload_n 1, 1) := by decide +kernel
theorem dX3_combined_171 : decode cX3_combined 171 = .ok (.ifCond .ne 7, 3) := by decide +kernel
theorem dX3_combined_174 : decode cX3_combined 174 = .ok (.iconst 1, 1) := by decide +kernel
theorem dX3_combined_175 : decode cX3_combined 175 = .ok (.goto 4, 3) := by decide +kernel
theorem dX3_combined_178 : decode cX3_combined 178 = .ok (.iconst 0, 1) := by decide +kernel
theorem dX3_combined_179 : decode cX3_combined 179 = .ok (.invokestatic 229, 3) := by decide +kernel
theorem dX3_combined_182 : decode cX3_combined 182 = .ok (.ireturn, 1) := by decide +kernel
theorem dX3_combined_183 : decode cX3_combined 183 = .ok (.iload_n 1, 1) := by decide +kernel
theorem dX3_combined_184 : decode cX3_combined 184 = .ok (.ifCond .eq 7, 3) := by decide +kernel
theorem dX3_combined_187 : decode cX3_combined 187 = .ok (.iload_n 2, 1) := by decide +kernel
theorem dX3_combined_188 : decode cX3_combined 188 = .ok (.goto 4, 3) := by decide +kernel
theorem dX3_combined_191 : decode cX3_combined 191 = .ok (.iload_n 3, 1) := by decide +kernel
theorem dX3_combined_192 : decode cX3_combined 192 = .ok (.ireturn, 1) := by decide +kernel
theorem dX3_combined_193 : decode cX3_combined 193 = .ok (.iconst 0, 1) := by decide +kernel
theorem dX3_combined_194 : decode cX3_combined 194 = .ok (.ireturn, 1) := by decide +kernel
theorem dX3_quotient_0 : decode cX3_quotient 0 = .ok (.iload_n 1, 1) := by decide +kernel
theorem dX3_quotient_1 : decode cX3_quotient 1 = .ok (.ifCond .ne 7, 3) := by decide +kernel
theorem dX3_quotient_4 : decode cX3_quotient 4 = .ok (.iconst 0, 1) := by decide +kernel
theorem dX3_quotient_5 : decode cX3_quotient 5 = .ok (.goto 6, 3) := by decide +kernel
theorem dX3_quotient_8 : decode cX3_quotient 8 = .ok (.iload_n 0, 1) := by decide +kernel
theorem dX3_quotient_9 : decode cX3_quotient 9 = .ok (.iload_n 1, 1) := by decide +kernel
theorem dX3_quotient_10 : decode cX3_quotient 10 = .ok (.idiv, 1) := by decide +kernel
theorem dX3_quotient_11 : decode cX3_quotient 11 = .ok (.ireturn, 1) := by decide +kernel
theorem dX3_asNumber_0 : decode cX3_asNumber 0 = .ok (.iload_n 0, 1) := by decide +kernel
theorem dX3_asNumber_1 : decode cX3_asNumber 1 = .ok (.ifCond .eq 7, 3) := by decide +kernel
theorem dX3_asNumber_4 : decode cX3_asNumber 4 = .ok (.iconst 1, 1) := by decide +kernel
theorem dX3_asNumber_5 : decode cX3_asNumber 5 = .ok (.goto 4, 3) := by decide +kernel
theorem dX3_asNumber_8 : decode cX3_asNumber 8 = .ok (.iconst 0, 1) := by decide +kernel
theorem dX3_asNumber_9 : decode cX3_asNumber 9 = .ok (.ireturn, 1) := by decide +kernel
theorem dX4_init_0 : decode cX4_init 0 = .ok (.aload_n 0, 1) := by decide +kernel
theorem dX4_init_1 : decode cX4_init 1 = .ok (.invokespecial 1, 3) := by decide +kernel
theorem dX4_init_4 : decode cX4_init 4 = .ok (.aload_n 0, 1) := by decide +kernel
theorem dX4_init_5 : decode cX4_init 5 = .ok (.bipush 40, 2) := by decide +kernel
theorem dX4_init_7 : decode cX4_init 7 = .ok (.newarray .int, 2) := by decide +kernel
theorem dX4_init_9 : decode cX4_init 9 = .ok (.putfield 7, 3) := by decide +kernel
theorem dX4_init_12 : decode cX4_init 12 = .ok (.aload_n 0, 1) := by decide +kernel
theorem dX4_init_13 : decode cX4_init 13 = .ok (.bipush 40, 2) := by decide +kernel
theorem dX4_init_15 : decode cX4_init 15 = .ok (.newarray .int, 2) := by decide +kernel
theorem dX4_init_17 : decode cX4_init 17 = .ok (.putfield 13, 3) := by decide +kernel
theorem dX4_init_20 : decode cX4_init 20 = .ok (.aload_n 0, 1) := by decide +kernel
theorem dX4_init_21 : decode cX4_init 21 = .ok (.bipush 40, 2) := by decide +kernel
theorem dX4_init_23 : decode cX4_init 23 = .ok (.newarray .int, 2) := by decide +kernel
theorem dX4_init_25 : decode cX4_init 25 = .ok (.putfield 16, 3) := by decide +kernel
theorem dX4_init_28 : decode cX4_init 28 = .ok (.aload_n 0, 1) := by decide +kernel
theorem dX4_init_29 : decode cX4_init 29 = .ok (.bipush 40, 2) := by decide +kernel
theorem dX4_init_31 : decode cX4_init 31 = .ok (.newarray .int, 2) := by decide +kernel
theorem dX4_init_33 : decode cX4_init 33 = .ok (.putfield 19, 3) := by decide +kernel
theorem dX4_init_36 : decode cX4_init 36 = .ok (.aload_n 0, 1) := by decide +kernel
theorem dX4_init_37 : decode cX4_init 37 = .ok (.bipush 120, 2) := by decide +kernel
theorem dX4_init_39 : decode cX4_init 39 = .ok (.newarray .int, 2) := by decide +kernel
theorem dX4_init_41 : decode cX4_init 41 = .ok (.putfield 22, 3) := by decide +kernel
theorem dX4_init_44 : decode cX4_init 44 = .ok (.aload_n 0, 1) := by decide +kernel
theorem dX4_init_45 : decode cX4_init 45 = .ok (.bipush 40, 2) := by decide +kernel
theorem dX4_init_47 : decode cX4_init 47 = .ok (.newarray .int, 2) := by decide +kernel
theorem dX4_init_49 : decode cX4_init 49 = .ok (.putfield 25, 3) := by decide +kernel
theorem dX4_init_52 : decode cX4_init 52 = .ok (.aload_n 0, 1) := by decide +kernel
theorem dX4_init_53 : decode cX4_init 53 = .ok (.bipush 40, 2) := by decide +kernel
theorem dX4_init_55 : decode cX4_init 55 = .ok (.newarray .int, 2) := by decide +kernel
theorem dX4_init_57 : decode cX4_init 57 = .ok (.putfield 28, 3) := by decide +kernel
theorem dX4_init_60 : decode cX4_init 60 = .ok (.aload_n 0, 1) := by decide +kernel
theorem dX4_init_61 : decode cX4_init 61 = .ok (.bipush 40, 2) := by decide +kernel
theorem dX4_init_63 : decode cX4_init 63 = .ok (.newarray .int, 2) := by decide +kernel
theorem dX4_init_65 : decode cX4_init 65 = .ok (.putfield 31, 3) := by decide +kernel
theorem dX4_init_68 : decode cX4_init 68 = .ok (.aload_n 0, 1) := by decide +kernel
theorem dX4_init_69 : decode cX4_init 69 = .ok (.sipush 320, 3) := by decide +kernel
theorem dX4_init_72 : decode cX4_init 72 = .ok (.newarray .int, 2) := by decide +kernel
theorem dX4_init_74 : decode cX4_init 74 = .ok (.putfield 34, 3) := by decide +kernel
theorem dX4_init_77 : decode cX4_init 77 = .ok (.aload_n 0, 1) := by decide +kernel
theorem dX4_init_78 : decode cX4_init 78 = .ok (.bipush 40, 2) := by decide +kernel
theorem dX4_init_80 : decode cX4_init 80 = .ok (.newarray .boolean, 2) := by decide +kernel
theorem dX4_init_82 : decode cX4_init 82 = .ok (.putfield 37, 3) := by decide +kernel
theorem dX4_init_85 : decode cX4_init 85 = .ok (.aload_n 0, 1) := by decide +kernel
theorem dX4_init_86 : decode cX4_init 86 = .ok (.bipush 40, 2) := by decide +kernel
theorem dX4_init_88 : decode cX4_init 88 = .ok (.newarray .int, 2) := by decide +kernel
theorem dX4_init_90 : decode cX4_init 90 = .ok (.putfield 41, 3) := by decide +kernel
theorem dX4_init_93 : decode cX4_init 93 = .ok (.aload_n 0, 1) := by decide +kernel
theorem dX4_init_94 : decode cX4_init 94 = .ok (.bipush 10, 2) := by decide +kernel
theorem dX4_init_96 : decode cX4_init 96 = .ok (.newarray .int, 2) := by decide +kernel
theorem dX4_init_98 : decode cX4_init 98 = .ok (.putfield 44, 3) := by decide +kernel
theorem dX4_init_101 : decode cX4_init 101 = .ok (.aload_n 0, 1) := by decide +kernel
theorem dX4_init_102 : decode cX4_init 102 = .ok (.bipush 40, 2) := by decide +kernel
theorem dX4_init_104 : decode cX4_init 104 = .ok (.newarray .int, 2) := by decide +kernel
theorem dX4_init_106 : decode cX4_init 106 = .ok (.putfield 47, 3) := by decide +kernel
theorem dX4_init_109 : decode cX4_init 109 = .ok (.aload_n 0, 1) := by decide +kernel
theorem dX4_init_110 : decode cX4_init 110 = .ok (.bipush 40, 2) := by decide +kernel
theorem dX4_init_112 : decode cX4_init 112 = .ok (.newarray .boolean, 2) := by decide +kernel
theorem dX4_init_114 : decode cX4_init 114 = .ok (.putfield 50, 3) := by decide +kernel
theorem dX4_init_117 : decode cX4_init 117 = .ok (.aload_n 0, 1) := by decide +kernel
theorem dX4_init_118 : decode cX4_init 118 = .ok (.iconst 4, 1) := by decide +kernel
theorem dX4_init_119 : decode cX4_init 119 = .ok (.newarray .int, 2) := by decide +kernel
theorem dX4_init_121 : decode cX4_init 121 = .ok (.putfield 53, 3) := by decide +kernel
theorem dX4_init_124 : decode cX4_init 124 = .ok (.aload_n 0, 1) := by decide +kernel
theorem dX4_init_125 : decode cX4_init 125 = .ok (.bipush 96, 2) := by decide +kernel
theorem dX4_init_127 : decode cX4_init 127 = .ok (.newarray .int, 2) := by decide +kernel
theorem dX4_init_129 : decode cX4_init 129 = .ok (.putfield 56, 3) := by decide +kernel
theorem dX4_init_132 : decode cX4_init 132 = .ok (.aload_n 0, 1) := by decide +kernel
theorem dX4_init_133 : decode cX4_init 133 = .ok (.iconst 5, 1) := by decide +kernel
theorem dX4_init_134 : decode cX4_init 134 = .ok (.newarray .int, 2) := by decide +kernel
theorem dX4_init_136 : decode cX4_init 136 = .ok (.putfield 59, 3) := by decide +kernel
theorem dX4_init_139 : decode cX4_init 139 = .ok (.aload_n 0, 1) := by decide +kernel
theorem dX4_init_140 : decode cX4_init 140 = .ok (.sipush 800, 3) := by decide +kernel
theorem dX4_init_143 : decode cX4_init 143 = .ok (.newarray .int, 2) := by decide +kernel
theorem dX4_init_145 : decode cX4_init 145 = .ok (.putfield 62, 3) := by decide +kernel
theorem dX4_init_148 : decode cX4_init 148 = .ok (.return_, 1) := by decide +kernel
theorem dX4_thrown_0 : decode cX4_thrown 0 = .ok (.aload_n 0, 1) := by decide +kernel
theorem dX4_thrown_1 : decode cX4_thrown 1 = .ok (.getfield 65, 3) := by decide +kernel
theorem dX4_thrown_4 : decode cX4_thrown 4 = .ok (.ireturn, 1) := by decide +kernel
theorem dX4_in_0 : decode cX4_in 0 = .ok (.iload_n 0, 1) := by decide +kernel
theorem dX4_in_1 : decode cX4_in 1 = .ok (.iload_n 1, 1) := by decide +kernel
theorem dX4_in_2 : decode cX4_in 2 = .ok (.if_icmp .lt 12, 3) := by decide +kernel
theorem dX4_in_5 : decode cX4_in 5 = .ok (.iload_n 0, 1) := by decide +kernel
theorem dX4_in_6 : decode cX4_in 6 = .ok (.iload_n 2, 1) := by decide +kernel
theorem dX4_in_7 : decode cX4_in 7 = .ok (.if_icmp .gt 7, 3) := by decide +kernel
theorem dX4_in_10 : decode cX4_in 10 = .ok (.iconst 1, 1) := by decide +kernel
theorem dX4_in_11 : decode cX4_in 11 = .ok (.goto 4, 3) := by decide +kernel
theorem dX4_in_14 : decode cX4_in 14 = .ok (.iconst 0, 1) := by decide +kernel
theorem dX4_in_15 : decode cX4_in 15 = .ok (.ireturn, 1) := by decide +kernel
set_option maxRecDepth 20000 in
theorem ggX4_isBlock_X4_in : GoodIn wsX4_isBlock wsX4_in := goodIn_r _ [5] (by decide +kernel) (by decide +kernel)
set_option maxRecDepth 20000 in
theorem gX4_isBlock_X4_in : GoodIn wsX4_isBlock (va_wsS RX4 72 yX4_in wsX4_in) := goodIn_app (goodIn_of _ (by decide +kernel)) ggX4_isBlock_X4_in
theorem dX4_isBlock_0 : decode cX4_isBlock 0 = .ok (.iload_n 1, 1) := by decide +kernel
theorem dX4_isBlock_1 : decode cX4_isBlock 1 = .ok (.iconst 0, 1) := by decide +kernel
theorem dX4_isBlock_2 : decode cX4_isBlock 2 = .ok (.aload_n 0, 1) := by decide +kernel
theorem dX4_isBlock_3 : decode cX4_isBlock 3 = .ok (.getfield 69, 3) := by decide +kernel
theorem dX4_isBlock_6 : decode cX4_isBlock 6 = .ok (.iconst 1, 1) := by decide +kernel
theorem dX4_isBlock_7 : decode cX4_isBlock 7 = .ok (.isub, 1) := by decide +kernel
theorem dX4_isBlock_8 : decode cX4_isBlock 8 = .ok (.invokestatic 72, 3) := by decide +kernel
theorem dX4_isBlock_11 : decode cX4_isBlock 11 = .ok (.ireturn, 1) := by decide +kernel
set_option maxRecDepth 20000 in
theorem ggX4_block_X4_in : GoodIn wsX4_block wsX4_in := goodIn_r _ [8] (by decide +kernel) (by decide +kernel)
set_option maxRecDepth 20000 in
theorem gX4_block_X4_in : GoodIn wsX4_block (va_wsS RX4 72 yX4_in wsX4_in) := goodIn_app (goodIn_of _ (by decide +kernel)) ggX4_block_X4_in
theorem dX4_block_0 : decode cX4_block 0 = .ok (.aload_n 0, 1) := by decide +kernel
theorem dX4_block_1 : decode cX4_block 1 = .ok (.iload_n 1, 1) := by decide +kernel
theorem dX4_block_2 : decode cX4_block 2 = .ok (.iconst 0, 1) := by decide +kernel
theorem dX4_block_3 : decode cX4_block 3 = .ok (.bipush 25, 2) := by decide +kernel
theorem dX4_block_5 : decode cX4_block 5 = .ok (.invokestatic 72, 3) := by decide +kernel
theorem dX4_block_8 : decode cX4_block 8 = .ok (.ifCond .ne 7, 3) := by decide +kernel
theorem dX4_block_11 : decode cX4_block 11 = .ok (.iconst 1, 1) := by decide +kernel
theorem dX4_block_12 : decode cX4_block 12 = .ok (.goto 17, 3) := by decide +kernel
theorem dX4_block_15 : decode cX4_block 15 = .ok (.aload_n 0, 1) := by decide +kernel
theorem dX4_block_16 : decode cX4_block 16 = .ok (.getfield 69, 3) := by decide +kernel
theorem dX4_block_19 : decode cX4_block 19 = .ok (.bipush 40, 2) := by decide +kernel
theorem dX4_block_21 : decode cX4_block 21 = .ok (.if_icmp .ne 7, 3) := by decide +kernel
theorem dX4_block_24 : decode cX4_block 24 = .ok (.iconst 2, 1) := by decide +kernel
theorem dX4_block_25 : decode cX4_block 25 = .ok (.goto 4, 3) := by decide +kernel
theorem dX4_block_28 : decode cX4_block 28 = .ok (.iconst 0, 1) := by decide +kernel
theorem dX4_block_29 : decode cX4_block 29 = .ok (.putfield 65, 3) := by decide +kernel
theorem dX4_block_32 : decode cX4_block 32 = .ok (.aload_n 0, 1) := by decide +kernel
theorem dX4_block_33 : decode cX4_block 33 = .ok (.getfield 65, 3) := by decide +kernel
theorem dX4_block_36 : decode cX4_block 36 = .ok (.ifCond .le 5, 3) := by decide +kernel
theorem dX4_block_39 : decode cX4_block 39 = .ok (.iconst 0, 1) := by decide +kernel
theorem dX4_block_40 : decode cX4_block 40 = .ok (.ireturn, 1) := by decide +kernel
theorem dX4_block_41 : decode cX4_block 41 = .ok (.aload_n 0, 1) := by decide +kernel
theorem dX4_block_42 : decode cX4_block 42 = .ok (.getfield 7, 3) := by decide +kernel
theorem dX4_block_45 : decode cX4_block 45 = .ok (.aload_n 0, 1) := by decide +kernel
theorem dX4_block_46 : decode cX4_block 46 = .ok (.getfield 69, 3) := by decide +kernel
theorem dX4_block_49 : decode cX4_block 49 = .ok (.iload_n 1, 1) := by decide +kernel
theorem dX4_block_50 : decode cX4_block 50 = .ok (.iastore, 1) := by decide +kernel
theorem dX4_block_51 : decode cX4_block 51 = .ok (.iconst 0, 1) := by decide +kernel
theorem dX4_block_52 : decode cX4_block 52 = .ok (.istore_n 2, 1) := by decide +kernel
theorem dX4_block_53 : decode cX4_block 53 = .ok (.iload_n 2, 1) := by decide +kernel
theorem dX4_block_54 : decode cX4_block 54 = .ok (.iconst 3, 1) := by decide +kernel
theorem dX4_block_55 : decode cX4_block 55 = .ok (.if_icmp .ge 23, 3) := by decide +kernel
theorem dX4_block_58 : decode cX4_block 58 = .ok (.aload_n 0, 1) := by decide +kernel
theorem dX4_block_59 : decode cX4_block 59 = .ok (.getfield 22, 3) := by decide +kernel
theorem dX4_block_62 : decode cX4_block 62 = .ok (.iconst 3, 1) := by decide +kernel
theorem dX4_block_63 : decode cX4_block 63 = .ok (.aload_n 0, 1) := by decide +kernel
theorem dX4_block_64 : decode cX4_block 64 = .ok (.getfield 69, 3) := by decide +kernel
theorem dX4_block_67 : decode cX4_block 67 = .ok (.imul, 1) := by decide +kernel
theorem dX4_block_68 : decode cX4_block 68 = .ok (.iload_n 2, 1) := by decide +kernel
theorem dX4_block_69 : decode cX4_block 69 = .ok (.iadd, 1) := by decide +kernel
theorem dX4_block_70 : decode cX4_block 70 = .ok (.iconst (-1), 1) := by decide +kernel
theorem dX4_block_71 : decode cX4_block 71 = .ok (.iastore, 1) := by decide +kernel
theorem dX4_block_72 : decode cX4_block 72 = .ok (.iinc 2 1, 3) := by decide +kernel
theorem dX4_block_75 : decode cX4_block 75 = .ok (.goto (-22), 3) := by decide +kernel
theorem dX4_block_78 : decode cX4_block 78 = .ok (.aload_n 0, 1) := by decide +kernel
theorem dX4_block_79 : decode cX4_block 79 = .ok (.dup, 1) := by decide +kernel
theorem dX4_block_80 : decode cX4_block 80 = .ok (.getfield 69, 3) := by decide +kernel
theorem dX4_block_83 : decode cX4_block 83 = .ok (.iconst 1, 1) := by decide +kernel
theorem dX4_block_84 : decode cX4_block 84 = .ok (.iadd, 1) := by decide +kernel
theorem dX4_block_85 : decode cX4_block 85 = .ok (.putfield 69, 3) := by decide +kernel
theorem dX4_block_88 : decode cX4_block 88 = .ok (.aload_n 0, 1) := by decide +kernel
theorem dX4_block_89 : decode cX4_block 89 = .ok (.getfield 69, 3) := by decide +kernel
theorem dX4_block_92 : decode cX4_block 92 = .ok (.iconst 1, 1) := by decide +kernel
theorem dX4_block_93 : decode cX4_block 93 = .ok (.isub, 1) := by decide +kernel
theorem dX4_block_94 : decode cX4_block 94 = .ok (.ireturn, 1) := by decide +kernel
set_option maxRecDepth 20000 in
theorem ggX4_wire_X4_isBlock : GoodIn wsX4_wire wsX4_isBlock := goodIn_r _ [7, 8, 9, 10, 6, 11, 12, 13, 14, 15, 16, 17, 18, 19, 20, 21, 22, 23, 24, 25, 26, 27, 28, 29, 30, 31, 32, 33, 34, 35, 36] (by decide +kernel) (by decide +kernel)
set_option maxRecDepth 20000 in
theorem gX4_wire_X4_isBlock : GoodIn wsX4_wire (wsV RX4 76 RX4 yX4_isBlock wsX4_isBlock) := goodIn_app (goodIn_of _ (by decide +kernel)) ggX4_wire_X4_isBlock
set_option maxRecDepth 20000 in
theorem ggX4_wire_X4_in : GoodIn wsX4_wire wsX4_in := goodIn_r _ [11] (by decide +kernel) (by decide +kernel)
set_option maxRecDepth 20000 in
theorem gX4_wire_X4_in : GoodIn wsX4_wire (va_wsS RX4 72 yX4_in wsX4_in) := goodIn_app (goodIn_of _ (by decide +kernel)) ggX4_wire_X4_in
end
section
theorem dX4_wire_0 : decode cX4_wire 0 = .ok (.aload_n 0, 1) := by decide +kernel
theorem dX4_wire_1 : decode cX4_wire 1 = .ok (.aload_n 0, 1) := by decide +kernel
theorem dX4_wire_2 : decode cX4_wire 2 = .ok (.iload_n 1, 1) := by decide +kernel
theorem dX4_wire_3 : decode cX4_wire 3 = .ok (.invokevirtual 76, 3) := by decide +kernel
theorem dX4_wire_6 : decode cX4_wire 6 = .ok (.ifCond .eq 29, 3) := by decide +kernel
theorem dX4_wire_9 : decode cX4_wire 9 = .ok (.iload_n 2, 1) := by decide +kernel
theorem dX4_wire_10 : decode cX4_wire 10 = .ok (.iconst 0, 1) := by decide +kernel
theorem dX4_wire_11 : decode cX4_wire 11 = .ok (.iconst 2, 1) := by decide +kernel
theorem dX4_wire_12 : decode cX4_wire 12 = .ok (.invokestatic 72, 3) := by decide +kernel
theorem dX4_wire_15 : decode cX4_wire 15 = .ok (.ifCond .eq 20, 3) := by decide +kernel
theorem dX4_wire_18 : decode cX4_wire 18 = .ok (.iload_n 3, 1) := by decide +kernel
theorem dX4_wire_19 : decode cX4_wire 19 = .ok (.iconst (-1), 1) := by decide +kernel
theorem dX4_wire_20 : decode cX4_wire 20 = .ok (.if_icmp .eq 11, 3) := by decide +kernel
theorem dX4_wire_23 : decode cX4_wire 23 = .ok (.aload_n 0, 1) := by decide +kernel
theorem dX4_wire_24 : decode cX4_wire 24 = .ok (.iload_n 3, 1) := by decide +kernel
theorem dX4_wire_25 : decode cX4_wire 25 = .ok (.invokevirtual 76, 3) := by decide +kernel
theorem dX4_wire_28 : decode cX4_wire 28 = .ok (.ifCond .eq 7, 3) := by decide +kernel
theorem dX4_wire_31 : decode cX4_wire 31 = .ok (.iconst 0, 1) := by decide +kernel
theorem dX4_wire_32 : decode cX4_wire 32 = .ok (.goto 4, 3) := by decide +kernel
theorem dX4_wire_35 : decode cX4_wire 35 = .ok (.iconst 1, 1) := by decide +kernel
theorem dX4_wire_36 : decode cX4_wire 36 = .ok (.putfield 65, 3) := by decide +kernel
theorem dX4_wire_39 : decode cX4_wire 39 = .ok (.aload_n 0, 1) := by decide +kernel
theorem dX4_wire_40 : decode cX4_wire 40 = .ok (.getfield 65, 3) := by decide +kernel
theorem dX4_wire_43 : decode cX4_wire 43 = .ok (.ifCond .le 5, 3) := by decide +kernel
theorem dX4_wire_46 : decode cX4_wire 46 = .ok (.iconst 0, 1) := by decide +kernel
theorem dX4_wire_47 : decode cX4_wire 47 = .ok (.ireturn, 1) := by decide +kernel
theorem dX4_wire_48 : decode cX4_wire 48 = .ok (.aload_n 0, 1) := by decide +kernel
theorem dX4_wire_49 : decode cX4_wire 49 = .ok (.getfield 22, 3) := by decide +kernel
theorem dX4_wire_52 : decode cX4_wire 52 = .ok (.iconst 3, 1) := by decide +kernel
theorem dX4_wire_53 : decode cX4_wire 53 = .ok (.iload_n 1, 1) := by decide +kernel
theorem dX4_wire_54 : decode cX4_wire 54 = .ok (.imul, 1) := by decide +kernel
theorem dX4_wire_55 : decode cX4_wire 55 = .ok (.iload_n 2, 1) := by decide +kernel
theorem dX4_wire_56 : decode cX4_wire 56 = .ok (.iadd, 1) := by decide +kernel
theorem dX4_wire_57 : decode cX4_wire 57 = .ok (.iaload, 1) := by decide +kernel
theorem dX4_wire_58 : decode cX4_wire 58 = .ok (.istore 4, 2) := by decide +kernel
theorem dX4_wire_60 : decode cX4_wire 60 = .ok (.aload_n 0, 1) := by decide +kernel
theorem dX4_wire_61 : decode cX4_wire 61 = .ok (.getfield 22, 3) := by decide +kernel
theorem dX4_wire_64 : decode cX4_wire 64 = .ok (.iconst 3, 1) := by decide +kernel
theorem dX4_wire_65 : decode cX4_wire 65 = .ok (.iload_n 1, 1) := by decide +kernel
theorem dX4_wire_66 : decode cX4_wire 66 = .ok (.imul, 1) := by decide +kernel
theorem dX4_wire_67 : decode cX4_wire 67 = .ok (.iload_n 2, 1) := by decide +kernel
theorem dX4_wire_68 : decode cX4_wire 68 = .ok (.iadd, 1) := by decide +kernel
theorem dX4_wire_69 : decode cX4_wire 69 = .ok (.iload_n 3, 1) := by decide +kernel
theorem dX4_wire_70 : decode cX4_wire 70 = .ok (.iastore, 1) := by decide +kernel
theorem dX4_wire_71 : decode cX4_wire 71 = .ok (.iload 4, 2) := by decide +kernel
theorem dX4_wire_73 : decode cX4_wire 73 = .ok (.ireturn, 1) := by decide +kernel
set_option maxRecDepth 20000 in
theorem ggX4_numbers_X4_isBlock : GoodIn wsX4_numbers wsX4_isBlock := goodIn_r _ [8, 9, 10, 11, 7, 12, 13, 14, 15, 16, 17, 18, 19, 20, 21, 22, 23, 24, 25, 26, 27, 28, 29, 30, 31, 32, 33, 34, 35, 36, 37] (by decide +kernel) (by decide +kernel)
set_option maxRecDepth 20000 in
theorem gX4_numbers_X4_isBlock : GoodIn wsX4_numbers (wsV RX4 76 RX4 yX4_isBlock wsX4_isBlock) := goodIn_app (goodIn_of _ (by decide +kernel)) ggX4_numbers_X4_isBlock
theorem dX4_numbers_0 : decode cX4_numbers 0 = .ok (.aload_n 0, 1) := by decide +kernel
theorem dX4_numbers_1 : decode cX4_numbers 1 = .ok (.aload_n 0, 1) := by decide +kernel
theorem dX4_numbers_2 : decode cX4_numbers 2 = .ok (.iload_n 1, 1) := by decide +kernel
theorem dX4_numbers_3 : decode cX4_numbers 3 = .ok (.invokevirtual 76, 3) := by decide +kernel
theorem dX4_numbers_6 : decode cX4_numbers 6 = .ok (.ifCond .eq 7, 3) := by decide +kernel
theorem dX4_numbers_9 : decode cX4_numbers 9 = .ok (.iconst 0, 1) := by decide +kernel
theorem dX4_numbers_10 : decode cX4_numbers 10 = .ok (.goto 4, 3) := by decide +kernel
theorem dX4_numbers_13 : decode cX4_numbers 13 = .ok (.iconst 1, 1) := by decide +kernel
theorem dX4_numbers_14 : decode cX4_numbers 14 = .ok (.putfield 65, 3) := by decide +kernel
theorem dX4_numbers_17 : decode cX4_numbers 17 = .ok (.aload_n 0, 1) := by decide +kernel
theorem dX4_numbers_18 : decode cX4_numbers 18 = .ok (.getfield 65, 3) := by decide +kernel
theorem dX4_numbers_21 : decode cX4_numbers 21 = .ok (.ifCond .ne 17, 3) := by decide +kernel
theorem dX4_numbers_24 : decode cX4_numbers 24 = .ok (.aload_n 0, 1) := by decide +kernel
theorem dX4_numbers_25 : decode cX4_numbers 25 = .ok (.getfield 13, 3) := by decide +kernel
theorem dX4_numbers_28 : decode cX4_numbers 28 = .ok (.iload_n 1, 1) := by decide +kernel
theorem dX4_numbers_29 : decode cX4_numbers 29 = .ok (.iload_n 2, 1) := by decide +kernel
theorem dX4_numbers_30 : decode cX4_numbers 30 = .ok (.iastore, 1) := by decide +kernel
theorem dX4_numbers_31 : decode cX4_numbers 31 = .ok (.aload_n 0, 1) := by decide +kernel
theorem dX4_numbers_32 : decode cX4_numbers 32 = .ok (.getfield 16, 3) := by decide +kernel
theorem dX4_numbers_35 : decode cX4_numbers 35 = .ok (.iload_n 1, 1) := by decide +kernel
theorem dX4_numbers_36 : decode cX4_numbers 36 = .ok (.iload_n 3, 1) := by decide +kernel
theorem dX4_numbers_37 : decode cX4_numbers 37 = .ok (.iastore, 1) := by decide +kernel
theorem dX4_numbers_38 : decode cX4_numbers 38 = .ok (.return_, 1) := by decide +kernel
set_option maxRecDepth 20000 in
theorem ggX4_row_X4_isBlock : GoodIn wsX4_row wsX4_isBlock := goodIn_r _ [8, 9, 10, 11, 7, 12, 13, 14, 15, 16, 17, 18, 19, 20, 21, 22, 23, 24, 25, 26, 27, 28, 29, 30, 31, 32, 33, 34, 35, 36, 37] (by decide +kernel) (by decide +kernel)
set_option maxRecDepth 20000 in
theorem gX4_row_X4_isBlock : GoodIn wsX4_row (wsV RX4 76 RX4 yX4_isBlock wsX4_isBlock) := goodIn_app (goodIn_of _ (by decide +kernel)) ggX4_row_X4_isBlock
set_option maxRecDepth 20000 in
theorem ggX4_row_X4_in : GoodIn wsX4_row wsX4_in := goodIn_r _ [12] (by decide +kernel) (by decide +kernel)
set_option maxRecDepth 20000 in
theorem gX4_row_X4_in : GoodIn wsX4_row (va_wsS RX4 72 yX4_in wsX4_in) := goodIn_app (goodIn_of _ (by decide +kernel)) ggX4_row_X4_in
theorem dX4_row_0 : decode cX4_row 0 = .ok (.aload_n 0, 1) := by decide +kernel
theorem dX4_row_1 : decode cX4_row 1 = .ok (.aload_n 0, 1) := by decide +kernel
theorem dX4_row_2 : decode cX4_row 2 = .ok (.iload_n 1, 1) := by decide +kernel
theorem dX4_row_3 : decode cX4_row 3 = .ok (.invokevirtual 76, 3) := by decide +kernel
theorem dX4_row_6 : decode cX4_row 6 = .ok (.ifCond .eq 13, 3) := by decide +kernel
theorem dX4_row_9 : decode cX4_row 9 = .ok (.iload_n 2, 1) := by decide +kernel
theorem dX4_row_10 : decode cX4_row 10 = .ok (.iconst 0, 1) := by decide +kernel
theorem dX4_row_11 : decode cX4_row 11 = .ok (.bipush 7, 2) := by decide +kernel
theorem dX4_row_13 : decode cX4_row 13 = .ok (.invokestatic 72, 3) := by decide +kernel
theorem dX4_row_16 : decode cX4_row 16 = .ok (.ifCond .ne 7, 3) := by decide +kernel
theorem dX4_row_19 : decode cX4_row 19 = .ok (.iconst 1, 1) := by decide +kernel
theorem dX4_row_20 : decode cX4_row 20 = .ok (.goto 19, 3) := by decide +kernel
theorem dX4_row_23 : decode cX4_row 23 = .ok (.aload_n 0, 1) := by decide +kernel
theorem dX4_row_24 : decode cX4_row 24 = .ok (.getfield 7, 3) := by decide +kernel
theorem dX4_row_27 : decode cX4_row 27 = .ok (.iload_n 1, 1) := by decide +kernel
theorem dX4_row_28 : decode cX4_row 28 = .ok (.iaload, 1) := by decide +kernel
theorem dX4_row_29 : decode cX4_row 29 = .ok (.bipush 15, 2) := by decide +kernel
theorem dX4_row_31 : decode cX4_row 31 = .ok (.if_icmp .eq 7, 3) := by decide +kernel
theorem dX4_row_34 : decode cX4_row 34 = .ok (.iconst 2, 1) := by decide +kernel
theorem dX4_row_35 : decode cX4_row 35 = .ok (.goto 4, 3) := by decide +kernel
theorem dX4_row_38 : decode cX4_row 38 = .ok (.iconst 0, 1) := by decide +kernel
theorem dX4_row_39 : decode cX4_row 39 = .ok (.putfield 65, 3) := by decide +kernel
theorem dX4_row_42 : decode cX4_row 42 = .ok (.aload_n 0, 1) := by decide +kernel
theorem dX4_row_43 : decode cX4_row 43 = .ok (.getfield 65, 3) := by decide +kernel
theorem dX4_row_46 : decode cX4_row 46 = .ok (.ifCond .le 5, 3) := by decide +kernel
theorem dX4_row_49 : decode cX4_row 49 = .ok (.iconst 0, 1) := by decide +kernel
theorem dX4_row_50 : decode cX4_row 50 = .ok (.ireturn, 1) := by decide +kernel
theorem dX4_row_51 : decode cX4_row 51 = .ok (.aload_n 0, 1) := by decide +kernel
theorem dX4_row_52 : decode cX4_row 52 = .ok (.getfield 34, 3) := by decide +kernel
theorem dX4_row_55 : decode cX4_row 55 = .ok (.bipush 8, 2) := by decide +kernel
theorem dX4_row_57 : decode cX4_row 57 = .ok (.iload_n 1, 1) := by decide +kernel
theorem dX4_row_58 : decode cX4_row 58 = .ok (.imul, 1) := by decide +kernel
theorem dX4_row_59 : decode cX4_row 59 = .ok (.iload_n 2, 1) := by decide +kernel
theorem dX4_row_60 : decode cX4_row 60 = .ok (.iadd, 1) := by decide +kernel
theorem dX4_row_61 : decode cX4_row 61 = .ok (.iaload, 1) := by decide +kernel
theorem dX4_row_62 : decode cX4_row 62 = .ok (.istore 4, 2) := by decide +kernel
theorem dX4_row_64 : decode cX4_row 64 = .ok (.aload_n 0, 1) := by decide +kernel
theorem dX4_row_65 : decode cX4_row 65 = .ok (.getfield 34, 3) := by decide +kernel
theorem dX4_row_68 : decode cX4_row 68 = .ok (.bipush 8, 2) := by decide +kernel
theorem dX4_row_70 : decode cX4_row 70 = .ok (.iload_n 1, 1) := by decide +kernel
theorem dX4_row_71 : decode cX4_row 71 = .ok (.imul, 1) := by decide +kernel
theorem dX4_row_72 : decode cX4_row 72 = .ok (.iload_n 2, 1) := by decide +kernel
theorem dX4_row_73 : decode cX4_row 73 = .ok (.iadd, 1) := by decide +kernel
theorem dX4_row_74 : decode cX4_row 74 = .ok (.iload_n 3, 1) := by decide +kernel
theorem dX4_row_75 : decode cX4_row 75 = .ok (.iastore, 1) := by decide +kernel
theorem dX4_row_76 : decode cX4_row 76 = .ok (.iload 4, 2) := by decide +kernel
theorem dX4_row_78 : decode cX4_row 78 = .ok (.ireturn, 1) := by decide +kernel
set_option maxRecDepth 20000 in
theorem ggX4_safe_X4_isBlock : GoodIn wsX4_safe wsX4_isBlock := goodIn_r _ [7, 8, 9, 10, 6, 11, 12, 13, 14, 15, 16, 17, 18, 19, 20, 21, 22, 23, 24, 25, 26, 27, 28, 29, 30, 31, 32, 33, 34, 35, 36] (by decide +kernel) (by decide +kernel)
set_option maxRecDepth 20000 in
theorem gX4_safe_X4_isBlock : GoodIn wsX4_safe (wsV RX4 76 RX4 yX4_isBlock wsX4_isBlock) := goodIn_app (goodIn_of _ (by decide +kernel)) ggX4_safe_X4_isBlock
theorem dX4_safe_0 : decode cX4_safe 0 = .ok (.aload_n 0, 1) := by decide +kernel
theorem dX4_safe_1 : decode cX4_safe 1 = .ok (.aload_n 0, 1) := by decide +kernel
theorem dX4_safe_2 : decode cX4_safe 2 = .ok (.iload_n 1, 1) := by decide +kernel
theorem dX4_safe_3 : decode cX4_safe 3 = .ok (.invokevirtual 76, 3) := by decide +kernel
theorem dX4_safe_6 : decode cX4_safe 6 = .ok (.ifCond .eq 7, 3) := by decide +kernel
theorem dX4_safe_9 : decode cX4_safe 9 = .ok (.iconst 0, 1) := by decide +kernel
theorem dX4_safe_10 : decode cX4_safe 10 = .ok (.goto 4, 3) := by decide +kernel
theorem dX4_safe_13 : decode cX4_safe 13 = .ok (.iconst 1, 1) := by decide +kernel
theorem dX4_safe_14 : decode cX4_safe 14 = .ok (.putfield 65, 3) := by decide +kernel
theorem dX4_safe_17 : decode cX4_safe 17 = .ok (.aload_n 0, 1) := by decide +kernel
theorem dX4_safe_18 : decode cX4_safe 18 = .ok (.getfield 65, 3) := by decide +kernel
theorem dX4_safe_21 : decode cX4_safe 21 = .ok (.ifCond .le 5, 3) := by decide +kernel
theorem dX4_safe_24 : decode cX4_safe 24 = .ok (.iconst 0, 1) := by decide +kernel
theorem dX4_safe_25 : decode cX4_safe 25 = .ok (.ireturn, 1) := by decide +kernel
theorem dX4_safe_26 : decode cX4_safe 26 = .ok (.aload_n 0, 1) := by decide +kernel
theorem dX4_safe_27 : decode cX4_safe 27 = .ok (.getfield 19, 3) := by decide +kernel
theorem dX4_safe_30 : decode cX4_safe 30 = .ok (.iload_n 1, 1) := by decide +kernel
theorem dX4_safe_31 : decode cX4_safe 31 = .ok (.iaload, 1) := by decide +kernel
theorem dX4_safe_32 : decode cX4_safe 32 = .ok (.istore_n 3, 1) := by decide +kernel
theorem dX4_safe_33 : decode cX4_safe 33 = .ok (.aload_n 0, 1) := by decide +kernel
theorem dX4_safe_34 : decode cX4_safe 34 = .ok (.getfield 19, 3) := by decide +kernel
theorem dX4_safe_37 : decode cX4_safe 37 = .ok (.iload_n 1, 1) := by decide +kernel
theorem dX4_safe_38 : decode cX4_safe 38 = .ok (.iload_n 2, 1) := by decide +kernel
theorem dX4_safe_39 : decode cX4_safe 39 = .ok (.iastore, 1) := by decide +kernel
theorem dX4_safe_40 : decode cX4_safe 40 = .ok (.iload_n 3, 1) := by decide +kernel
theorem dX4_safe_41 : decode cX4_safe 41 = .ok (.ireturn, 1) := by decide +kernel
set_option maxRecDepth 20000 in
theorem ggX4_point_X4_in : GoodIn wsX4_point wsX4_in := goodIn_r _ [6] (by decide +kernel) (by decide +kernel)
set_option maxRecDepth 20000 in
theorem gX4_point_X4_in : GoodIn wsX4_point (va_wsS RX4 72 yX4_in wsX4_in) := goodIn_app (goodIn_of _ (by decide +kernel)) ggX4_point_X4_in
theorem dX4_point_0 : decode cX4_point 0 = .ok (.aload_n 0, 1) := by decide +kernel
theorem dX4_point_1 : decode cX4_point 1 = .ok (.iload_n 1, 1) := by decide +kernel
theorem dX4_point_2 : decode cX4_point 2 = .ok (.iconst 0, 1) := by decide +kernel
theorem dX4_point_3 : decode cX4_point 3 = .ok (.bipush 9, 2) := by decide +kernel
theorem dX4_point_5 : decode cX4_point 5 = .ok (.invokestatic 72, 3) := by decide +kernel
theorem dX4_point_8 : decode cX4_point 8 = .ok (.ifCond .eq 7, 3) := by decide +kernel
theorem dX4_point_11 : decode cX4_point 11 = .ok (.iconst 0, 1) := by decide +kernel
theorem dX4_point_12 : decode cX4_point 12 = .ok (.goto 4, 3) := by decide +kernel
theorem dX4_point_15 : decode cX4_point 15 = .ok (.iconst 1, 1) := by decide +kernel
theorem dX4_point_16 : decode cX4_point 16 = .ok (.putfield 65, 3) := by decide +kernel
theorem dX4_point_19 : decode cX4_point 19 = .ok (.aload_n 0, 1) := by decide +kernel
theorem dX4_point_20 : decode cX4_point 20 = .ok (.getfield 65, 3) := by decide +kernel
theorem dX4_point_23 : decode cX4_point 23 = .ok (.ifCond .le 5, 3) := by decide +kernel
theorem dX4_point_26 : decode cX4_point 26 = .ok (.iconst 0, 1) := by decide +kernel
theorem dX4_point_27 : decode cX4_point 27 = .ok (.ireturn, 1) := by decide +kernel
theorem dX4_point_28 : decode cX4_point 28 = .ok (.aload_n 0, 1) := by decide +kernel
theorem dX4_point_29 : decode cX4_point 29 = .ok (.getfield 44, 3) := by decide +kernel
theorem dX4_point_32 : decode cX4_point 32 = .ok (.iload_n 1, 1) := by decide +kernel
theorem dX4_point_33 : decode cX4_point 33 = .ok (.iaload, 1) := by decide +kernel
theorem dX4_point_34 : decode cX4_point 34 = .ok (.istore_n 3, 1) := by decide +kernel
theorem dX4_point_35 : decode cX4_point 35 = .ok (.aload_n 0, 1) := by decide +kernel
theorem dX4_point_36 : decode cX4_point 36 = .ok (.getfield 44, 3) := by decide +kernel
theorem dX4_point_39 : decode cX4_point 39 = .ok (.iload_n 1, 1) := by decide +kernel
theorem dX4_point_40 : decode cX4_point 40 = .ok (.iload_n 2, 1) := by decide +kernel
theorem dX4_point_41 : decode cX4_point 41 = .ok (.iastore, 1) := by decide +kernel
theorem dX4_point_42 : decode cX4_point 42 = .ok (.iload_n 3, 1) := by decide +kernel
theorem dX4_point_43 : decode cX4_point 43 = .ok (.ireturn, 1) := by decide +kernel
set_option maxRecDepth 20000 in
theorem ggX4_hand_X4_isBlock : GoodIn wsX4_hand wsX4_isBlock := goodIn_r _ [8, 9, 10, 11, 7, 12, 13, 14, 15, 16, 17, 18, 19, 20, 21, 22, 23, 24, 25, 26, 27, 28, 29, 30, 31, 32, 33, 34, 35, 36, 37] (by decide +kernel) (by decide +kernel)
set_option maxRecDepth 20000 in
theorem gX4_hand_X4_isBlock : GoodIn wsX4_hand (wsV RX4 76 RX4 yX4_isBlock wsX4_isBlock) := goodIn_app (goodIn_of _ (by decide +kernel)) ggX4_hand_X4_isBlock
theorem dX4_hand_0 : decode cX4_hand 0 = .ok (.aload_n 0, 1) := by decide +kernel
theorem dX4_hand_1 : decode cX4_hand 1 = .ok (.aload_n 0, 1) := by decide +kernel
theorem dX4_hand_2 : decode cX4_hand 2 = .ok (.iload_n 1, 1) := by decide +kernel
theorem dX4_hand_3 : decode cX4_hand 3 = .ok (.invokevirtual 76, 3) := by decide +kernel
theorem dX4_hand_6 : decode cX4_hand 6 = .ok (.ifCond .eq 7, 3) := by decide +kernel
theorem dX4_hand_9 : decode cX4_hand 9 = .ok (.iconst 0, 1) := by decide +kernel
theorem dX4_hand_10 : decode cX4_hand 10 = .ok (.goto 4, 3) := by decide +kernel
theorem dX4_hand_13 : decode cX4_hand 13 = .ok (.iconst 1, 1) := by decide +kernel
theorem dX4_hand_14 : decode cX4_hand 14 = .ok (.putfield 65, 3) := by decide +kernel
theorem dX4_hand_17 : decode cX4_hand 17 = .ok (.aload_n 0, 1) := by decide +kernel
theorem dX4_hand_18 : decode cX4_hand 18 = .ok (.getfield 65, 3) := by decide +kernel
theorem dX4_hand_21 : decode cX4_hand 21 = .ok (.ifCond .le 5, 3) := by decide +kernel
theorem dX4_hand_24 : decode cX4_hand 24 = .ok (.iconst 0, 1) := by decide +kernel
theorem dX4_hand_25 : decode cX4_hand 25 = .ok (.ireturn, 1) := by decide +kernel
theorem dX4_hand_26 : decode cX4_hand 26 = .ok (.aload_n 0, 1) := by decide +kernel
theorem dX4_hand_27 : decode cX4_hand 27 = .ok (.getfield 37, 3) := by decide +kernel
theorem dX4_hand_30 : decode cX4_hand 30 = .ok (.iload_n 1, 1) := by decide +kernel
theorem dX4_hand_31 : decode cX4_hand 31 = .ok (.baload, 1) := by decide +kernel
theorem dX4_hand_32 : decode cX4_hand 32 = .ok (.istore 4, 2) := by decide +kernel
theorem dX4_hand_34 : decode cX4_hand 34 = .ok (.aload_n 0, 1) := by decide +kernel
theorem dX4_hand_35 : decode cX4_hand 35 = .ok (.getfield 37, 3) := by decide +kernel
theorem dX4_hand_38 : decode cX4_hand 38 = .ok (.iload_n 1, 1) := by decide +kernel
theorem dX4_hand_39 : decode cX4_hand 39 = .ok (.iload_n 2, 1) := by decide +kernel
theorem dX4_hand_40 : decode cX4_hand 40 = .ok (.bastore, 1) := by decide +kernel
theorem dX4_hand_41 : decode cX4_hand 41 = .ok (.aload_n 0, 1) := by decide +kernel
theorem dX4_hand_42 : decode cX4_hand 42 = .ok (.getfield 41, 3) := by decide +kernel
theorem dX4_hand_45 : decode cX4_hand 45 = .ok (.iload_n 1, 1) := by decide +kernel
theorem dX4_hand_46 : decode cX4_hand 46 = .ok (.iload_n 3, 1) := by decide +kernel
theorem dX4_hand_47 : decode cX4_hand 47 = .ok (.iastore, 1) := by decide +kernel
theorem dX4_hand_48 : decode cX4_hand 48 = .ok (.iload 4, 2) := by decide +kernel
theorem dX4_hand_50 : decode cX4_hand 50 = .ok (.ireturn, 1) := by decide +kernel
set_option maxRecDepth 20000 in
theorem ggX4_become_X4_isBlock : GoodIn wsX4_become wsX4_isBlock := goodIn_r _ [10, 11, 12, 13, 9, 14, 15, 16, 17, 18, 19, 20, 21, 22, 23, 24, 25, 26, 27, 28, 29, 30, 31, 32, 33, 34, 35, 36, 37, 38, 39] (by decide +kernel) (by decide +kernel)
set_option maxRecDepth 20000 in
theorem gX4_become_X4_isBlock : GoodIn wsX4_become (wsV RX4 76 RX4 yX4_isBlock wsX4_isBlock) := goodIn_app (goodIn_of _ (by decide +kernel)) ggX4_become_X4_isBlock
set_option maxRecDepth 20000 in
theorem ggX4_become_X4_in : GoodIn wsX4_become wsX4_in := goodIn_r _ [14] (by decide +kernel) (by decide +kernel)
set_option maxRecDepth 20000 in
theorem gX4_become_X4_in : GoodIn wsX4_become (va_wsS RX4 72 yX4_in wsX4_in) := goodIn_app (goodIn_of _ (by decide +kernel)) ggX4_become_X4_in
theorem dX4_become_0 : decode cX4_become 0 = .ok (.aload_n 0, 1) := by decide +kernel
theorem dX4_become_1 : decode cX4_become 1 = .ok (.aload_n 0, 1) := by decide +kernel
theorem dX4_become_2 : decode cX4_become 2 = .ok (.iload_n 1, 1) := by decide +kernel
theorem dX4_become_3 : decode cX4_become 3 = .ok (.invokevirtual 76, 3) := by decide +kernel
theorem dX4_become_6 : decode cX4_become 6 = .ok (.ifCond .eq 17, 3) := by decide +kernel
theorem dX4_become_9 : decode cX4_become 9 = .ok (.iload_n 2, 1) := by decide +kernel
theorem dX4_become_10 : decode cX4_become 10 = .ok (.iconst 0, 1) := by decide +kernel
theorem dX4_become_11 : decode cX4_become 11 = .ok (.bipush 25, 2) := by decide +kernel
theorem dX4_become_13 : decode cX4_become 13 = .ok (.invokestatic 72, 3) := by decide +kernel
theorem dX4_become_16 : decode cX4_become 16 = .ok (.ifCond .eq 7, 3) := by decide +kernel
theorem dX4_become_19 : decode cX4_become 19 = .ok (.iconst 0, 1) := by decide +kernel
theorem dX4_become_20 : decode cX4_become 20 = .ok (.goto 4, 3) := by decide +kernel
theorem dX4_become_23 : decode cX4_become 23 = .ok (.iconst 1, 1) := by decide +kernel
theorem dX4_become_24 : decode cX4_become 24 = .ok (.putfield 65, 3) := by decide +kernel
theorem dX4_become_27 : decode cX4_become 27 = .ok (.aload_n 0, 1) := by decide +kernel
theorem dX4_become_28 : decode cX4_become 28 = .ok (.getfield 65, 3) := by decide +kernel
theorem dX4_become_31 : decode cX4_become 31 = .ok (.ifCond .le 5, 3) := by decide +kernel
theorem dX4_become_34 : decode cX4_become 34 = .ok (.iconst 0, 1) := by decide +kernel
theorem dX4_become_35 : decode cX4_become 35 = .ok (.ireturn, 1) := by decide +kernel
theorem dX4_become_36 : decode cX4_become 36 = .ok (.aload_n 0, 1) := by decide +kernel
theorem dX4_become_37 : decode cX4_become 37 = .ok (.getfield 7, 3) := by decide +kernel
theorem dX4_become_40 : decode cX4_become 40 = .ok (.iload_n 1, 1) := by decide +kernel
theorem dX4_become_41 : decode cX4_become 41 = .ok (.iaload, 1) := by decide +kernel
theorem dX4_become_42 : decode cX4_become 42 = .ok (.istore_n 3, 1) := by decide +kernel
theorem dX4_become_43 : decode cX4_become 43 = .ok (.aload_n 0, 1) := by decide +kernel
theorem dX4_become_44 : decode cX4_become 44 = .ok (.getfield 7, 3) := by decide +kernel
theorem dX4_become_47 : decode cX4_become 47 = .ok (.iload_n 1, 1) := by decide +kernel
theorem dX4_become_48 : decode cX4_become 48 = .ok (.iload_n 2, 1) := by decide +kernel
theorem dX4_become_49 : decode cX4_become 49 = .ok (.iastore, 1) := by decide +kernel
theorem dX4_become_50 : decode cX4_become 50 = .ok (.aload_n 0, 1) := by decide +kernel
theorem dX4_become_51 : decode cX4_become 51 = .ok (.getfield 25, 3) := by decide +kernel
theorem dX4_become_54 : decode cX4_become 54 = .ok (.iload_n 1, 1) := by decide +kernel
theorem dX4_become_55 : decode cX4_become 55 = .ok (.iconst 0, 1) := by decide +kernel
theorem dX4_become_56 : decode cX4_become 56 = .ok (.iastore, 1) := by decide +kernel
theorem dX4_become_57 : decode cX4_become 57 = .ok (.aload_n 0, 1) := by decide +kernel
theorem dX4_become_58 : decode cX4_become 58 = .ok (.getfield 28, 3) := by decide +kernel
theorem dX4_become_61 : decode cX4_become 61 = .ok (.iload_n 1, 1) := by decide +kernel
theorem dX4_become_62 : decode cX4_become 62 = .ok (.iconst 0, 1) := by decide +kernel
theorem dX4_become_63 : decode cX4_become 63 = .ok (.iastore, 1) := by decide +kernel
theorem dX4_become_64 : decode cX4_become 64 = .ok (.aload_n 0, 1) := by decide +kernel
theorem dX4_become_65 : decode cX4_become 65 = .ok (.getfield 31, 3) := by decide +kernel
theorem dX4_become_68 : decode cX4_become 68 = .ok (.iload_n 1, 1) := by decide +kernel
theorem dX4_become_69 : decode cX4_become 69 = .ok (.iconst 0, 1) := by decide +kernel
theorem dX4_become_70 : decode cX4_become 70 = .ok (.iastore, 1) := by decide +kernel
theorem dX4_become_71 : decode cX4_become 71 = .ok (.iload_n 3, 1) := by decide +kernel
theorem dX4_become_72 : decode cX4_become 72 = .ok (.ireturn, 1) := by decide +kernel
set_option maxRecDepth 20000 in
theorem ggX4_inputsOf_X4_in : GoodIn wsX4_inputsOf wsX4_in := goodIn_r _ [4] (by decide +kernel) (by decide +kernel)
set_option maxRecDepth 20000 in
theorem gX4_inputsOf_X4_in : GoodIn wsX4_inputsOf (va_wsS RX4 72 yX4_in wsX4_in) := goodIn_app (goodIn_of _ (by decide +kernel)) ggX4_inputsOf_X4_in
theorem dX4_inputsOf_0 : decode cX4_inputsOf 0 = .ok (.iload_n 0, 1) := by decide +kernel
theorem dX4_inputsOf_1 : decode cX4_inputsOf 1 = .ok (.bipush 14, 2) := by decide +kernel
theorem dX4_inputsOf_3 : decode cX4_inputsOf 3 = .ok (.if_icmp .ne 5, 3) := by decide +kernel
theorem dX4_inputsOf_6 : decode cX4_inputsOf 6 = .ok (.iconst 3, 1) := by decide +kernel
theorem dX4_inputsOf_7 : decode cX4_inputsOf 7 = .ok (.ireturn, 1) := by decide +kernel
theorem dX4_inputsOf_8 : decode cX4_inputsOf 8 = .ok (.iload_n 0, 1) := by decide +kernel
theorem dX4_inputsOf_9 : decode cX4_inputsOf 9 = .ok (.iconst 2, 1) := by decide +kernel
theorem dX4_inputsOf_10 : decode cX4_inputsOf 10 = .ok (.bipush 12, 2) := by decide +kernel
theorem dX4_inputsOf_12 : decode cX4_inputsOf 12 = .ok (.invokestatic 72, 3) := by decide +kernel
theorem dX4_inputsOf_15 : decode cX4_inputsOf 15 = .ok (.ifCond .ne 27, 3) := by decide +kernel
theorem dX4_inputsOf_18 : decode cX4_inputsOf 18 = .ok (.iload_n 0, 1) := by decide +kernel
theorem dX4_inputsOf_19 : decode cX4_inputsOf 19 = .ok (.bipush 18, 2) := by decide +kernel
theorem dX4_inputsOf_21 : decode cX4_inputsOf 21 = .ok (.if_icmp .eq 21, 3) := by decide +kernel
theorem dX4_inputsOf_24 : decode cX4_inputsOf 24 = .ok (.iload_n 0, 1) := by decide +kernel
theorem dX4_inputsOf_25 : decode cX4_inputsOf 25 = .ok (.bipush 19, 2) := by decide +kernel
theorem dX4_inputsOf_27 : decode cX4_inputsOf 27 = .ok (.if_icmp .eq 15, 3) := by decide +kernel
theorem dX4_inputsOf_30 : decode cX4_inputsOf 30 = .ok (.iload_n 0, 1) := by decide +kernel
theorem dX4_inputsOf_31 : decode cX4_inputsOf 31 = .ok (.bipush 23, 2) := by decide +kernel
theorem dX4_inputsOf_33 : decode cX4_inputsOf 33 = .ok (.if_icmp .eq 9, 3) := by decide +kernel
theorem dX4_inputsOf_36 : decode cX4_inputsOf 36 = .ok (.iload_n 0, 1) := by decide +kernel
theorem dX4_inputsOf_37 : decode cX4_inputsOf 37 = .ok (.bipush 24, 2) := by decide +kernel
theorem dX4_inputsOf_39 : decode cX4_inputsOf 39 = .ok (.if_icmp .ne 5, 3) := by decide +kernel
theorem dX4_inputsOf_42 : decode cX4_inputsOf 42 = .ok (.iconst 2, 1) := by decide +kernel
theorem dX4_inputsOf_43 : decode cX4_inputsOf 43 = .ok (.ireturn, 1) := by decide +kernel
theorem dX4_inputsOf_44 : decode cX4_inputsOf 44 = .ok (.iload_n 0, 1) := by decide +kernel
theorem dX4_inputsOf_45 : decode cX4_inputsOf 45 = .ok (.iconst 2, 1) := by decide +kernel
theorem dX4_inputsOf_46 : decode cX4_inputsOf 46 = .ok (.if_icmp .lt 9, 3) := by decide +kernel
theorem dX4_inputsOf_49 : decode cX4_inputsOf 49 = .ok (.iload_n 0, 1) := by decide +kernel
theorem dX4_inputsOf_50 : decode cX4_inputsOf 50 = .ok (.bipush 20, 2) := by decide +kernel
theorem dX4_inputsOf_52 : decode cX4_inputsOf 52 = .ok (.if_icmp .ne 7, 3) := by decide +kernel
theorem dX4_inputsOf_55 : decode cX4_inputsOf 55 = .ok (.iconst 0, 1) := by decide +kernel
theorem dX4_inputsOf_56 : decode cX4_inputsOf 56 = .ok (.goto 4, 3) := by decide +kernel
theorem dX4_inputsOf_59 : decode cX4_inputsOf 59 = .ok (.iconst 1, 1) := by decide +kernel
theorem dX4_inputsOf_60 : decode cX4_inputsOf 60 = .ok (.ireturn, 1) := by decide +kernel
set_option maxRecDepth 20000 in
theorem ggX4_mayCome_X4_inputsOf : GoodIn wsX4_mayCome wsX4_inputsOf := goodIn_r _ [7, 8, 9, 6, 10] (by decide +kernel) (by decide +kernel)
set_option maxRecDepth 20000 in
theorem gX4_mayCome_X4_inputsOf : GoodIn wsX4_mayCome (va_wsS RX4 80 yX4_inputsOf wsX4_inputsOf) := goodIn_app (goodIn_of _ (by decide +kernel)) ggX4_mayCome_X4_inputsOf
theorem dX4_mayCome_0 : decode cX4_mayCome 0 = .ok (.aload_n 0, 1) := by decide +kernel
theorem dX4_mayCome_1 : decode cX4_mayCome 1 = .ok (.getfield 50, 3) := by decide +kernel
theorem dX4_mayCome_4 : decode cX4_mayCome 4 = .ok (.iload_n 1, 1) := by decide +kernel
theorem dX4_mayCome_5 : decode cX4_mayCome 5 = .ok (.baload, 1) := by decide +kernel
theorem dX4_mayCome_6 : decode cX4_mayCome 6 = .ok (.ifCond .eq 5, 3) := by decide +kernel
theorem dX4_mayCome_9 : decode cX4_mayCome 9 = .ok (.iconst 0, 1) := by decide +kernel
theorem dX4_mayCome_10 : decode cX4_mayCome 10 = .ok (.ireturn, 1) := by decide +kernel
theorem dX4_mayCome_11 : decode cX4_mayCome 11 = .ok (.iconst 1, 1) := by decide +kernel
theorem dX4_mayCome_12 : decode cX4_mayCome 12 = .ok (.istore_n 2, 1) := by decide +kernel
theorem dX4_mayCome_13 : decode cX4_mayCome 13 = .ok (.iconst 0, 1) := by decide +kernel
theorem dX4_mayCome_14 : decode cX4_mayCome 14 = .ok (.istore_n 3, 1) := by decide +kernel
theorem dX4_mayCome_15 : decode cX4_mayCome 15 = .ok (.iload_n 3, 1) := by decide +kernel
theorem dX4_mayCome_16 : decode cX4_mayCome 16 = .ok (.aload_n 0, 1) := by decide +kernel
theorem dX4_mayCome_17 : decode cX4_mayCome 17 = .ok (.getfield 7, 3) := by decide +kernel
theorem dX4_mayCome_20 : decode cX4_mayCome 20 = .ok (.iload_n 1, 1) := by decide +kernel
theorem dX4_mayCome_21 : decode cX4_mayCome 21 = .ok (.iaload, 1) := by decide +kernel
theorem dX4_mayCome_22 : decode cX4_mayCome 22 = .ok (.invokestatic 80, 3) := by decide +kernel
theorem dX4_mayCome_25 : decode cX4_mayCome 25 = .ok (.if_icmp .ge 58, 3) := by decide +kernel
theorem dX4_mayCome_28 : decode cX4_mayCome 28 = .ok (.aload_n 0, 1) := by decide +kernel
theorem dX4_mayCome_29 : decode cX4_mayCome 29 = .ok (.getfield 7, 3) := by decide +kernel
theorem dX4_mayCome_32 : decode cX4_mayCome 32 = .ok (.iload_n 1, 1) := by decide +kernel
theorem dX4_mayCome_33 : decode cX4_mayCome 33 = .ok (.iaload, 1) := by decide +kernel
theorem dX4_mayCome_34 : decode cX4_mayCome 34 = .ok (.bipush 16, 2) := by decide +kernel
theorem dX4_mayCome_36 : decode cX4_mayCome 36 = .ok (.if_icmp .eq 47, 3) := by decide +kernel
theorem dX4_mayCome_39 : decode cX4_mayCome 39 = .ok (.aload_n 0, 1) := by decide +kernel
theorem dX4_mayCome_40 : decode cX4_mayCome 40 = .ok (.getfield 22, 3) := by decide +kernel
theorem dX4_mayCome_43 : decode cX4_mayCome 43 = .ok (.iconst 3, 1) := by decide +kernel
theorem dX4_mayCome_44 : decode cX4_mayCome 44 = .ok (.iload_n 1, 1) := by decide +kernel
theorem dX4_mayCome_45 : decode cX4_mayCome 45 = .ok (.imul, 1) := by decide +kernel
theorem dX4_mayCome_46 : decode cX4_mayCome 46 = .ok (.iload_n 3, 1) := by decide +kernel
theorem dX4_mayCome_47 : decode cX4_mayCome 47 = .ok (.iadd, 1) := by decide +kernel
theorem dX4_mayCome_48 : decode cX4_mayCome 48 = .ok (.iaload, 1) := by decide +kernel
theorem dX4_mayCome_49 : decode cX4_mayCome 49 = .ok (.istore 4, 2) := by decide +kernel
theorem dX4_mayCome_51 : decode cX4_mayCome 51 = .ok (.iload_n 2, 1) := by decide +kernel
theorem dX4_mayCome_52 : decode cX4_mayCome 52 = .ok (.ifCond .eq 23, 3) := by decide +kernel
theorem dX4_mayCome_55 : decode cX4_mayCome 55 = .ok (.iload 4, 2) := by decide +kernel
theorem dX4_mayCome_57 : decode cX4_mayCome 57 = .ok (.iconst (-1), 1) := by decide +kernel
theorem dX4_mayCome_58 : decode cX4_mayCome 58 = .ok (.if_icmp .eq 13, 3) := by decide +kernel
theorem dX4_mayCome_61 : decode cX4_mayCome 61 = .ok (.aload_n 0, 1) := by decide +kernel
theorem dX4_mayCome_62 : decode cX4_mayCome 62 = .ok (.getfield 50, 3) := by decide +kernel
theorem dX4_mayCome_65 : decode cX4_mayCome 65 = .ok (.iload 4, 2) := by decide +kernel
theorem dX4_mayCome_67 : decode cX4_mayCome 67 = .ok (.baload, 1) := by decide +kernel
theorem dX4_mayCome_68 : decode cX4_mayCome 68 = .ok (.ifCond .eq 7, 3) := by decide +kernel
theorem dX4_mayCome_71 : decode cX4_mayCome 71 = .ok (.iconst 1, 1) := by decide +kernel
theorem dX4_mayCome_72 : decode cX4_mayCome 72 = .ok (.goto 4, 3) := by decide +kernel
theorem dX4_mayCome_75 : decode cX4_mayCome 75 = .ok (.iconst 0, 1) := by decide +kernel
theorem dX4_mayCome_76 : decode cX4_mayCome 76 = .ok (.istore_n 2, 1) := by decide +kernel
theorem dX4_mayCome_77 : decode cX4_mayCome 77 = .ok (.iinc 3 1, 3) := by decide +kernel
theorem dX4_mayCome_80 : decode cX4_mayCome 80 = .ok (.goto (-65), 3) := by decide +kernel
theorem dX4_mayCome_83 : decode cX4_mayCome 83 = .ok (.iload_n 2, 1) := by decide +kernel
theorem dX4_mayCome_84 : decode cX4_mayCome 84 = .ok (.ireturn, 1) := by decide +kernel
set_option maxRecDepth 20000 in
theorem ggX4_lay_X4_mayCome : GoodIn wsX4_lay wsX4_mayCome := goodIn_r _ [9, 3, 10, 11, 12, 13, 8, 14, 15, 16, 17, 18, 19, 20, 21, 22, 23, 24, 25, 26, 27, 28, 29, 30, 31, 32, 33, 34, 35, 36, 37, 38, 39, 40, 41, 42] (by decide +kernel) (by decide +kernel)
set_option maxRecDepth 20000 in
theorem gX4_lay_X4_mayCome : GoodIn wsX4_lay (wsV RX4 87 RX4 yX4_mayCome wsX4_mayCome) := goodIn_app (goodIn_of _ (by decide +kernel)) ggX4_lay_X4_mayCome
theorem dX4_lay_0 : decode cX4_lay 0 = .ok (.aload_n 0, 1) := by decide +kernel
theorem dX4_lay_1 : decode cX4_lay 1 = .ok (.iconst 0, 1) := by decide +kernel
theorem dX4_lay_2 : decode cX4_lay 2 = .ok (.putfield 84, 3) := by decide +kernel
theorem dX4_lay_5 : decode cX4_lay 5 = .ok (.iconst 0, 1) := by decide +kernel
theorem dX4_lay_6 : decode cX4_lay 6 = .ok (.istore_n 1, 1) := by decide +kernel
theorem dX4_lay_7 : decode cX4_lay 7 = .ok (.iload_n 1, 1) := by decide +kernel
theorem dX4_lay_8 : decode cX4_lay 8 = .ok (.aload_n 0, 1) := by decide +kernel
theorem dX4_lay_9 : decode cX4_lay 9 = .ok (.getfield 69, 3) := by decide +kernel
theorem dX4_lay_12 : decode cX4_lay 12 = .ok (.if_icmp .ge 16, 3) := by decide +kernel
theorem dX4_lay_15 : decode cX4_lay 15 = .ok (.aload_n 0, 1) := by decide +kernel
theorem dX4_lay_16 : decode cX4_lay 16 = .ok (.getfield 50, 3) := by decide +kernel
theorem dX4_lay_19 : decode cX4_lay 19 = .ok (.iload_n 1, 1) := by decide +kernel
theorem dX4_lay_20 : decode cX4_lay 20 = .ok (.iconst 0, 1) := by decide +kernel
theorem dX4_lay_21 : decode cX4_lay 21 = .ok (.bastore, 1) := by decide +kernel
theorem dX4_lay_22 : decode cX4_lay 22 = .ok (.iinc 1 1, 3) := by decide +kernel
theorem dX4_lay_25 : decode cX4_lay 25 = .ok (.goto (-18), 3) := by decide +kernel
theorem dX4_lay_28 : decode cX4_lay 28 = .ok (.iconst 1, 1) := by decide +kernel
theorem dX4_lay_29 : decode cX4_lay 29 = .ok (.istore_n 1, 1) := by decide +kernel
theorem dX4_lay_30 : decode cX4_lay 30 = .ok (.iload_n 1, 1) := by decide +kernel
theorem dX4_lay_31 : decode cX4_lay 31 = .ok (.ifCond .eq 81, 3) := by decide +kernel
theorem dX4_lay_34 : decode cX4_lay 34 = .ok (.iconst (-1), 1) := by decide +kernel
theorem dX4_lay_35 : decode cX4_lay 35 = .ok (.istore_n 2, 1) := by decide +kernel
theorem dX4_lay_36 : decode cX4_lay 36 = .ok (.aload_n 0, 1) := by decide +kernel
theorem dX4_lay_37 : decode cX4_lay 37 = .ok (.getfield 69, 3) := by decide +kernel
theorem dX4_lay_40 : decode cX4_lay 40 = .ok (.iconst 1, 1) := by decide +kernel
theorem dX4_lay_41 : decode cX4_lay 41 = .ok (.isub, 1) := by decide +kernel
theorem dX4_lay_42 : decode cX4_lay 42 = .ok (.istore_n 3, 1) := by decide +kernel
theorem dX4_lay_43 : decode cX4_lay 43 = .ok (.iload_n 3, 1) := by decide +kernel
theorem dX4_lay_44 : decode cX4_lay 44 = .ok (.ifCond .lt 23, 3) := by decide +kernel
theorem dX4_lay_47 : decode cX4_lay 47 = .ok (.aload_n 0, 1) := by decide +kernel
theorem dX4_lay_48 : decode cX4_lay 48 = .ok (.iload_n 3, 1) := by decide +kernel
theorem dX4_lay_49 : decode cX4_lay 49 = .ok (.invokevirtual 87, 3) := by decide +kernel
theorem dX4_lay_52 : decode cX4_lay 52 = .ok (.ifCond .eq 7, 3) := by decide +kernel
theorem dX4_lay_55 : decode cX4_lay 55 = .ok (.iload_n 3, 1) := by decide +kernel
theorem dX4_lay_56 : decode cX4_lay 56 = .ok (.goto 4, 3) := by decide +kernel
theorem dX4_lay_59 : decode cX4_lay 59 = .ok (.iload_n 2, 1) := by decide +kernel
theorem dX4_lay_60 : decode cX4_lay 60 = .ok (.istore_n 2, 1) := by decide +kernel
theorem dX4_lay_61 : decode cX4_lay 61 = .ok (.iinc 3 (-1), 3) := by decide +kernel
theorem dX4_lay_64 : decode cX4_lay 64 = .ok (.goto (-21), 3) := by decide +kernel
theorem dX4_lay_67 : decode cX4_lay 67 = .ok (.iload_n 2, 1) := by decide +kernel
theorem dX4_lay_68 : decode cX4_lay 68 = .ok (.iconst (-1), 1) := by decide +kernel
theorem dX4_lay_69 : decode cX4_lay 69 = .ok (.if_icmp .eq 7, 3) := by decide +kernel
theorem dX4_lay_72 : decode cX4_lay 72 = .ok (.iconst 1, 1) := by decide +kernel
theorem dX4_lay_73 : decode cX4_lay 73 = .ok (.goto 4, 3) := by decide +kernel
theorem dX4_lay_76 : decode cX4_lay 76 = .ok (.iconst 0, 1) := by decide +kernel
theorem dX4_lay_77 : decode cX4_lay 77 = .ok (.istore_n 1, 1) := by decide +kernel
theorem dX4_lay_78 : decode cX4_lay 78 = .ok (.iload_n 1, 1) := by decide +kernel
theorem dX4_lay_79 : decode cX4_lay 79 = .ok (.ifCond .eq 30, 3) := by decide +kernel
theorem dX4_lay_82 : decode cX4_lay 82 = .ok (.aload_n 0, 1) := by decide +kernel
theorem dX4_lay_83 : decode cX4_lay 83 = .ok (.getfield 47, 3) := by decide +kernel
theorem dX4_lay_86 : decode cX4_lay 86 = .ok (.aload_n 0, 1) := by decide +kernel
theorem dX4_lay_87 : decode cX4_lay 87 = .ok (.getfield 84, 3) := by decide +kernel
theorem dX4_lay_90 : decode cX4_lay 90 = .ok (.iload_n 2, 1) := by decide +kernel
theorem dX4_lay_91 : decode cX4_lay 91 = .ok (.iastore, 1) := by decide +kernel
theorem dX4_lay_92 : decode cX4_lay 92 = .ok (.aload_n 0, 1) := by decide +kernel
theorem dX4_lay_93 : decode cX4_lay 93 = .ok (.getfield 50, 3) := by decide +kernel
theorem dX4_lay_96 : decode cX4_lay 96 = .ok (.iload_n 2, 1) := by decide +kernel
theorem dX4_lay_97 : decode cX4_lay 97 = .ok (.iconst 1, 1) := by decide +kernel
theorem dX4_lay_98 : decode cX4_lay 98 = .ok (.bastore, 1) := by decide +kernel
theorem dX4_lay_99 : decode cX4_lay 99 = .ok (.aload_n 0, 1) := by decide +kernel
theorem dX4_lay_100 : decode cX4_lay 100 = .ok (.dup, 1) := by decide +kernel
theorem dX4_lay_101 : decode cX4_lay 101 = .ok (.getfield 84, 3) := by decide +kernel
theorem dX4_lay_104 : decode cX4_lay 104 = .ok (.iconst 1, 1) := by decide +kernel
theorem dX4_lay_105 : decode cX4_lay 105 = .ok (.iadd, 1) := by decide +kernel
theorem dX4_lay_106 : decode cX4_lay 106 = .ok (.putfield 84, 3) := by decide +kernel
theorem dX4_lay_109 : decode cX4_lay 109 = .ok (.goto (-79), 3) := by decide +kernel
theorem dX4_lay_112 : decode cX4_lay 112 = .ok (.aload_n 0, 1) := by decide +kernel
theorem dX4_lay_113 : decode cX4_lay 113 = .ok (.getfield 84, 3) := by decide +kernel
theorem dX4_lay_116 : decode cX4_lay 116 = .ok (.istore_n 2, 1) := by decide +kernel
theorem dX4_lay_117 : decode cX4_lay 117 = .ok (.iconst 0, 1) := by decide +kernel
theorem dX4_lay_118 : decode cX4_lay 118 = .ok (.istore_n 3, 1) := by decide +kernel
theorem dX4_lay_119 : decode cX4_lay 119 = .ok (.iload_n 3, 1) := by decide +kernel
theorem dX4_lay_120 : decode cX4_lay 120 = .ok (.aload_n 0, 1) := by decide +kernel
theorem dX4_lay_121 : decode cX4_lay 121 = .ok (.getfield 69, 3) := by decide +kernel
theorem dX4_lay_124 : decode cX4_lay 124 = .ok (.if_icmp .ge 28, 3) := by decide +kernel
theorem dX4_lay_127 : decode cX4_lay 127 = .ok (.aload_n 0, 1) := by decide +kernel
theorem dX4_lay_128 : decode cX4_lay 128 = .ok (.getfield 50, 3) := by decide +kernel
theorem dX4_lay_131 : decode cX4_lay 131 = .ok (.iload_n 3, 1) := by decide +kernel
theorem dX4_lay_132 : decode cX4_lay 132 = .ok (.baload, 1) := by decide +kernel
theorem dX4_lay_133 : decode cX4_lay 133 = .ok (.ifCond .ne 13, 3) := by decide +kernel
theorem dX4_lay_136 : decode cX4_lay 136 = .ok (.aload_n 0, 1) := by decide +kernel
theorem dX4_lay_137 : decode cX4_lay 137 = .ok (.getfield 47, 3) := by decide +kernel
theorem dX4_lay_140 : decode cX4_lay 140 = .ok (.iload_n 2, 1) := by decide +kernel
theorem dX4_lay_141 : decode cX4_lay 141 = .ok (.iload_n 3, 1) := by decide +kernel
theorem dX4_lay_142 : decode cX4_lay 142 = .ok (.iastore, 1) := by decide +kernel
theorem dX4_lay_143 : decode cX4_lay 143 = .ok (.iinc 2 1, 3) := by decide +kernel
theorem dX4_lay_146 : decode cX4_lay 146 = .ok (.iinc 3 1, 3) := by decide +kernel
theorem dX4_lay_149 : decode cX4_lay 149 = .ok (.goto (-30), 3) := by decide +kernel
theorem dX4_lay_152 : decode cX4_lay 152 = .ok (.return_, 1) := by decide +kernel
set_option maxRecDepth 20000 in
theorem ggX4_order_X4_lay : GoodIn wsX4_order wsX4_lay := goodIn_r _ [7, 2, 8, 9, 10, 11, 12, 13, 6, 14, 15, 16, 17, 18, 19, 20, 21, 22, 23, 24, 25, 26, 27, 28, 29, 30, 31, 32, 33, 34, 35, 36, 37, 38, 39, 40, 41, 42, 43, 44, 45, 46, 47] (by decide +kernel) (by decide +kernel)
set_option maxRecDepth 20000 in
theorem gX4_order_X4_lay : GoodIn wsX4_order (wsV RX4 90 RX4 yX4_lay wsX4_lay) := goodIn_app (goodIn_of _ (by decide +kernel)) ggX4_order_X4_lay
theorem dX4_order_0 : decode cX4_order 0 = .ok (.aload_n 0, 1) := by decide +kernel
theorem dX4_order_1 : decode cX4_order 1 = .ok (.iconst 0, 1) := by decide +kernel
theorem dX4_order_2 : decode cX4_order 2 = .ok (.putfield 65, 3) := by decide +kernel
theorem dX4_order_5 : decode cX4_order 5 = .ok (.aload_n 0, 1) := by decide +kernel
theorem dX4_order_6 : decode cX4_order 6 = .ok (.invokevirtual 90, 3) := by decide +kernel
theorem dX4_order_9 : decode cX4_order 9 = .ok (.aload_n 0, 1) := by decide +kernel
theorem dX4_order_10 : decode cX4_order 10 = .ok (.getfield 84, 3) := by decide +kernel
theorem dX4_order_13 : decode cX4_order 13 = .ok (.ireturn, 1) := by decide +kernel
set_option maxRecDepth 20000 in
theorem ggX4_at_X4_isBlock : GoodIn wsX4_at wsX4_isBlock := goodIn_r _ [7, 8, 9, 10, 6, 11, 27, 28, 29, 30, 31, 32, 33, 34, 35, 36, 37, 38, 39, 40, 41, 42, 43, 44, 45, 46, 47, 48, 49, 50, 51] (by decide +kernel) (by decide +kernel)
set_option maxRecDepth 20000 in
theorem gX4_at_X4_isBlock : GoodIn wsX4_at (wsV RX4 76 RX4 yX4_isBlock wsX4_isBlock) := goodIn_app (goodIn_of _ (by decide +kernel)) ggX4_at_X4_isBlock
set_option maxRecDepth 20000 in
theorem ggX4_at_X4_lay : GoodIn wsX4_at wsX4_lay := goodIn_r _ [15, 16, 8, 17, 2, 18, 19, 20, 6, 21, 22, 23, 24, 25, 26, 9, 10, 11, 27, 28, 29, 30, 31, 32, 33, 34, 35, 36, 37, 38, 39, 40, 41, 42, 43, 44, 45, 46, 47, 48, 49, 50, 51] (by decide +kernel) (by decide +kernel)
set_option maxRecDepth 20000 in
theorem gX4_at_X4_lay : GoodIn wsX4_at (wsV RX4 90 RX4 yX4_lay wsX4_lay) := goodIn_app (goodIn_of _ (by decide +kernel)) ggX4_at_X4_lay
theorem dX4_at_0 : decode cX4_at 0 = .ok (.aload_n 0, 1) := by decide +kernel
theorem dX4_at_1 : decode cX4_at 1 = .ok (.aload_n 0, 1) := by decide +kernel
theorem dX4_at_2 : decode cX4_at 2 = .ok (.iload_n 1, 1) := by decide +kernel
theorem dX4_at_3 : decode cX4_at 3 = .ok (.invokevirtual 76, 3) := by decide +kernel
theorem dX4_at_6 : decode cX4_at 6 = .ok (.ifCond .eq 7, 3) := by decide +kernel
theorem dX4_at_9 : decode cX4_at 9 = .ok (.iconst 0, 1) := by decide +kernel
theorem dX4_at_10 : decode cX4_at 10 = .ok (.goto 4, 3) := by decide +kernel
theorem dX4_at_13 : decode cX4_at 13 = .ok (.iconst 1, 1) := by decide +kernel
theorem dX4_at_14 : decode cX4_at 14 = .ok (.putfield 65, 3) := by decide +kernel
theorem dX4_at_17 : decode cX4_at 17 = .ok (.aload_n 0, 1) := by decide +kernel
theorem dX4_at_18 : decode cX4_at 18 = .ok (.getfield 65, 3) := by decide +kernel
theorem dX4_at_21 : decode cX4_at 21 = .ok (.ifCond .le 5, 3) := by decide +kernel
theorem dX4_at_24 : decode cX4_at 24 = .ok (.iconst 0, 1) := by decide +kernel
theorem dX4_at_25 : decode cX4_at 25 = .ok (.ireturn, 1) := by decide +kernel
theorem dX4_at_26 : decode cX4_at 26 = .ok (.aload_n 0, 1) := by decide +kernel
theorem dX4_at_27 : decode cX4_at 27 = .ok (.invokevirtual 90, 3) := by decide +kernel
theorem dX4_at_30 : decode cX4_at 30 = .ok (.aload_n 0, 1) := by decide +kernel
theorem dX4_at_31 : decode cX4_at 31 = .ok (.getfield 47, 3) := by decide +kernel
theorem dX4_at_34 : decode cX4_at 34 = .ok (.iload_n 1, 1) := by decide +kernel
theorem dX4_at_35 : decode cX4_at 35 = .ok (.iaload, 1) := by decide +kernel
theorem dX4_at_36 : decode cX4_at 36 = .ok (.ireturn, 1) := by decide +kernel
set_option maxRecDepth 20000 in
theorem ggX4_input_X4_inputsOf : GoodIn wsX4_input wsX4_inputsOf := goodIn_r _ [7, 8, 9, 6, 10] (by decide +kernel) (by decide +kernel)
set_option maxRecDepth 20000 in
theorem gX4_input_X4_inputsOf : GoodIn wsX4_input (va_wsS RX4 80 yX4_inputsOf wsX4_inputsOf) := goodIn_app (goodIn_of _ (by decide +kernel)) ggX4_input_X4_inputsOf
theorem dX4_input_0 : decode cX4_input 0 = .ok (.aload_n 0, 1) := by decide +kernel
theorem dX4_input_1 : decode cX4_input 1 = .ok (.getfield 22, 3) := by decide +kernel
theorem dX4_input_4 : decode cX4_input 4 = .ok (.iconst 3, 1) := by decide +kernel
theorem dX4_input_5 : decode cX4_input 5 = .ok (.iload_n 1, 1) := by decide +kernel
theorem dX4_input_6 : decode cX4_input 6 = .ok (.imul, 1) := by decide +kernel
theorem dX4_input_7 : decode cX4_input 7 = .ok (.iload_n 2, 1) := by decide +kernel
theorem dX4_input_8 : decode cX4_input 8 = .ok (.iadd, 1) := by decide +kernel
theorem dX4_input_9 : decode cX4_input 9 = .ok (.iaload, 1) := by decide +kernel
theorem dX4_input_10 : decode cX4_input 10 = .ok (.istore_n 3, 1) := by decide +kernel
theorem dX4_input_11 : decode cX4_input 11 = .ok (.iload_n 2, 1) := by decide +kernel
theorem dX4_input_12 : decode cX4_input 12 = .ok (.aload_n 0, 1) := by decide +kernel
theorem dX4_input_13 : decode cX4_input 13 = .ok (.getfield 7, 3) := by decide +kernel
theorem dX4_input_16 : decode cX4_input 16 = .ok (.iload_n 1, 1) := by decide +kernel
theorem dX4_input_17 : decode cX4_input 17 = .ok (.iaload, 1) := by decide +kernel
theorem dX4_input_18 : decode cX4_input 18 = .ok (.invokestatic 80, 3) := by decide +kernel
theorem dX4_input_21 : decode cX4_input 21 = .ok (.if_icmp .ge 17, 3) := by decide +kernel
theorem dX4_input_24 : decode cX4_input 24 = .ok (.iload_n 3, 1) := by decide +kernel
theorem dX4_input_25 : decode cX4_input 25 = .ok (.iconst (-1), 1) := by decide +kernel
theorem dX4_input_26 : decode cX4_input 26 = .ok (.if_icmp .eq 12, 3) := by decide +kernel
theorem dX4_input_29 : decode cX4_input 29 = .ok (.aload_n 0, 1) := by decide +kernel
theorem dX4_input_30 : decode cX4_input 30 = .ok (.getfield 25, 3) := by decide +kernel
theorem dX4_input_33 : decode cX4_input 33 = .ok (.iload_n 3, 1) := by decide +kernel
theorem dX4_input_34 : decode cX4_input 34 = .ok (.iaload, 1) := by decide +kernel
theorem dX4_input_35 : decode cX4_input 35 = .ok (.goto 4, 3) := by decide +kernel
theorem dX4_input_38 : decode cX4_input 38 = .ok (.iconst 0, 1) := by decide +kernel
theorem dX4_input_39 : decode cX4_input 39 = .ok (.ireturn, 1) := by decide +kernel
theorem dX4_one_0 : decode cX4_one 0 = .ok (.iload_n 0, 1) := by decide +kernel
theorem dX4_one_1 : decode cX4_one 1 = .ok (.ifCond .eq 7, 3) := by decide +kernel
theorem dX4_one_4 : decode cX4_one 4 = .ok (.iconst 1, 1) := by decide +kernel
theorem dX4_one_5 : decode cX4_one 5 = .ok (.goto 4, 3) := by decide +kernel
theorem dX4_one_8 : decode cX4_one 8 = .ok (.iconst 0, 1) := by decide +kernel
theorem dX4_one_9 : decode cX4_one 9 = .ok (.ireturn, 1) := by decide +kernel
set_option maxRecDepth 20000 in
theorem ggX4_plain_X4_in : GoodIn wsX4_plain wsX4_in := goodIn_r _ [9] (by decide +kernel) (by decide +kernel)
set_option maxRecDepth 20000 in
theorem gX4_plain_X4_in : GoodIn wsX4_plain (va_wsS RX4 72 yX4_in wsX4_in) := goodIn_app (goodIn_of _ (by decide +kernel)) ggX4_plain_X4_in
set_option maxRecDepth 20000 in
theorem ggX4_plain_X4_one : GoodIn wsX4_plain wsX4_one := goodIn_r _ [12] (by decide +kernel) (by decide +kernel)
set_option maxRecDepth 20000 in
theorem gX4_plain_X4_one : GoodIn wsX4_plain (va_wsS RX4 96 yX4_one wsX4_one) := goodIn_app (goodIn_of _ (by decide +kernel)) ggX4_plain_X4_one
theorem dX4_plain_0 : decode cX4_plain 0 = .ok (.aload_n 0, 1) := by decide +kernel
theorem dX4_plain_1 : decode cX4_plain 1 = .ok (.getfield 7, 3) := by decide +kernel
theorem dX4_plain_4 : decode cX4_plain 4 = .ok (.iload_n 1, 1) := by decide +kernel
theorem dX4_plain_5 : decode cX4_plain 5 = .ok (.iaload, 1) := by decide +kernel
theorem dX4_plain_6 : decode cX4_plain 6 = .ok (.tableswitch 299 0 14 #[74, 121, 128, 132, 136, 140, 140, 191, 202, 213, 227, 241, 258, 275, 288], 74) := by decide +kernel
theorem dX4_plain_80 : decode cX4_plain 80 = .ok (.aload_n 0, 1) := by decide +kernel
theorem dX4_plain_81 : decode cX4_plain 81 = .ok (.aload_n 0, 1) := by decide +kernel
theorem dX4_plain_82 : decode cX4_plain 82 = .ok (.getfield 13, 3) := by decide +kernel
theorem dX4_plain_85 : decode cX4_plain 85 = .ok (.iload_n 1, 1) := by decide +kernel
theorem dX4_plain_86 : decode cX4_plain 86 = .ok (.iaload, 1) := by decide +kernel
theorem dX4_plain_87 : decode cX4_plain 87 = .ok (.iconst 0, 1) := by decide +kernel
theorem dX4_plain_88 : decode cX4_plain 88 = .ok (.bipush 9, 2) := by decide +kernel
theorem dX4_plain_90 : decode cX4_plain 90 = .ok (.invokestatic 72, 3) := by decide +kernel
theorem dX4_plain_93 : decode cX4_plain 93 = .ok (.ifCond .eq 7, 3) := by decide +kernel
theorem dX4_plain_96 : decode cX4_plain 96 = .ok (.iconst 0, 1) := by decide +kernel
theorem dX4_plain_97 : decode cX4_plain 97 = .ok (.goto 4, 3) := by decide +kernel
theorem dX4_plain_100 : decode cX4_plain 100 = .ok (.iconst 2, 1) := by decide +kernel
theorem dX4_plain_101 : decode cX4_plain 101 = .ok (.putfield 93, 3) := by decide +kernel
theorem dX4_plain_104 : decode cX4_plain 104 = .ok (.aload_n 0, 1) := by decide +kernel
theorem dX4_plain_105 : decode cX4_plain 105 = .ok (.getfield 93, 3) := by decide +kernel
theorem dX4_plain_108 : decode cX4_plain 108 = .ok (.ifCond .ne 17, 3) := by decide +kernel
theorem dX4_plain_111 : decode cX4_plain 111 = .ok (.aload_n 0, 1) := by decide +kernel
theorem dX4_plain_112 : decode cX4_plain 112 = .ok (.getfield 44, 3) := by decide +kernel
theorem dX4_plain_115 : decode cX4_plain 115 = .ok (.aload_n 0, 1) := by decide +kernel
theorem dX4_plain_116 : decode cX4_plain 116 = .ok (.getfield 13, 3) := by decide +kernel
theorem dX4_plain_119 : decode cX4_plain 119 = .ok (.iload_n 1, 1) := by decide +kernel
theorem dX4_plain_120 : decode cX4_plain 120 = .ok (.iaload, 1) := by decide +kernel
theorem dX4_plain_121 : decode cX4_plain 121 = .ok (.iaload, 1) := by decide +kernel
theorem dX4_plain_122 : decode cX4_plain 122 = .ok (.goto 4, 3) := by decide +kernel
theorem dX4_plain_125 : decode cX4_plain 125 = .ok (.iconst 0, 1) := by decide +kernel
theorem dX4_plain_126 : decode cX4_plain 126 = .ok (.ireturn, 1) := by decide +kernel
theorem dX4_plain_127 : decode cX4_plain 127 = .ok (.aload_n 0, 1) := by decide +kernel
theorem dX4_plain_128 : decode cX4_plain 128 = .ok (.getfield 13, 3) := by decide +kernel
theorem dX4_plain_131 : decode cX4_plain 131 = .ok (.iload_n 1, 1) := by decide +kernel
theorem dX4_plain_132 : decode cX4_plain 132 = .ok (.iaload, 1) := by decide +kernel
theorem dX4_plain_133 : decode cX4_plain 133 = .ok (.ireturn, 1) := by decide +kernel
theorem dX4_plain_134 : decode cX4_plain 134 = .ok (.iload_n 2, 1) := by decide +kernel
theorem dX4_plain_135 : decode cX4_plain 135 = .ok (.iload_n 3, 1) := by decide +kernel
theorem dX4_plain_136 : decode cX4_plain 136 = .ok (.iadd, 1) := by decide +kernel
theorem dX4_plain_137 : decode cX4_plain 137 = .ok (.ireturn, 1) := by decide +kernel
theorem dX4_plain_138 : decode cX4_plain 138 = .ok (.iload_n 2, 1) := by decide +kernel
theorem dX4_plain_139 : decode cX4_plain 139 = .ok (.iload_n 3, 1) := by decide +kernel
theorem dX4_plain_140 : decode cX4_plain 140 = .ok (.isub, 1) := by decide +kernel
theorem dX4_plain_141 : decode cX4_plain 141 = .ok (.ireturn, 1) := by decide +kernel
theorem dX4_plain_142 : decode cX4_plain 142 = .ok (.iload_n 2, 1) := by decide +kernel
theorem dX4_plain_143 : decode cX4_plain 143 = .ok (.iload_n 3, 1) := by decide +kernel
theorem dX4_plain_144 : decode cX4_plain 144 = .ok (.imul, 1) := by decide +kernel
theorem dX4_plain_145 : decode cX4_plain 145 = .ok (.ireturn, 1) := by decide +kernel
theorem dX4_plain_146 : decode cX4_plain 146 = .ok (.aload_n 0, 1) := by decide +kernel
theorem dX4_plain_147 : decode cX4_plain 147 = .ok (.iload_n 3, 1) := by decide +kernel
theorem dX4_plain_148 : decode cX4_plain 148 = .ok (.ifCond .ne 7, 3) := by decide +kernel
theorem dX4_plain_151 : decode cX4_plain 151 = .ok (.iconst 1, 1) := by decide +kernel
theorem dX4_plain_152 : decode cX4_plain 152 = .ok (.goto 4, 3) := by decide +kernel
theorem dX4_plain_155 : decode cX4_plain 155 = .ok (.iconst 0, 1) := by decide +kernel
theorem dX4_plain_156 : decode cX4_plain 156 = .ok (.putfield 93, 3) := by decide +kernel
theorem dX4_plain_159 : decode cX4_plain 159 = .ok (.aload_n 0, 1) := by decide +kernel
theorem dX4_plain_160 : decode cX4_plain 160 = .ok (.getfield 93, 3) := by decide +kernel
theorem dX4_plain_163 : decode cX4_plain 163 = .ok (.ifCond .ne 9, 3) := by decide +kernel
theorem dX4_plain_166 : decode cX4_plain 166 = .ok (.iload_n 2, 1) := by decide +kernel
theorem dX4_plain_167 : decode cX4_plain 167 = .ok (.iload_n 3, 1) := by decide +kernel
theorem dX4_plain_168 : decode cX4_plain 168 = .ok (.idiv, 1) := by decide +kernel
theorem dX4_plain_169 : decode cX4_plain 169 = .ok (.goto 4, 3) := by decide +kernel
theorem dX4_plain_172 : decode cX4_plain 172 = .ok (.iconst 0, 1) := by decide +kernel
theorem dX4_plain_173 : decode cX4_plain 173 = .ok (.istore 5, 2) := by decide +kernel
theorem dX4_plain_175 : decode cX4_plain 175 = .ok (.aload_n 0, 1) := by decide +kernel
theorem dX4_plain_176 : decode cX4_plain 176 = .ok (.getfield 7, 3) := by decide +kernel
theorem dX4_plain_179 : decode cX4_plain 179 = .ok (.iload_n 1, 1) := by decide +kernel
theorem dX4_plain_180 : decode cX4_plain 180 = .ok (.iaload, 1) := by decide +kernel
theorem dX4_plain_181 : decode cX4_plain 181 = .ok (.iconst 5, 1) := by decide +kernel
theorem dX4_plain_182 : decode cX4_plain 182 = .ok (.if_icmp .ne 8, 3) := by decide +kernel
theorem dX4_plain_185 : decode cX4_plain 185 = .ok (.iload 5, 2) := by decide +kernel
theorem dX4_plain_187 : decode cX4_plain 187 = .ok (.goto 9, 3) := by decide +kernel
theorem dX4_plain_190 : decode cX4_plain 190 = .ok (.iload_n 2, 1) := by decide +kernel
theorem dX4_plain_191 : decode cX4_plain 191 = .ok (.iload_n 3, 1) := by decide +kernel
theorem dX4_plain_192 : decode cX4_plain 192 = .ok (.iload 5, 2) := by decide +kernel
theorem dX4_plain_194 : decode cX4_plain 194 = .ok (.imul, 1) := by decide +kernel
theorem dX4_plain_195 : decode cX4_plain 195 = .ok (.isub, 1) := by decide +kernel
theorem dX4_plain_196 : decode cX4_plain 196 = .ok (.ireturn, 1) := by decide +kernel
theorem dX4_plain_197 : decode cX4_plain 197 = .ok (.iload_n 2, 1) := by decide +kernel
theorem dX4_plain_198 : decode cX4_plain 198 = .ok (.iload_n 3, 1) := by decide +kernel
theorem dX4_plain_199 : decode cX4_plain 199 = .ok (.if_icmp .ge 7, 3) := by decide +kernel
theorem dX4_plain_202 : decode cX4_plain 202 = .ok (.iload_n 2, 1) := by decide +kernel
theorem dX4_plain_203 : decode cX4_plain 203 = .ok (.goto 4, 3) := by decide +kernel
theorem dX4_plain_206 : decode cX4_plain 206 = .ok (.iload_n 3, 1) := by decide +kernel
theorem dX4_plain_207 : decode cX4_plain 207 = .ok (.ireturn, 1) := by decide +kernel
theorem dX4_plain_208 : decode cX4_plain 208 = .ok (.iload_n 2, 1) := by decide +kernel
theorem dX4_plain_209 : decode cX4_plain 209 = .ok (.iload_n 3, 1) := by decide +kernel
theorem dX4_plain_210 : decode cX4_plain 210 = .ok (.if_icmp .le 7, 3) := by decide +kernel
theorem dX4_plain_213 : decode cX4_plain 213 = .ok (.iload_n 2, 1) := by decide +kernel
theorem dX4_plain_214 : decode cX4_plain 214 = .ok (.goto 4, 3) := by decide +kernel
theorem dX4_plain_217 : decode cX4_plain 217 = .ok (.iload_n 3, 1) := by decide +kernel
theorem dX4_plain_218 : decode cX4_plain 218 = .ok (.ireturn, 1) := by decide +kernel
theorem dX4_plain_219 : decode cX4_plain 219 = .ok (.iload_n 2, 1) := by decide +kernel
theorem dX4_plain_220 : decode cX4_plain 220 = .ok (.iload_n 3, 1) := by decide +kernel
theorem dX4_plain_221 : decode cX4_plain 221 = .ok (.if_icmp .ge 7, 3) := by decide +kernel
theorem dX4_plain_224 : decode cX4_plain 224 = .ok (.iconst 1, 1) := by decide +kernel
theorem dX4_plain_225 : decode cX4_plain 225 = .ok (.goto 4, 3) := by decide +kernel
theorem dX4_plain_228 : decode cX4_plain 228 = .ok (.iconst 0, 1) := by decide +kernel
theorem dX4_plain_229 : decode cX4_plain 229 = .ok (.invokestatic 96, 3) := by decide +kernel
theorem dX4_plain_232 : decode cX4_plain 232 = .ok (.ireturn, 1) := by decide +kernel
theorem dX4_plain_233 : decode cX4_plain 233 = .ok (.iload_n 2, 1) := by decide +kernel
theorem dX4_plain_234 : decode cX4_plain 234 = .ok (.iload_n 3, 1) := by decide +kernel
theorem dX4_plain_235 : decode cX4_plain 235 = .ok (.if_icmp .ne 7, 3) := by decide +kernel
theorem dX4_plain_238 : decode cX4_plain 238 = .ok (.iconst 1, 1) := by decide +kernel
theorem dX4_plain_239 : decode cX4_plain 239 = .ok (.goto 4, 3) := by decide +kernel
theorem dX4_plain_242 : decode cX4_plain 242 = .ok (.iconst 0, 1) := by decide +kernel
theorem dX4_plain_243 : decode cX4_plain 243 = .ok (.invokestatic 96, 3) := by decide +kernel
theorem dX4_plain_246 : decode cX4_plain 246 = .ok (.ireturn, 1) := by decide +kernel
theorem dX4_plain_247 : decode cX4_plain 247 = .ok (.iload_n 2, 1) := by decide +kernel
theorem dX4_plain_248 : decode cX4_plain 248 = .ok (.ifCond .eq 11, 3) := by decide +kernel
theorem dX4_plain_251 : decode cX4_plain 251 = .ok (.iload_n 3, 1) := by decide +kernel
theorem dX4_plain_252 : decode cX4_plain 252 = .ok (.ifCond .eq 7, 3) := by decide +kernel
theorem dX4_plain_255 : decode cX4_plain 255 = .ok (.iconst 1, 1) := by decide +kernel
theorem dX4_plain_256 : decode cX4_plain 256 = .ok (.goto 4, 3) := by decide +kernel
theorem dX4_plain_259 : decode cX4_plain 259 = .ok (.iconst 0, 1) := by decide +kernel
theorem dX4_plain_260 : decode cX4_plain 260 = .ok (.invokestatic 96, 3) := by decide +kernel
theorem dX4_plain_263 : decode cX4_plain 263 = .ok (.ireturn, 1) := by decide +kernel
theorem dX4_plain_264 : decode cX4_plain 264 = .ok (.iload_n 2, 1) := by decide +kernel
theorem dX4_plain_265 : decode cX4_plain 265 = .ok (.ifCond .ne 7, 3) := by decide +kernel
theorem dX4_plain_268 : decode cX4_plain 268 = .ok (.iload_n 3, 1) := by decide +kernel
theorem dX4_plain_269 : decode cX4_plain 269 = .ok (.ifCond .eq 7, 3) := by decide +kernel
theorem dX4_plain_272 : decode cX4_plain 272 = .ok (.iconst 1, 1) := by decide +kernel
theorem dX4_plain_273 : decode cX4_plain 273 = .ok (.goto 4, 3) := by decide +kernel
theorem dX4_plain_276 : decode cX4_plain 276 = .ok (.iconst 0, 1) := by decide +kernel
theorem dX4_plain_277 : decode cX4_plain 277 = .ok (.invokestatic 96, 3) := by decide +kernel
theorem dX4_plain_280 : decode cX4_plain 280 = .ok (.ireturn, 1) := by decide +kernel
theorem dX4_plain_281 : decode cX4_plain 281 = .ok (.iload_n 2, 1) := by decide +kernel
theorem dX4_plain_282 : decode cX4_plain 282 = .ok (.ifCond .ne 7, 3) := by decide +kernel
theorem dX4_plain_285 : decode cX4_plain 285 = .ok (.iconst 1, 1) := by decide +kernel
theorem dX4_plain_286 : decode cX4_plain 286 = .ok (.goto 4, 3) := by decide +kernel
theorem dX4_plain_289 : decode cX4_plain 289 = .ok (.iconst 0, 1) := by decide +kernel
theorem dX4_plain_290 : decode cX4_plain 290 = .ok (.invokestatic 96, 3) := by decide +kernel
theorem dX4_plain_293 : decode cX4_plain 293 = .ok (.ireturn, 1) := by decide +kernel
theorem dX4_plain_294 : decode cX4_plain 294 = .ok (.iload_n 2, 1) := by decide +kernel
theorem dX4_plain_295 : decode cX4_plain 295 = .ok (.ifCond .eq 7, 3) := by decide +kernel
theorem dX4_plain_298 : decode cX4_plain 298 = .ok (.iload_n 3, 1) := by decide +kernel
theorem dX4_plain_299 : decode cX4_plain 299 = .ok (.goto 5, 3) := by decide +kernel
theorem dX4_plain_302 : decode cX4_plain 302 = .ok (.iload 4, 2) := by decide +kernel
theorem dX4_plain_304 : decode cX4_plain 304 = .ok (.ireturn, 1) := by decide +kernel
theorem dX4_plain_305 : decode cX4_plain 305 = .ok (.aload_n 0, 1) := by decide +kernel
theorem dX4_plain_306 : decode cX4_plain 306 = .ok (.iload_n 2, 1) := by decide +kernel
theorem dX4_plain_307 : decode cX4_plain 307 = .ok (.iconst 0, 1) := by decide +kernel
theorem dX4_plain_308 : decode cX4_plain 308 = .ok (.bipush 7, 2) := by decide +kernel
theorem dX4_plain_310 : decode cX4_plain 310 = .ok (.invokestatic 72, 3) := by decide +kernel
theorem dX4_plain_313 : decode cX4_plain 313 = .ok (.ifCond .eq 7, 3) := by decide +kernel
theorem dX4_plain_316 : decode cX4_plain 316 = .ok (.iconst 0, 1) := by decide +kernel
theorem dX4_plain_317 : decode cX4_plain 317 = .ok (.goto 4, 3) := by decide +kernel
theorem dX4_plain_320 : decode cX4_plain 320 = .ok (.iconst 2, 1) := by decide +kernel
theorem dX4_plain_321 : decode cX4_plain 321 = .ok (.putfield 93, 3) := by decide +kernel
theorem dX4_plain_324 : decode cX4_plain 324 = .ok (.aload_n 0, 1) := by decide +kernel
theorem dX4_plain_325 : decode cX4_plain 325 = .ok (.getfield 93, 3) := by decide +kernel
theorem dX4_plain_328 : decode cX4_plain 328 = .ok (.ifCond .ne 17, 3) := by decide +kernel
theorem dX4_plain_331 : decode cX4_plain 331 = .ok (.aload_n 0, 1) := by decide +kernel
theorem dX4_plain_332 : decode cX4_plain 332 = .ok (.getfield 34, 3) := by decide +kernel
theorem dX4_plain_335 : decode cX4_plain 335 = .ok (.bipush 8, 2) := by decide +kernel
theorem dX4_plain_337 : decode cX4_plain 337 = .ok (.iload_n 1, 1) := by decide +kernel
theorem dX4_plain_338 : decode cX4_plain 338 = .ok (.imul, 1) := by decide +kernel
theorem dX4_plain_339 : decode cX4_plain 339 = .ok (.iload_n 2, 1) := by decide +kernel
theorem dX4_plain_340 : decode cX4_plain 340 = .ok (.iadd, 1) := by decide +kernel
theorem dX4_plain_341 : decode cX4_plain 341 = .ok (.iaload, 1) := by decide +kernel
theorem dX4_plain_342 : decode cX4_plain 342 = .ok (.goto 4, 3) := by decide +kernel
theorem dX4_plain_345 : decode cX4_plain 345 = .ok (.iconst 0, 1) := by decide +kernel
theorem dX4_plain_346 : decode cX4_plain 346 = .ok (.ireturn, 1) := by decide +kernel
theorem dX4_ramp_0 : decode cX4_ramp 0 = .ok (.aload_n 0, 1) := by decide +kernel
theorem dX4_ramp_1 : decode cX4_ramp 1 = .ok (.getfield 13, 3) := by decide +kernel
theorem dX4_ramp_4 : decode cX4_ramp 4 = .ok (.iload_n 1, 1) := by decide +kernel
theorem dX4_ramp_5 : decode cX4_ramp 5 = .ok (.iaload, 1) := by decide +kernel
theorem dX4_ramp_6 : decode cX4_ramp 6 = .ok (.ifCond .ge 7, 3) := by decide +kernel
theorem dX4_ramp_9 : decode cX4_ramp 9 = .ok (.lconst 0, 1) := by decide +kernel
theorem dX4_ramp_10 : decode cX4_ramp 10 = .ok (.goto 10, 3) := by decide +kernel
theorem dX4_ramp_13 : decode cX4_ramp 13 = .ok (.aload_n 0, 1) := by decide +kernel
theorem dX4_ramp_14 : decode cX4_ramp 14 = .ok (.getfield 13, 3) := by decide +kernel
theorem dX4_ramp_17 : decode cX4_ramp 17 = .ok (.iload_n 1, 1) := by decide +kernel
theorem dX4_ramp_18 : decode cX4_ramp 18 = .ok (.iaload, 1) := by decide +kernel
theorem dX4_ramp_19 : decode cX4_ramp 19 = .ok (.i2l, 1) := by decide +kernel
theorem dX4_ramp_20 : decode cX4_ramp 20 = .ok (.lstore_n 3, 1) := by decide +kernel
theorem dX4_ramp_21 : decode cX4_ramp 21 = .ok (.iload_n 2, 1) := by decide +kernel
theorem dX4_ramp_22 : decode cX4_ramp 22 = .ok (.i2l, 1) := by decide +kernel
theorem dX4_ramp_23 : decode cX4_ramp 23 = .ok (.aload_n 0, 1) := by decide +kernel
theorem dX4_ramp_24 : decode cX4_ramp 24 = .ok (.getfield 25, 3) := by decide +kernel
theorem dX4_ramp_27 : decode cX4_ramp 27 = .ok (.iload_n 1, 1) := by decide +kernel
theorem dX4_ramp_28 : decode cX4_ramp 28 = .ok (.iaload, 1) := by decide +kernel
theorem dX4_ramp_29 : decode cX4_ramp 29 = .ok (.i2l, 1) := by decide +kernel
theorem dX4_ramp_30 : decode cX4_ramp 30 = .ok (.lsub, 1) := by decide +kernel
theorem dX4_ramp_31 : decode cX4_ramp 31 = .ok (.lstore 5, 2) := by decide +kernel
theorem dX4_ramp_33 : decode cX4_ramp 33 = .ok (.lload 5, 2) := by decide +kernel
theorem dX4_ramp_35 : decode cX4_ramp 35 = .ok (.lload_n 3, 1) := by decide +kernel
theorem dX4_ramp_36 : decode cX4_ramp 36 = .ok (.lneg, 1) := by decide +kernel
theorem dX4_ramp_37 : decode cX4_ramp 37 = .ok (.lcmp, 1) := by decide +kernel
theorem dX4_ramp_38 : decode cX4_ramp 38 = .ok (.ifCond .lt 14, 3) := by decide +kernel
theorem dX4_ramp_41 : decode cX4_ramp 41 = .ok (.lload 5, 2) := by decide +kernel
theorem dX4_ramp_43 : decode cX4_ramp 43 = .ok (.lload_n 3, 1) := by decide +kernel
theorem dX4_ramp_44 : decode cX4_ramp 44 = .ok (.lcmp, 1) := by decide +kernel
theorem dX4_ramp_45 : decode cX4_ramp 45 = .ok (.ifCond .gt 7, 3) := by decide +kernel
theorem dX4_ramp_48 : decode cX4_ramp 48 = .ok (.iload_n 2, 1) := by decide +kernel
theorem dX4_ramp_49 : decode cX4_ramp 49 = .ok (.goto 33, 3) := by decide +kernel
theorem dX4_ramp_52 : decode cX4_ramp 52 = .ok (.lload 5, 2) := by decide +kernel
theorem dX4_ramp_54 : decode cX4_ramp 54 = .ok (.lconst 0, 1) := by decide +kernel
theorem dX4_ramp_55 : decode cX4_ramp 55 = .ok (.lcmp, 1) := by decide +kernel
theorem dX4_ramp_56 : decode cX4_ramp 56 = .ok (.ifCond .le 16, 3) := by decide +kernel
theorem dX4_ramp_59 : decode cX4_ramp 59 = .ok (.aload_n 0, 1) := by decide +kernel
theorem dX4_ramp_60 : decode cX4_ramp 60 = .ok (.getfield 25, 3) := by decide +kernel
theorem dX4_ramp_63 : decode cX4_ramp 63 = .ok (.iload_n 1, 1) := by decide +kernel
theorem dX4_ramp_64 : decode cX4_ramp 64 = .ok (.iaload, 1) := by decide +kernel
theorem dX4_ramp_65 : decode cX4_ramp 65 = .ok (.i2l, 1) := by decide +kernel
theorem dX4_ramp_66 : decode cX4_ramp 66 = .ok (.lload_n 3, 1) := by decide +kernel
theorem dX4_ramp_67 : decode cX4_ramp 67 = .ok (.ladd, 1) := by decide +kernel
theorem dX4_ramp_68 : decode cX4_ramp 68 = .ok (.l2i, 1) := by decide +kernel
theorem dX4_ramp_69 : decode cX4_ramp 69 = .ok (.goto 13, 3) := by decide +kernel
theorem dX4_ramp_72 : decode cX4_ramp 72 = .ok (.aload_n 0, 1) := by decide +kernel
theorem dX4_ramp_73 : decode cX4_ramp 73 = .ok (.getfield 25, 3) := by decide +kernel
theorem dX4_ramp_76 : decode cX4_ramp 76 = .ok (.iload_n 1, 1) := by decide +kernel
theorem dX4_ramp_77 : decode cX4_ramp 77 = .ok (.iaload, 1) := by decide +kernel
theorem dX4_ramp_78 : decode cX4_ramp 78 = .ok (.i2l, 1) := by decide +kernel
theorem dX4_ramp_79 : decode cX4_ramp 79 = .ok (.lload_n 3, 1) := by decide +kernel
theorem dX4_ramp_80 : decode cX4_ramp 80 = .ok (.lsub, 1) := by decide +kernel
theorem dX4_ramp_81 : decode cX4_ramp 81 = .ok (.l2i, 1) := by decide +kernel
theorem dX4_ramp_82 : decode cX4_ramp 82 = .ok (.ireturn, 1) := by decide +kernel
theorem dX4_clock_0 : decode cX4_clock 0 = .ok (.aload_n 0, 1) := by decide +kernel
theorem dX4_clock_1 : decode cX4_clock 1 = .ok (.getfield 100, 3) := by decide +kernel
theorem dX4_clock_4 : decode cX4_clock 4 = .ok (.sipush 1440, 3) := by decide +kernel
theorem dX4_clock_7 : decode cX4_clock 7 = .ok (.irem, 1) := by decide +kernel
theorem dX4_clock_8 : decode cX4_clock 8 = .ok (.istore_n 2, 1) := by decide +kernel
theorem dX4_clock_9 : decode cX4_clock 9 = .ok (.aload_n 0, 1) := by decide +kernel
theorem dX4_clock_10 : decode cX4_clock 10 = .ok (.getfield 13, 3) := by decide +kernel
theorem dX4_clock_13 : decode cX4_clock 13 = .ok (.iload_n 1, 1) := by decide +kernel
theorem dX4_clock_14 : decode cX4_clock 14 = .ok (.iaload, 1) := by decide +kernel
theorem dX4_clock_15 : decode cX4_clock 15 = .ok (.aload_n 0, 1) := by decide +kernel
theorem dX4_clock_16 : decode cX4_clock 16 = .ok (.getfield 16, 3) := by decide +kernel
theorem dX4_clock_19 : decode cX4_clock 19 = .ok (.iload_n 1, 1) := by decide +kernel
theorem dX4_clock_20 : decode cX4_clock 20 = .ok (.iaload, 1) := by decide +kernel
theorem dX4_clock_21 : decode cX4_clock 21 = .ok (.if_icmp .le 31, 3) := by decide +kernel
theorem dX4_clock_24 : decode cX4_clock 24 = .ok (.iload_n 2, 1) := by decide +kernel
theorem dX4_clock_25 : decode cX4_clock 25 = .ok (.aload_n 0, 1) := by decide +kernel
theorem dX4_clock_26 : decode cX4_clock 26 = .ok (.getfield 13, 3) := by decide +kernel
theorem dX4_clock_29 : decode cX4_clock 29 = .ok (.iload_n 1, 1) := by decide +kernel
theorem dX4_clock_30 : decode cX4_clock 30 = .ok (.iaload, 1) := by decide +kernel
theorem dX4_clock_31 : decode cX4_clock 31 = .ok (.if_icmp .ge 13, 3) := by decide +kernel
theorem dX4_clock_34 : decode cX4_clock 34 = .ok (.iload_n 2, 1) := by decide +kernel
theorem dX4_clock_35 : decode cX4_clock 35 = .ok (.aload_n 0, 1) := by decide +kernel
theorem dX4_clock_36 : decode cX4_clock 36 = .ok (.getfield 16, 3) := by decide +kernel
theorem dX4_clock_39 : decode cX4_clock 39 = .ok (.iload_n 1, 1) := by decide +kernel
theorem dX4_clock_40 : decode cX4_clock 40 = .ok (.iaload, 1) := by decide +kernel
theorem dX4_clock_41 : decode cX4_clock 41 = .ok (.if_icmp .ge 7, 3) := by decide +kernel
theorem dX4_clock_44 : decode cX4_clock 44 = .ok (.iconst 1, 1) := by decide +kernel
theorem dX4_clock_45 : decode cX4_clock 45 = .ok (.goto 32, 3) := by decide +kernel
theorem dX4_clock_48 : decode cX4_clock 48 = .ok (.iconst 0, 1) := by decide +kernel
theorem dX4_clock_49 : decode cX4_clock 49 = .ok (.goto 28, 3) := by decide +kernel
theorem dX4_clock_52 : decode cX4_clock 52 = .ok (.iload_n 2, 1) := by decide +kernel
theorem dX4_clock_53 : decode cX4_clock 53 = .ok (.aload_n 0, 1) := by decide +kernel
theorem dX4_clock_54 : decode cX4_clock 54 = .ok (.getfield 13, 3) := by decide +kernel
theorem dX4_clock_57 : decode cX4_clock 57 = .ok (.iload_n 1, 1) := by decide +kernel
theorem dX4_clock_58 : decode cX4_clock 58 = .ok (.iaload, 1) := by decide +kernel
theorem dX4_clock_59 : decode cX4_clock 59 = .ok (.if_icmp .lt 17, 3) := by decide +kernel
theorem dX4_clock_62 : decode cX4_clock 62 = .ok (.iload_n 2, 1) := by decide +kernel
theorem dX4_clock_63 : decode cX4_clock 63 = .ok (.aload_n 0, 1) := by decide +kernel
theorem dX4_clock_64 : decode cX4_clock 64 = .ok (.getfield 16, 3) := by decide +kernel
theorem dX4_clock_67 : decode cX4_clock 67 = .ok (.iload_n 1, 1) := by decide +kernel
theorem dX4_clock_68 : decode cX4_clock 68 = .ok (.iaload, 1) := by decide +kernel
theorem dX4_clock_69 : decode cX4_clock 69 = .ok (.if_icmp .ge 7, 3) := by decide +kernel
theorem dX4_clock_72 : decode cX4_clock 72 = .ok (.iconst 1, 1) := by decide +kernel
theorem dX4_clock_73 : decode cX4_clock 73 = .ok (.goto 4, 3) := by decide +kernel
theorem dX4_clock_76 : decode cX4_clock 76 = .ok (.iconst 0, 1) := by decide +kernel
theorem dX4_clock_77 : decode cX4_clock 77 = .ok (.ireturn, 1) := by decide +kernel
theorem dX4_pulse_0 : decode cX4_pulse 0 = .ok (.iload_n 2, 1) := by decide +kernel
theorem dX4_pulse_1 : decode cX4_pulse 1 = .ok (.ifCond .eq 24, 3) := by decide +kernel
theorem dX4_pulse_4 : decode cX4_pulse 4 = .ok (.aload_n 0, 1) := by decide +kernel
theorem dX4_pulse_5 : decode cX4_pulse 5 = .ok (.getfield 31, 3) := by decide +kernel
theorem dX4_pulse_8 : decode cX4_pulse 8 = .ok (.iload_n 1, 1) := by decide +kernel
theorem dX4_pulse_9 : decode cX4_pulse 9 = .ok (.iaload, 1) := by decide +kernel
theorem dX4_pulse_10 : decode cX4_pulse 10 = .ok (.ifCond .ne 15, 3) := by decide +kernel
theorem dX4_pulse_13 : decode cX4_pulse 13 = .ok (.aload_n 0, 1) := by decide +kernel
theorem dX4_pulse_14 : decode cX4_pulse 14 = .ok (.getfield 28, 3) := by decide +kernel
theorem dX4_pulse_17 : decode cX4_pulse 17 = .ok (.iload_n 1, 1) := by decide +kernel
theorem dX4_pulse_18 : decode cX4_pulse 18 = .ok (.aload_n 0, 1) := by decide +kernel
theorem dX4_pulse_19 : decode cX4_pulse 19 = .ok (.getfield 13, 3) := by decide +kernel
theorem dX4_pulse_22 : decode cX4_pulse 22 = .ok (.iload_n 1, 1) := by decide +kernel
theorem dX4_pulse_23 : decode cX4_pulse 23 = .ok (.iaload, 1) := by decide +kernel
theorem dX4_pulse_24 : decode cX4_pulse 24 = .ok (.iastore, 1) := by decide +kernel
theorem dX4_pulse_25 : decode cX4_pulse 25 = .ok (.aload_n 0, 1) := by decide +kernel
theorem dX4_pulse_26 : decode cX4_pulse 26 = .ok (.getfield 31, 3) := by decide +kernel
theorem dX4_pulse_29 : decode cX4_pulse 29 = .ok (.iload_n 1, 1) := by decide +kernel
theorem dX4_pulse_30 : decode cX4_pulse 30 = .ok (.iload_n 2, 1) := by decide +kernel
theorem dX4_pulse_31 : decode cX4_pulse 31 = .ok (.iastore, 1) := by decide +kernel
theorem dX4_pulse_32 : decode cX4_pulse 32 = .ok (.aload_n 0, 1) := by decide +kernel
theorem dX4_pulse_33 : decode cX4_pulse 33 = .ok (.getfield 28, 3) := by decide +kernel
theorem dX4_pulse_36 : decode cX4_pulse 36 = .ok (.iload_n 1, 1) := by decide +kernel
theorem dX4_pulse_37 : decode cX4_pulse 37 = .ok (.iaload, 1) := by decide +kernel
theorem dX4_pulse_38 : decode cX4_pulse 38 = .ok (.ifCond .gt 5, 3) := by decide +kernel
theorem dX4_pulse_41 : decode cX4_pulse 41 = .ok (.iconst 0, 1) := by decide +kernel
theorem dX4_pulse_42 : decode cX4_pulse 42 = .ok (.ireturn, 1) := by decide +kernel
theorem dX4_pulse_43 : decode cX4_pulse 43 = .ok (.aload_n 0, 1) := by decide +kernel
theorem dX4_pulse_44 : decode cX4_pulse 44 = .ok (.getfield 28, 3) := by decide +kernel
theorem dX4_pulse_47 : decode cX4_pulse 47 = .ok (.iload_n 1, 1) := by decide +kernel
theorem dX4_pulse_48 : decode cX4_pulse 48 = .ok (.dup2, 1) := by decide +kernel
theorem dX4_pulse_49 : decode cX4_pulse 49 = .ok (.iaload, 1) := by decide +kernel
theorem dX4_pulse_50 : decode cX4_pulse 50 = .ok (.iconst 1, 1) := by decide +kernel
theorem dX4_pulse_51 : decode cX4_pulse 51 = .ok (.isub, 1) := by decide +kernel
theorem dX4_pulse_52 : decode cX4_pulse 52 = .ok (.iastore, 1) := by decide +kernel
theorem dX4_pulse_53 : decode cX4_pulse 53 = .ok (.iconst 1, 1) := by decide +kernel
theorem dX4_pulse_54 : decode cX4_pulse 54 = .ok (.ireturn, 1) := by decide +kernel
theorem dX4_since_0 : decode cX4_since 0 = .ok (.iload_n 2, 1) := by decide +kernel
theorem dX4_since_1 : decode cX4_since 1 = .ok (.ifCond .eq 14, 3) := by decide +kernel
theorem dX4_since_4 : decode cX4_since 4 = .ok (.aload_n 0, 1) := by decide +kernel
theorem dX4_since_5 : decode cX4_since 5 = .ok (.getfield 28, 3) := by decide +kernel
theorem dX4_since_8 : decode cX4_since 8 = .ok (.iload_n 1, 1) := by decide +kernel
theorem dX4_since_9 : decode cX4_since 9 = .ok (.iaload, 1) := by decide +kernel
theorem dX4_since_10 : decode cX4_since 10 = .ok (.iconst 1, 1) := by decide +kernel
theorem dX4_since_11 : decode cX4_since 11 = .ok (.iadd, 1) := by decide +kernel
theorem dX4_since_12 : decode cX4_since 12 = .ok (.goto 4, 3) := by decide +kernel
theorem dX4_since_15 : decode cX4_since 15 = .ok (.iconst 0, 1) := by decide +kernel
theorem dX4_since_16 : decode cX4_since 16 = .ok (.istore_n 3, 1) := by decide +kernel
theorem dX4_since_17 : decode cX4_since 17 = .ok (.aload_n 0, 1) := by decide +kernel
theorem dX4_since_18 : decode cX4_since 18 = .ok (.getfield 28, 3) := by decide +kernel
theorem dX4_since_21 : decode cX4_since 21 = .ok (.iload_n 1, 1) := by decide +kernel
theorem dX4_since_22 : decode cX4_since 22 = .ok (.iload_n 3, 1) := by decide +kernel
theorem dX4_since_23 : decode cX4_since 23 = .ok (.aload_n 0, 1) := by decide +kernel
theorem dX4_since_24 : decode cX4_since 24 = .ok (.getfield 13, 3) := by decide +kernel
theorem dX4_since_27 : decode cX4_since 27 = .ok (.iload_n 1, 1) := by decide +kernel
theorem dX4_since_28 : decode cX4_since 28 = .ok (.iaload, 1) := by decide +kernel
theorem dX4_since_29 : decode cX4_since 29 = .ok (.if_icmp .le 12, 3) := by decide +kernel
theorem dX4_since_32 : decode cX4_since 32 = .ok (.aload_n 0, 1) := by decide +kernel
theorem dX4_since_33 : decode cX4_since 33 = .ok (.getfield 13, 3) := by decide +kernel
theorem dX4_since_36 : decode cX4_since 36 = .ok (.iload_n 1, 1) := by decide +kernel
theorem dX4_since_37 : decode cX4_since 37 = .ok (.iaload, 1) := by decide +kernel
theorem dX4_since_38 : decode cX4_since 38 = .ok (.goto 4, 3) := by decide +kernel
theorem dX4_since_41 : decode cX4_since 41 = .ok (.iload_n 3, 1) := by decide +kernel
theorem dX4_since_42 : decode cX4_since 42 = .ok (.iastore, 1) := by decide +kernel
theorem dX4_since_43 : decode cX4_since 43 = .ok (.aload_n 0, 1) := by decide +kernel
theorem dX4_since_44 : decode cX4_since 44 = .ok (.getfield 28, 3) := by decide +kernel
theorem dX4_since_47 : decode cX4_since 47 = .ok (.iload_n 1, 1) := by decide +kernel
theorem dX4_since_48 : decode cX4_since 48 = .ok (.iaload, 1) := by decide +kernel
theorem dX4_since_49 : decode cX4_since 49 = .ok (.ireturn, 1) := by decide +kernel
set_option maxRecDepth 20000 in
theorem ggX4_withState_X4_ramp : GoodIn wsX4_withState wsX4_ramp := goodIn_r _ [11, 4, 6, 28, 29, 30, 31, 32, 33, 34, 35, 36, 37, 38, 39, 40, 41, 42, 43, 44, 45, 46, 47, 48, 49, 50, 51, 52] (by decide +kernel) (by decide +kernel)
set_option maxRecDepth 20000 in
theorem gX4_withState_X4_ramp : GoodIn wsX4_withState (wsV RX4 103 RX4 yX4_ramp wsX4_ramp) := goodIn_app (goodIn_of _ (by decide +kernel)) ggX4_withState_X4_ramp
set_option maxRecDepth 20000 in
theorem ggX4_withState_X4_clock : GoodIn wsX4_withState wsX4_clock := goodIn_r _ [15, 16, 4, 5, 28, 29, 30, 31, 32, 33, 34, 35, 36, 37, 38, 39, 40, 41, 42, 43, 44, 45, 46, 47, 48, 49, 50, 51, 52] (by decide +kernel) (by decide +kernel)
set_option maxRecDepth 20000 in
theorem gX4_withState_X4_clock : GoodIn wsX4_withState (wsV RX4 107 RX4 yX4_clock wsX4_clock) := goodIn_app (goodIn_of _ (by decide +kernel)) ggX4_withState_X4_clock
set_option maxRecDepth 20000 in
theorem ggX4_withState_X4_one : GoodIn wsX4_withState wsX4_one := goodIn_r _ [19] (by decide +kernel) (by decide +kernel)
set_option maxRecDepth 20000 in
theorem gX4_withState_X4_one : GoodIn wsX4_withState (va_wsS RX4 96 yX4_one wsX4_one) := goodIn_app (goodIn_of _ (by decide +kernel)) ggX4_withState_X4_one
set_option maxRecDepth 20000 in
theorem ggX4_withState_X4_pulse : GoodIn wsX4_withState wsX4_pulse := goodIn_r _ [23, 3, 2, 4, 28, 29, 30, 31, 32, 33, 34, 35, 36, 37, 38, 39, 40, 41, 42, 43, 44, 45, 46, 47, 48, 49, 50, 51, 52] (by decide +kernel) (by decide +kernel)
set_option maxRecDepth 20000 in
theorem gX4_withState_X4_pulse : GoodIn wsX4_withState (wsV RX4 110 RX4 yX4_pulse wsX4_pulse) := goodIn_app (goodIn_of _ (by decide +kernel)) ggX4_withState_X4_pulse
set_option maxRecDepth 20000 in
theorem ggX4_withState_X4_since : GoodIn wsX4_withState wsX4_since := goodIn_r _ [27, 2, 4, 28, 29, 30, 31, 32, 33, 34, 35, 36, 37, 38, 39, 40, 41, 42, 43, 44, 45, 46, 47, 48, 49, 50, 51, 52] (by decide +kernel) (by decide +kernel)
set_option maxRecDepth 20000 in
theorem gX4_withState_X4_since : GoodIn wsX4_withState (wsV RX4 113 RX4 yX4_since wsX4_since) := goodIn_app (goodIn_of _ (by decide +kernel)) ggX4_withState_X4_since
end
section
theorem dX4_withState_0 : decode cX4_withState 0 = .ok (.aload_n 0, 1) := by decide +kernel
theorem dX4_withState_1 : decode cX4_withState 1 = .ok (.getfield 7, 3) := by decide +kernel
theorem dX4_withState_4 : decode cX4_withState 4 = .ok (.iload_n 1, 1) := by decide +kernel
theorem dX4_withState_5 : decode cX4_withState 5 = .ok (.iaload, 1) := by decide +kernel
theorem dX4_withState_6 : decode cX4_withState 6 = .ok (.tableswitch 257 16 24 #[50, 57, 64, 122, 157, 166, 173, 213, 228], 50) := by decide +kernel
theorem dX4_withState_56 : decode cX4_withState 56 = .ok (.aload_n 0, 1) := by decide +kernel
theorem dX4_withState_57 : decode cX4_withState 57 = .ok (.getfield 28, 3) := by decide +kernel
theorem dX4_withState_60 : decode cX4_withState 60 = .ok (.iload_n 1, 1) := by decide +kernel
theorem dX4_withState_61 : decode cX4_withState 61 = .ok (.iaload, 1) := by decide +kernel
theorem dX4_withState_62 : decode cX4_withState 62 = .ok (.ireturn, 1) := by decide +kernel
theorem dX4_withState_63 : decode cX4_withState 63 = .ok (.aload_n 0, 1) := by decide +kernel
theorem dX4_withState_64 : decode cX4_withState 64 = .ok (.iload_n 1, 1) := by decide +kernel
theorem dX4_withState_65 : decode cX4_withState 65 = .ok (.iload_n 2, 1) := by decide +kernel
theorem dX4_withState_66 : decode cX4_withState 66 = .ok (.invokevirtual 103, 3) := by decide +kernel
theorem dX4_withState_69 : decode cX4_withState 69 = .ok (.ireturn, 1) := by decide +kernel
theorem dX4_withState_70 : decode cX4_withState 70 = .ok (.aload_n 0, 1) := by decide +kernel
theorem dX4_withState_71 : decode cX4_withState 71 = .ok (.getfield 28, 3) := by decide +kernel
theorem dX4_withState_74 : decode cX4_withState 74 = .ok (.iload_n 1, 1) := by decide +kernel
theorem dX4_withState_75 : decode cX4_withState 75 = .ok (.iload_n 3, 1) := by decide +kernel
theorem dX4_withState_76 : decode cX4_withState 76 = .ok (.ifCond .eq 7, 3) := by decide +kernel
theorem dX4_withState_79 : decode cX4_withState 79 = .ok (.iconst 0, 1) := by decide +kernel
theorem dX4_withState_80 : decode cX4_withState 80 = .ok (.goto 33, 3) := by decide +kernel
theorem dX4_withState_83 : decode cX4_withState 83 = .ok (.iload_n 2, 1) := by decide +kernel
theorem dX4_withState_84 : decode cX4_withState 84 = .ok (.ifCond .eq 23, 3) := by decide +kernel
theorem dX4_withState_87 : decode cX4_withState 87 = .ok (.aload_n 0, 1) := by decide +kernel
theorem dX4_withState_88 : decode cX4_withState 88 = .ok (.getfield 31, 3) := by decide +kernel
theorem dX4_withState_91 : decode cX4_withState 91 = .ok (.iload_n 1, 1) := by decide +kernel
theorem dX4_withState_92 : decode cX4_withState 92 = .ok (.iaload, 1) := by decide +kernel
theorem dX4_withState_93 : decode cX4_withState 93 = .ok (.ifCond .ne 14, 3) := by decide +kernel
theorem dX4_withState_96 : decode cX4_withState 96 = .ok (.aload_n 0, 1) := by decide +kernel
theorem dX4_withState_97 : decode cX4_withState 97 = .ok (.getfield 28, 3) := by decide +kernel
theorem dX4_withState_100 : decode cX4_withState 100 = .ok (.iload_n 1, 1) := by decide +kernel
theorem dX4_withState_101 : decode cX4_withState 101 = .ok (.iaload, 1) := by decide +kernel
theorem dX4_withState_102 : decode cX4_withState 102 = .ok (.iconst 1, 1) := by decide +kernel
theorem dX4_withState_103 : decode cX4_withState 103 = .ok (.iadd, 1) := by decide +kernel
theorem dX4_withState_104 : decode cX4_withState 104 = .ok (.goto 9, 3) := by decide +kernel
theorem dX4_withState_107 : decode cX4_withState 107 = .ok (.aload_n 0, 1) := by decide +kernel
theorem dX4_withState_108 : decode cX4_withState 108 = .ok (.getfield 28, 3) := by decide +kernel
theorem dX4_withState_111 : decode cX4_withState 111 = .ok (.iload_n 1, 1) := by decide +kernel
theorem dX4_withState_112 : decode cX4_withState 112 = .ok (.iaload, 1) := by decide +kernel
theorem dX4_withState_113 : decode cX4_withState 113 = .ok (.iastore, 1) := by decide +kernel
theorem dX4_withState_114 : decode cX4_withState 114 = .ok (.aload_n 0, 1) := by decide +kernel
theorem dX4_withState_115 : decode cX4_withState 115 = .ok (.getfield 31, 3) := by decide +kernel
theorem dX4_withState_118 : decode cX4_withState 118 = .ok (.iload_n 1, 1) := by decide +kernel
theorem dX4_withState_119 : decode cX4_withState 119 = .ok (.iload_n 2, 1) := by decide +kernel
theorem dX4_withState_120 : decode cX4_withState 120 = .ok (.iastore, 1) := by decide +kernel
theorem dX4_withState_121 : decode cX4_withState 121 = .ok (.aload_n 0, 1) := by decide +kernel
theorem dX4_withState_122 : decode cX4_withState 122 = .ok (.getfield 28, 3) := by decide +kernel
theorem dX4_withState_125 : decode cX4_withState 125 = .ok (.iload_n 1, 1) := by decide +kernel
theorem dX4_withState_126 : decode cX4_withState 126 = .ok (.iaload, 1) := by decide +kernel
theorem dX4_withState_127 : decode cX4_withState 127 = .ok (.ireturn, 1) := by decide +kernel
theorem dX4_withState_128 : decode cX4_withState 128 = .ok (.aload_n 0, 1) := by decide +kernel
theorem dX4_withState_129 : decode cX4_withState 129 = .ok (.getfield 28, 3) := by decide +kernel
theorem dX4_withState_132 : decode cX4_withState 132 = .ok (.iload_n 1, 1) := by decide +kernel
theorem dX4_withState_133 : decode cX4_withState 133 = .ok (.iload_n 2, 1) := by decide +kernel
theorem dX4_withState_134 : decode cX4_withState 134 = .ok (.ifCond .eq 7, 3) := by decide +kernel
theorem dX4_withState_137 : decode cX4_withState 137 = .ok (.iconst 1, 1) := by decide +kernel
theorem dX4_withState_138 : decode cX4_withState 138 = .ok (.goto 17, 3) := by decide +kernel
theorem dX4_withState_141 : decode cX4_withState 141 = .ok (.iload_n 3, 1) := by decide +kernel
theorem dX4_withState_142 : decode cX4_withState 142 = .ok (.ifCond .eq 7, 3) := by decide +kernel
theorem dX4_withState_145 : decode cX4_withState 145 = .ok (.iconst 0, 1) := by decide +kernel
theorem dX4_withState_146 : decode cX4_withState 146 = .ok (.goto 9, 3) := by decide +kernel
theorem dX4_withState_149 : decode cX4_withState 149 = .ok (.aload_n 0, 1) := by decide +kernel
theorem dX4_withState_150 : decode cX4_withState 150 = .ok (.getfield 28, 3) := by decide +kernel
theorem dX4_withState_153 : decode cX4_withState 153 = .ok (.iload_n 1, 1) := by decide +kernel
theorem dX4_withState_154 : decode cX4_withState 154 = .ok (.iaload, 1) := by decide +kernel
theorem dX4_withState_155 : decode cX4_withState 155 = .ok (.iastore, 1) := by decide +kernel
theorem dX4_withState_156 : decode cX4_withState 156 = .ok (.aload_n 0, 1) := by decide +kernel
theorem dX4_withState_157 : decode cX4_withState 157 = .ok (.getfield 28, 3) := by decide +kernel
theorem dX4_withState_160 : decode cX4_withState 160 = .ok (.iload_n 1, 1) := by decide +kernel
theorem dX4_withState_161 : decode cX4_withState 161 = .ok (.iaload, 1) := by decide +kernel
theorem dX4_withState_162 : decode cX4_withState 162 = .ok (.ireturn, 1) := by decide +kernel
theorem dX4_withState_163 : decode cX4_withState 163 = .ok (.aload_n 0, 1) := by decide +kernel
theorem dX4_withState_164 : decode cX4_withState 164 = .ok (.iload_n 1, 1) := by decide +kernel
theorem dX4_withState_165 : decode cX4_withState 165 = .ok (.invokevirtual 107, 3) := by decide +kernel
theorem dX4_withState_168 : decode cX4_withState 168 = .ok (.invokestatic 96, 3) := by decide +kernel
theorem dX4_withState_171 : decode cX4_withState 171 = .ok (.ireturn, 1) := by decide +kernel
theorem dX4_withState_172 : decode cX4_withState 172 = .ok (.aload_n 0, 1) := by decide +kernel
theorem dX4_withState_173 : decode cX4_withState 173 = .ok (.iload_n 1, 1) := by decide +kernel
theorem dX4_withState_174 : decode cX4_withState 174 = .ok (.iload_n 2, 1) := by decide +kernel
theorem dX4_withState_175 : decode cX4_withState 175 = .ok (.invokevirtual 110, 3) := by decide +kernel
theorem dX4_withState_178 : decode cX4_withState 178 = .ok (.ireturn, 1) := by decide +kernel
theorem dX4_withState_179 : decode cX4_withState 179 = .ok (.iload_n 2, 1) := by decide +kernel
theorem dX4_withState_180 : decode cX4_withState 180 = .ok (.aload_n 0, 1) := by decide +kernel
theorem dX4_withState_181 : decode cX4_withState 181 = .ok (.getfield 13, 3) := by decide +kernel
theorem dX4_withState_184 : decode cX4_withState 184 = .ok (.iload_n 1, 1) := by decide +kernel
theorem dX4_withState_185 : decode cX4_withState 185 = .ok (.iaload, 1) := by decide +kernel
theorem dX4_withState_186 : decode cX4_withState 186 = .ok (.if_icmp .ge 12, 3) := by decide +kernel
theorem dX4_withState_189 : decode cX4_withState 189 = .ok (.aload_n 0, 1) := by decide +kernel
theorem dX4_withState_190 : decode cX4_withState 190 = .ok (.getfield 13, 3) := by decide +kernel
theorem dX4_withState_193 : decode cX4_withState 193 = .ok (.iload_n 1, 1) := by decide +kernel
theorem dX4_withState_194 : decode cX4_withState 194 = .ok (.iaload, 1) := by decide +kernel
theorem dX4_withState_195 : decode cX4_withState 195 = .ok (.goto 23, 3) := by decide +kernel
theorem dX4_withState_198 : decode cX4_withState 198 = .ok (.iload_n 2, 1) := by decide +kernel
theorem dX4_withState_199 : decode cX4_withState 199 = .ok (.aload_n 0, 1) := by decide +kernel
theorem dX4_withState_200 : decode cX4_withState 200 = .ok (.getfield 16, 3) := by decide +kernel
theorem dX4_withState_203 : decode cX4_withState 203 = .ok (.iload_n 1, 1) := by decide +kernel
theorem dX4_withState_204 : decode cX4_withState 204 = .ok (.iaload, 1) := by decide +kernel
theorem dX4_withState_205 : decode cX4_withState 205 = .ok (.if_icmp .le 12, 3) := by decide +kernel
theorem dX4_withState_208 : decode cX4_withState 208 = .ok (.aload_n 0, 1) := by decide +kernel
theorem dX4_withState_209 : decode cX4_withState 209 = .ok (.getfield 16, 3) := by decide +kernel
theorem dX4_withState_212 : decode cX4_withState 212 = .ok (.iload_n 1, 1) := by decide +kernel
theorem dX4_withState_213 : decode cX4_withState 213 = .ok (.iaload, 1) := by decide +kernel
theorem dX4_withState_214 : decode cX4_withState 214 = .ok (.goto 4, 3) := by decide +kernel
theorem dX4_withState_217 : decode cX4_withState 217 = .ok (.iload_n 2, 1) := by decide +kernel
theorem dX4_withState_218 : decode cX4_withState 218 = .ok (.ireturn, 1) := by decide +kernel
theorem dX4_withState_219 : decode cX4_withState 219 = .ok (.iload_n 3, 1) := by decide +kernel
theorem dX4_withState_220 : decode cX4_withState 220 = .ok (.ifCond .eq 12, 3) := by decide +kernel
theorem dX4_withState_223 : decode cX4_withState 223 = .ok (.aload_n 0, 1) := by decide +kernel
theorem dX4_withState_224 : decode cX4_withState 224 = .ok (.getfield 25, 3) := by decide +kernel
theorem dX4_withState_227 : decode cX4_withState 227 = .ok (.iload_n 1, 1) := by decide +kernel
theorem dX4_withState_228 : decode cX4_withState 228 = .ok (.iaload, 1) := by decide +kernel
theorem dX4_withState_229 : decode cX4_withState 229 = .ok (.goto 4, 3) := by decide +kernel
theorem dX4_withState_232 : decode cX4_withState 232 = .ok (.iload_n 2, 1) := by decide +kernel
theorem dX4_withState_233 : decode cX4_withState 233 = .ok (.ireturn, 1) := by decide +kernel
theorem dX4_withState_234 : decode cX4_withState 234 = .ok (.aload_n 0, 1) := by decide +kernel
theorem dX4_withState_235 : decode cX4_withState 235 = .ok (.getfield 28, 3) := by decide +kernel
theorem dX4_withState_238 : decode cX4_withState 238 = .ok (.iload_n 1, 1) := by decide +kernel
theorem dX4_withState_239 : decode cX4_withState 239 = .ok (.iload_n 3, 1) := by decide +kernel
theorem dX4_withState_240 : decode cX4_withState 240 = .ok (.ifCond .eq 7, 3) := by decide +kernel
theorem dX4_withState_243 : decode cX4_withState 243 = .ok (.iconst 0, 1) := by decide +kernel
theorem dX4_withState_244 : decode cX4_withState 244 = .ok (.goto 11, 3) := by decide +kernel
theorem dX4_withState_247 : decode cX4_withState 247 = .ok (.aload_n 0, 1) := by decide +kernel
theorem dX4_withState_248 : decode cX4_withState 248 = .ok (.getfield 28, 3) := by decide +kernel
theorem dX4_withState_251 : decode cX4_withState 251 = .ok (.iload_n 1, 1) := by decide +kernel
theorem dX4_withState_252 : decode cX4_withState 252 = .ok (.iaload, 1) := by decide +kernel
theorem dX4_withState_253 : decode cX4_withState 253 = .ok (.iload_n 2, 1) := by decide +kernel
theorem dX4_withState_254 : decode cX4_withState 254 = .ok (.iadd, 1) := by decide +kernel
theorem dX4_withState_255 : decode cX4_withState 255 = .ok (.iastore, 1) := by decide +kernel
theorem dX4_withState_256 : decode cX4_withState 256 = .ok (.aload_n 0, 1) := by decide +kernel
theorem dX4_withState_257 : decode cX4_withState 257 = .ok (.getfield 28, 3) := by decide +kernel
theorem dX4_withState_260 : decode cX4_withState 260 = .ok (.iload_n 1, 1) := by decide +kernel
theorem dX4_withState_261 : decode cX4_withState 261 = .ok (.iaload, 1) := by decide +kernel
theorem dX4_withState_262 : decode cX4_withState 262 = .ok (.ireturn, 1) := by decide +kernel
theorem dX4_withState_263 : decode cX4_withState 263 = .ok (.aload_n 0, 1) := by decide +kernel
theorem dX4_withState_264 : decode cX4_withState 264 = .ok (.iload_n 1, 1) := by decide +kernel
theorem dX4_withState_265 : decode cX4_withState 265 = .ok (.iload_n 2, 1) := by decide +kernel
theorem dX4_withState_266 : decode cX4_withState 266 = .ok (.invokevirtual 113, 3) := by decide +kernel
theorem dX4_withState_269 : decode cX4_withState 269 = .ok (.ireturn, 1) := by decide +kernel
theorem dX4_fail_0 : decode cX4_fail 0 = .ok (.aload_n 0, 1) := by decide +kernel
theorem dX4_fail_1 : decode cX4_fail 1 = .ok (.getfield 53, 3) := by decide +kernel
theorem dX4_fail_4 : decode cX4_fail 4 = .ok (.iconst 0, 1) := by decide +kernel
theorem dX4_fail_5 : decode cX4_fail 5 = .ok (.dup2, 1) := by decide +kernel
theorem dX4_fail_6 : decode cX4_fail 6 = .ok (.iaload, 1) := by decide +kernel
theorem dX4_fail_7 : decode cX4_fail 7 = .ok (.iconst 1, 1) := by decide +kernel
theorem dX4_fail_8 : decode cX4_fail 8 = .ok (.iadd, 1) := by decide +kernel
theorem dX4_fail_9 : decode cX4_fail 9 = .ok (.iastore, 1) := by decide +kernel
theorem dX4_fail_10 : decode cX4_fail 10 = .ok (.aload_n 0, 1) := by decide +kernel
theorem dX4_fail_11 : decode cX4_fail 11 = .ok (.getfield 53, 3) := by decide +kernel
theorem dX4_fail_14 : decode cX4_fail 14 = .ok (.iload_n 2, 1) := by decide +kernel
theorem dX4_fail_15 : decode cX4_fail 15 = .ok (.dup2, 1) := by decide +kernel
theorem dX4_fail_16 : decode cX4_fail 16 = .ok (.iaload, 1) := by decide +kernel
theorem dX4_fail_17 : decode cX4_fail 17 = .ok (.iconst 1, 1) := by decide +kernel
theorem dX4_fail_18 : decode cX4_fail 18 = .ok (.iadd, 1) := by decide +kernel
theorem dX4_fail_19 : decode cX4_fail 19 = .ok (.iastore, 1) := by decide +kernel
theorem dX4_fail_20 : decode cX4_fail 20 = .ok (.iconst 3, 1) := by decide +kernel
theorem dX4_fail_21 : decode cX4_fail 21 = .ok (.aload_n 0, 1) := by decide +kernel
theorem dX4_fail_22 : decode cX4_fail 22 = .ok (.getfield 116, 3) := by decide +kernel
theorem dX4_fail_25 : decode cX4_fail 25 = .ok (.bipush 32, 2) := by decide +kernel
theorem dX4_fail_27 : decode cX4_fail 27 = .ok (.irem, 1) := by decide +kernel
theorem dX4_fail_28 : decode cX4_fail 28 = .ok (.imul, 1) := by decide +kernel
theorem dX4_fail_29 : decode cX4_fail 29 = .ok (.istore_n 3, 1) := by decide +kernel
theorem dX4_fail_30 : decode cX4_fail 30 = .ok (.aload_n 0, 1) := by decide +kernel
theorem dX4_fail_31 : decode cX4_fail 31 = .ok (.getfield 56, 3) := by decide +kernel
theorem dX4_fail_34 : decode cX4_fail 34 = .ok (.iload_n 3, 1) := by decide +kernel
theorem dX4_fail_35 : decode cX4_fail 35 = .ok (.aload_n 0, 1) := by decide +kernel
theorem dX4_fail_36 : decode cX4_fail 36 = .ok (.getfield 100, 3) := by decide +kernel
theorem dX4_fail_39 : decode cX4_fail 39 = .ok (.iastore, 1) := by decide +kernel
theorem dX4_fail_40 : decode cX4_fail 40 = .ok (.aload_n 0, 1) := by decide +kernel
theorem dX4_fail_41 : decode cX4_fail 41 = .ok (.getfield 56, 3) := by decide +kernel
theorem dX4_fail_44 : decode cX4_fail 44 = .ok (.iload_n 3, 1) := by decide +kernel
theorem dX4_fail_45 : decode cX4_fail 45 = .ok (.iconst 1, 1) := by decide +kernel
theorem dX4_fail_46 : decode cX4_fail 46 = .ok (.iadd, 1) := by decide +kernel
theorem dX4_fail_47 : decode cX4_fail 47 = .ok (.iload_n 1, 1) := by decide +kernel
theorem dX4_fail_48 : decode cX4_fail 48 = .ok (.iastore, 1) := by decide +kernel
theorem dX4_fail_49 : decode cX4_fail 49 = .ok (.aload_n 0, 1) := by decide +kernel
theorem dX4_fail_50 : decode cX4_fail 50 = .ok (.getfield 56, 3) := by decide +kernel
theorem dX4_fail_53 : decode cX4_fail 53 = .ok (.iload_n 3, 1) := by decide +kernel
theorem dX4_fail_54 : decode cX4_fail 54 = .ok (.iconst 2, 1) := by decide +kernel
theorem dX4_fail_55 : decode cX4_fail 55 = .ok (.iadd, 1) := by decide +kernel
theorem dX4_fail_56 : decode cX4_fail 56 = .ok (.iload_n 2, 1) := by decide +kernel
theorem dX4_fail_57 : decode cX4_fail 57 = .ok (.iastore, 1) := by decide +kernel
theorem dX4_fail_58 : decode cX4_fail 58 = .ok (.aload_n 0, 1) := by decide +kernel
theorem dX4_fail_59 : decode cX4_fail 59 = .ok (.dup, 1) := by decide +kernel
theorem dX4_fail_60 : decode cX4_fail 60 = .ok (.getfield 116, 3) := by decide +kernel
theorem dX4_fail_63 : decode cX4_fail 63 = .ok (.iconst 1, 1) := by decide +kernel
theorem dX4_fail_64 : decode cX4_fail 64 = .ok (.iadd, 1) := by decide +kernel
theorem dX4_fail_65 : decode cX4_fail 65 = .ok (.putfield 116, 3) := by decide +kernel
theorem dX4_fail_68 : decode cX4_fail 68 = .ok (.return_, 1) := by decide +kernel
set_option maxRecDepth 20000 in
theorem ggX4_reckon_X4_inputsOf : GoodIn wsX4_reckon wsX4_inputsOf := goodIn_r _ [11, 12, 13, 10, 14] (by decide +kernel) (by decide +kernel)
set_option maxRecDepth 20000 in
theorem gX4_reckon_X4_inputsOf : GoodIn wsX4_reckon (va_wsS RX4 80 yX4_inputsOf wsX4_inputsOf) := goodIn_app (goodIn_of _ (by decide +kernel)) ggX4_reckon_X4_inputsOf
set_option maxRecDepth 20000 in
theorem ggX4_reckon_X4_input : GoodIn wsX4_reckon wsX4_input := goodIn_r _ [18, 3, 2, 5, 8, 9, 10, 11, 12, 13, 14, 60, 61, 62, 63, 64, 65, 66, 67, 68, 69, 70, 71, 72, 73, 74, 75, 76, 77, 78, 79, 80, 81, 82, 83, 84] (by decide +kernel) (by decide +kernel)
set_option maxRecDepth 20000 in
theorem gX4_reckon_X4_input : GoodIn wsX4_reckon (wsV RX4 119 RX4 yX4_input wsX4_input) := goodIn_app (goodIn_of _ (by decide +kernel)) ggX4_reckon_X4_input
set_option maxRecDepth 20000 in
theorem ggX4_reckon_X4_plain : GoodIn wsX4_reckon wsX4_plain := goodIn_r _ [22, 2, 23, 1, 24, 25, 12, 13, 10, 14, 26, 27, 28, 60, 61, 62, 63, 64, 65, 66, 67, 68, 69, 70, 71, 72, 73, 74, 75, 76, 77, 78, 79, 80, 81, 82, 83, 84] (by decide +kernel) (by decide +kernel)
set_option maxRecDepth 20000 in
theorem gX4_reckon_X4_plain : GoodIn wsX4_reckon (wsV RX4 122 RX4 yX4_plain wsX4_plain) := goodIn_app (goodIn_of _ (by decide +kernel)) ggX4_reckon_X4_plain
set_option maxRecDepth 20000 in
theorem ggX4_reckon_X4_withState : GoodIn wsX4_reckon wsX4_withState := goodIn_r _ [32, 2, 33, 34, 23, 35, 5, 36, 37, 38, 10, 39, 40, 41, 42, 43, 44, 26, 27, 28, 45, 46, 47, 48, 49, 50, 51, 52, 60, 61, 62, 63, 64, 65, 66, 67, 68, 69, 70, 71, 72, 73, 74, 75, 76, 77, 78, 79, 80, 81, 82, 83, 84] (by decide +kernel) (by decide +kernel)
set_option maxRecDepth 20000 in
theorem gX4_reckon_X4_withState : GoodIn wsX4_reckon (wsV RX4 126 RX4 yX4_withState wsX4_withState) := goodIn_app (goodIn_of _ (by decide +kernel)) ggX4_reckon_X4_withState
set_option maxRecDepth 20000 in
theorem ggX4_reckon_X4_fail : GoodIn wsX4_reckon wsX4_fail := goodIn_r _ [56, 57, 58, 59, 44, 60, 61, 62, 63, 64, 65, 66, 67, 68, 69, 70, 71, 72, 73, 74, 75, 76, 77, 78, 79, 80, 81, 82, 83, 84] (by decide +kernel) (by decide +kernel)
set_option maxRecDepth 20000 in
theorem gX4_reckon_X4_fail : GoodIn wsX4_reckon (wsV RX4 130 RX4 yX4_fail wsX4_fail) := goodIn_app (goodIn_of _ (by decide +kernel)) ggX4_reckon_X4_fail
theorem dX4_reckon_0 : decode cX4_reckon 0 = .ok (.aload_n 0, 1) := by decide +kernel
theorem dX4_reckon_1 : decode cX4_reckon 1 = .ok (.iconst 0, 1) := by decide +kernel
theorem dX4_reckon_2 : decode cX4_reckon 2 = .ok (.putfield 93, 3) := by decide +kernel
theorem dX4_reckon_5 : decode cX4_reckon 5 = .ok (.iconst 0, 1) := by decide +kernel
theorem dX4_reckon_6 : decode cX4_reckon 6 = .ok (.istore_n 2, 1) := by decide +kernel
theorem dX4_reckon_7 : decode cX4_reckon 7 = .ok (.iload_n 2, 1) := by decide +kernel
theorem dX4_reckon_8 : decode cX4_reckon 8 = .ok (.aload_n 0, 1) := by decide +kernel
theorem dX4_reckon_9 : decode cX4_reckon 9 = .ok (.getfield 7, 3) := by decide +kernel
theorem dX4_reckon_12 : decode cX4_reckon 12 = .ok (.iload_n 1, 1) := by decide +kernel
theorem dX4_reckon_13 : decode cX4_reckon 13 = .ok (.iaload, 1) := by decide +kernel
theorem dX4_reckon_14 : decode cX4_reckon 14 = .ok (.invokestatic 80, 3) := by decide +kernel
theorem dX4_reckon_17 : decode cX4_reckon 17 = .ok (.if_icmp .ge 46, 3) := by decide +kernel
theorem dX4_reckon_20 : decode cX4_reckon 20 = .ok (.aload_n 0, 1) := by decide +kernel
theorem dX4_reckon_21 : decode cX4_reckon 21 = .ok (.getfield 7, 3) := by decide +kernel
theorem dX4_reckon_24 : decode cX4_reckon 24 = .ok (.iload_n 1, 1) := by decide +kernel
theorem dX4_reckon_25 : decode cX4_reckon 25 = .ok (.iaload, 1) := by decide +kernel
theorem dX4_reckon_26 : decode cX4_reckon 26 = .ok (.bipush 16, 2) := by decide +kernel
theorem dX4_reckon_28 : decode cX4_reckon 28 = .ok (.if_icmp .eq 35, 3) := by decide +kernel
theorem dX4_reckon_31 : decode cX4_reckon 31 = .ok (.aload_n 0, 1) := by decide +kernel
theorem dX4_reckon_32 : decode cX4_reckon 32 = .ok (.aload_n 0, 1) := by decide +kernel
theorem dX4_reckon_33 : decode cX4_reckon 33 = .ok (.getfield 22, 3) := by decide +kernel
theorem dX4_reckon_36 : decode cX4_reckon 36 = .ok (.iconst 3, 1) := by decide +kernel
theorem dX4_reckon_37 : decode cX4_reckon 37 = .ok (.iload_n 1, 1) := by decide +kernel
theorem dX4_reckon_38 : decode cX4_reckon 38 = .ok (.imul, 1) := by decide +kernel
theorem dX4_reckon_39 : decode cX4_reckon 39 = .ok (.iload_n 2, 1) := by decide +kernel
theorem dX4_reckon_40 : decode cX4_reckon 40 = .ok (.iadd, 1) := by decide +kernel
theorem dX4_reckon_41 : decode cX4_reckon 41 = .ok (.iaload, 1) := by decide +kernel
theorem dX4_reckon_42 : decode cX4_reckon 42 = .ok (.iconst (-1), 1) := by decide +kernel
theorem dX4_reckon_43 : decode cX4_reckon 43 = .ok (.if_icmp .ne 7, 3) := by decide +kernel
theorem dX4_reckon_46 : decode cX4_reckon 46 = .ok (.iconst 3, 1) := by decide +kernel
theorem dX4_reckon_47 : decode cX4_reckon 47 = .ok (.goto 7, 3) := by decide +kernel
theorem dX4_reckon_50 : decode cX4_reckon 50 = .ok (.aload_n 0, 1) := by decide +kernel
theorem dX4_reckon_51 : decode cX4_reckon 51 = .ok (.getfield 93, 3) := by decide +kernel
theorem dX4_reckon_54 : decode cX4_reckon 54 = .ok (.putfield 93, 3) := by decide +kernel
theorem dX4_reckon_57 : decode cX4_reckon 57 = .ok (.iinc 2 1, 3) := by decide +kernel
theorem dX4_reckon_60 : decode cX4_reckon 60 = .ok (.goto (-53), 3) := by decide +kernel
theorem dX4_reckon_63 : decode cX4_reckon 63 = .ok (.iconst 0, 1) := by decide +kernel
theorem dX4_reckon_64 : decode cX4_reckon 64 = .ok (.istore_n 2, 1) := by decide +kernel
theorem dX4_reckon_65 : decode cX4_reckon 65 = .ok (.aload_n 0, 1) := by decide +kernel
theorem dX4_reckon_66 : decode cX4_reckon 66 = .ok (.getfield 93, 3) := by decide +kernel
theorem dX4_reckon_69 : decode cX4_reckon 69 = .ok (.ifCond .ne 58, 3) := by decide +kernel
theorem dX4_reckon_72 : decode cX4_reckon 72 = .ok (.aload_n 0, 1) := by decide +kernel
theorem dX4_reckon_73 : decode cX4_reckon 73 = .ok (.getfield 7, 3) := by decide +kernel
theorem dX4_reckon_76 : decode cX4_reckon 76 = .ok (.iload_n 1, 1) := by decide +kernel
theorem dX4_reckon_77 : decode cX4_reckon 77 = .ok (.iaload, 1) := by decide +kernel
theorem dX4_reckon_78 : decode cX4_reckon 78 = .ok (.bipush 15, 2) := by decide +kernel
theorem dX4_reckon_80 : decode cX4_reckon 80 = .ok (.if_icmp .gt 29, 3) := by decide +kernel
theorem dX4_reckon_83 : decode cX4_reckon 83 = .ok (.aload_n 0, 1) := by decide +kernel
theorem dX4_reckon_84 : decode cX4_reckon 84 = .ok (.iload_n 1, 1) := by decide +kernel
theorem dX4_reckon_85 : decode cX4_reckon 85 = .ok (.aload_n 0, 1) := by decide +kernel
theorem dX4_reckon_86 : decode cX4_reckon 86 = .ok (.iload_n 1, 1) := by decide +kernel
theorem dX4_reckon_87 : decode cX4_reckon 87 = .ok (.iconst 0, 1) := by decide +kernel
theorem dX4_reckon_88 : decode cX4_reckon 88 = .ok (.invokevirtual 119, 3) := by decide +kernel
theorem dX4_reckon_91 : decode cX4_reckon 91 = .ok (.aload_n 0, 1) := by decide +kernel
theorem dX4_reckon_92 : decode cX4_reckon 92 = .ok (.iload_n 1, 1) := by decide +kernel
theorem dX4_reckon_93 : decode cX4_reckon 93 = .ok (.iconst 1, 1) := by decide +kernel
theorem dX4_reckon_94 : decode cX4_reckon 94 = .ok (.invokevirtual 119, 3) := by decide +kernel
theorem dX4_reckon_97 : decode cX4_reckon 97 = .ok (.aload_n 0, 1) := by decide +kernel
theorem dX4_reckon_98 : decode cX4_reckon 98 = .ok (.iload_n 1, 1) := by decide +kernel
theorem dX4_reckon_99 : decode cX4_reckon 99 = .ok (.iconst 2, 1) := by decide +kernel
theorem dX4_reckon_100 : decode cX4_reckon 100 = .ok (.invokevirtual 119, 3) := by decide +kernel
theorem dX4_reckon_103 : decode cX4_reckon 103 = .ok (.invokevirtual 122, 3) := by decide +kernel
theorem dX4_reckon_106 : decode cX4_reckon 106 = .ok (.goto 20, 3) := by decide +kernel
theorem dX4_reckon_109 : decode cX4_reckon 109 = .ok (.aload_n 0, 1) := by decide +kernel
theorem dX4_reckon_110 : decode cX4_reckon 110 = .ok (.iload_n 1, 1) := by decide +kernel
theorem dX4_reckon_111 : decode cX4_reckon 111 = .ok (.aload_n 0, 1) := by decide +kernel
theorem dX4_reckon_112 : decode cX4_reckon 112 = .ok (.iload_n 1, 1) := by decide +kernel
theorem dX4_reckon_113 : decode cX4_reckon 113 = .ok (.iconst 0, 1) := by decide +kernel
theorem dX4_reckon_114 : decode cX4_reckon 114 = .ok (.invokevirtual 119, 3) := by decide +kernel
theorem dX4_reckon_117 : decode cX4_reckon 117 = .ok (.aload_n 0, 1) := by decide +kernel
theorem dX4_reckon_118 : decode cX4_reckon 118 = .ok (.iload_n 1, 1) := by decide +kernel
theorem dX4_reckon_119 : decode cX4_reckon 119 = .ok (.iconst 1, 1) := by decide +kernel
theorem dX4_reckon_120 : decode cX4_reckon 120 = .ok (.invokevirtual 119, 3) := by decide +kernel
theorem dX4_reckon_123 : decode cX4_reckon 123 = .ok (.invokevirtual 126, 3) := by decide +kernel
theorem dX4_reckon_126 : decode cX4_reckon 126 = .ok (.istore_n 2, 1) := by decide +kernel
theorem dX4_reckon_127 : decode cX4_reckon 127 = .ok (.aload_n 0, 1) := by decide +kernel
theorem dX4_reckon_128 : decode cX4_reckon 128 = .ok (.getfield 93, 3) := by decide +kernel
theorem dX4_reckon_131 : decode cX4_reckon 131 = .ok (.ifCond .le 19, 3) := by decide +kernel
theorem dX4_reckon_134 : decode cX4_reckon 134 = .ok (.aload_n 0, 1) := by decide +kernel
theorem dX4_reckon_135 : decode cX4_reckon 135 = .ok (.iload_n 1, 1) := by decide +kernel
theorem dX4_reckon_136 : decode cX4_reckon 136 = .ok (.aload_n 0, 1) := by decide +kernel
theorem dX4_reckon_137 : decode cX4_reckon 137 = .ok (.getfield 93, 3) := by decide +kernel
theorem dX4_reckon_140 : decode cX4_reckon 140 = .ok (.invokevirtual 130, 3) := by decide +kernel
theorem dX4_reckon_143 : decode cX4_reckon 143 = .ok (.aload_n 0, 1) := by decide +kernel
theorem dX4_reckon_144 : decode cX4_reckon 144 = .ok (.getfield 19, 3) := by decide +kernel
theorem dX4_reckon_147 : decode cX4_reckon 147 = .ok (.iload_n 1, 1) := by decide +kernel
theorem dX4_reckon_148 : decode cX4_reckon 148 = .ok (.iaload, 1) := by decide +kernel
theorem dX4_reckon_149 : decode cX4_reckon 149 = .ok (.istore_n 2, 1) := by decide +kernel
theorem dX4_reckon_150 : decode cX4_reckon 150 = .ok (.aload_n 0, 1) := by decide +kernel
theorem dX4_reckon_151 : decode cX4_reckon 151 = .ok (.getfield 25, 3) := by decide +kernel
theorem dX4_reckon_154 : decode cX4_reckon 154 = .ok (.iload_n 1, 1) := by decide +kernel
theorem dX4_reckon_155 : decode cX4_reckon 155 = .ok (.aload_n 0, 1) := by decide +kernel
theorem dX4_reckon_156 : decode cX4_reckon 156 = .ok (.getfield 37, 3) := by decide +kernel
theorem dX4_reckon_159 : decode cX4_reckon 159 = .ok (.iload_n 1, 1) := by decide +kernel
theorem dX4_reckon_160 : decode cX4_reckon 160 = .ok (.baload, 1) := by decide +kernel
theorem dX4_reckon_161 : decode cX4_reckon 161 = .ok (.ifCond .eq 12, 3) := by decide +kernel
theorem dX4_reckon_164 : decode cX4_reckon 164 = .ok (.aload_n 0, 1) := by decide +kernel
theorem dX4_reckon_165 : decode cX4_reckon 165 = .ok (.getfield 41, 3) := by decide +kernel
theorem dX4_reckon_168 : decode cX4_reckon 168 = .ok (.iload_n 1, 1) := by decide +kernel
theorem dX4_reckon_169 : decode cX4_reckon 169 = .ok (.iaload, 1) := by decide +kernel
theorem dX4_reckon_170 : decode cX4_reckon 170 = .ok (.goto 4, 3) := by decide +kernel
theorem dX4_reckon_173 : decode cX4_reckon 173 = .ok (.iload_n 2, 1) := by decide +kernel
theorem dX4_reckon_174 : decode cX4_reckon 174 = .ok (.iastore, 1) := by decide +kernel
theorem dX4_reckon_175 : decode cX4_reckon 175 = .ok (.return_, 1) := by decide +kernel
set_option maxRecDepth 20000 in
theorem ggX4_takeDelay_X4_fail : GoodIn wsX4_takeDelay wsX4_fail := goodIn_r _ [11, 12, 13, 14, 15, 16, 17, 18, 19, 20, 21, 22, 23, 24, 25, 26, 27, 28, 29, 30, 31, 32, 33, 34, 35, 36, 37, 38, 39, 40] (by decide +kernel) (by decide +kernel)
set_option maxRecDepth 20000 in
theorem gX4_takeDelay_X4_fail : GoodIn wsX4_takeDelay (wsV RX4 130 RX4 yX4_fail wsX4_fail) := goodIn_app (goodIn_of _ (by decide +kernel)) ggX4_takeDelay_X4_fail
theorem dX4_takeDelay_0 : decode cX4_takeDelay 0 = .ok (.aload_n 0, 1) := by decide +kernel
theorem dX4_takeDelay_1 : decode cX4_takeDelay 1 = .ok (.getfield 22, 3) := by decide +kernel
theorem dX4_takeDelay_4 : decode cX4_takeDelay 4 = .ok (.iconst 3, 1) := by decide +kernel
theorem dX4_takeDelay_5 : decode cX4_takeDelay 5 = .ok (.iload_n 1, 1) := by decide +kernel
theorem dX4_takeDelay_6 : decode cX4_takeDelay 6 = .ok (.imul, 1) := by decide +kernel
theorem dX4_takeDelay_7 : decode cX4_takeDelay 7 = .ok (.iaload, 1) := by decide +kernel
theorem dX4_takeDelay_8 : decode cX4_takeDelay 8 = .ok (.istore_n 2, 1) := by decide +kernel
theorem dX4_takeDelay_9 : decode cX4_takeDelay 9 = .ok (.iload_n 2, 1) := by decide +kernel
theorem dX4_takeDelay_10 : decode cX4_takeDelay 10 = .ok (.iconst (-1), 1) := by decide +kernel
theorem dX4_takeDelay_11 : decode cX4_takeDelay 11 = .ok (.if_icmp .eq 18, 3) := by decide +kernel
theorem dX4_takeDelay_14 : decode cX4_takeDelay 14 = .ok (.aload_n 0, 1) := by decide +kernel
theorem dX4_takeDelay_15 : decode cX4_takeDelay 15 = .ok (.getfield 28, 3) := by decide +kernel
theorem dX4_takeDelay_18 : decode cX4_takeDelay 18 = .ok (.iload_n 1, 1) := by decide +kernel
theorem dX4_takeDelay_19 : decode cX4_takeDelay 19 = .ok (.aload_n 0, 1) := by decide +kernel
theorem dX4_takeDelay_20 : decode cX4_takeDelay 20 = .ok (.getfield 25, 3) := by decide +kernel
theorem dX4_takeDelay_23 : decode cX4_takeDelay 23 = .ok (.iload_n 2, 1) := by decide +kernel
theorem dX4_takeDelay_24 : decode cX4_takeDelay 24 = .ok (.iaload, 1) := by decide +kernel
theorem dX4_takeDelay_25 : decode cX4_takeDelay 25 = .ok (.iastore, 1) := by decide +kernel
theorem dX4_takeDelay_26 : decode cX4_takeDelay 26 = .ok (.goto 39, 3) := by decide +kernel
theorem dX4_takeDelay_29 : decode cX4_takeDelay 29 = .ok (.aload_n 0, 1) := by decide +kernel
theorem dX4_takeDelay_30 : decode cX4_takeDelay 30 = .ok (.iload_n 1, 1) := by decide +kernel
theorem dX4_takeDelay_31 : decode cX4_takeDelay 31 = .ok (.iconst 3, 1) := by decide +kernel
theorem dX4_takeDelay_32 : decode cX4_takeDelay 32 = .ok (.invokevirtual 130, 3) := by decide +kernel
theorem dX4_takeDelay_35 : decode cX4_takeDelay 35 = .ok (.aload_n 0, 1) := by decide +kernel
theorem dX4_takeDelay_36 : decode cX4_takeDelay 36 = .ok (.getfield 25, 3) := by decide +kernel
theorem dX4_takeDelay_39 : decode cX4_takeDelay 39 = .ok (.iload_n 1, 1) := by decide +kernel
theorem dX4_takeDelay_40 : decode cX4_takeDelay 40 = .ok (.aload_n 0, 1) := by decide +kernel
theorem dX4_takeDelay_41 : decode cX4_takeDelay 41 = .ok (.getfield 37, 3) := by decide +kernel
theorem dX4_takeDelay_44 : decode cX4_takeDelay 44 = .ok (.iload_n 1, 1) := by decide +kernel
theorem dX4_takeDelay_45 : decode cX4_takeDelay 45 = .ok (.baload, 1) := by decide +kernel
theorem dX4_takeDelay_46 : decode cX4_takeDelay 46 = .ok (.ifCond .eq 12, 3) := by decide +kernel
theorem dX4_takeDelay_49 : decode cX4_takeDelay 49 = .ok (.aload_n 0, 1) := by decide +kernel
theorem dX4_takeDelay_50 : decode cX4_takeDelay 50 = .ok (.getfield 41, 3) := by decide +kernel
theorem dX4_takeDelay_53 : decode cX4_takeDelay 53 = .ok (.iload_n 1, 1) := by decide +kernel
theorem dX4_takeDelay_54 : decode cX4_takeDelay 54 = .ok (.iaload, 1) := by decide +kernel
theorem dX4_takeDelay_55 : decode cX4_takeDelay 55 = .ok (.goto 9, 3) := by decide +kernel
theorem dX4_takeDelay_58 : decode cX4_takeDelay 58 = .ok (.aload_n 0, 1) := by decide +kernel
theorem dX4_takeDelay_59 : decode cX4_takeDelay 59 = .ok (.getfield 19, 3) := by decide +kernel
theorem dX4_takeDelay_62 : decode cX4_takeDelay 62 = .ok (.iload_n 1, 1) := by decide +kernel
theorem dX4_takeDelay_63 : decode cX4_takeDelay 63 = .ok (.iaload, 1) := by decide +kernel
theorem dX4_takeDelay_64 : decode cX4_takeDelay 64 = .ok (.iastore, 1) := by decide +kernel
theorem dX4_takeDelay_65 : decode cX4_takeDelay 65 = .ok (.return_, 1) := by decide +kernel
set_option maxRecDepth 20000 in
theorem ggX4_run_X4_in : GoodIn wsX4_run wsX4_in := goodIn_r _ [10] (by decide +kernel) (by decide +kernel)
set_option maxRecDepth 20000 in
theorem gX4_run_X4_in : GoodIn wsX4_run (va_wsS RX4 72 yX4_in wsX4_in) := goodIn_app (goodIn_of _ (by decide +kernel)) ggX4_run_X4_in
set_option maxRecDepth 20000 in
theorem ggX4_run_X4_lay : GoodIn wsX4_run wsX4_lay := goodIn_r _ [14, 2, 3, 15, 5, 16, 17, 18, 9, 19, 6, 20, 21, 22, 23, 7, 8, 10, 81, 82, 83, 84, 85, 86, 87, 88, 89, 90, 91, 92, 93, 94, 95, 96, 97, 98, 99, 100, 101, 102, 103, 104, 105] (by decide +kernel) (by decide +kernel)
set_option maxRecDepth 20000 in
theorem gX4_run_X4_lay : GoodIn wsX4_run (wsV RX4 90 RX4 yX4_lay wsX4_lay) := goodIn_app (goodIn_of _ (by decide +kernel)) ggX4_run_X4_lay
set_option maxRecDepth 20000 in
theorem ggX4_run_X4_reckon : GoodIn wsX4_run wsX4_reckon := goodIn_r _ [27, 28, 6, 20, 29, 30, 31, 32, 21, 22, 9, 23, 7, 8, 10, 33, 34, 35, 36, 37, 38, 39, 40, 41, 42, 43, 44, 45, 46, 47, 48, 49, 50, 51, 52, 53, 54, 55, 56, 57, 58, 59, 60, 61, 4, 62, 63, 64, 65, 66, 67, 68, 69, 70, 71, 72, 73, 74, 75, 76, 81, 82, 83, 84, 85, 86, 87, 88, 89, 90, 91, 92, 93, 94, 95, 96, 97, 98, 99, 100, 101, 102, 103, 104, 105] (by decide +kernel) (by decide +kernel)
set_option maxRecDepth 20000 in
theorem gX4_run_X4_reckon : GoodIn wsX4_run (wsV RX4 134 RX4 yX4_reckon wsX4_reckon) := goodIn_app (goodIn_of _ (by decide +kernel)) ggX4_run_X4_reckon
set_option maxRecDepth 20000 in
theorem ggX4_run_X4_takeDelay : GoodIn wsX4_run wsX4_takeDelay := goodIn_r _ [80, 20, 51, 30, 31, 32, 29, 70, 71, 72, 9, 73, 74, 75, 76, 4, 81, 82, 83, 84, 85, 86, 87, 88, 89, 90, 91, 92, 93, 94, 95, 96, 97, 98, 99, 100, 101, 102, 103, 104, 105] (by decide +kernel) (by decide +kernel)
set_option maxRecDepth 20000 in
theorem gX4_run_X4_takeDelay : GoodIn wsX4_run (wsV RX4 138 RX4 yX4_takeDelay wsX4_takeDelay) := goodIn_app (goodIn_of _ (by decide +kernel)) ggX4_run_X4_takeDelay
theorem dX4_run_0 : decode cX4_run 0 = .ok (.aload_n 0, 1) := by decide +kernel
theorem dX4_run_1 : decode cX4_run 1 = .ok (.iload_n 1, 1) := by decide +kernel
theorem dX4_run_2 : decode cX4_run 2 = .ok (.iconst 1, 1) := by decide +kernel
theorem dX4_run_3 : decode cX4_run 3 = .ok (.sipush 500, 3) := by decide +kernel
theorem dX4_run_6 : decode cX4_run 6 = .ok (.invokestatic 72, 3) := by decide +kernel
theorem dX4_run_9 : decode cX4_run 9 = .ok (.ifCond .eq 7, 3) := by decide +kernel
theorem dX4_run_12 : decode cX4_run 12 = .ok (.iconst 0, 1) := by decide +kernel
theorem dX4_run_13 : decode cX4_run 13 = .ok (.goto 4, 3) := by decide +kernel
theorem dX4_run_16 : decode cX4_run 16 = .ok (.iconst 1, 1) := by decide +kernel
theorem dX4_run_17 : decode cX4_run 17 = .ok (.putfield 65, 3) := by decide +kernel
theorem dX4_run_20 : decode cX4_run 20 = .ok (.aload_n 0, 1) := by decide +kernel
theorem dX4_run_21 : decode cX4_run 21 = .ok (.getfield 65, 3) := by decide +kernel
theorem dX4_run_24 : decode cX4_run 24 = .ok (.ifCond .le 5, 3) := by decide +kernel
theorem dX4_run_27 : decode cX4_run 27 = .ok (.iconst 0, 1) := by decide +kernel
theorem dX4_run_28 : decode cX4_run 28 = .ok (.ireturn, 1) := by decide +kernel
theorem dX4_run_29 : decode cX4_run 29 = .ok (.aload_n 0, 1) := by decide +kernel
theorem dX4_run_30 : decode cX4_run 30 = .ok (.invokevirtual 90, 3) := by decide +kernel
theorem dX4_run_33 : decode cX4_run 33 = .ok (.aload_n 0, 1) := by decide +kernel
theorem dX4_run_34 : decode cX4_run 34 = .ok (.aload_n 0, 1) := by decide +kernel
theorem dX4_run_35 : decode cX4_run 35 = .ok (.getfield 84, 3) := by decide +kernel
theorem dX4_run_38 : decode cX4_run 38 = .ok (.aload_n 0, 1) := by decide +kernel
theorem dX4_run_39 : decode cX4_run 39 = .ok (.getfield 69, 3) := by decide +kernel
theorem dX4_run_42 : decode cX4_run 42 = .ok (.if_icmp .lt 15, 3) := by decide +kernel
theorem dX4_run_45 : decode cX4_run 45 = .ok (.aload_n 0, 1) := by decide +kernel
theorem dX4_run_46 : decode cX4_run 46 = .ok (.getfield 100, 3) := by decide +kernel
theorem dX4_run_49 : decode cX4_run 49 = .ok (.iload_n 1, 1) := by decide +kernel
theorem dX4_run_50 : decode cX4_run 50 = .ok (.iadd, 1) := by decide +kernel
theorem dX4_run_51 : decode cX4_run 51 = .ok (.sipush 3000, 3) := by decide +kernel
theorem dX4_run_54 : decode cX4_run 54 = .ok (.if_icmp .le 7, 3) := by decide +kernel
theorem dX4_run_57 : decode cX4_run 57 = .ok (.iconst 2, 1) := by decide +kernel
theorem dX4_run_58 : decode cX4_run 58 = .ok (.goto 4, 3) := by decide +kernel
theorem dX4_run_61 : decode cX4_run 61 = .ok (.iconst 0, 1) := by decide +kernel
theorem dX4_run_62 : decode cX4_run 62 = .ok (.putfield 65, 3) := by decide +kernel
theorem dX4_run_65 : decode cX4_run 65 = .ok (.iconst 0, 1) := by decide +kernel
theorem dX4_run_66 : decode cX4_run 66 = .ok (.istore_n 2, 1) := by decide +kernel
theorem dX4_run_67 : decode cX4_run 67 = .ok (.iload_n 2, 1) := by decide +kernel
theorem dX4_run_68 : decode cX4_run 68 = .ok (.iload_n 1, 1) := by decide +kernel
theorem dX4_run_69 : decode cX4_run 69 = .ok (.if_icmp .ge 84, 3) := by decide +kernel
theorem dX4_run_72 : decode cX4_run 72 = .ok (.aload_n 0, 1) := by decide +kernel
theorem dX4_run_73 : decode cX4_run 73 = .ok (.getfield 65, 3) := by decide +kernel
theorem dX4_run_76 : decode cX4_run 76 = .ok (.ifCond .ne 77, 3) := by decide +kernel
theorem dX4_run_79 : decode cX4_run 79 = .ok (.aload_n 0, 1) := by decide +kernel
theorem dX4_run_80 : decode cX4_run 80 = .ok (.dup, 1) := by decide +kernel
theorem dX4_run_81 : decode cX4_run 81 = .ok (.getfield 100, 3) := by decide +kernel
theorem dX4_run_84 : decode cX4_run 84 = .ok (.iconst 1, 1) := by decide +kernel
theorem dX4_run_85 : decode cX4_run 85 = .ok (.iadd, 1) := by decide +kernel
theorem dX4_run_86 : decode cX4_run 86 = .ok (.putfield 100, 3) := by decide +kernel
theorem dX4_run_89 : decode cX4_run 89 = .ok (.iconst 0, 1) := by decide +kernel
theorem dX4_run_90 : decode cX4_run 90 = .ok (.istore_n 3, 1) := by decide +kernel
theorem dX4_run_91 : decode cX4_run 91 = .ok (.iload_n 3, 1) := by decide +kernel
theorem dX4_run_92 : decode cX4_run 92 = .ok (.aload_n 0, 1) := by decide +kernel
theorem dX4_run_93 : decode cX4_run 93 = .ok (.getfield 69, 3) := by decide +kernel
theorem dX4_run_96 : decode cX4_run 96 = .ok (.if_icmp .ge 19, 3) := by decide +kernel
theorem dX4_run_99 : decode cX4_run 99 = .ok (.aload_n 0, 1) := by decide +kernel
theorem dX4_run_100 : decode cX4_run 100 = .ok (.aload_n 0, 1) := by decide +kernel
theorem dX4_run_101 : decode cX4_run 101 = .ok (.getfield 47, 3) := by decide +kernel
theorem dX4_run_104 : decode cX4_run 104 = .ok (.iload_n 3, 1) := by decide +kernel
theorem dX4_run_105 : decode cX4_run 105 = .ok (.iaload, 1) := by decide +kernel
theorem dX4_run_106 : decode cX4_run 106 = .ok (.invokevirtual 134, 3) := by decide +kernel
theorem dX4_run_109 : decode cX4_run 109 = .ok (.iinc 3 1, 3) := by decide +kernel
theorem dX4_run_112 : decode cX4_run 112 = .ok (.goto (-21), 3) := by decide +kernel
theorem dX4_run_115 : decode cX4_run 115 = .ok (.iconst 0, 1) := by decide +kernel
theorem dX4_run_116 : decode cX4_run 116 = .ok (.istore_n 3, 1) := by decide +kernel
theorem dX4_run_117 : decode cX4_run 117 = .ok (.iload_n 3, 1) := by decide +kernel
theorem dX4_run_118 : decode cX4_run 118 = .ok (.aload_n 0, 1) := by decide +kernel
theorem dX4_run_119 : decode cX4_run 119 = .ok (.getfield 69, 3) := by decide +kernel
theorem dX4_run_122 : decode cX4_run 122 = .ok (.if_icmp .ge 25, 3) := by decide +kernel
theorem dX4_run_125 : decode cX4_run 125 = .ok (.aload_n 0, 1) := by decide +kernel
theorem dX4_run_126 : decode cX4_run 126 = .ok (.getfield 7, 3) := by decide +kernel
theorem dX4_run_129 : decode cX4_run 129 = .ok (.iload_n 3, 1) := by decide +kernel
theorem dX4_run_130 : decode cX4_run 130 = .ok (.iaload, 1) := by decide +kernel
theorem dX4_run_131 : decode cX4_run 131 = .ok (.bipush 16, 2) := by decide +kernel
theorem dX4_run_133 : decode cX4_run 133 = .ok (.if_icmp .ne 8, 3) := by decide +kernel
theorem dX4_run_136 : decode cX4_run 136 = .ok (.aload_n 0, 1) := by decide +kernel
theorem dX4_run_137 : decode cX4_run 137 = .ok (.iload_n 3, 1) := by decide +kernel
theorem dX4_run_138 : decode cX4_run 138 = .ok (.invokevirtual 138, 3) := by decide +kernel
theorem dX4_run_141 : decode cX4_run 141 = .ok (.iinc 3 1, 3) := by decide +kernel
theorem dX4_run_144 : decode cX4_run 144 = .ok (.goto (-27), 3) := by decide +kernel
theorem dX4_run_147 : decode cX4_run 147 = .ok (.iinc 2 1, 3) := by decide +kernel
theorem dX4_run_150 : decode cX4_run 150 = .ok (.goto (-83), 3) := by decide +kernel
theorem dX4_run_153 : decode cX4_run 153 = .ok (.aload_n 0, 1) := by decide +kernel
theorem dX4_run_154 : decode cX4_run 154 = .ok (.getfield 65, 3) := by decide +kernel
theorem dX4_run_157 : decode cX4_run 157 = .ok (.ifCond .le 7, 3) := by decide +kernel
theorem dX4_run_160 : decode cX4_run 160 = .ok (.iconst 0, 1) := by decide +kernel
theorem dX4_run_161 : decode cX4_run 161 = .ok (.goto 7, 3) := by decide +kernel
theorem dX4_run_164 : decode cX4_run 164 = .ok (.aload_n 0, 1) := by decide +kernel
theorem dX4_run_165 : decode cX4_run 165 = .ok (.getfield 100, 3) := by decide +kernel
theorem dX4_run_168 : decode cX4_run 168 = .ok (.ireturn, 1) := by decide +kernel
set_option maxRecDepth 20000 in
theorem ggX4_out_X4_isBlock : GoodIn wsX4_out wsX4_isBlock := goodIn_r _ [7, 8, 9, 10, 6, 11, 12, 13, 14, 15, 16, 17, 18, 19, 20, 21, 22, 23, 24, 25, 26, 27, 28, 29, 30, 31, 32, 33, 34, 35, 36] (by decide +kernel) (by decide +kernel)
set_option maxRecDepth 20000 in
theorem gX4_out_X4_isBlock : GoodIn wsX4_out (wsV RX4 76 RX4 yX4_isBlock wsX4_isBlock) := goodIn_app (goodIn_of _ (by decide +kernel)) ggX4_out_X4_isBlock
theorem dX4_out_0 : decode cX4_out 0 = .ok (.aload_n 0, 1) := by decide +kernel
theorem dX4_out_1 : decode cX4_out 1 = .ok (.aload_n 0, 1) := by decide +kernel
theorem dX4_out_2 : decode cX4_out 2 = .ok (.iload_n 1, 1) := by decide +kernel
theorem dX4_out_3 : decode cX4_out 3 = .ok (.invokevirtual 76, 3) := by decide +kernel
theorem dX4_out_6 : decode cX4_out 6 = .ok (.ifCond .eq 7, 3) := by decide +kernel
theorem dX4_out_9 : decode cX4_out 9 = .ok (.iconst 0, 1) := by decide +kernel
theorem dX4_out_10 : decode cX4_out 10 = .ok (.goto 4, 3) := by decide +kernel
theorem dX4_out_13 : decode cX4_out 13 = .ok (.iconst 1, 1) := by decide +kernel
theorem dX4_out_14 : decode cX4_out 14 = .ok (.putfield 65, 3) := by decide +kernel
theorem dX4_out_17 : decode cX4_out 17 = .ok (.aload_n 0, 1) := by decide +kernel
theorem dX4_out_18 : decode cX4_out 18 = .ok (.getfield 65, 3) := by decide +kernel
theorem dX4_out_21 : decode cX4_out 21 = .ok (.ifCond .le 7, 3) := by decide +kernel
theorem dX4_out_24 : decode cX4_out 24 = .ok (.iconst 0, 1) := by decide +kernel
theorem dX4_out_25 : decode cX4_out 25 = .ok (.goto 9, 3) := by decide +kernel
theorem dX4_out_28 : decode cX4_out 28 = .ok (.aload_n 0, 1) := by decide +kernel
theorem dX4_out_29 : decode cX4_out 29 = .ok (.getfield 25, 3) := by decide +kernel
theorem dX4_out_32 : decode cX4_out 32 = .ok (.iload_n 1, 1) := by decide +kernel
theorem dX4_out_33 : decode cX4_out 33 = .ok (.iaload, 1) := by decide +kernel
theorem dX4_out_34 : decode cX4_out 34 = .ok (.ireturn, 1) := by decide +kernel
set_option maxRecDepth 20000 in
theorem ggX4_state_X4_isBlock : GoodIn wsX4_state wsX4_isBlock := goodIn_r _ [8, 9, 10, 11, 7, 12, 13, 14, 15, 16, 17, 18, 19, 20, 21, 22, 23, 24, 25, 26, 27, 28, 29, 30, 31, 32, 33, 34, 35, 36, 37] (by decide +kernel) (by decide +kernel)
set_option maxRecDepth 20000 in
theorem gX4_state_X4_isBlock : GoodIn wsX4_state (wsV RX4 76 RX4 yX4_isBlock wsX4_isBlock) := goodIn_app (goodIn_of _ (by decide +kernel)) ggX4_state_X4_isBlock
set_option maxRecDepth 20000 in
theorem ggX4_state_X4_in : GoodIn wsX4_state wsX4_in := goodIn_r _ [12] (by decide +kernel) (by decide +kernel)
set_option maxRecDepth 20000 in
theorem gX4_state_X4_in : GoodIn wsX4_state (va_wsS RX4 72 yX4_in wsX4_in) := goodIn_app (goodIn_of _ (by decide +kernel)) ggX4_state_X4_in
theorem dX4_state_0 : decode cX4_state 0 = .ok (.aload_n 0, 1) := by decide +kernel
theorem dX4_state_1 : decode cX4_state 1 = .ok (.aload_n 0, 1) := by decide +kernel
theorem dX4_state_2 : decode cX4_state 2 = .ok (.iload_n 1, 1) := by decide +kernel
theorem dX4_state_3 : decode cX4_state 3 = .ok (.invokevirtual 76, 3) := by decide +kernel
theorem dX4_state_6 : decode cX4_state 6 = .ok (.ifCond .eq 16, 3) := by decide +kernel
theorem dX4_state_9 : decode cX4_state 9 = .ok (.iload_n 2, 1) := by decide +kernel
theorem dX4_state_10 : decode cX4_state 10 = .ok (.iconst 0, 1) := by decide +kernel
theorem dX4_state_11 : decode cX4_state 11 = .ok (.iconst 1, 1) := by decide +kernel
theorem dX4_state_12 : decode cX4_state 12 = .ok (.invokestatic 72, 3) := by decide +kernel
theorem dX4_state_15 : decode cX4_state 15 = .ok (.ifCond .eq 7, 3) := by decide +kernel
theorem dX4_state_18 : decode cX4_state 18 = .ok (.iconst 0, 1) := by decide +kernel
theorem dX4_state_19 : decode cX4_state 19 = .ok (.goto 4, 3) := by decide +kernel
theorem dX4_state_22 : decode cX4_state 22 = .ok (.iconst 1, 1) := by decide +kernel
theorem dX4_state_23 : decode cX4_state 23 = .ok (.putfield 65, 3) := by decide +kernel
theorem dX4_state_26 : decode cX4_state 26 = .ok (.aload_n 0, 1) := by decide +kernel
theorem dX4_state_27 : decode cX4_state 27 = .ok (.getfield 65, 3) := by decide +kernel
theorem dX4_state_30 : decode cX4_state 30 = .ok (.ifCond .le 7, 3) := by decide +kernel
theorem dX4_state_33 : decode cX4_state 33 = .ok (.iconst 0, 1) := by decide +kernel
theorem dX4_state_34 : decode cX4_state 34 = .ok (.goto 22, 3) := by decide +kernel
theorem dX4_state_37 : decode cX4_state 37 = .ok (.iload_n 2, 1) := by decide +kernel
theorem dX4_state_38 : decode cX4_state 38 = .ok (.ifCond .ne 12, 3) := by decide +kernel
theorem dX4_state_41 : decode cX4_state 41 = .ok (.aload_n 0, 1) := by decide +kernel
theorem dX4_state_42 : decode cX4_state 42 = .ok (.getfield 28, 3) := by decide +kernel
theorem dX4_state_45 : decode cX4_state 45 = .ok (.iload_n 1, 1) := by decide +kernel
theorem dX4_state_46 : decode cX4_state 46 = .ok (.iaload, 1) := by decide +kernel
theorem dX4_state_47 : decode cX4_state 47 = .ok (.goto 9, 3) := by decide +kernel
theorem dX4_state_50 : decode cX4_state 50 = .ok (.aload_n 0, 1) := by decide +kernel
theorem dX4_state_51 : decode cX4_state 51 = .ok (.getfield 31, 3) := by decide +kernel
theorem dX4_state_54 : decode cX4_state 54 = .ok (.iload_n 1, 1) := by decide +kernel
theorem dX4_state_55 : decode cX4_state 55 = .ok (.iaload, 1) := by decide +kernel
theorem dX4_state_56 : decode cX4_state 56 = .ok (.ireturn, 1) := by decide +kernel
set_option maxRecDepth 20000 in
theorem ggX4_failed_X4_in : GoodIn wsX4_failed wsX4_in := goodIn_r _ [6] (by decide +kernel) (by decide +kernel)
set_option maxRecDepth 20000 in
theorem gX4_failed_X4_in : GoodIn wsX4_failed (va_wsS RX4 72 yX4_in wsX4_in) := goodIn_app (goodIn_of _ (by decide +kernel)) ggX4_failed_X4_in
theorem dX4_failed_0 : decode cX4_failed 0 = .ok (.aload_n 0, 1) := by decide +kernel
theorem dX4_failed_1 : decode cX4_failed 1 = .ok (.iload_n 1, 1) := by decide +kernel
theorem dX4_failed_2 : decode cX4_failed 2 = .ok (.iconst 0, 1) := by decide +kernel
theorem dX4_failed_3 : decode cX4_failed 3 = .ok (.iconst 3, 1) := by decide +kernel
theorem dX4_failed_4 : decode cX4_failed 4 = .ok (.invokestatic 72, 3) := by decide +kernel
theorem dX4_failed_7 : decode cX4_failed 7 = .ok (.ifCond .eq 7, 3) := by decide +kernel
theorem dX4_failed_10 : decode cX4_failed 10 = .ok (.iconst 0, 1) := by decide +kernel
theorem dX4_failed_11 : decode cX4_failed 11 = .ok (.goto 4, 3) := by decide +kernel
theorem dX4_failed_14 : decode cX4_failed 14 = .ok (.iconst 1, 1) := by decide +kernel
theorem dX4_failed_15 : decode cX4_failed 15 = .ok (.putfield 65, 3) := by decide +kernel
theorem dX4_failed_18 : decode cX4_failed 18 = .ok (.aload_n 0, 1) := by decide +kernel
theorem dX4_failed_19 : decode cX4_failed 19 = .ok (.getfield 65, 3) := by decide +kernel
theorem dX4_failed_22 : decode cX4_failed 22 = .ok (.ifCond .le 7, 3) := by decide +kernel
theorem dX4_failed_25 : decode cX4_failed 25 = .ok (.iconst 0, 1) := by decide +kernel
theorem dX4_failed_26 : decode cX4_failed 26 = .ok (.goto 9, 3) := by decide +kernel
theorem dX4_failed_29 : decode cX4_failed 29 = .ok (.aload_n 0, 1) := by decide +kernel
theorem dX4_failed_30 : decode cX4_failed 30 = .ok (.getfield 53, 3) := by decide +kernel
theorem dX4_failed_33 : decode cX4_failed 33 = .ok (.iload_n 1, 1) := by decide +kernel
theorem dX4_failed_34 : decode cX4_failed 34 = .ok (.iaload, 1) := by decide +kernel
theorem dX4_failed_35 : decode cX4_failed 35 = .ok (.ireturn, 1) := by decide +kernel
set_option maxRecDepth 20000 in
theorem ggX4_failure_X4_in : GoodIn wsX4_failure wsX4_in := goodIn_r _ [7] (by decide +kernel) (by decide +kernel)
set_option maxRecDepth 20000 in
theorem gX4_failure_X4_in : GoodIn wsX4_failure (va_wsS RX4 72 yX4_in wsX4_in) := goodIn_app (goodIn_of _ (by decide +kernel)) ggX4_failure_X4_in
theorem dX4_failure_0 : decode cX4_failure 0 = .ok (.aload_n 0, 1) := by decide +kernel
theorem dX4_failure_1 : decode cX4_failure 1 = .ok (.iload_n 1, 1) := by decide +kernel
theorem dX4_failure_2 : decode cX4_failure 2 = .ok (.ifCond .lt 30, 3) := by decide +kernel
theorem dX4_failure_5 : decode cX4_failure 5 = .ok (.iload_n 1, 1) := by decide +kernel
theorem dX4_failure_6 : decode cX4_failure 6 = .ok (.aload_n 0, 1) := by decide +kernel
theorem dX4_failure_7 : decode cX4_failure 7 = .ok (.getfield 116, 3) := by decide +kernel
theorem dX4_failure_10 : decode cX4_failure 10 = .ok (.if_icmp .ge 22, 3) := by decide +kernel
theorem dX4_failure_13 : decode cX4_failure 13 = .ok (.iload_n 1, 1) := by decide +kernel
theorem dX4_failure_14 : decode cX4_failure 14 = .ok (.bipush 32, 2) := by decide +kernel
theorem dX4_failure_16 : decode cX4_failure 16 = .ok (.if_icmp .ge 16, 3) := by decide +kernel
theorem dX4_failure_19 : decode cX4_failure 19 = .ok (.iload_n 2, 1) := by decide +kernel
theorem dX4_failure_20 : decode cX4_failure 20 = .ok (.iconst 0, 1) := by decide +kernel
theorem dX4_failure_21 : decode cX4_failure 21 = .ok (.iconst 2, 1) := by decide +kernel
theorem dX4_failure_22 : decode cX4_failure 22 = .ok (.invokestatic 72, 3) := by decide +kernel
theorem dX4_failure_25 : decode cX4_failure 25 = .ok (.ifCond .eq 7, 3) := by decide +kernel
theorem dX4_failure_28 : decode cX4_failure 28 = .ok (.iconst 0, 1) := by decide +kernel
theorem dX4_failure_29 : decode cX4_failure 29 = .ok (.goto 4, 3) := by decide +kernel
theorem dX4_failure_32 : decode cX4_failure 32 = .ok (.iconst 1, 1) := by decide +kernel
theorem dX4_failure_33 : decode cX4_failure 33 = .ok (.putfield 65, 3) := by decide +kernel
theorem dX4_failure_36 : decode cX4_failure 36 = .ok (.aload_n 0, 1) := by decide +kernel
theorem dX4_failure_37 : decode cX4_failure 37 = .ok (.getfield 65, 3) := by decide +kernel
theorem dX4_failure_40 : decode cX4_failure 40 = .ok (.ifCond .le 7, 3) := by decide +kernel
theorem dX4_failure_43 : decode cX4_failure 43 = .ok (.iconst 0, 1) := by decide +kernel
theorem dX4_failure_44 : decode cX4_failure 44 = .ok (.goto 23, 3) := by decide +kernel
theorem dX4_failure_47 : decode cX4_failure 47 = .ok (.aload_n 0, 1) := by decide +kernel
theorem dX4_failure_48 : decode cX4_failure 48 = .ok (.getfield 56, 3) := by decide +kernel
theorem dX4_failure_51 : decode cX4_failure 51 = .ok (.iconst 3, 1) := by decide +kernel
theorem dX4_failure_52 : decode cX4_failure 52 = .ok (.aload_n 0, 1) := by decide +kernel
theorem dX4_failure_53 : decode cX4_failure 53 = .ok (.getfield 116, 3) := by decide +kernel
theorem dX4_failure_56 : decode cX4_failure 56 = .ok (.iconst 1, 1) := by decide +kernel
theorem dX4_failure_57 : decode cX4_failure 57 = .ok (.isub, 1) := by decide +kernel
theorem dX4_failure_58 : decode cX4_failure 58 = .ok (.iload_n 1, 1) := by decide +kernel
theorem dX4_failure_59 : decode cX4_failure 59 = .ok (.isub, 1) := by decide +kernel
theorem dX4_failure_60 : decode cX4_failure 60 = .ok (.bipush 32, 2) := by decide +kernel
theorem dX4_failure_62 : decode cX4_failure 62 = .ok (.irem, 1) := by decide +kernel
theorem dX4_failure_63 : decode cX4_failure 63 = .ok (.imul, 1) := by decide +kernel
theorem dX4_failure_64 : decode cX4_failure 64 = .ok (.iload_n 2, 1) := by decide +kernel
theorem dX4_failure_65 : decode cX4_failure 65 = .ok (.iadd, 1) := by decide +kernel
theorem dX4_failure_66 : decode cX4_failure 66 = .ok (.iaload, 1) := by decide +kernel
theorem dX4_failure_67 : decode cX4_failure 67 = .ok (.ireturn, 1) := by decide +kernel
theorem dX4_save_0 : decode cX4_save 0 = .ok (.aload_n 0, 1) := by decide +kernel
theorem dX4_save_1 : decode cX4_save 1 = .ok (.aload_n 0, 1) := by decide +kernel
theorem dX4_save_2 : decode cX4_save 2 = .ok (.getfield 141, 3) := by decide +kernel
theorem dX4_save_5 : decode cX4_save 5 = .ok (.iconst 5, 1) := by decide +kernel
theorem dX4_save_6 : decode cX4_save 6 = .ok (.if_icmp .ne 7, 3) := by decide +kernel
theorem dX4_save_9 : decode cX4_save 9 = .ok (.iconst 1, 1) := by decide +kernel
theorem dX4_save_10 : decode cX4_save 10 = .ok (.goto 4, 3) := by decide +kernel
theorem dX4_save_13 : decode cX4_save 13 = .ok (.iconst 0, 1) := by decide +kernel
theorem dX4_save_14 : decode cX4_save 14 = .ok (.putfield 65, 3) := by decide +kernel
theorem dX4_save_17 : decode cX4_save 17 = .ok (.aload_n 0, 1) := by decide +kernel
theorem dX4_save_18 : decode cX4_save 18 = .ok (.getfield 65, 3) := by decide +kernel
theorem dX4_save_21 : decode cX4_save 21 = .ok (.ifCond .le 5, 3) := by decide +kernel
theorem dX4_save_24 : decode cX4_save 24 = .ok (.iconst 0, 1) := by decide +kernel
theorem dX4_save_25 : decode cX4_save 25 = .ok (.ireturn, 1) := by decide +kernel
theorem dX4_save_26 : decode cX4_save 26 = .ok (.aload_n 0, 1) := by decide +kernel
theorem dX4_save_27 : decode cX4_save 27 = .ok (.getfield 59, 3) := by decide +kernel
theorem dX4_save_30 : decode cX4_save 30 = .ok (.aload_n 0, 1) := by decide +kernel
theorem dX4_save_31 : decode cX4_save 31 = .ok (.getfield 141, 3) := by decide +kernel
theorem dX4_save_34 : decode cX4_save 34 = .ok (.aload_n 0, 1) := by decide +kernel
theorem dX4_save_35 : decode cX4_save 35 = .ok (.getfield 69, 3) := by decide +kernel
theorem dX4_save_38 : decode cX4_save 38 = .ok (.iastore, 1) := by decide +kernel
theorem dX4_save_39 : decode cX4_save 39 = .ok (.iconst 0, 1) := by decide +kernel
theorem dX4_save_40 : decode cX4_save 40 = .ok (.istore_n 1, 1) := by decide +kernel
theorem dX4_save_41 : decode cX4_save 41 = .ok (.iload_n 1, 1) := by decide +kernel
theorem dX4_save_42 : decode cX4_save 42 = .ok (.aload_n 0, 1) := by decide +kernel
theorem dX4_save_43 : decode cX4_save 43 = .ok (.getfield 69, 3) := by decide +kernel
theorem dX4_save_46 : decode cX4_save 46 = .ok (.if_icmp .ge 75, 3) := by decide +kernel
theorem dX4_save_49 : decode cX4_save 49 = .ok (.iconst 4, 1) := by decide +kernel
theorem dX4_save_50 : decode cX4_save 50 = .ok (.bipush 40, 2) := by decide +kernel
theorem dX4_save_52 : decode cX4_save 52 = .ok (.aload_n 0, 1) := by decide +kernel
theorem dX4_save_53 : decode cX4_save 53 = .ok (.getfield 141, 3) := by decide +kernel
theorem dX4_save_56 : decode cX4_save 56 = .ok (.imul, 1) := by decide +kernel
theorem dX4_save_57 : decode cX4_save 57 = .ok (.iload_n 1, 1) := by decide +kernel
theorem dX4_save_58 : decode cX4_save 58 = .ok (.iadd, 1) := by decide +kernel
theorem dX4_save_59 : decode cX4_save 59 = .ok (.imul, 1) := by decide +kernel
theorem dX4_save_60 : decode cX4_save 60 = .ok (.istore_n 2, 1) := by decide +kernel
theorem dX4_save_61 : decode cX4_save 61 = .ok (.aload_n 0, 1) := by decide +kernel
theorem dX4_save_62 : decode cX4_save 62 = .ok (.getfield 62, 3) := by decide +kernel
theorem dX4_save_65 : decode cX4_save 65 = .ok (.iload_n 2, 1) := by decide +kernel
theorem dX4_save_66 : decode cX4_save 66 = .ok (.aload_n 0, 1) := by decide +kernel
theorem dX4_save_67 : decode cX4_save 67 = .ok (.getfield 7, 3) := by decide +kernel
theorem dX4_save_70 : decode cX4_save 70 = .ok (.iload_n 1, 1) := by decide +kernel
theorem dX4_save_71 : decode cX4_save 71 = .ok (.iaload, 1) := by decide +kernel
theorem dX4_save_72 : decode cX4_save 72 = .ok (.iastore, 1) := by decide +kernel
theorem dX4_save_73 : decode cX4_save 73 = .ok (.aload_n 0, 1) := by decide +kernel
theorem dX4_save_74 : decode cX4_save 74 = .ok (.getfield 62, 3) := by decide +kernel
theorem dX4_save_77 : decode cX4_save 77 = .ok (.iload_n 2, 1) := by decide +kernel
theorem dX4_save_78 : decode cX4_save 78 = .ok (.iconst 1, 1) := by decide +kernel
theorem dX4_save_79 : decode cX4_save 79 = .ok (.iadd, 1) := by decide +kernel
theorem dX4_save_80 : decode cX4_save 80 = .ok (.aload_n 0, 1) := by decide +kernel
theorem dX4_save_81 : decode cX4_save 81 = .ok (.getfield 25, 3) := by decide +kernel
theorem dX4_save_84 : decode cX4_save 84 = .ok (.iload_n 1, 1) := by decide +kernel
theorem dX4_save_85 : decode cX4_save 85 = .ok (.iaload, 1) := by decide +kernel
theorem dX4_save_86 : decode cX4_save 86 = .ok (.iastore, 1) := by decide +kernel
theorem dX4_save_87 : decode cX4_save 87 = .ok (.aload_n 0, 1) := by decide +kernel
theorem dX4_save_88 : decode cX4_save 88 = .ok (.getfield 62, 3) := by decide +kernel
theorem dX4_save_91 : decode cX4_save 91 = .ok (.iload_n 2, 1) := by decide +kernel
theorem dX4_save_92 : decode cX4_save 92 = .ok (.iconst 2, 1) := by decide +kernel
theorem dX4_save_93 : decode cX4_save 93 = .ok (.iadd, 1) := by decide +kernel
theorem dX4_save_94 : decode cX4_save 94 = .ok (.aload_n 0, 1) := by decide +kernel
theorem dX4_save_95 : decode cX4_save 95 = .ok (.getfield 28, 3) := by decide +kernel
theorem dX4_save_98 : decode cX4_save 98 = .ok (.iload_n 1, 1) := by decide +kernel
theorem dX4_save_99 : decode cX4_save 99 = .ok (.iaload, 1) := by decide +kernel
theorem dX4_save_100 : decode cX4_save 100 = .ok (.iastore, 1) := by decide +kernel
theorem dX4_save_101 : decode cX4_save 101 = .ok (.aload_n 0, 1) := by decide +kernel
theorem dX4_save_102 : decode cX4_save 102 = .ok (.getfield 62, 3) := by decide +kernel
theorem dX4_save_105 : decode cX4_save 105 = .ok (.iload_n 2, 1) := by decide +kernel
theorem dX4_save_106 : decode cX4_save 106 = .ok (.iconst 3, 1) := by decide +kernel
theorem dX4_save_107 : decode cX4_save 107 = .ok (.iadd, 1) := by decide +kernel
theorem dX4_save_108 : decode cX4_save 108 = .ok (.aload_n 0, 1) := by decide +kernel
theorem dX4_save_109 : decode cX4_save 109 = .ok (.getfield 31, 3) := by decide +kernel
theorem dX4_save_112 : decode cX4_save 112 = .ok (.iload_n 1, 1) := by decide +kernel
theorem dX4_save_113 : decode cX4_save 113 = .ok (.iaload, 1) := by decide +kernel
theorem dX4_save_114 : decode cX4_save 114 = .ok (.iastore, 1) := by decide +kernel
theorem dX4_save_115 : decode cX4_save 115 = .ok (.iinc 1 1, 3) := by decide +kernel
theorem dX4_save_118 : decode cX4_save 118 = .ok (.goto (-77), 3) := by decide +kernel
theorem dX4_save_121 : decode cX4_save 121 = .ok (.aload_n 0, 1) := by decide +kernel
theorem dX4_save_122 : decode cX4_save 122 = .ok (.dup, 1) := by decide +kernel
theorem dX4_save_123 : decode cX4_save 123 = .ok (.getfield 141, 3) := by decide +kernel
theorem dX4_save_126 : decode cX4_save 126 = .ok (.iconst 1, 1) := by decide +kernel
theorem dX4_save_127 : decode cX4_save 127 = .ok (.iadd, 1) := by decide +kernel
theorem dX4_save_128 : decode cX4_save 128 = .ok (.putfield 141, 3) := by decide +kernel
theorem dX4_save_131 : decode cX4_save 131 = .ok (.aload_n 0, 1) := by decide +kernel
theorem dX4_save_132 : decode cX4_save 132 = .ok (.getfield 141, 3) := by decide +kernel
theorem dX4_save_135 : decode cX4_save 135 = .ok (.iconst 1, 1) := by decide +kernel
theorem dX4_save_136 : decode cX4_save 136 = .ok (.isub, 1) := by decide +kernel
theorem dX4_save_137 : decode cX4_save 137 = .ok (.ireturn, 1) := by decide +kernel
set_option maxRecDepth 20000 in
theorem ggX4_back_X4_in : GoodIn wsX4_back wsX4_in := goodIn_r _ [12] (by decide +kernel) (by decide +kernel)
set_option maxRecDepth 20000 in
theorem gX4_back_X4_in : GoodIn wsX4_back (va_wsS RX4 72 yX4_in wsX4_in) := goodIn_app (goodIn_of _ (by decide +kernel)) ggX4_back_X4_in
theorem dX4_back_0 : decode cX4_back 0 = .ok (.aload_n 0, 1) := by decide +kernel
theorem dX4_back_1 : decode cX4_back 1 = .ok (.iload_n 1, 1) := by decide +kernel
theorem dX4_back_2 : decode cX4_back 2 = .ok (.iconst 0, 1) := by decide +kernel
theorem dX4_back_3 : decode cX4_back 3 = .ok (.aload_n 0, 1) := by decide +kernel
theorem dX4_back_4 : decode cX4_back 4 = .ok (.getfield 141, 3) := by decide +kernel
theorem dX4_back_7 : decode cX4_back 7 = .ok (.iconst 1, 1) := by decide +kernel
theorem dX4_back_8 : decode cX4_back 8 = .ok (.isub, 1) := by decide +kernel
theorem dX4_back_9 : decode cX4_back 9 = .ok (.invokestatic 72, 3) := by decide +kernel
theorem dX4_back_12 : decode cX4_back 12 = .ok (.ifCond .eq 7, 3) := by decide +kernel
theorem dX4_back_15 : decode cX4_back 15 = .ok (.iconst 0, 1) := by decide +kernel
theorem dX4_back_16 : decode cX4_back 16 = .ok (.goto 4, 3) := by decide +kernel
theorem dX4_back_19 : decode cX4_back 19 = .ok (.iconst 1, 1) := by decide +kernel
theorem dX4_back_20 : decode cX4_back 20 = .ok (.putfield 65, 3) := by decide +kernel
theorem dX4_back_23 : decode cX4_back 23 = .ok (.iconst 0, 1) := by decide +kernel
theorem dX4_back_24 : decode cX4_back 24 = .ok (.istore_n 2, 1) := by decide +kernel
theorem dX4_back_25 : decode cX4_back 25 = .ok (.iconst 0, 1) := by decide +kernel
theorem dX4_back_26 : decode cX4_back 26 = .ok (.istore_n 3, 1) := by decide +kernel
theorem dX4_back_27 : decode cX4_back 27 = .ok (.aload_n 0, 1) := by decide +kernel
theorem dX4_back_28 : decode cX4_back 28 = .ok (.getfield 65, 3) := by decide +kernel
theorem dX4_back_31 : decode cX4_back 31 = .ok (.ifCond .ne 93, 3) := by decide +kernel
theorem dX4_back_34 : decode cX4_back 34 = .ok (.iload_n 3, 1) := by decide +kernel
theorem dX4_back_35 : decode cX4_back 35 = .ok (.aload_n 0, 1) := by decide +kernel
theorem dX4_back_36 : decode cX4_back 36 = .ok (.getfield 59, 3) := by decide +kernel
theorem dX4_back_39 : decode cX4_back 39 = .ok (.iload_n 1, 1) := by decide +kernel
theorem dX4_back_40 : decode cX4_back 40 = .ok (.iaload, 1) := by decide +kernel
theorem dX4_back_41 : decode cX4_back 41 = .ok (.if_icmp .ge 83, 3) := by decide +kernel
theorem dX4_back_44 : decode cX4_back 44 = .ok (.iconst 4, 1) := by decide +kernel
theorem dX4_back_45 : decode cX4_back 45 = .ok (.bipush 40, 2) := by decide +kernel
theorem dX4_back_47 : decode cX4_back 47 = .ok (.iload_n 1, 1) := by decide +kernel
theorem dX4_back_48 : decode cX4_back 48 = .ok (.imul, 1) := by decide +kernel
theorem dX4_back_49 : decode cX4_back 49 = .ok (.iload_n 3, 1) := by decide +kernel
theorem dX4_back_50 : decode cX4_back 50 = .ok (.iadd, 1) := by decide +kernel
theorem dX4_back_51 : decode cX4_back 51 = .ok (.imul, 1) := by decide +kernel
theorem dX4_back_52 : decode cX4_back 52 = .ok (.istore 4, 2) := by decide +kernel
theorem dX4_back_54 : decode cX4_back 54 = .ok (.aload_n 0, 1) := by decide +kernel
theorem dX4_back_55 : decode cX4_back 55 = .ok (.getfield 62, 3) := by decide +kernel
theorem dX4_back_58 : decode cX4_back 58 = .ok (.iload 4, 2) := by decide +kernel
theorem dX4_back_60 : decode cX4_back 60 = .ok (.iaload, 1) := by decide +kernel
theorem dX4_back_61 : decode cX4_back 61 = .ok (.aload_n 0, 1) := by decide +kernel
theorem dX4_back_62 : decode cX4_back 62 = .ok (.getfield 7, 3) := by decide +kernel
theorem dX4_back_65 : decode cX4_back 65 = .ok (.iload_n 3, 1) := by decide +kernel
theorem dX4_back_66 : decode cX4_back 66 = .ok (.iaload, 1) := by decide +kernel
theorem dX4_back_67 : decode cX4_back 67 = .ok (.if_icmp .ne 51, 3) := by decide +kernel
theorem dX4_back_70 : decode cX4_back 70 = .ok (.aload_n 0, 1) := by decide +kernel
theorem dX4_back_71 : decode cX4_back 71 = .ok (.getfield 25, 3) := by decide +kernel
theorem dX4_back_74 : decode cX4_back 74 = .ok (.iload_n 3, 1) := by decide +kernel
theorem dX4_back_75 : decode cX4_back 75 = .ok (.aload_n 0, 1) := by decide +kernel
theorem dX4_back_76 : decode cX4_back 76 = .ok (.getfield 62, 3) := by decide +kernel
theorem dX4_back_79 : decode cX4_back 79 = .ok (.iload 4, 2) := by decide +kernel
theorem dX4_back_81 : decode cX4_back 81 = .ok (.iconst 1, 1) := by decide +kernel
theorem dX4_back_82 : decode cX4_back 82 = .ok (.iadd, 1) := by decide +kernel
theorem dX4_back_83 : decode cX4_back 83 = .ok (.iaload, 1) := by decide +kernel
theorem dX4_back_84 : decode cX4_back 84 = .ok (.iastore, 1) := by decide +kernel
theorem dX4_back_85 : decode cX4_back 85 = .ok (.aload_n 0, 1) := by decide +kernel
theorem dX4_back_86 : decode cX4_back 86 = .ok (.getfield 28, 3) := by decide +kernel
theorem dX4_back_89 : decode cX4_back 89 = .ok (.iload_n 3, 1) := by decide +kernel
theorem dX4_back_90 : decode cX4_back 90 = .ok (.aload_n 0, 1) := by decide +kernel
theorem dX4_back_91 : decode cX4_back 91 = .ok (.getfield 62, 3) := by decide +kernel
theorem dX4_back_94 : decode cX4_back 94 = .ok (.iload 4, 2) := by decide +kernel
theorem dX4_back_96 : decode cX4_back 96 = .ok (.iconst 2, 1) := by decide +kernel
theorem dX4_back_97 : decode cX4_back 97 = .ok (.iadd, 1) := by decide +kernel
theorem dX4_back_98 : decode cX4_back 98 = .ok (.iaload, 1) := by decide +kernel
theorem dX4_back_99 : decode cX4_back 99 = .ok (.iastore, 1) := by decide +kernel
theorem dX4_back_100 : decode cX4_back 100 = .ok (.aload_n 0, 1) := by decide +kernel
theorem dX4_back_101 : decode cX4_back 101 = .ok (.getfield 31, 3) := by decide +kernel
theorem dX4_back_104 : decode cX4_back 104 = .ok (.iload_n 3, 1) := by decide +kernel
theorem dX4_back_105 : decode cX4_back 105 = .ok (.aload_n 0, 1) := by decide +kernel
theorem dX4_back_106 : decode cX4_back 106 = .ok (.getfield 62, 3) := by decide +kernel
theorem dX4_back_109 : decode cX4_back 109 = .ok (.iload 4, 2) := by decide +kernel
theorem dX4_back_111 : decode cX4_back 111 = .ok (.iconst 3, 1) := by decide +kernel
theorem dX4_back_112 : decode cX4_back 112 = .ok (.iadd, 1) := by decide +kernel
theorem dX4_back_113 : decode cX4_back 113 = .ok (.iaload, 1) := by decide +kernel
theorem dX4_back_114 : decode cX4_back 114 = .ok (.iastore, 1) := by decide +kernel
theorem dX4_back_115 : decode cX4_back 115 = .ok (.iinc 2 1, 3) := by decide +kernel
theorem dX4_back_118 : decode cX4_back 118 = .ok (.iinc 3 1, 3) := by decide +kernel
theorem dX4_back_121 : decode cX4_back 121 = .ok (.goto (-94), 3) := by decide +kernel
theorem dX4_back_124 : decode cX4_back 124 = .ok (.iload_n 2, 1) := by decide +kernel
theorem dX4_back_125 : decode cX4_back 125 = .ok (.ireturn, 1) := by decide +kernel
theorem dJ9_floorMod_7cf53_0 : decode cJ9_floorMod_7cf53 0 = .ok (.iload_n 0, 1) := by decide +kernel
theorem dJ9_floorMod_7cf53_1 : decode cJ9_floorMod_7cf53 1 = .ok (.iload_n 1, 1) := by decide +kernel
theorem dJ9_floorMod_7cf53_2 : decode cJ9_floorMod_7cf53 2 = .ok (.irem, 1) := by decide +kernel
theorem dJ9_floorMod_7cf53_3 : decode cJ9_floorMod_7cf53 3 = .ok (.istore_n 2, 1) := by decide +kernel
theorem dJ9_floorMod_7cf53_4 : decode cJ9_floorMod_7cf53 4 = .ok (.iload_n 0, 1) := by decide +kernel
theorem dJ9_floorMod_7cf53_5 : decode cJ9_floorMod_7cf53 5 = .ok (.iload_n 1, 1) := by decide +kernel
theorem dJ9_floorMod_7cf53_6 : decode cJ9_floorMod_7cf53 6 = .ok (.ixor, 1) := by decide +kernel
theorem dJ9_floorMod_7cf53_7 : decode cJ9_floorMod_7cf53 7 = .ok (.ifCond .ge 11, 3) := by decide +kernel
theorem dJ9_floorMod_7cf53_10 : decode cJ9_floorMod_7cf53 10 = .ok (.iload_n 2, 1) := by decide +kernel
theorem dJ9_floorMod_7cf53_11 : decode cJ9_floorMod_7cf53 11 = .ok (.ifCond .eq 7, 3) := by decide +kernel
theorem dJ9_floorMod_7cf53_14 : decode cJ9_floorMod_7cf53 14 = .ok (.iload_n 2, 1) := by decide +kernel
theorem dJ9_floorMod_7cf53_15 : decode cJ9_floorMod_7cf53 15 = .ok (.iload_n 1, 1) := by decide +kernel
theorem dJ9_floorMod_7cf53_16 : decode cJ9_floorMod_7cf53 16 = .ok (.iadd, 1) := by decide +kernel
theorem dJ9_floorMod_7cf53_17 : decode cJ9_floorMod_7cf53 17 = .ok (.ireturn, 1) := by decide +kernel
theorem dJ9_floorMod_7cf53_18 : decode cJ9_floorMod_7cf53 18 = .ok (.iload_n 2, 1) := by decide +kernel
theorem dJ9_floorMod_7cf53_19 : decode cJ9_floorMod_7cf53 19 = .ok (.ireturn, 1) := by decide +kernel
theorem dJ9_abs_067f4_0 : decode cJ9_abs_067f4 0 = .ok (.lload_n 0, 1) := by decide +kernel
theorem dJ9_abs_067f4_1 : decode cJ9_abs_067f4 1 = .ok (.lconst 0, 1) := by decide +kernel
theorem dJ9_abs_067f4_2 : decode cJ9_abs_067f4 2 = .ok (.lcmp, 1) := by decide +kernel
theorem dJ9_abs_067f4_3 : decode cJ9_abs_067f4 3 = .ok (.ifCond .ge 8, 3) := by decide +kernel
theorem dJ9_abs_067f4_6 : decode cJ9_abs_067f4 6 = .ok (.lload_n 0, 1) := by decide +kernel
theorem dJ9_abs_067f4_7 : decode cJ9_abs_067f4 7 = .ok (.lneg, 1) := by decide +kernel
theorem dJ9_abs_067f4_8 : decode cJ9_abs_067f4 8 = .ok (.goto 4, 3) := by decide +kernel
theorem dJ9_abs_067f4_11 : decode cJ9_abs_067f4 11 = .ok (.lload_n 0, 1) := by decide +kernel
theorem dJ9_abs_067f4_12 : decode cJ9_abs_067f4 12 = .ok (.lreturn, 1) := by decide +kernel
theorem dJ9_max_7cf53_0 : decode cJ9_max_7cf53 0 = .ok (.iload_n 0, 1) := by decide +kernel
theorem dJ9_max_7cf53_1 : decode cJ9_max_7cf53 1 = .ok (.iload_n 1, 1) := by decide +kernel
theorem dJ9_max_7cf53_2 : decode cJ9_max_7cf53 2 = .ok (.if_icmp .lt 7, 3) := by decide +kernel
theorem dJ9_max_7cf53_5 : decode cJ9_max_7cf53 5 = .ok (.iload_n 0, 1) := by decide +kernel
theorem dJ9_max_7cf53_6 : decode cJ9_max_7cf53 6 = .ok (.goto 4, 3) := by decide +kernel
theorem dJ9_max_7cf53_9 : decode cJ9_max_7cf53 9 = .ok (.iload_n 1, 1) := by decide +kernel
theorem dJ9_max_7cf53_10 : decode cJ9_max_7cf53 10 = .ok (.ireturn, 1) := by decide +kernel
theorem dJ9_min_7cf53_0 : decode cJ9_min_7cf53 0 = .ok (.iload_n 0, 1) := by decide +kernel
theorem dJ9_min_7cf53_1 : decode cJ9_min_7cf53 1 = .ok (.iload_n 1, 1) := by decide +kernel
theorem dJ9_min_7cf53_2 : decode cJ9_min_7cf53 2 = .ok (.if_icmp .gt 7, 3) := by decide +kernel
theorem dJ9_min_7cf53_5 : decode cJ9_min_7cf53 5 = .ok (.iload_n 0, 1) := by decide +kernel
theorem dJ9_min_7cf53_6 : decode cJ9_min_7cf53 6 = .ok (.goto 4, 3) := by decide +kernel
theorem dJ9_min_7cf53_9 : decode cJ9_min_7cf53 9 = .ok (.iload_n 1, 1) := by decide +kernel
theorem dJ9_min_7cf53_10 : decode cJ9_min_7cf53 10 = .ok (.ireturn, 1) := by decide +kernel
set_option maxRecDepth 20000 in
theorem ggL_block_X3_block : GoodIn wsL_block wsX3_block := goodIn_ca (goodIn_ca (goodIn_r _ [7, 8, 9, 10, 11, 12, 13, 14, 15, 16, 6, 17, 18, 19, 20, 21, 22, 23, 24, 25, 26, 27, 28, 29, 30, 31, 32, 33, 34, 35, 36, 37, 38, 39, 40, 41, 42, 43, 44, 45, 46, 47, 48, 49, 50, 51, 52, 53, 54, 55, 56, 57, 58] (by decide +kernel) (by decide +kernel)) (goodIn_sub (fun _ h => List.mem_cons_of_mem _ (List.mem_append_left _ (List.mem_append_right _ h))) (by decide +kernel))) (goodIn_sub (fun _ h => List.mem_cons_of_mem _ (List.mem_append_right _ h)) (by decide +kernel))
set_option maxRecDepth 20000 in
theorem gL_block_X3_block : GoodIn wsL_block (wsV RL 7 RX3 yX3_block wsX3_block) := goodIn_app (goodIn_of _ (by decide +kernel)) ggL_block_X3_block
theorem dL_block_0 : decode cL_block 0 = .ok (.aload_n 2, 1) := by decide +kernel
theorem dL_block_1 : decode cL_block 1 = .ok (.iconst 0, 1) := by decide +kernel
theorem dL_block_2 : decode cL_block 2 = .ok (.aload_n 0, 1) := by decide +kernel
theorem dL_block_3 : decode cL_block 3 = .ok (.iload_n 1, 1) := by decide +kernel
theorem dL_block_4 : decode cL_block 4 = .ok (.invokevirtual 7, 3) := by decide +kernel
theorem dL_block_7 : decode cL_block 7 = .ok (.i2l, 1) := by decide +kernel
theorem dL_block_8 : decode cL_block 8 = .ok (.lastore, 1) := by decide +kernel
theorem dL_block_9 : decode cL_block 9 = .ok (.goto 9, 3) := by decide +kernel
theorem dL_block_12 : decode cL_block 12 = .ok (.astore_n 3, 1) := by decide +kernel
theorem dL_block_13 : decode cL_block 13 = .ok (.iconst 1, 1) := by decide +kernel
theorem dL_block_14 : decode cL_block 14 = .ok (.ireturn, 1) := by decide +kernel
theorem dL_block_15 : decode cL_block 15 = .ok (.astore_n 3, 1) := by decide +kernel
theorem dL_block_16 : decode cL_block 16 = .ok (.iconst 2, 1) := by decide +kernel
theorem dL_block_17 : decode cL_block 17 = .ok (.ireturn, 1) := by decide +kernel
theorem dL_block_18 : decode cL_block 18 = .ok (.iconst 0, 1) := by decide +kernel
theorem dL_block_19 : decode cL_block 19 = .ok (.ireturn, 1) := by decide +kernel
set_option maxRecDepth 20000 in
theorem ggL_wire_X3_wire : GoodIn wsL_wire wsX3_wire := goodIn_ca (goodIn_r _ [6, 7, 8, 9, 10, 11, 12, 5, 13, 14, 15, 16, 17, 18, 19, 20, 21, 22, 23, 24, 25, 26, 27, 28, 29, 30, 31, 32, 33, 34, 35] (by decide +kernel) (by decide +kernel)) (goodIn_sub (fun _ h => List.mem_cons_of_mem _ (List.mem_append_right _ h)) (by decide +kernel))
set_option maxRecDepth 20000 in
theorem gL_wire_X3_wire : GoodIn wsL_wire (wsV RL 17 RX3 yX3_wire wsX3_wire) := goodIn_app (goodIn_of _ (by decide +kernel)) ggL_wire_X3_wire
theorem dL_wire_0 : decode cL_wire 0 = .ok (.aload 4, 2) := by decide +kernel
theorem dL_wire_2 : decode cL_wire 2 = .ok (.iconst 0, 1) := by decide +kernel
theorem dL_wire_3 : decode cL_wire 3 = .ok (.aload_n 0, 1) := by decide +kernel
theorem dL_wire_4 : decode cL_wire 4 = .ok (.iload_n 1, 1) := by decide +kernel
theorem dL_wire_5 : decode cL_wire 5 = .ok (.iload_n 2, 1) := by decide +kernel
theorem dL_wire_6 : decode cL_wire 6 = .ok (.iload_n 3, 1) := by decide +kernel
theorem dL_wire_7 : decode cL_wire 7 = .ok (.invokevirtual 17, 3) := by decide +kernel
theorem dL_wire_10 : decode cL_wire 10 = .ok (.i2l, 1) := by decide +kernel
theorem dL_wire_11 : decode cL_wire 11 = .ok (.lastore, 1) := by decide +kernel
theorem dL_wire_12 : decode cL_wire 12 = .ok (.goto 7, 3) := by decide +kernel
theorem dL_wire_15 : decode cL_wire 15 = .ok (.astore 5, 2) := by decide +kernel
theorem dL_wire_17 : decode cL_wire 17 = .ok (.iconst 1, 1) := by decide +kernel
theorem dL_wire_18 : decode cL_wire 18 = .ok (.ireturn, 1) := by decide +kernel
theorem dL_wire_19 : decode cL_wire 19 = .ok (.iconst 0, 1) := by decide +kernel
theorem dL_wire_20 : decode cL_wire 20 = .ok (.ireturn, 1) := by decide +kernel
set_option maxRecDepth 20000 in
theorem ggL_numbers_X3_numbers : GoodIn wsL_numbers wsX3_numbers := goodIn_ca (goodIn_r _ [6, 7, 8, 9, 10, 11, 5, 12, 13, 14, 15, 16, 17, 18, 19, 20, 21, 22, 23, 24, 25, 26, 27, 28, 29, 30, 31, 32, 33, 34, 35, 36] (by decide +kernel) (by decide +kernel)) (goodIn_sub (fun _ h => List.mem_cons_of_mem _ (List.mem_append_right _ h)) (by decide +kernel))
set_option maxRecDepth 20000 in
theorem gL_numbers_X3_numbers : GoodIn wsL_numbers (wsV RL 21 RX3 yX3_numbers wsX3_numbers) := goodIn_app (goodIn_of _ (by decide +kernel)) ggL_numbers_X3_numbers
theorem dL_numbers_0 : decode cL_numbers 0 = .ok (.aload_n 0, 1) := by decide +kernel
theorem dL_numbers_1 : decode cL_numbers 1 = .ok (.iload_n 1, 1) := by decide +kernel
theorem dL_numbers_2 : decode cL_numbers 2 = .ok (.iload_n 2, 1) := by decide +kernel
theorem dL_numbers_3 : decode cL_numbers 3 = .ok (.iload_n 3, 1) := by decide +kernel
theorem dL_numbers_4 : decode cL_numbers 4 = .ok (.invokevirtual 21, 3) := by decide +kernel
theorem dL_numbers_7 : decode cL_numbers 7 = .ok (.goto 7, 3) := by decide +kernel
theorem dL_numbers_10 : decode cL_numbers 10 = .ok (.astore 4, 2) := by decide +kernel
theorem dL_numbers_12 : decode cL_numbers 12 = .ok (.iconst 1, 1) := by decide +kernel
theorem dL_numbers_13 : decode cL_numbers 13 = .ok (.ireturn, 1) := by decide +kernel
theorem dL_numbers_14 : decode cL_numbers 14 = .ok (.iconst 0, 1) := by decide +kernel
theorem dL_numbers_15 : decode cL_numbers 15 = .ok (.ireturn, 1) := by decide +kernel
set_option maxRecDepth 20000 in
theorem ggL_row_X3_row : GoodIn wsL_row wsX3_row := goodIn_ca (goodIn_ca (goodIn_r _ [7, 8, 9, 10, 11, 12, 13, 14, 15, 16, 6, 17, 18, 19, 20, 21, 22, 23, 24, 25, 26, 27, 28, 29, 30, 31, 32, 33, 34, 35, 36, 37, 38, 39, 40, 41, 42] (by decide +kernel) (by decide +kernel)) (goodIn_sub (fun _ h => List.mem_cons_of_mem _ (List.mem_append_left _ (List.mem_append_right _ h))) (by decide +kernel))) (goodIn_sub (fun _ h => List.mem_cons_of_mem _ (List.mem_append_right _ h)) (by decide +kernel))
set_option maxRecDepth 20000 in
theorem gL_row_X3_row : GoodIn wsL_row (wsV RL 25 RX3 yX3_row wsX3_row) := goodIn_app (goodIn_of _ (by decide +kernel)) ggL_row_X3_row
theorem dL_row_0 : decode cL_row 0 = .ok (.aload 4, 2) := by decide +kernel
theorem dL_row_2 : decode cL_row 2 = .ok (.iconst 0, 1) := by decide +kernel
theorem dL_row_3 : decode cL_row 3 = .ok (.aload_n 0, 1) := by decide +kernel
theorem dL_row_4 : decode cL_row 4 = .ok (.iload_n 1, 1) := by decide +kernel
theorem dL_row_5 : decode cL_row 5 = .ok (.iload_n 2, 1) := by decide +kernel
theorem dL_row_6 : decode cL_row 6 = .ok (.iload_n 3, 1) := by decide +kernel
theorem dL_row_7 : decode cL_row 7 = .ok (.invokevirtual 25, 3) := by decide +kernel
theorem dL_row_10 : decode cL_row 10 = .ok (.i2l, 1) := by decide +kernel
theorem dL_row_11 : decode cL_row 11 = .ok (.lastore, 1) := by decide +kernel
theorem dL_row_12 : decode cL_row 12 = .ok (.goto 11, 3) := by decide +kernel
theorem dL_row_15 : decode cL_row 15 = .ok (.astore 5, 2) := by decide +kernel
theorem dL_row_17 : decode cL_row 17 = .ok (.iconst 1, 1) := by decide +kernel
theorem dL_row_18 : decode cL_row 18 = .ok (.ireturn, 1) := by decide +kernel
theorem dL_row_19 : decode cL_row 19 = .ok (.astore 5, 2) := by decide +kernel
theorem dL_row_21 : decode cL_row 21 = .ok (.iconst 2, 1) := by decide +kernel
theorem dL_row_22 : decode cL_row 22 = .ok (.ireturn, 1) := by decide +kernel
theorem dL_row_23 : decode cL_row 23 = .ok (.iconst 0, 1) := by decide +kernel
theorem dL_row_24 : decode cL_row 24 = .ok (.ireturn, 1) := by decide +kernel
set_option maxRecDepth 20000 in
theorem ggL_safe_X3_safe : GoodIn wsL_safe wsX3_safe := goodIn_ca (goodIn_r _ [6, 7, 8, 9, 10, 5, 11, 12, 13, 14, 15, 16, 17, 18, 19, 20, 21, 22, 23, 24, 25, 26, 27, 28, 29, 30, 31, 32, 33, 34, 35] (by decide +kernel) (by decide +kernel)) (goodIn_sub (fun _ h => List.mem_cons_of_mem _ (List.mem_append_right _ h)) (by decide +kernel))
set_option maxRecDepth 20000 in
theorem gL_safe_X3_safe : GoodIn wsL_safe (wsV RL 28 RX3 yX3_safe wsX3_safe) := goodIn_app (goodIn_of _ (by decide +kernel)) ggL_safe_X3_safe
theorem dL_safe_0 : decode cL_safe 0 = .ok (.aload_n 3, 1) := by decide +kernel
theorem dL_safe_1 : decode cL_safe 1 = .ok (.iconst 0, 1) := by decide +kernel
theorem dL_safe_2 : decode cL_safe 2 = .ok (.aload_n 0, 1) := by decide +kernel
theorem dL_safe_3 : decode cL_safe 3 = .ok (.iload_n 1, 1) := by decide +kernel
theorem dL_safe_4 : decode cL_safe 4 = .ok (.iload_n 2, 1) := by decide +kernel
theorem dL_safe_5 : decode cL_safe 5 = .ok (.invokevirtual 28, 3) := by decide +kernel
theorem dL_safe_8 : decode cL_safe 8 = .ok (.i2l, 1) := by decide +kernel
theorem dL_safe_9 : decode cL_safe 9 = .ok (.lastore, 1) := by decide +kernel
theorem dL_safe_10 : decode cL_safe 10 = .ok (.goto 7, 3) := by decide +kernel
theorem dL_safe_13 : decode cL_safe 13 = .ok (.astore 4, 2) := by decide +kernel
theorem dL_safe_15 : decode cL_safe 15 = .ok (.iconst 1, 1) := by decide +kernel
theorem dL_safe_16 : decode cL_safe 16 = .ok (.ireturn, 1) := by decide +kernel
theorem dL_safe_17 : decode cL_safe 17 = .ok (.iconst 0, 1) := by decide +kernel
theorem dL_safe_18 : decode cL_safe 18 = .ok (.ireturn, 1) := by decide +kernel
set_option maxRecDepth 20000 in
theorem ggL_point_X3_point : GoodIn wsL_point wsX3_point := goodIn_ca (goodIn_r _ [6, 7, 8, 9, 10, 11, 5, 12, 13, 14, 15, 16, 17, 18, 19, 20, 21] (by decide +kernel) (by decide +kernel)) (goodIn_sub (fun _ h => List.mem_cons_of_mem _ (List.mem_append_right _ h)) (by decide +kernel))
set_option maxRecDepth 20000 in
theorem gL_point_X3_point : GoodIn wsL_point (wsV RL 32 RX3 yX3_point wsX3_point) := goodIn_app (goodIn_of _ (by decide +kernel)) ggL_point_X3_point
theorem dL_point_0 : decode cL_point 0 = .ok (.aload_n 3, 1) := by decide +kernel
end
section
theorem dL_point_1 : decode cL_point 1 = .ok (.iconst 0, 1) := by decide +kernel
theorem dL_point_2 : decode cL_point 2 = .ok (.aload_n 0, 1) := by decide +kernel
theorem dL_point_3 : decode cL_point 3 = .ok (.iload_n 1, 1) := by decide +kernel
theorem dL_point_4 : decode cL_point 4 = .ok (.iload_n 2, 1) := by decide +kernel
theorem dL_point_5 : decode cL_point 5 = .ok (.invokevirtual 32, 3) := by decide +kernel
theorem dL_point_8 : decode cL_point 8 = .ok (.i2l, 1) := by decide +kernel
theorem dL_point_9 : decode cL_point 9 = .ok (.lastore, 1) := by decide +kernel
theorem dL_point_10 : decode cL_point 10 = .ok (.goto 7, 3) := by decide +kernel
theorem dL_point_13 : decode cL_point 13 = .ok (.astore 4, 2) := by decide +kernel
theorem dL_point_15 : decode cL_point 15 = .ok (.iconst 1, 1) := by decide +kernel
theorem dL_point_16 : decode cL_point 16 = .ok (.ireturn, 1) := by decide +kernel
theorem dL_point_17 : decode cL_point 17 = .ok (.iconst 0, 1) := by decide +kernel
theorem dL_point_18 : decode cL_point 18 = .ok (.ireturn, 1) := by decide +kernel
set_option maxRecDepth 20000 in
theorem ggL_hand_X3_hand : GoodIn wsL_hand wsX3_hand := goodIn_ca (goodIn_r _ [6, 7, 8, 9, 10, 11, 5, 12, 13, 14, 15, 16, 17, 18, 19, 20, 21, 22, 23, 24, 25, 26, 27, 28, 29, 30, 31, 32, 33, 34, 35, 36] (by decide +kernel) (by decide +kernel)) (goodIn_sub (fun _ h => List.mem_cons_of_mem _ (List.mem_append_right _ h)) (by decide +kernel))
set_option maxRecDepth 20000 in
theorem gL_hand_X3_hand : GoodIn wsL_hand (wsV RL 35 RX3 yX3_hand wsX3_hand) := goodIn_app (goodIn_of _ (by decide +kernel)) ggL_hand_X3_hand
theorem dL_hand_0 : decode cL_hand 0 = .ok (.aload 4, 2) := by decide +kernel
theorem dL_hand_2 : decode cL_hand 2 = .ok (.iconst 0, 1) := by decide +kernel
theorem dL_hand_3 : decode cL_hand 3 = .ok (.aload_n 0, 1) := by decide +kernel
theorem dL_hand_4 : decode cL_hand 4 = .ok (.iload_n 1, 1) := by decide +kernel
theorem dL_hand_5 : decode cL_hand 5 = .ok (.iload_n 2, 1) := by decide +kernel
theorem dL_hand_6 : decode cL_hand 6 = .ok (.iload_n 3, 1) := by decide +kernel
theorem dL_hand_7 : decode cL_hand 7 = .ok (.invokevirtual 35, 3) := by decide +kernel
theorem dL_hand_10 : decode cL_hand 10 = .ok (.ifCond .eq 7, 3) := by decide +kernel
theorem dL_hand_13 : decode cL_hand 13 = .ok (.lconst 1, 1) := by decide +kernel
theorem dL_hand_14 : decode cL_hand 14 = .ok (.goto 4, 3) := by decide +kernel
theorem dL_hand_17 : decode cL_hand 17 = .ok (.lconst 0, 1) := by decide +kernel
theorem dL_hand_18 : decode cL_hand 18 = .ok (.lastore, 1) := by decide +kernel
theorem dL_hand_19 : decode cL_hand 19 = .ok (.goto 7, 3) := by decide +kernel
theorem dL_hand_22 : decode cL_hand 22 = .ok (.astore 5, 2) := by decide +kernel
theorem dL_hand_24 : decode cL_hand 24 = .ok (.iconst 1, 1) := by decide +kernel
theorem dL_hand_25 : decode cL_hand 25 = .ok (.ireturn, 1) := by decide +kernel
theorem dL_hand_26 : decode cL_hand 26 = .ok (.iconst 0, 1) := by decide +kernel
theorem dL_hand_27 : decode cL_hand 27 = .ok (.ireturn, 1) := by decide +kernel
set_option maxRecDepth 20000 in
theorem ggL_at_X3_at : GoodIn wsL_at wsX3_at := goodIn_ca (goodIn_r _ [6, 7, 8, 9, 10, 11, 12, 13, 5, 14, 15, 16, 17, 18, 19, 20, 21, 22, 23, 24, 25, 26, 27, 28, 29, 30, 31, 32, 33, 34, 35, 36, 37, 38, 39, 40, 41, 42, 43, 44, 45, 46, 47, 48, 49, 50, 51, 52] (by decide +kernel) (by decide +kernel)) (goodIn_sub (fun _ h => List.mem_cons_of_mem _ (List.mem_append_right _ h)) (by decide +kernel))
set_option maxRecDepth 20000 in
theorem gL_at_X3_at : GoodIn wsL_at (wsV RL 39 RX3 yX3_at wsX3_at) := goodIn_app (goodIn_of _ (by decide +kernel)) ggL_at_X3_at
theorem dL_at_0 : decode cL_at 0 = .ok (.aload_n 2, 1) := by decide +kernel
theorem dL_at_1 : decode cL_at 1 = .ok (.iconst 0, 1) := by decide +kernel
theorem dL_at_2 : decode cL_at 2 = .ok (.aload_n 0, 1) := by decide +kernel
theorem dL_at_3 : decode cL_at 3 = .ok (.iload_n 1, 1) := by decide +kernel
theorem dL_at_4 : decode cL_at 4 = .ok (.invokevirtual 39, 3) := by decide +kernel
theorem dL_at_7 : decode cL_at 7 = .ok (.i2l, 1) := by decide +kernel
theorem dL_at_8 : decode cL_at 8 = .ok (.lastore, 1) := by decide +kernel
theorem dL_at_9 : decode cL_at 9 = .ok (.goto 6, 3) := by decide +kernel
theorem dL_at_12 : decode cL_at 12 = .ok (.astore_n 3, 1) := by decide +kernel
theorem dL_at_13 : decode cL_at 13 = .ok (.iconst 1, 1) := by decide +kernel
theorem dL_at_14 : decode cL_at 14 = .ok (.ireturn, 1) := by decide +kernel
theorem dL_at_15 : decode cL_at 15 = .ok (.iconst 0, 1) := by decide +kernel
theorem dL_at_16 : decode cL_at 16 = .ok (.ireturn, 1) := by decide +kernel
set_option maxRecDepth 20000 in
theorem ggL_run_X3_run : GoodIn wsL_run wsX3_run := goodIn_ca (goodIn_ca (goodIn_r _ [7, 8, 9, 10, 11, 12, 13, 14, 15, 16, 6, 17, 18, 19, 20, 21, 22, 23, 24, 25, 26, 27, 28, 29, 30, 31, 32, 33, 34, 35, 36, 37, 38, 39, 40, 41, 42, 43, 44, 45, 46, 47, 48, 49, 50, 51, 52, 53, 54, 55, 56, 57, 58, 59, 60, 61, 62, 63, 64, 65, 66, 67, 68, 69, 70, 71, 72, 73, 74, 75, 76, 77, 78, 79, 80, 81, 82, 83, 84, 85, 86, 87, 88, 89, 90, 91, 92, 93, 94, 95, 96, 97, 98, 99, 100, 101, 102, 103, 104, 105, 106, 107, 108, 109, 110, 111, 112, 113, 114, 115, 116, 117, 118, 119, 120, 121, 122, 123, 124, 125, 126, 127, 128, 129, 130, 131, 132, 133, 134, 135, 136, 137, 138, 139, 140, 141, 142, 143, 144, 145, 146, 147, 148, 149, 150, 151, 152, 153, 154, 155, 156, 157, 158, 159, 160, 161, 162, 163, 164, 165, 166, 167, 168, 169] (by decide +kernel) (by decide +kernel)) (goodIn_sub (fun _ h => List.mem_cons_of_mem _ (List.mem_append_left _ (List.mem_append_right _ h))) (by decide +kernel))) (goodIn_sub (fun _ h => List.mem_cons_of_mem _ (List.mem_append_right _ h)) (by decide +kernel))
set_option maxRecDepth 20000 in
theorem gL_run_X3_run : GoodIn wsL_run (wsV RL 42 RX3 yX3_run wsX3_run) := goodIn_app (goodIn_of _ (by decide +kernel)) ggL_run_X3_run
theorem dL_run_0 : decode cL_run 0 = .ok (.aload_n 2, 1) := by decide +kernel
theorem dL_run_1 : decode cL_run 1 = .ok (.iconst 0, 1) := by decide +kernel
theorem dL_run_2 : decode cL_run 2 = .ok (.aload_n 0, 1) := by decide +kernel
theorem dL_run_3 : decode cL_run 3 = .ok (.iload_n 1, 1) := by decide +kernel
theorem dL_run_4 : decode cL_run 4 = .ok (.invokevirtual 42, 3) := by decide +kernel
theorem dL_run_7 : decode cL_run 7 = .ok (.i2l, 1) := by decide +kernel
theorem dL_run_8 : decode cL_run 8 = .ok (.lastore, 1) := by decide +kernel
theorem dL_run_9 : decode cL_run 9 = .ok (.goto 9, 3) := by decide +kernel
theorem dL_run_12 : decode cL_run 12 = .ok (.astore_n 3, 1) := by decide +kernel
theorem dL_run_13 : decode cL_run 13 = .ok (.iconst 1, 1) := by decide +kernel
theorem dL_run_14 : decode cL_run 14 = .ok (.ireturn, 1) := by decide +kernel
theorem dL_run_15 : decode cL_run 15 = .ok (.astore_n 3, 1) := by decide +kernel
theorem dL_run_16 : decode cL_run 16 = .ok (.iconst 2, 1) := by decide +kernel
theorem dL_run_17 : decode cL_run 17 = .ok (.ireturn, 1) := by decide +kernel
theorem dL_run_18 : decode cL_run 18 = .ok (.iconst 0, 1) := by decide +kernel
theorem dL_run_19 : decode cL_run 19 = .ok (.ireturn, 1) := by decide +kernel
set_option maxRecDepth 20000 in
theorem ggL_out_X3_out : GoodIn wsL_out wsX3_out := goodIn_ca (goodIn_r _ [6, 7, 8, 9, 10, 5, 11, 12, 13, 14, 15, 16, 17, 18, 19, 20, 21, 22, 23, 24, 25, 26, 27, 28, 29, 30, 31, 32, 33, 34, 35] (by decide +kernel) (by decide +kernel)) (goodIn_sub (fun _ h => List.mem_cons_of_mem _ (List.mem_append_right _ h)) (by decide +kernel))
set_option maxRecDepth 20000 in
theorem gL_out_X3_out : GoodIn wsL_out (wsV RL 45 RX3 yX3_out wsX3_out) := goodIn_app (goodIn_of _ (by decide +kernel)) ggL_out_X3_out
theorem dL_out_0 : decode cL_out 0 = .ok (.aload_n 2, 1) := by decide +kernel
theorem dL_out_1 : decode cL_out 1 = .ok (.iconst 0, 1) := by decide +kernel
theorem dL_out_2 : decode cL_out 2 = .ok (.aload_n 0, 1) := by decide +kernel
theorem dL_out_3 : decode cL_out 3 = .ok (.iload_n 1, 1) := by decide +kernel
theorem dL_out_4 : decode cL_out 4 = .ok (.invokevirtual 45, 3) := by decide +kernel
theorem dL_out_7 : decode cL_out 7 = .ok (.i2l, 1) := by decide +kernel
theorem dL_out_8 : decode cL_out 8 = .ok (.lastore, 1) := by decide +kernel
theorem dL_out_9 : decode cL_out 9 = .ok (.goto 6, 3) := by decide +kernel
theorem dL_out_12 : decode cL_out 12 = .ok (.astore_n 3, 1) := by decide +kernel
theorem dL_out_13 : decode cL_out 13 = .ok (.iconst 1, 1) := by decide +kernel
theorem dL_out_14 : decode cL_out 14 = .ok (.ireturn, 1) := by decide +kernel
theorem dL_out_15 : decode cL_out 15 = .ok (.iconst 0, 1) := by decide +kernel
theorem dL_out_16 : decode cL_out 16 = .ok (.ireturn, 1) := by decide +kernel
set_option maxRecDepth 20000 in
theorem ggL_state_X3_state : GoodIn wsL_state wsX3_state := goodIn_ca (goodIn_r _ [6, 7, 8, 9, 10, 11, 12, 13, 5, 14, 15, 16, 17, 18, 19, 20, 21, 22, 23, 24, 25, 26, 27, 28, 29, 30, 31, 32, 33, 34, 35, 36] (by decide +kernel) (by decide +kernel)) (goodIn_sub (fun _ h => List.mem_cons_of_mem _ (List.mem_append_right _ h)) (by decide +kernel))
set_option maxRecDepth 20000 in
theorem gL_state_X3_state : GoodIn wsL_state (wsV RL 48 RX3 yX3_state wsX3_state) := goodIn_app (goodIn_of _ (by decide +kernel)) ggL_state_X3_state
theorem dL_state_0 : decode cL_state 0 = .ok (.aload_n 3, 1) := by decide +kernel
theorem dL_state_1 : decode cL_state 1 = .ok (.iconst 0, 1) := by decide +kernel
theorem dL_state_2 : decode cL_state 2 = .ok (.aload_n 0, 1) := by decide +kernel
theorem dL_state_3 : decode cL_state 3 = .ok (.iload_n 1, 1) := by decide +kernel
theorem dL_state_4 : decode cL_state 4 = .ok (.iload_n 2, 1) := by decide +kernel
theorem dL_state_5 : decode cL_state 5 = .ok (.invokevirtual 48, 3) := by decide +kernel
theorem dL_state_8 : decode cL_state 8 = .ok (.i2l, 1) := by decide +kernel
theorem dL_state_9 : decode cL_state 9 = .ok (.lastore, 1) := by decide +kernel
theorem dL_state_10 : decode cL_state 10 = .ok (.goto 7, 3) := by decide +kernel
theorem dL_state_13 : decode cL_state 13 = .ok (.astore 4, 2) := by decide +kernel
theorem dL_state_15 : decode cL_state 15 = .ok (.iconst 1, 1) := by decide +kernel
theorem dL_state_16 : decode cL_state 16 = .ok (.ireturn, 1) := by decide +kernel
theorem dL_state_17 : decode cL_state 17 = .ok (.iconst 0, 1) := by decide +kernel
theorem dL_state_18 : decode cL_state 18 = .ok (.ireturn, 1) := by decide +kernel
set_option maxRecDepth 20000 in
theorem ggL_failed_X3_failed : GoodIn wsL_failed wsX3_failed := goodIn_ca (goodIn_r _ [6, 7, 8, 9, 10, 11, 12, 13, 14, 15, 16, 17, 18, 19, 20, 21, 22, 23, 24] (by decide +kernel) (by decide +kernel)) (goodIn_sub (fun _ h => List.mem_cons_of_mem _ (List.mem_append_right _ h)) (by decide +kernel))
set_option maxRecDepth 20000 in
theorem gL_failed_X3_failed : GoodIn wsL_failed (wsV RL 51 RX3 yX3_failed wsX3_failed) := goodIn_app (goodIn_of _ (by decide +kernel)) ggL_failed_X3_failed
theorem dL_failed_0 : decode cL_failed 0 = .ok (.aload_n 2, 1) := by decide +kernel
theorem dL_failed_1 : decode cL_failed 1 = .ok (.iconst 0, 1) := by decide +kernel
theorem dL_failed_2 : decode cL_failed 2 = .ok (.aload_n 0, 1) := by decide +kernel
theorem dL_failed_3 : decode cL_failed 3 = .ok (.iload_n 1, 1) := by decide +kernel
theorem dL_failed_4 : decode cL_failed 4 = .ok (.invokevirtual 51, 3) := by decide +kernel
theorem dL_failed_7 : decode cL_failed 7 = .ok (.i2l, 1) := by decide +kernel
theorem dL_failed_8 : decode cL_failed 8 = .ok (.lastore, 1) := by decide +kernel
theorem dL_failed_9 : decode cL_failed 9 = .ok (.goto 6, 3) := by decide +kernel
theorem dL_failed_12 : decode cL_failed 12 = .ok (.astore_n 3, 1) := by decide +kernel
theorem dL_failed_13 : decode cL_failed 13 = .ok (.iconst 1, 1) := by decide +kernel
theorem dL_failed_14 : decode cL_failed 14 = .ok (.ireturn, 1) := by decide +kernel
theorem dL_failed_15 : decode cL_failed 15 = .ok (.iconst 0, 1) := by decide +kernel
theorem dL_failed_16 : decode cL_failed 16 = .ok (.ireturn, 1) := by decide +kernel
set_option maxRecDepth 20000 in
theorem ggL_failure_X3_failure : GoodIn wsL_failure wsX3_failure := goodIn_ca (goodIn_r _ [6, 7, 8, 9, 10, 11, 12, 13, 14, 15, 16, 17, 18, 19, 20, 21, 22, 23, 24, 25, 26, 27, 28, 29, 30, 31, 32, 33, 34, 35, 36, 37, 38, 39, 40, 41, 42, 43, 44, 45] (by decide +kernel) (by decide +kernel)) (goodIn_sub (fun _ h => List.mem_cons_of_mem _ (List.mem_append_right _ h)) (by decide +kernel))
set_option maxRecDepth 20000 in
theorem gL_failure_X3_failure : GoodIn wsL_failure (wsV RL 54 RX3 yX3_failure wsX3_failure) := goodIn_app (goodIn_of _ (by decide +kernel)) ggL_failure_X3_failure
theorem dL_failure_0 : decode cL_failure 0 = .ok (.aload_n 3, 1) := by decide +kernel
theorem dL_failure_1 : decode cL_failure 1 = .ok (.iconst 0, 1) := by decide +kernel
theorem dL_failure_2 : decode cL_failure 2 = .ok (.aload_n 0, 1) := by decide +kernel
theorem dL_failure_3 : decode cL_failure 3 = .ok (.iload_n 1, 1) := by decide +kernel
theorem dL_failure_4 : decode cL_failure 4 = .ok (.iload_n 2, 1) := by decide +kernel
theorem dL_failure_5 : decode cL_failure 5 = .ok (.invokevirtual 54, 3) := by decide +kernel
theorem dL_failure_8 : decode cL_failure 8 = .ok (.i2l, 1) := by decide +kernel
theorem dL_failure_9 : decode cL_failure 9 = .ok (.lastore, 1) := by decide +kernel
theorem dL_failure_10 : decode cL_failure 10 = .ok (.goto 7, 3) := by decide +kernel
theorem dL_failure_13 : decode cL_failure 13 = .ok (.astore 4, 2) := by decide +kernel
theorem dL_failure_15 : decode cL_failure 15 = .ok (.iconst 1, 1) := by decide +kernel
theorem dL_failure_16 : decode cL_failure 16 = .ok (.ireturn, 1) := by decide +kernel
theorem dL_failure_17 : decode cL_failure 17 = .ok (.iconst 0, 1) := by decide +kernel
theorem dL_failure_18 : decode cL_failure 18 = .ok (.ireturn, 1) := by decide +kernel
set_option maxRecDepth 20000 in
theorem ggL_save_X3_save : GoodIn wsL_save wsX3_save := goodIn_ca (goodIn_r _ [6, 7, 8, 9, 10, 11, 12, 13, 14, 15, 16, 17, 18, 19, 20, 21, 22, 23, 24, 25, 26, 27, 28, 29, 30, 31, 32, 33, 34, 35, 36, 37, 38, 39, 40, 41, 42, 43, 44, 45, 46, 47, 48, 49, 50, 51, 52, 53, 54, 55, 56, 57, 58, 59] (by decide +kernel) (by decide +kernel)) (goodIn_sub (fun _ h => List.mem_cons_of_mem _ (List.mem_append_right _ h)) (by decide +kernel))
set_option maxRecDepth 20000 in
theorem gL_save_X3_save : GoodIn wsL_save (wsV RL 57 RX3 yX3_save wsX3_save) := goodIn_app (goodIn_of _ (by decide +kernel)) ggL_save_X3_save
theorem dL_save_0 : decode cL_save 0 = .ok (.aload_n 1, 1) := by decide +kernel
theorem dL_save_1 : decode cL_save 1 = .ok (.iconst 0, 1) := by decide +kernel
theorem dL_save_2 : decode cL_save 2 = .ok (.aload_n 0, 1) := by decide +kernel
theorem dL_save_3 : decode cL_save 3 = .ok (.invokevirtual 57, 3) := by decide +kernel
theorem dL_save_6 : decode cL_save 6 = .ok (.i2l, 1) := by decide +kernel
theorem dL_save_7 : decode cL_save 7 = .ok (.lastore, 1) := by decide +kernel
theorem dL_save_8 : decode cL_save 8 = .ok (.goto 6, 3) := by decide +kernel
theorem dL_save_11 : decode cL_save 11 = .ok (.astore_n 2, 1) := by decide +kernel
theorem dL_save_12 : decode cL_save 12 = .ok (.iconst 1, 1) := by decide +kernel
theorem dL_save_13 : decode cL_save 13 = .ok (.ireturn, 1) := by decide +kernel
theorem dL_save_14 : decode cL_save 14 = .ok (.iconst 0, 1) := by decide +kernel
theorem dL_save_15 : decode cL_save 15 = .ok (.ireturn, 1) := by decide +kernel
set_option maxRecDepth 20000 in
theorem ggL_back_X3_back : GoodIn wsL_back wsX3_back := goodIn_ca (goodIn_r _ [6, 7, 8, 9, 10, 11, 12, 13, 14, 15, 16, 17, 18, 19, 20, 21, 22, 23, 24, 25, 26, 27, 28, 29, 30, 31, 32, 33, 34, 35, 36, 37, 38, 39, 40, 41, 42, 43, 44, 45, 46, 47, 48, 49, 50, 51] (by decide +kernel) (by decide +kernel)) (goodIn_sub (fun _ h => List.mem_cons_of_mem _ (List.mem_append_right _ h)) (by decide +kernel))
set_option maxRecDepth 20000 in
theorem gL_back_X3_back : GoodIn wsL_back (wsV RL 61 RX3 yX3_back wsX3_back) := goodIn_app (goodIn_of _ (by decide +kernel)) ggL_back_X3_back
theorem dL_back_0 : decode cL_back 0 = .ok (.aload_n 2, 1) := by decide +kernel
theorem dL_back_1 : decode cL_back 1 = .ok (.iconst 0, 1) := by decide +kernel
theorem dL_back_2 : decode cL_back 2 = .ok (.aload_n 0, 1) := by decide +kernel
theorem dL_back_3 : decode cL_back 3 = .ok (.iload_n 1, 1) := by decide +kernel
theorem dL_back_4 : decode cL_back 4 = .ok (.invokevirtual 61, 3) := by decide +kernel
theorem dL_back_7 : decode cL_back 7 = .ok (.i2l, 1) := by decide +kernel
theorem dL_back_8 : decode cL_back 8 = .ok (.lastore, 1) := by decide +kernel
theorem dL_back_9 : decode cL_back 9 = .ok (.goto 6, 3) := by decide +kernel
theorem dL_back_12 : decode cL_back 12 = .ok (.astore_n 3, 1) := by decide +kernel
theorem dL_back_13 : decode cL_back 13 = .ok (.iconst 1, 1) := by decide +kernel
theorem dL_back_14 : decode cL_back 14 = .ok (.ireturn, 1) := by decide +kernel
theorem dL_back_15 : decode cL_back 15 = .ok (.iconst 0, 1) := by decide +kernel
theorem dL_back_16 : decode cL_back 16 = .ok (.ireturn, 1) := by decide +kernel
set_option maxRecDepth 20000 in
theorem ggL_become_X3_become : GoodIn wsL_become wsX3_become := goodIn_ca (goodIn_r _ [6, 7, 8, 9, 10, 11, 12, 13, 5, 14, 15, 16, 17, 18, 19, 20, 21, 22, 23, 24, 25, 26, 27, 28, 29, 30, 31, 32, 33, 34, 35, 36, 37, 38, 39, 40, 41, 42] (by decide +kernel) (by decide +kernel)) (goodIn_sub (fun _ h => List.mem_cons_of_mem _ (List.mem_append_right _ h)) (by decide +kernel))
set_option maxRecDepth 20000 in
theorem gL_become_X3_become : GoodIn wsL_become (wsV RL 64 RX3 yX3_become wsX3_become) := goodIn_app (goodIn_of _ (by decide +kernel)) ggL_become_X3_become
theorem dL_become_0 : decode cL_become 0 = .ok (.aload_n 3, 1) := by decide +kernel
theorem dL_become_1 : decode cL_become 1 = .ok (.iconst 0, 1) := by decide +kernel
theorem dL_become_2 : decode cL_become 2 = .ok (.aload_n 0, 1) := by decide +kernel
theorem dL_become_3 : decode cL_become 3 = .ok (.iload_n 1, 1) := by decide +kernel
theorem dL_become_4 : decode cL_become 4 = .ok (.iload_n 2, 1) := by decide +kernel
theorem dL_become_5 : decode cL_become 5 = .ok (.invokevirtual 64, 3) := by decide +kernel
theorem dL_become_8 : decode cL_become 8 = .ok (.i2l, 1) := by decide +kernel
theorem dL_become_9 : decode cL_become 9 = .ok (.lastore, 1) := by decide +kernel
theorem dL_become_10 : decode cL_become 10 = .ok (.goto 7, 3) := by decide +kernel
theorem dL_become_13 : decode cL_become 13 = .ok (.astore 4, 2) := by decide +kernel
theorem dL_become_15 : decode cL_become 15 = .ok (.iconst 1, 1) := by decide +kernel
theorem dL_become_16 : decode cL_become 16 = .ok (.ireturn, 1) := by decide +kernel
theorem dL_become_17 : decode cL_become 17 = .ok (.iconst 0, 1) := by decide +kernel
theorem dL_become_18 : decode cL_become 18 = .ok (.ireturn, 1) := by decide +kernel
set_option maxRecDepth 20000 in
theorem ggL_law_X3_init : GoodIn wsL_law wsX3_init := goodIn_r _ [9, 10, 11, 12, 13, 14, 15, 16, 17, 18, 19, 20, 21, 22, 23, 24, 25, 26, 27, 28, 29, 30, 31, 32, 33, 34, 35, 36, 497, 498, 499, 500, 501, 502, 503, 504, 505, 531, 532, 533, 534, 535] (by decide +kernel) (by decide +kernel)
set_option maxRecDepth 20000 in
theorem gL_law_X3_init : GoodIn wsL_law (wsX3_init) := ggL_law_X3_init
set_option maxRecDepth 20000 in
theorem ggL_law_X4_init : GoodIn wsL_law wsX4_init := goodIn_r _ [39, 40, 11, 12, 16, 41, 42, 43, 44, 45, 46, 47, 48, 49, 20, 50, 51, 52, 53, 54, 55, 56, 57, 58, 506, 507, 508, 509, 510, 511, 512, 513, 514, 515, 516, 517, 518, 519, 520, 521, 522, 523, 524, 525, 526, 527, 528, 529, 530] (by decide +kernel) (by decide +kernel)
set_option maxRecDepth 20000 in
theorem gL_law_X4_init : GoodIn wsL_law (wsX4_init) := ggL_law_X4_init
set_option maxRecDepth 20000 in
theorem ggL_law_L_block : GoodIn wsL_law wsL_block := goodIn_ca (goodIn_ca (goodIn_r _ [62, 63, 64, 65, 66, 67, 2, 68, 69, 70, 15, 14, 13, 71, 72, 73, 74, 75, 76, 77, 78, 79, 80, 81, 82, 11, 12, 83, 84, 85, 86, 87, 88, 89, 90, 16, 91, 92, 93, 497, 498, 499, 500, 501, 502, 503, 504, 505, 536, 537, 538, 539, 540, 541, 542, 543, 544, 545, 546] (by decide +kernel) (by decide +kernel)) (goodIn_sub (fun _ h => List.mem_append_left _ (List.mem_append_right _ h)) (by decide +kernel))) (goodIn_sub (fun _ h => List.mem_append_right _ h) (by decide +kernel))
set_option maxRecDepth 20000 in
theorem gL_law_L_block : GoodIn wsL_law (va_wsS RL 71 yL_block wsL_block) := goodIn_app (goodIn_of _ (by decide +kernel)) ggL_law_L_block
set_option maxRecDepth 20000 in
theorem ggL_law_X4_block : GoodIn wsL_law wsX4_block := goodIn_r _ [97, 98, 99, 41, 45, 100, 101, 5, 102, 506, 507, 508, 509, 510, 511, 512, 513, 514, 515, 516, 517, 518, 519, 520, 521, 522, 523, 524, 525, 526, 527, 528, 529, 530] (by decide +kernel) (by decide +kernel)
set_option maxRecDepth 20000 in
theorem gL_law_X4_block : GoodIn wsL_law (wsV RL 76 RX4 yX4_block wsX4_block) := goodIn_app (goodIn_of _ (by decide +kernel)) ggL_law_X4_block
set_option maxRecDepth 20000 in
theorem ggL_law_X4_thrown : GoodIn wsL_law wsX4_thrown := goodIn_r _ [106, 99, 506, 507, 508, 509, 510, 511, 512, 513, 514, 515, 516, 517, 518, 519, 520, 521, 522, 523, 524, 525, 526, 527, 528, 529, 530] (by decide +kernel) (by decide +kernel)
set_option maxRecDepth 20000 in
theorem gL_law_X4_thrown : GoodIn wsL_law (wsV RL 77 RX4 yX4_thrown wsX4_thrown) := goodIn_app (goodIn_of _ (by decide +kernel)) ggL_law_X4_thrown
set_option maxRecDepth 20000 in
theorem ggL_law_L_wire : GoodIn wsL_law wsL_wire := goodIn_ca (goodIn_r _ [109, 63, 110, 111, 112, 2, 113, 76, 77, 114, 115, 116, 117, 118, 15, 14, 536, 537, 538, 539, 540, 541, 542, 543, 544, 545, 546, 497, 498, 499, 500, 501, 502, 503, 504, 505] (by decide +kernel) (by decide +kernel)) (goodIn_sub (fun _ h => List.mem_append_right _ h) (by decide +kernel))
set_option maxRecDepth 20000 in
theorem gL_law_L_wire : GoodIn wsL_law (va_wsS RL 80 yL_wire wsL_wire) := goodIn_app (goodIn_of _ (by decide +kernel)) ggL_law_L_wire
set_option maxRecDepth 20000 in
theorem ggL_law_X4_wire : GoodIn wsL_law wsX4_wire := goodIn_r _ [122, 99, 45, 123, 124, 125, 5, 126, 98, 100, 101, 102, 506, 507, 508, 509, 510, 511, 512, 513, 514, 515, 516, 517, 518, 519, 520, 521, 522, 523, 524, 525, 526, 527, 528, 529, 530] (by decide +kernel) (by decide +kernel)
set_option maxRecDepth 20000 in
theorem gL_law_X4_wire : GoodIn wsL_law (wsV RL 83 RX4 yX4_wire wsX4_wire) := goodIn_app (goodIn_of _ (by decide +kernel)) ggL_law_X4_wire
set_option maxRecDepth 20000 in
theorem ggL_law_L_numbers : GoodIn wsL_law wsL_numbers := goodIn_ca (goodIn_r _ [129, 63, 130, 131, 132, 2, 133, 134, 135, 115, 116, 117, 118, 76, 77, 15, 14, 536, 537, 538, 539, 540, 541, 542, 543, 544, 545, 546, 497, 498, 499, 500, 501, 502, 503, 504, 505] (by decide +kernel) (by decide +kernel)) (goodIn_sub (fun _ h => List.mem_append_right _ h) (by decide +kernel))
set_option maxRecDepth 20000 in
theorem gL_law_L_numbers : GoodIn wsL_law (va_wsS RL 84 yL_numbers wsL_numbers) := goodIn_app (goodIn_of _ (by decide +kernel)) ggL_law_L_numbers
set_option maxRecDepth 20000 in
theorem ggL_law_X4_numbers : GoodIn wsL_law wsX4_numbers := goodIn_r _ [139, 99, 42, 43, 123, 124, 125, 5, 126, 98, 100, 101, 102, 506, 507, 508, 509, 510, 511, 512, 513, 514, 515, 516, 517, 518, 519, 520, 521, 522, 523, 524, 525, 526, 527, 528, 529, 530] (by decide +kernel) (by decide +kernel)
set_option maxRecDepth 20000 in
theorem gL_law_X4_numbers : GoodIn wsL_law (wsV RL 87 RX4 yX4_numbers wsX4_numbers) := goodIn_app (goodIn_of _ (by decide +kernel)) ggL_law_X4_numbers
set_option maxRecDepth 20000 in
theorem ggL_law_L_row : GoodIn wsL_law wsL_row := goodIn_ca (goodIn_ca (goodIn_r _ [142, 63, 64, 143, 144, 145, 2, 146, 76, 77, 69, 70, 147, 148, 115, 116, 117, 118, 15, 14, 149, 150, 151, 536, 537, 538, 539, 540, 541, 542, 543, 544, 545, 546, 497, 498, 499, 500, 501, 502, 503, 504, 505] (by decide +kernel) (by decide +kernel)) (goodIn_sub (fun _ h => List.mem_append_right _ h) (by decide +kernel))) (goodIn_sub (fun _ h => List.mem_append_left _ (List.mem_append_right _ h)) (by decide +kernel))
set_option maxRecDepth 20000 in
theorem gL_law_L_row : GoodIn wsL_law (va_wsS RL 88 yL_row wsL_row) := goodIn_app (goodIn_of _ (by decide +kernel)) ggL_law_L_row
set_option maxRecDepth 20000 in
theorem ggL_law_X4_row : GoodIn wsL_law wsX4_row := goodIn_r _ [155, 41, 99, 49, 123, 124, 125, 5, 126, 98, 100, 101, 102, 506, 507, 508, 509, 510, 511, 512, 513, 514, 515, 516, 517, 518, 519, 520, 521, 522, 523, 524, 525, 526, 527, 528, 529, 530] (by decide +kernel) (by decide +kernel)
set_option maxRecDepth 20000 in
theorem gL_law_X4_row : GoodIn wsL_law (wsV RL 90 RX4 yX4_row wsX4_row) := goodIn_app (goodIn_of _ (by decide +kernel)) ggL_law_X4_row
set_option maxRecDepth 20000 in
theorem ggL_law_L_safe : GoodIn wsL_law wsL_safe := goodIn_ca (goodIn_r _ [158, 63, 159, 160, 161, 2, 162, 163, 115, 116, 117, 118, 76, 77, 15, 14, 536, 537, 538, 539, 540, 541, 542, 543, 544, 545, 546, 497, 498, 499, 500, 501, 502, 503, 504, 505] (by decide +kernel) (by decide +kernel)) (goodIn_sub (fun _ h => List.mem_append_right _ h) (by decide +kernel))
set_option maxRecDepth 20000 in
theorem gL_law_L_safe : GoodIn wsL_law (va_wsS RL 91 yL_safe wsL_safe) := goodIn_app (goodIn_of _ (by decide +kernel)) ggL_law_L_safe
set_option maxRecDepth 20000 in
theorem ggL_law_X4_safe : GoodIn wsL_law wsX4_safe := goodIn_r _ [167, 99, 44, 123, 124, 125, 5, 126, 98, 100, 101, 102, 506, 507, 508, 509, 510, 511, 512, 513, 514, 515, 516, 517, 518, 519, 520, 521, 522, 523, 524, 525, 526, 527, 528, 529, 530] (by decide +kernel) (by decide +kernel)
set_option maxRecDepth 20000 in
theorem gL_law_X4_safe : GoodIn wsL_law (wsV RL 94 RX4 yX4_safe wsX4_safe) := goodIn_app (goodIn_of _ (by decide +kernel)) ggL_law_X4_safe
set_option maxRecDepth 20000 in
theorem ggL_law_L_point : GoodIn wsL_law wsL_point := goodIn_ca (goodIn_r _ [170, 63, 171, 172, 173, 2, 174, 76, 77, 17, 175, 176, 177, 497, 498, 499, 500, 501, 502, 503, 504, 505] (by decide +kernel) (by decide +kernel)) (goodIn_sub (fun _ h => List.mem_append_right _ h) (by decide +kernel))
set_option maxRecDepth 20000 in
theorem gL_law_L_point : GoodIn wsL_law (va_wsS RL 95 yL_point wsL_point) := goodIn_app (goodIn_of _ (by decide +kernel)) ggL_law_L_point
set_option maxRecDepth 20000 in
theorem ggL_law_X4_point : GoodIn wsL_law wsX4_point := goodIn_r _ [181, 99, 52, 100, 101, 5, 102, 506, 507, 508, 509, 510, 511, 512, 513, 514, 515, 516, 517, 518, 519, 520, 521, 522, 523, 524, 525, 526, 527, 528, 529, 530] (by decide +kernel) (by decide +kernel)
set_option maxRecDepth 20000 in
theorem gL_law_X4_point : GoodIn wsL_law (wsV RL 97 RX4 yX4_point wsX4_point) := goodIn_app (goodIn_of _ (by decide +kernel)) ggL_law_X4_point
set_option maxRecDepth 20000 in
theorem ggL_law_L_hand : GoodIn wsL_law wsL_hand := goodIn_ca (goodIn_r _ [184, 63, 185, 186, 187, 2, 188, 189, 190, 115, 116, 117, 118, 76, 77, 15, 14, 536, 537, 538, 539, 540, 541, 542, 543, 544, 545, 546, 497, 498, 499, 500, 501, 502, 503, 504, 505] (by decide +kernel) (by decide +kernel)) (goodIn_sub (fun _ h => List.mem_append_right _ h) (by decide +kernel))
set_option maxRecDepth 20000 in
theorem gL_law_L_hand : GoodIn wsL_law (va_wsS RL 98 yL_hand wsL_hand) := goodIn_app (goodIn_of _ (by decide +kernel)) ggL_law_L_hand
set_option maxRecDepth 20000 in
theorem ggL_law_X4_hand : GoodIn wsL_law wsX4_hand := goodIn_r _ [194, 99, 50, 51, 123, 124, 125, 5, 126, 98, 100, 101, 102, 506, 507, 508, 509, 510, 511, 512, 513, 514, 515, 516, 517, 518, 519, 520, 521, 522, 523, 524, 525, 526, 527, 528, 529, 530] (by decide +kernel) (by decide +kernel)
set_option maxRecDepth 20000 in
theorem gL_law_X4_hand : GoodIn wsL_law (wsV RL 101 RX4 yX4_hand wsX4_hand) := goodIn_app (goodIn_of _ (by decide +kernel)) ggL_law_X4_hand
set_option maxRecDepth 20000 in
theorem ggL_law_X3_order : GoodIn wsL_law wsX3_order := goodIn_r _ [198, 199, 200, 201, 2, 202, 15, 21, 19, 203, 204, 205, 206, 14, 207, 208, 209, 210, 147, 114, 211, 212, 213, 72, 214, 93, 497, 498, 499, 500, 501, 502, 503, 504, 505, 536, 537, 538, 539, 540, 541, 542, 543, 544, 545, 546] (by decide +kernel) (by decide +kernel)
set_option maxRecDepth 20000 in
theorem gL_law_X3_order : GoodIn wsL_law (wsV RL 102 RX3 yX3_order wsX3_order) := goodIn_app (goodIn_of _ (by decide +kernel)) ggL_law_X3_order
set_option maxRecDepth 20000 in
theorem ggL_law_X4_order : GoodIn wsL_law wsX4_order := goodIn_r _ [218, 99, 219, 220, 221, 222, 5, 223, 98, 54, 53, 224, 225, 226, 227, 41, 45, 228, 229, 230, 100, 101, 102, 506, 507, 508, 509, 510, 511, 512, 513, 514, 515, 516, 517, 518, 519, 520, 521, 522, 523, 524, 525, 526, 527, 528, 529, 530] (by decide +kernel) (by decide +kernel)
set_option maxRecDepth 20000 in
theorem gL_law_X4_order : GoodIn wsL_law (wsV RL 105 RX4 yX4_order wsX4_order) := goodIn_app (goodIn_of _ (by decide +kernel)) ggL_law_X4_order
set_option maxRecDepth 20000 in
theorem ggL_law_L_at : GoodIn wsL_law wsL_at := goodIn_ca (goodIn_r _ [233, 63, 234, 235, 236, 2, 237, 76, 77, 15, 19, 199, 200, 201, 202, 21, 203, 204, 205, 206, 14, 207, 208, 209, 210, 147, 114, 211, 212, 213, 72, 214, 93, 497, 498, 499, 500, 501, 502, 503, 504, 505, 536, 537, 538, 539, 540, 541, 542, 543, 544, 545, 546] (by decide +kernel) (by decide +kernel)) (goodIn_sub (fun _ h => List.mem_append_right _ h) (by decide +kernel))
set_option maxRecDepth 20000 in
theorem gL_law_L_at : GoodIn wsL_law (va_wsS RL 106 yL_at wsL_at) := goodIn_app (goodIn_of _ (by decide +kernel)) ggL_law_L_at
set_option maxRecDepth 20000 in
theorem ggL_law_X4_at : GoodIn wsL_law wsX4_at := goodIn_r _ [241, 99, 53, 123, 124, 125, 5, 126, 98, 100, 101, 102, 220, 221, 222, 223, 219, 54, 224, 225, 226, 227, 41, 45, 228, 229, 230, 506, 507, 508, 509, 510, 511, 512, 513, 514, 515, 516, 517, 518, 519, 520, 521, 522, 523, 524, 525, 526, 527, 528, 529, 530] (by decide +kernel) (by decide +kernel)
set_option maxRecDepth 20000 in
theorem gL_law_X4_at : GoodIn wsL_law (wsV RL 108 RX4 yX4_at wsX4_at) := goodIn_app (goodIn_of _ (by decide +kernel)) ggL_law_X4_at
set_option maxRecDepth 20000 in
theorem ggL_law_L_run : GoodIn wsL_law wsL_run := goodIn_ca (goodIn_ca (goodIn_r _ [244, 63, 64, 245, 246, 247, 2, 248, 76, 77, 69, 70, 15, 18, 199, 200, 201, 202, 21, 19, 203, 204, 205, 206, 14, 207, 208, 209, 210, 147, 114, 211, 212, 213, 72, 214, 93, 249, 250, 251, 252, 253, 254, 255, 256, 134, 17, 257, 258, 259, 260, 261, 262, 263, 264, 265, 266, 267, 268, 91, 269, 175, 176, 177, 149, 150, 151, 270, 271, 272, 273, 25, 163, 274, 275, 276, 24, 277, 33, 36, 34, 35, 32, 278, 279, 280, 281, 89, 90, 86, 282, 283, 284, 285, 286, 287, 288, 289, 290, 291, 292, 293, 294, 295, 296, 297, 298, 299, 300, 301, 83, 92, 87, 84, 302, 303, 304, 305, 306, 307, 308, 309, 310, 311, 312, 313, 314, 88, 315, 316, 317, 318, 319, 320, 321, 322, 323, 324, 325, 326, 327, 328, 329, 330, 331, 497, 498, 499, 500, 501, 502, 503, 504, 505, 536, 537, 538, 539, 540, 541, 542, 543, 544, 545, 546, 531, 532, 533, 534, 535] (by decide +kernel) (by decide +kernel)) (goodIn_sub (fun _ h => List.mem_append_right _ h) (by decide +kernel))) (goodIn_sub (fun _ h => List.mem_append_left _ (List.mem_append_right _ h)) (by decide +kernel))
set_option maxRecDepth 20000 in
theorem gL_law_L_run : GoodIn wsL_law (va_wsS RL 109 yL_run wsL_run) := goodIn_app (goodIn_of _ (by decide +kernel)) ggL_law_L_run
set_option maxRecDepth 20000 in
theorem ggL_law_X4_run : GoodIn wsL_law wsX4_run := goodIn_r _ [335, 99, 219, 98, 336, 53, 41, 100, 101, 5, 102, 220, 221, 222, 223, 54, 224, 225, 226, 227, 45, 228, 229, 230, 337, 338, 339, 340, 341, 44, 46, 50, 51, 342, 343, 344, 345, 346, 347, 348, 349, 42, 52, 49, 350, 351, 352, 353, 354, 355, 356, 47, 48, 43, 357, 358, 359, 360, 361, 362, 363, 364, 365, 366, 367, 368, 369, 370, 371, 372, 373, 374, 375, 376, 55, 377, 56, 378, 379, 380, 381, 506, 507, 508, 509, 510, 511, 512, 513, 514, 515, 516, 517, 518, 519, 520, 521, 522, 523, 524, 525, 526, 527, 528, 529, 530] (by decide +kernel) (by decide +kernel)
set_option maxRecDepth 20000 in
theorem gL_law_X4_run : GoodIn wsL_law (wsV RL 111 RX4 yX4_run wsX4_run) := goodIn_app (goodIn_of _ (by decide +kernel)) ggL_law_X4_run
set_option maxRecDepth 20000 in
theorem ggL_law_L_out : GoodIn wsL_law wsL_out := goodIn_ca (goodIn_r _ [384, 63, 385, 386, 387, 2, 388, 261, 115, 116, 117, 118, 76, 77, 15, 14, 536, 537, 538, 539, 540, 541, 542, 543, 544, 545, 546, 497, 498, 499, 500, 501, 502, 503, 504, 505] (by decide +kernel) (by decide +kernel)) (goodIn_sub (fun _ h => List.mem_append_right _ h) (by decide +kernel))
set_option maxRecDepth 20000 in
theorem gL_law_L_out : GoodIn wsL_law (va_wsS RL 112 yL_out wsL_out) := goodIn_app (goodIn_of _ (by decide +kernel)) ggL_law_L_out
set_option maxRecDepth 20000 in
theorem ggL_law_X4_out : GoodIn wsL_law wsX4_out := goodIn_r _ [392, 99, 46, 123, 124, 125, 5, 126, 98, 100, 101, 102, 506, 507, 508, 509, 510, 511, 512, 513, 514, 515, 516, 517, 518, 519, 520, 521, 522, 523, 524, 525, 526, 527, 528, 529, 530] (by decide +kernel) (by decide +kernel)
set_option maxRecDepth 20000 in
theorem gL_law_X4_out : GoodIn wsL_law (wsV RL 114 RX4 yX4_out wsX4_out) := goodIn_app (goodIn_of _ (by decide +kernel)) ggL_law_X4_out
set_option maxRecDepth 20000 in
theorem ggL_law_L_state : GoodIn wsL_law wsL_state := goodIn_ca (goodIn_r _ [395, 63, 396, 397, 398, 2, 399, 76, 77, 331, 400, 115, 116, 117, 118, 15, 14, 536, 537, 538, 539, 540, 541, 542, 543, 544, 545, 546, 497, 498, 499, 500, 501, 502, 503, 504, 505] (by decide +kernel) (by decide +kernel)) (goodIn_sub (fun _ h => List.mem_append_right _ h) (by decide +kernel))
set_option maxRecDepth 20000 in
theorem gL_law_L_state : GoodIn wsL_law (va_wsS RL 115 yL_state wsL_state) := goodIn_app (goodIn_of _ (by decide +kernel)) ggL_law_L_state
set_option maxRecDepth 20000 in
theorem ggL_law_X4_state : GoodIn wsL_law wsX4_state := goodIn_r _ [404, 99, 47, 48, 123, 124, 125, 5, 126, 98, 100, 101, 102, 506, 507, 508, 509, 510, 511, 512, 513, 514, 515, 516, 517, 518, 519, 520, 521, 522, 523, 524, 525, 526, 527, 528, 529, 530] (by decide +kernel) (by decide +kernel)
set_option maxRecDepth 20000 in
theorem gL_law_X4_state : GoodIn wsL_law (wsV RL 117 RX4 yX4_state wsX4_state) := goodIn_app (goodIn_of _ (by decide +kernel)) ggL_law_X4_state
set_option maxRecDepth 20000 in
theorem ggL_law_L_failed : GoodIn wsL_law wsL_failed := goodIn_ca (goodIn_r _ [407, 63, 408, 409, 410, 2, 411, 76, 77, 25, 412, 497, 498, 499, 500, 501, 502, 503, 504, 505, 531, 532, 533, 534, 535] (by decide +kernel) (by decide +kernel)) (goodIn_sub (fun _ h => List.mem_append_right _ h) (by decide +kernel))
set_option maxRecDepth 20000 in
theorem gL_law_L_failed : GoodIn wsL_law (va_wsS RL 118 yL_failed wsL_failed) := goodIn_app (goodIn_of _ (by decide +kernel)) ggL_law_L_failed
set_option maxRecDepth 20000 in
theorem ggL_law_X4_failed : GoodIn wsL_law wsX4_failed := goodIn_r _ [416, 99, 55, 100, 101, 5, 102, 506, 507, 508, 509, 510, 511, 512, 513, 514, 515, 516, 517, 518, 519, 520, 521, 522, 523, 524, 525, 526, 527, 528, 529, 530] (by decide +kernel) (by decide +kernel)
set_option maxRecDepth 20000 in
theorem gL_law_X4_failed : GoodIn wsL_law (wsV RL 120 RX4 yX4_failed wsX4_failed) := goodIn_app (goodIn_of _ (by decide +kernel)) ggL_law_X4_failed
set_option maxRecDepth 20000 in
theorem ggL_law_L_failure : GoodIn wsL_law wsL_failure := goodIn_ca (goodIn_r _ [419, 63, 420, 421, 422, 2, 423, 76, 77, 25, 424, 425, 426, 24, 427, 32, 428, 286, 287, 288, 429, 430, 431, 432, 36, 33, 34, 35, 433, 434, 435, 436, 497, 498, 499, 500, 501, 502, 503, 504, 505, 531, 532, 533, 534, 535] (by decide +kernel) (by decide +kernel)) (goodIn_sub (fun _ h => List.mem_append_right _ h) (by decide +kernel))
set_option maxRecDepth 20000 in
theorem gL_law_L_failure : GoodIn wsL_law (va_wsS RL 121 yL_failure wsL_failure) := goodIn_app (goodIn_of _ (by decide +kernel)) ggL_law_L_failure
set_option maxRecDepth 20000 in
theorem ggL_law_X4_failure : GoodIn wsL_law wsX4_failure := goodIn_r _ [440, 377, 99, 56, 100, 101, 5, 102, 506, 507, 508, 509, 510, 511, 512, 513, 514, 515, 516, 517, 518, 519, 520, 521, 522, 523, 524, 525, 526, 527, 528, 529, 530] (by decide +kernel) (by decide +kernel)
set_option maxRecDepth 20000 in
theorem gL_law_X4_failure : GoodIn wsL_law (wsV RL 123 RX4 yX4_failure wsX4_failure) := goodIn_app (goodIn_of _ (by decide +kernel)) ggL_law_X4_failure
set_option maxRecDepth 20000 in
theorem ggL_law_L_save : GoodIn wsL_law wsL_save := goodIn_ca (goodIn_r _ [443, 64, 444, 445, 446, 2, 447, 69, 70, 28, 26, 448, 449, 15, 14, 27, 450, 451, 452, 11, 12, 453, 16, 454, 455, 456, 457, 458, 459, 460, 461, 462, 463, 464, 465, 497, 498, 499, 500, 501, 502, 503, 504, 505, 547, 548, 549, 550, 551, 536, 537, 538, 539, 540, 541, 542, 543, 544, 545, 546] (by decide +kernel) (by decide +kernel)) (goodIn_sub (fun _ h => List.mem_append_left _ (List.mem_append_right _ h)) (by decide +kernel))
set_option maxRecDepth 20000 in
theorem gL_law_L_save : GoodIn wsL_law (va_wsS RL 124 yL_save wsL_save) := goodIn_app (goodIn_of _ (by decide +kernel)) ggL_law_L_save
set_option maxRecDepth 20000 in
theorem ggL_law_X4_save : GoodIn wsL_law wsX4_save := goodIn_r _ [469, 470, 99, 57, 98, 58, 41, 46, 47, 48, 506, 507, 508, 509, 510, 511, 512, 513, 514, 515, 516, 517, 518, 519, 520, 521, 522, 523, 524, 525, 526, 527, 528, 529, 530] (by decide +kernel) (by decide +kernel)
set_option maxRecDepth 20000 in
theorem gL_law_X4_save : GoodIn wsL_law (wsV RL 127 RX4 yX4_save wsX4_save) := goodIn_app (goodIn_of _ (by decide +kernel)) ggL_law_X4_save
set_option maxRecDepth 20000 in
theorem ggL_law_L_back : GoodIn wsL_law wsL_back := goodIn_ca (goodIn_r _ [473, 63, 474, 475, 476, 2, 477, 76, 77, 28, 27, 15, 14, 478, 479, 480, 449, 481, 453, 454, 462, 455, 463, 456, 464, 457, 465, 497, 498, 499, 500, 501, 502, 503, 504, 505, 547, 548, 549, 550, 551, 536, 537, 538, 539, 540, 541, 542, 543, 544, 545, 546] (by decide +kernel) (by decide +kernel)) (goodIn_sub (fun _ h => List.mem_append_right _ h) (by decide +kernel))
set_option maxRecDepth 20000 in
theorem gL_law_L_back : GoodIn wsL_law (va_wsS RL 128 yL_back wsL_back) := goodIn_app (goodIn_of _ (by decide +kernel)) ggL_law_L_back
set_option maxRecDepth 20000 in
theorem ggL_law_X4_back : GoodIn wsL_law wsX4_back := goodIn_r _ [485, 470, 99, 57, 58, 41, 46, 47, 48, 100, 101, 5, 102, 506, 507, 508, 509, 510, 511, 512, 513, 514, 515, 516, 517, 518, 519, 520, 521, 522, 523, 524, 525, 526, 527, 528, 529, 530] (by decide +kernel) (by decide +kernel)
set_option maxRecDepth 20000 in
theorem gL_law_X4_back : GoodIn wsL_law (wsV RL 130 RX4 yX4_back wsX4_back) := goodIn_app (goodIn_of _ (by decide +kernel)) ggL_law_X4_back
set_option maxRecDepth 20000 in
theorem ggL_law_L_become : GoodIn wsL_law wsL_become := goodIn_ca (goodIn_r _ [488, 63, 489, 490, 491, 2, 492, 147, 261, 331, 400, 115, 116, 117, 118, 76, 77, 15, 14, 73, 74, 75, 78, 536, 537, 538, 539, 540, 541, 542, 543, 544, 545, 546, 497, 498, 499, 500, 501, 502, 503, 504, 505] (by decide +kernel) (by decide +kernel)) (goodIn_sub (fun _ h => List.mem_append_right _ h) (by decide +kernel))
set_option maxRecDepth 20000 in
theorem gL_law_L_become : GoodIn wsL_law (va_wsS RL 131 yL_become wsL_become) := goodIn_app (goodIn_of _ (by decide +kernel)) ggL_law_L_become
set_option maxRecDepth 20000 in
theorem ggL_law_X4_become : GoodIn wsL_law wsX4_become := goodIn_r _ [496, 99, 41, 46, 47, 48, 123, 124, 125, 5, 126, 98, 100, 101, 102, 506, 507, 508, 509, 510, 511, 512, 513, 514, 515, 516, 517, 518, 519, 520, 521, 522, 523, 524, 525, 526, 527, 528, 529, 530] (by decide +kernel) (by decide +kernel)
set_option maxRecDepth 20000 in
theorem gL_law_X4_become : GoodIn wsL_law (wsV RL 133 RX4 yX4_become wsX4_become) := goodIn_app (goodIn_of _ (by decide +kernel)) ggL_law_X4_become
theorem dL_law_0 : decode cL_law 0 = .ok (.new 8, 3) := by decide +kernel
theorem dL_law_3 : decode cL_law 3 = .ok (.dup, 1) := by decide +kernel
theorem dL_law_4 : decode cL_law 4 = .ok (.invokespecial 67, 3) := by decide +kernel
theorem dL_law_7 : decode cL_law 7 = .ok (.astore_n 1, 1) := by decide +kernel
theorem dL_law_8 : decode cL_law 8 = .ok (.new 68, 3) := by decide +kernel
theorem dL_law_11 : decode cL_law 11 = .ok (.dup, 1) := by decide +kernel
theorem dL_law_12 : decode cL_law 12 = .ok (.invokespecial 70, 3) := by decide +kernel
theorem dL_law_15 : decode cL_law 15 = .ok (.astore_n 2, 1) := by decide +kernel
theorem dL_law_16 : decode cL_law 16 = .ok (.iconst 1, 1) := by decide +kernel
theorem dL_law_17 : decode cL_law 17 = .ok (.newarray .long, 2) := by decide +kernel
theorem dL_law_19 : decode cL_law 19 = .ok (.astore_n 3, 1) := by decide +kernel
theorem dL_law_20 : decode cL_law 20 = .ok (.iconst 0, 1) := by decide +kernel
theorem dL_law_21 : decode cL_law 21 = .ok (.istore 4, 2) := by decide +kernel
theorem dL_law_23 : decode cL_law 23 = .ok (.iload 4, 2) := by decide +kernel
theorem dL_law_25 : decode cL_law 25 = .ok (.aload_n 0, 1) := by decide +kernel
theorem dL_law_26 : decode cL_law 26 = .ok (.arraylength, 1) := by decide +kernel
theorem dL_law_27 : decode cL_law 27 = .ok (.iconst 4, 1) := by decide +kernel
theorem dL_law_28 : decode cL_law 28 = .ok (.isub, 1) := by decide +kernel
theorem dL_law_29 : decode cL_law 29 = .ok (.if_icmp .gt 1153, 3) := by decide +kernel
theorem dL_law_32 : decode cL_law 32 = .ok (.aload_n 0, 1) := by decide +kernel
theorem dL_law_33 : decode cL_law 33 = .ok (.iload 4, 2) := by decide +kernel
theorem dL_law_35 : decode cL_law 35 = .ok (.iaload, 1) := by decide +kernel
theorem dL_law_36 : decode cL_law 36 = .ok (.bipush 31, 2) := by decide +kernel
theorem dL_law_38 : decode cL_law 38 = .ok (.iand, 1) := by decide +kernel
theorem dL_law_39 : decode cL_law 39 = .ok (.tableswitch 1137 0 16 #[81, 137, 217, 277, 357, 425, 493, 596, 609, 665, 721, 777, 845, 901, 969, 1013, 1069], 81) := by decide +kernel
theorem dL_law_120 : decode cL_law 120 = .ok (.aload_n 1, 1) := by decide +kernel
theorem dL_law_121 : decode cL_law 121 = .ok (.aload_n 0, 1) := by decide +kernel
theorem dL_law_122 : decode cL_law 122 = .ok (.iload 4, 2) := by decide +kernel
theorem dL_law_124 : decode cL_law 124 = .ok (.iconst 1, 1) := by decide +kernel
theorem dL_law_125 : decode cL_law 125 = .ok (.iadd, 1) := by decide +kernel
theorem dL_law_126 : decode cL_law 126 = .ok (.iaload, 1) := by decide +kernel
theorem dL_law_127 : decode cL_law 127 = .ok (.aload_n 3, 1) := by decide +kernel
theorem dL_law_128 : decode cL_law 128 = .ok (.invokestatic 71, 3) := by decide +kernel
theorem dL_law_131 : decode cL_law 131 = .ok (.istore 5, 2) := by decide +kernel
theorem dL_law_133 : decode cL_law 133 = .ok (.aload_n 2, 1) := by decide +kernel
theorem dL_law_134 : decode cL_law 134 = .ok (.aload_n 0, 1) := by decide +kernel
theorem dL_law_135 : decode cL_law 135 = .ok (.iload 4, 2) := by decide +kernel
theorem dL_law_137 : decode cL_law 137 = .ok (.iconst 1, 1) := by decide +kernel
theorem dL_law_138 : decode cL_law 138 = .ok (.iadd, 1) := by decide +kernel
theorem dL_law_139 : decode cL_law 139 = .ok (.iaload, 1) := by decide +kernel
theorem dL_law_140 : decode cL_law 140 = .ok (.invokevirtual 76, 3) := by decide +kernel
theorem dL_law_143 : decode cL_law 143 = .ok (.istore 6, 2) := by decide +kernel
theorem dL_law_145 : decode cL_law 145 = .ok (.aload_n 2, 1) := by decide +kernel
theorem dL_law_146 : decode cL_law 146 = .ok (.invokevirtual 77, 3) := by decide +kernel
theorem dL_law_149 : decode cL_law 149 = .ok (.iload 5, 2) := by decide +kernel
theorem dL_law_151 : decode cL_law 151 = .ok (.if_icmp .eq 5, 3) := by decide +kernel
theorem dL_law_154 : decode cL_law 154 = .ok (.iconst 0, 1) := by decide +kernel
theorem dL_law_155 : decode cL_law 155 = .ok (.ireturn, 1) := by decide +kernel
theorem dL_law_156 : decode cL_law 156 = .ok (.iload 5, 2) := by decide +kernel
theorem dL_law_158 : decode cL_law 158 = .ok (.ifCond .ne 15, 3) := by decide +kernel
theorem dL_law_161 : decode cL_law 161 = .ok (.aload_n 3, 1) := by decide +kernel
theorem dL_law_162 : decode cL_law 162 = .ok (.iconst 0, 1) := by decide +kernel
theorem dL_law_163 : decode cL_law 163 = .ok (.laload, 1) := by decide +kernel
theorem dL_law_164 : decode cL_law 164 = .ok (.iload 6, 2) := by decide +kernel
theorem dL_law_166 : decode cL_law 166 = .ok (.i2l, 1) := by decide +kernel
theorem dL_law_167 : decode cL_law 167 = .ok (.lcmp, 1) := by decide +kernel
theorem dL_law_168 : decode cL_law 168 = .ok (.ifCond .eq 5, 3) := by decide +kernel
theorem dL_law_171 : decode cL_law 171 = .ok (.iconst 0, 1) := by decide +kernel
theorem dL_law_172 : decode cL_law 172 = .ok (.ireturn, 1) := by decide +kernel
theorem dL_law_173 : decode cL_law 173 = .ok (.goto 1003, 3) := by decide +kernel
theorem dL_law_176 : decode cL_law 176 = .ok (.aload_n 1, 1) := by decide +kernel
theorem dL_law_177 : decode cL_law 177 = .ok (.aload_n 0, 1) := by decide +kernel
theorem dL_law_178 : decode cL_law 178 = .ok (.iload 4, 2) := by decide +kernel
theorem dL_law_180 : decode cL_law 180 = .ok (.iconst 1, 1) := by decide +kernel
theorem dL_law_181 : decode cL_law 181 = .ok (.iadd, 1) := by decide +kernel
theorem dL_law_182 : decode cL_law 182 = .ok (.iaload, 1) := by decide +kernel
theorem dL_law_183 : decode cL_law 183 = .ok (.aload_n 0, 1) := by decide +kernel
theorem dL_law_184 : decode cL_law 184 = .ok (.iload 4, 2) := by decide +kernel
theorem dL_law_186 : decode cL_law 186 = .ok (.iconst 2, 1) := by decide +kernel
theorem dL_law_187 : decode cL_law 187 = .ok (.iadd, 1) := by decide +kernel
theorem dL_law_188 : decode cL_law 188 = .ok (.iaload, 1) := by decide +kernel
theorem dL_law_189 : decode cL_law 189 = .ok (.aload_n 0, 1) := by decide +kernel
theorem dL_law_190 : decode cL_law 190 = .ok (.iload 4, 2) := by decide +kernel
theorem dL_law_192 : decode cL_law 192 = .ok (.iconst 3, 1) := by decide +kernel
theorem dL_law_193 : decode cL_law 193 = .ok (.iadd, 1) := by decide +kernel
theorem dL_law_194 : decode cL_law 194 = .ok (.iaload, 1) := by decide +kernel
theorem dL_law_195 : decode cL_law 195 = .ok (.aload_n 3, 1) := by decide +kernel
theorem dL_law_196 : decode cL_law 196 = .ok (.invokestatic 80, 3) := by decide +kernel
theorem dL_law_199 : decode cL_law 199 = .ok (.istore 5, 2) := by decide +kernel
theorem dL_law_201 : decode cL_law 201 = .ok (.aload_n 2, 1) := by decide +kernel
theorem dL_law_202 : decode cL_law 202 = .ok (.aload_n 0, 1) := by decide +kernel
theorem dL_law_203 : decode cL_law 203 = .ok (.iload 4, 2) := by decide +kernel
theorem dL_law_205 : decode cL_law 205 = .ok (.iconst 1, 1) := by decide +kernel
theorem dL_law_206 : decode cL_law 206 = .ok (.iadd, 1) := by decide +kernel
theorem dL_law_207 : decode cL_law 207 = .ok (.iaload, 1) := by decide +kernel
theorem dL_law_208 : decode cL_law 208 = .ok (.aload_n 0, 1) := by decide +kernel
theorem dL_law_209 : decode cL_law 209 = .ok (.iload 4, 2) := by decide +kernel
theorem dL_law_211 : decode cL_law 211 = .ok (.iconst 2, 1) := by decide +kernel
theorem dL_law_212 : decode cL_law 212 = .ok (.iadd, 1) := by decide +kernel
theorem dL_law_213 : decode cL_law 213 = .ok (.iaload, 1) := by decide +kernel
theorem dL_law_214 : decode cL_law 214 = .ok (.aload_n 0, 1) := by decide +kernel
theorem dL_law_215 : decode cL_law 215 = .ok (.iload 4, 2) := by decide +kernel
theorem dL_law_217 : decode cL_law 217 = .ok (.iconst 3, 1) := by decide +kernel
theorem dL_law_218 : decode cL_law 218 = .ok (.iadd, 1) := by decide +kernel
theorem dL_law_219 : decode cL_law 219 = .ok (.iaload, 1) := by decide +kernel
theorem dL_law_220 : decode cL_law 220 = .ok (.invokevirtual 83, 3) := by decide +kernel
theorem dL_law_223 : decode cL_law 223 = .ok (.istore 6, 2) := by decide +kernel
theorem dL_law_225 : decode cL_law 225 = .ok (.aload_n 2, 1) := by decide +kernel
theorem dL_law_226 : decode cL_law 226 = .ok (.invokevirtual 77, 3) := by decide +kernel
theorem dL_law_229 : decode cL_law 229 = .ok (.iload 5, 2) := by decide +kernel
theorem dL_law_231 : decode cL_law 231 = .ok (.if_icmp .eq 5, 3) := by decide +kernel
theorem dL_law_234 : decode cL_law 234 = .ok (.iconst 0, 1) := by decide +kernel
theorem dL_law_235 : decode cL_law 235 = .ok (.ireturn, 1) := by decide +kernel
theorem dL_law_236 : decode cL_law 236 = .ok (.iload 5, 2) := by decide +kernel
theorem dL_law_238 : decode cL_law 238 = .ok (.ifCond .ne 15, 3) := by decide +kernel
theorem dL_law_241 : decode cL_law 241 = .ok (.aload_n 3, 1) := by decide +kernel
theorem dL_law_242 : decode cL_law 242 = .ok (.iconst 0, 1) := by decide +kernel
theorem dL_law_243 : decode cL_law 243 = .ok (.laload, 1) := by decide +kernel
theorem dL_law_244 : decode cL_law 244 = .ok (.iload 6, 2) := by decide +kernel
theorem dL_law_246 : decode cL_law 246 = .ok (.i2l, 1) := by decide +kernel
theorem dL_law_247 : decode cL_law 247 = .ok (.lcmp, 1) := by decide +kernel
theorem dL_law_248 : decode cL_law 248 = .ok (.ifCond .eq 5, 3) := by decide +kernel
theorem dL_law_251 : decode cL_law 251 = .ok (.iconst 0, 1) := by decide +kernel
theorem dL_law_252 : decode cL_law 252 = .ok (.ireturn, 1) := by decide +kernel
theorem dL_law_253 : decode cL_law 253 = .ok (.goto 923, 3) := by decide +kernel
theorem dL_law_256 : decode cL_law 256 = .ok (.aload_n 1, 1) := by decide +kernel
theorem dL_law_257 : decode cL_law 257 = .ok (.aload_n 0, 1) := by decide +kernel
theorem dL_law_258 : decode cL_law 258 = .ok (.iload 4, 2) := by decide +kernel
theorem dL_law_260 : decode cL_law 260 = .ok (.iconst 1, 1) := by decide +kernel
theorem dL_law_261 : decode cL_law 261 = .ok (.iadd, 1) := by decide +kernel
theorem dL_law_262 : decode cL_law 262 = .ok (.iaload, 1) := by decide +kernel
theorem dL_law_263 : decode cL_law 263 = .ok (.aload_n 0, 1) := by decide +kernel
theorem dL_law_264 : decode cL_law 264 = .ok (.iload 4, 2) := by decide +kernel
theorem dL_law_266 : decode cL_law 266 = .ok (.iconst 2, 1) := by decide +kernel
theorem dL_law_267 : decode cL_law 267 = .ok (.iadd, 1) := by decide +kernel
theorem dL_law_268 : decode cL_law 268 = .ok (.iaload, 1) := by decide +kernel
theorem dL_law_269 : decode cL_law 269 = .ok (.aload_n 0, 1) := by decide +kernel
theorem dL_law_270 : decode cL_law 270 = .ok (.iload 4, 2) := by decide +kernel
theorem dL_law_272 : decode cL_law 272 = .ok (.iconst 3, 1) := by decide +kernel
theorem dL_law_273 : decode cL_law 273 = .ok (.iadd, 1) := by decide +kernel
theorem dL_law_274 : decode cL_law 274 = .ok (.iaload, 1) := by decide +kernel
theorem dL_law_275 : decode cL_law 275 = .ok (.invokestatic 84, 3) := by decide +kernel
theorem dL_law_278 : decode cL_law 278 = .ok (.istore 5, 2) := by decide +kernel
theorem dL_law_280 : decode cL_law 280 = .ok (.aload_n 2, 1) := by decide +kernel
theorem dL_law_281 : decode cL_law 281 = .ok (.aload_n 0, 1) := by decide +kernel
theorem dL_law_282 : decode cL_law 282 = .ok (.iload 4, 2) := by decide +kernel
theorem dL_law_284 : decode cL_law 284 = .ok (.iconst 1, 1) := by decide +kernel
theorem dL_law_285 : decode cL_law 285 = .ok (.iadd, 1) := by decide +kernel
theorem dL_law_286 : decode cL_law 286 = .ok (.iaload, 1) := by decide +kernel
theorem dL_law_287 : decode cL_law 287 = .ok (.aload_n 0, 1) := by decide +kernel
theorem dL_law_288 : decode cL_law 288 = .ok (.iload 4, 2) := by decide +kernel
theorem dL_law_290 : decode cL_law 290 = .ok (.iconst 2, 1) := by decide +kernel
theorem dL_law_291 : decode cL_law 291 = .ok (.iadd, 1) := by decide +kernel
theorem dL_law_292 : decode cL_law 292 = .ok (.iaload, 1) := by decide +kernel
theorem dL_law_293 : decode cL_law 293 = .ok (.aload_n 0, 1) := by decide +kernel
theorem dL_law_294 : decode cL_law 294 = .ok (.iload 4, 2) := by decide +kernel
theorem dL_law_296 : decode cL_law 296 = .ok (.iconst 3, 1) := by decide +kernel
theorem dL_law_297 : decode cL_law 297 = .ok (.iadd, 1) := by decide +kernel
theorem dL_law_298 : decode cL_law 298 = .ok (.iaload, 1) := by decide +kernel
theorem dL_law_299 : decode cL_law 299 = .ok (.invokevirtual 87, 3) := by decide +kernel
theorem dL_law_302 : decode cL_law 302 = .ok (.aload_n 2, 1) := by decide +kernel
theorem dL_law_303 : decode cL_law 303 = .ok (.invokevirtual 77, 3) := by decide +kernel
theorem dL_law_306 : decode cL_law 306 = .ok (.iload 5, 2) := by decide +kernel
theorem dL_law_308 : decode cL_law 308 = .ok (.if_icmp .eq 5, 3) := by decide +kernel
theorem dL_law_311 : decode cL_law 311 = .ok (.iconst 0, 1) := by decide +kernel
theorem dL_law_312 : decode cL_law 312 = .ok (.ireturn, 1) := by decide +kernel
theorem dL_law_313 : decode cL_law 313 = .ok (.goto 863, 3) := by decide +kernel
theorem dL_law_316 : decode cL_law 316 = .ok (.aload_n 1, 1) := by decide +kernel
theorem dL_law_317 : decode cL_law 317 = .ok (.aload_n 0, 1) := by decide +kernel
theorem dL_law_318 : decode cL_law 318 = .ok (.iload 4, 2) := by decide +kernel
theorem dL_law_320 : decode cL_law 320 = .ok (.iconst 1, 1) := by decide +kernel
theorem dL_law_321 : decode cL_law 321 = .ok (.iadd, 1) := by decide +kernel
theorem dL_law_322 : decode cL_law 322 = .ok (.iaload, 1) := by decide +kernel
theorem dL_law_323 : decode cL_law 323 = .ok (.aload_n 0, 1) := by decide +kernel
theorem dL_law_324 : decode cL_law 324 = .ok (.iload 4, 2) := by decide +kernel
theorem dL_law_326 : decode cL_law 326 = .ok (.iconst 2, 1) := by decide +kernel
theorem dL_law_327 : decode cL_law 327 = .ok (.iadd, 1) := by decide +kernel
theorem dL_law_328 : decode cL_law 328 = .ok (.iaload, 1) := by decide +kernel
theorem dL_law_329 : decode cL_law 329 = .ok (.aload_n 0, 1) := by decide +kernel
theorem dL_law_330 : decode cL_law 330 = .ok (.iload 4, 2) := by decide +kernel
theorem dL_law_332 : decode cL_law 332 = .ok (.iconst 3, 1) := by decide +kernel
theorem dL_law_333 : decode cL_law 333 = .ok (.iadd, 1) := by decide +kernel
theorem dL_law_334 : decode cL_law 334 = .ok (.iaload, 1) := by decide +kernel
theorem dL_law_335 : decode cL_law 335 = .ok (.aload_n 3, 1) := by decide +kernel
theorem dL_law_336 : decode cL_law 336 = .ok (.invokestatic 88, 3) := by decide +kernel
theorem dL_law_339 : decode cL_law 339 = .ok (.istore 5, 2) := by decide +kernel
theorem dL_law_341 : decode cL_law 341 = .ok (.aload_n 2, 1) := by decide +kernel
theorem dL_law_342 : decode cL_law 342 = .ok (.aload_n 0, 1) := by decide +kernel
theorem dL_law_343 : decode cL_law 343 = .ok (.iload 4, 2) := by decide +kernel
theorem dL_law_345 : decode cL_law 345 = .ok (.iconst 1, 1) := by decide +kernel
theorem dL_law_346 : decode cL_law 346 = .ok (.iadd, 1) := by decide +kernel
theorem dL_law_347 : decode cL_law 347 = .ok (.iaload, 1) := by decide +kernel
theorem dL_law_348 : decode cL_law 348 = .ok (.aload_n 0, 1) := by decide +kernel
theorem dL_law_349 : decode cL_law 349 = .ok (.iload 4, 2) := by decide +kernel
theorem dL_law_351 : decode cL_law 351 = .ok (.iconst 2, 1) := by decide +kernel
theorem dL_law_352 : decode cL_law 352 = .ok (.iadd, 1) := by decide +kernel
theorem dL_law_353 : decode cL_law 353 = .ok (.iaload, 1) := by decide +kernel
theorem dL_law_354 : decode cL_law 354 = .ok (.aload_n 0, 1) := by decide +kernel
theorem dL_law_355 : decode cL_law 355 = .ok (.iload 4, 2) := by decide +kernel
theorem dL_law_357 : decode cL_law 357 = .ok (.iconst 3, 1) := by decide +kernel
theorem dL_law_358 : decode cL_law 358 = .ok (.iadd, 1) := by decide +kernel
theorem dL_law_359 : decode cL_law 359 = .ok (.iaload, 1) := by decide +kernel
theorem dL_law_360 : decode cL_law 360 = .ok (.invokevirtual 90, 3) := by decide +kernel
theorem dL_law_363 : decode cL_law 363 = .ok (.istore 6, 2) := by decide +kernel
theorem dL_law_365 : decode cL_law 365 = .ok (.aload_n 2, 1) := by decide +kernel
theorem dL_law_366 : decode cL_law 366 = .ok (.invokevirtual 77, 3) := by decide +kernel
theorem dL_law_369 : decode cL_law 369 = .ok (.iload 5, 2) := by decide +kernel
theorem dL_law_371 : decode cL_law 371 = .ok (.if_icmp .eq 5, 3) := by decide +kernel
theorem dL_law_374 : decode cL_law 374 = .ok (.iconst 0, 1) := by decide +kernel
theorem dL_law_375 : decode cL_law 375 = .ok (.ireturn, 1) := by decide +kernel
theorem dL_law_376 : decode cL_law 376 = .ok (.iload 5, 2) := by decide +kernel
theorem dL_law_378 : decode cL_law 378 = .ok (.ifCond .ne 15, 3) := by decide +kernel
theorem dL_law_381 : decode cL_law 381 = .ok (.aload_n 3, 1) := by decide +kernel
theorem dL_law_382 : decode cL_law 382 = .ok (.iconst 0, 1) := by decide +kernel
theorem dL_law_383 : decode cL_law 383 = .ok (.laload, 1) := by decide +kernel
theorem dL_law_384 : decode cL_law 384 = .ok (.iload 6, 2) := by decide +kernel
theorem dL_law_386 : decode cL_law 386 = .ok (.i2l, 1) := by decide +kernel
theorem dL_law_387 : decode cL_law 387 = .ok (.lcmp, 1) := by decide +kernel
theorem dL_law_388 : decode cL_law 388 = .ok (.ifCond .eq 5, 3) := by decide +kernel
theorem dL_law_391 : decode cL_law 391 = .ok (.iconst 0, 1) := by decide +kernel
theorem dL_law_392 : decode cL_law 392 = .ok (.ireturn, 1) := by decide +kernel
theorem dL_law_393 : decode cL_law 393 = .ok (.goto 783, 3) := by decide +kernel
theorem dL_law_396 : decode cL_law 396 = .ok (.aload_n 1, 1) := by decide +kernel
theorem dL_law_397 : decode cL_law 397 = .ok (.aload_n 0, 1) := by decide +kernel
theorem dL_law_398 : decode cL_law 398 = .ok (.iload 4, 2) := by decide +kernel
theorem dL_law_400 : decode cL_law 400 = .ok (.iconst 1, 1) := by decide +kernel
theorem dL_law_401 : decode cL_law 401 = .ok (.iadd, 1) := by decide +kernel
theorem dL_law_402 : decode cL_law 402 = .ok (.iaload, 1) := by decide +kernel
theorem dL_law_403 : decode cL_law 403 = .ok (.aload_n 0, 1) := by decide +kernel
theorem dL_law_404 : decode cL_law 404 = .ok (.iload 4, 2) := by decide +kernel
theorem dL_law_406 : decode cL_law 406 = .ok (.iconst 2, 1) := by decide +kernel
theorem dL_law_407 : decode cL_law 407 = .ok (.iadd, 1) := by decide +kernel
theorem dL_law_408 : decode cL_law 408 = .ok (.iaload, 1) := by decide +kernel
theorem dL_law_409 : decode cL_law 409 = .ok (.aload_n 3, 1) := by decide +kernel
theorem dL_law_410 : decode cL_law 410 = .ok (.invokestatic 91, 3) := by decide +kernel
theorem dL_law_413 : decode cL_law 413 = .ok (.istore 5, 2) := by decide +kernel
theorem dL_law_415 : decode cL_law 415 = .ok (.aload_n 2, 1) := by decide +kernel
theorem dL_law_416 : decode cL_law 416 = .ok (.aload_n 0, 1) := by decide +kernel
theorem dL_law_417 : decode cL_law 417 = .ok (.iload 4, 2) := by decide +kernel
theorem dL_law_419 : decode cL_law 419 = .ok (.iconst 1, 1) := by decide +kernel
theorem dL_law_420 : decode cL_law 420 = .ok (.iadd, 1) := by decide +kernel
theorem dL_law_421 : decode cL_law 421 = .ok (.iaload, 1) := by decide +kernel
theorem dL_law_422 : decode cL_law 422 = .ok (.aload_n 0, 1) := by decide +kernel
theorem dL_law_423 : decode cL_law 423 = .ok (.iload 4, 2) := by decide +kernel
theorem dL_law_425 : decode cL_law 425 = .ok (.iconst 2, 1) := by decide +kernel
theorem dL_law_426 : decode cL_law 426 = .ok (.iadd, 1) := by decide +kernel
theorem dL_law_427 : decode cL_law 427 = .ok (.iaload, 1) := by decide +kernel
theorem dL_law_428 : decode cL_law 428 = .ok (.invokevirtual 94, 3) := by decide +kernel
theorem dL_law_431 : decode cL_law 431 = .ok (.istore 6, 2) := by decide +kernel
theorem dL_law_433 : decode cL_law 433 = .ok (.aload_n 2, 1) := by decide +kernel
theorem dL_law_434 : decode cL_law 434 = .ok (.invokevirtual 77, 3) := by decide +kernel
theorem dL_law_437 : decode cL_law 437 = .ok (.iload 5, 2) := by decide +kernel
theorem dL_law_439 : decode cL_law 439 = .ok (.if_icmp .eq 5, 3) := by decide +kernel
theorem dL_law_442 : decode cL_law 442 = .ok (.iconst 0, 1) := by decide +kernel
theorem dL_law_443 : decode cL_law 443 = .ok (.ireturn, 1) := by decide +kernel
theorem dL_law_444 : decode cL_law 444 = .ok (.iload 5, 2) := by decide +kernel
theorem dL_law_446 : decode cL_law 446 = .ok (.ifCond .ne 15, 3) := by decide +kernel
theorem dL_law_449 : decode cL_law 449 = .ok (.aload_n 3, 1) := by decide +kernel
theorem dL_law_450 : decode cL_law 450 = .ok (.iconst 0, 1) := by decide +kernel
theorem dL_law_451 : decode cL_law 451 = .ok (.laload, 1) := by decide +kernel
theorem dL_law_452 : decode cL_law 452 = .ok (.iload 6, 2) := by decide +kernel
theorem dL_law_454 : decode cL_law 454 = .ok (.i2l, 1) := by decide +kernel
theorem dL_law_455 : decode cL_law 455 = .ok (.lcmp, 1) := by decide +kernel
theorem dL_law_456 : decode cL_law 456 = .ok (.ifCond .eq 5, 3) := by decide +kernel
theorem dL_law_459 : decode cL_law 459 = .ok (.iconst 0, 1) := by decide +kernel
theorem dL_law_460 : decode cL_law 460 = .ok (.ireturn, 1) := by decide +kernel
theorem dL_law_461 : decode cL_law 461 = .ok (.goto 715, 3) := by decide +kernel
theorem dL_law_464 : decode cL_law 464 = .ok (.aload_n 1, 1) := by decide +kernel
theorem dL_law_465 : decode cL_law 465 = .ok (.aload_n 0, 1) := by decide +kernel
theorem dL_law_466 : decode cL_law 466 = .ok (.iload 4, 2) := by decide +kernel
theorem dL_law_468 : decode cL_law 468 = .ok (.iconst 1, 1) := by decide +kernel
theorem dL_law_469 : decode cL_law 469 = .ok (.iadd, 1) := by decide +kernel
theorem dL_law_470 : decode cL_law 470 = .ok (.iaload, 1) := by decide +kernel
theorem dL_law_471 : decode cL_law 471 = .ok (.aload_n 0, 1) := by decide +kernel
theorem dL_law_472 : decode cL_law 472 = .ok (.iload 4, 2) := by decide +kernel
theorem dL_law_474 : decode cL_law 474 = .ok (.iconst 2, 1) := by decide +kernel
theorem dL_law_475 : decode cL_law 475 = .ok (.iadd, 1) := by decide +kernel
theorem dL_law_476 : decode cL_law 476 = .ok (.iaload, 1) := by decide +kernel
theorem dL_law_477 : decode cL_law 477 = .ok (.aload_n 3, 1) := by decide +kernel
theorem dL_law_478 : decode cL_law 478 = .ok (.invokestatic 95, 3) := by decide +kernel
theorem dL_law_481 : decode cL_law 481 = .ok (.istore 5, 2) := by decide +kernel
theorem dL_law_483 : decode cL_law 483 = .ok (.aload_n 2, 1) := by decide +kernel
theorem dL_law_484 : decode cL_law 484 = .ok (.aload_n 0, 1) := by decide +kernel
theorem dL_law_485 : decode cL_law 485 = .ok (.iload 4, 2) := by decide +kernel
theorem dL_law_487 : decode cL_law 487 = .ok (.iconst 1, 1) := by decide +kernel
theorem dL_law_488 : decode cL_law 488 = .ok (.iadd, 1) := by decide +kernel
theorem dL_law_489 : decode cL_law 489 = .ok (.iaload, 1) := by decide +kernel
theorem dL_law_490 : decode cL_law 490 = .ok (.aload_n 0, 1) := by decide +kernel
theorem dL_law_491 : decode cL_law 491 = .ok (.iload 4, 2) := by decide +kernel
theorem dL_law_493 : decode cL_law 493 = .ok (.iconst 2, 1) := by decide +kernel
theorem dL_law_494 : decode cL_law 494 = .ok (.iadd, 1) := by decide +kernel
theorem dL_law_495 : decode cL_law 495 = .ok (.iaload, 1) := by decide +kernel
theorem dL_law_496 : decode cL_law 496 = .ok (.invokevirtual 97, 3) := by decide +kernel
theorem dL_law_499 : decode cL_law 499 = .ok (.istore 6, 2) := by decide +kernel
theorem dL_law_501 : decode cL_law 501 = .ok (.aload_n 2, 1) := by decide +kernel
theorem dL_law_502 : decode cL_law 502 = .ok (.invokevirtual 77, 3) := by decide +kernel
theorem dL_law_505 : decode cL_law 505 = .ok (.iload 5, 2) := by decide +kernel
theorem dL_law_507 : decode cL_law 507 = .ok (.if_icmp .eq 5, 3) := by decide +kernel
theorem dL_law_510 : decode cL_law 510 = .ok (.iconst 0, 1) := by decide +kernel
theorem dL_law_511 : decode cL_law 511 = .ok (.ireturn, 1) := by decide +kernel
theorem dL_law_512 : decode cL_law 512 = .ok (.iload 5, 2) := by decide +kernel
theorem dL_law_514 : decode cL_law 514 = .ok (.ifCond .ne 15, 3) := by decide +kernel
theorem dL_law_517 : decode cL_law 517 = .ok (.aload_n 3, 1) := by decide +kernel
theorem dL_law_518 : decode cL_law 518 = .ok (.iconst 0, 1) := by decide +kernel
theorem dL_law_519 : decode cL_law 519 = .ok (.laload, 1) := by decide +kernel
theorem dL_law_520 : decode cL_law 520 = .ok (.iload 6, 2) := by decide +kernel
theorem dL_law_522 : decode cL_law 522 = .ok (.i2l, 1) := by decide +kernel
theorem dL_law_523 : decode cL_law 523 = .ok (.lcmp, 1) := by decide +kernel
theorem dL_law_524 : decode cL_law 524 = .ok (.ifCond .eq 5, 3) := by decide +kernel
theorem dL_law_527 : decode cL_law 527 = .ok (.iconst 0, 1) := by decide +kernel
theorem dL_law_528 : decode cL_law 528 = .ok (.ireturn, 1) := by decide +kernel
theorem dL_law_529 : decode cL_law 529 = .ok (.goto 647, 3) := by decide +kernel
theorem dL_law_532 : decode cL_law 532 = .ok (.aload_n 1, 1) := by decide +kernel
theorem dL_law_533 : decode cL_law 533 = .ok (.aload_n 0, 1) := by decide +kernel
theorem dL_law_534 : decode cL_law 534 = .ok (.iload 4, 2) := by decide +kernel
theorem dL_law_536 : decode cL_law 536 = .ok (.iconst 1, 1) := by decide +kernel
theorem dL_law_537 : decode cL_law 537 = .ok (.iadd, 1) := by decide +kernel
theorem dL_law_538 : decode cL_law 538 = .ok (.iaload, 1) := by decide +kernel
theorem dL_law_539 : decode cL_law 539 = .ok (.aload_n 0, 1) := by decide +kernel
theorem dL_law_540 : decode cL_law 540 = .ok (.iload 4, 2) := by decide +kernel
theorem dL_law_542 : decode cL_law 542 = .ok (.iconst 2, 1) := by decide +kernel
theorem dL_law_543 : decode cL_law 543 = .ok (.iadd, 1) := by decide +kernel
theorem dL_law_544 : decode cL_law 544 = .ok (.iaload, 1) := by decide +kernel
theorem dL_law_545 : decode cL_law 545 = .ok (.ifCond .eq 7, 3) := by decide +kernel
theorem dL_law_548 : decode cL_law 548 = .ok (.iconst 1, 1) := by decide +kernel
theorem dL_law_549 : decode cL_law 549 = .ok (.goto 4, 3) := by decide +kernel
theorem dL_law_552 : decode cL_law 552 = .ok (.iconst 0, 1) := by decide +kernel
theorem dL_law_553 : decode cL_law 553 = .ok (.aload_n 0, 1) := by decide +kernel
theorem dL_law_554 : decode cL_law 554 = .ok (.iload 4, 2) := by decide +kernel
theorem dL_law_556 : decode cL_law 556 = .ok (.iconst 3, 1) := by decide +kernel
theorem dL_law_557 : decode cL_law 557 = .ok (.iadd, 1) := by decide +kernel
theorem dL_law_558 : decode cL_law 558 = .ok (.iaload, 1) := by decide +kernel
theorem dL_law_559 : decode cL_law 559 = .ok (.aload_n 3, 1) := by decide +kernel
theorem dL_law_560 : decode cL_law 560 = .ok (.invokestatic 98, 3) := by decide +kernel
theorem dL_law_563 : decode cL_law 563 = .ok (.istore 5, 2) := by decide +kernel
theorem dL_law_565 : decode cL_law 565 = .ok (.aload_n 2, 1) := by decide +kernel
theorem dL_law_566 : decode cL_law 566 = .ok (.aload_n 0, 1) := by decide +kernel
theorem dL_law_567 : decode cL_law 567 = .ok (.iload 4, 2) := by decide +kernel
theorem dL_law_569 : decode cL_law 569 = .ok (.iconst 1, 1) := by decide +kernel
theorem dL_law_570 : decode cL_law 570 = .ok (.iadd, 1) := by decide +kernel
theorem dL_law_571 : decode cL_law 571 = .ok (.iaload, 1) := by decide +kernel
theorem dL_law_572 : decode cL_law 572 = .ok (.aload_n 0, 1) := by decide +kernel
theorem dL_law_573 : decode cL_law 573 = .ok (.iload 4, 2) := by decide +kernel
theorem dL_law_575 : decode cL_law 575 = .ok (.iconst 2, 1) := by decide +kernel
theorem dL_law_576 : decode cL_law 576 = .ok (.iadd, 1) := by decide +kernel
theorem dL_law_577 : decode cL_law 577 = .ok (.iaload, 1) := by decide +kernel
theorem dL_law_578 : decode cL_law 578 = .ok (.ifCond .eq 7, 3) := by decide +kernel
theorem dL_law_581 : decode cL_law 581 = .ok (.iconst 1, 1) := by decide +kernel
theorem dL_law_582 : decode cL_law 582 = .ok (.goto 4, 3) := by decide +kernel
theorem dL_law_585 : decode cL_law 585 = .ok (.iconst 0, 1) := by decide +kernel
theorem dL_law_586 : decode cL_law 586 = .ok (.aload_n 0, 1) := by decide +kernel
theorem dL_law_587 : decode cL_law 587 = .ok (.iload 4, 2) := by decide +kernel
theorem dL_law_589 : decode cL_law 589 = .ok (.iconst 3, 1) := by decide +kernel
theorem dL_law_590 : decode cL_law 590 = .ok (.iadd, 1) := by decide +kernel
theorem dL_law_591 : decode cL_law 591 = .ok (.iaload, 1) := by decide +kernel
theorem dL_law_592 : decode cL_law 592 = .ok (.invokevirtual 101, 3) := by decide +kernel
theorem dL_law_595 : decode cL_law 595 = .ok (.istore 6, 2) := by decide +kernel
theorem dL_law_597 : decode cL_law 597 = .ok (.aload_n 2, 1) := by decide +kernel
theorem dL_law_598 : decode cL_law 598 = .ok (.invokevirtual 77, 3) := by decide +kernel
theorem dL_law_601 : decode cL_law 601 = .ok (.iload 5, 2) := by decide +kernel
theorem dL_law_603 : decode cL_law 603 = .ok (.if_icmp .eq 5, 3) := by decide +kernel
theorem dL_law_606 : decode cL_law 606 = .ok (.iconst 0, 1) := by decide +kernel
theorem dL_law_607 : decode cL_law 607 = .ok (.ireturn, 1) := by decide +kernel
theorem dL_law_608 : decode cL_law 608 = .ok (.iload 5, 2) := by decide +kernel
theorem dL_law_610 : decode cL_law 610 = .ok (.ifCond .ne 22, 3) := by decide +kernel
theorem dL_law_613 : decode cL_law 613 = .ok (.aload_n 3, 1) := by decide +kernel
theorem dL_law_614 : decode cL_law 614 = .ok (.iconst 0, 1) := by decide +kernel
theorem dL_law_615 : decode cL_law 615 = .ok (.laload, 1) := by decide +kernel
theorem dL_law_616 : decode cL_law 616 = .ok (.iload 6, 2) := by decide +kernel
theorem dL_law_618 : decode cL_law 618 = .ok (.ifCond .eq 7, 3) := by decide +kernel
theorem dL_law_621 : decode cL_law 621 = .ok (.lconst 1, 1) := by decide +kernel
theorem dL_law_622 : decode cL_law 622 = .ok (.goto 4, 3) := by decide +kernel
theorem dL_law_625 : decode cL_law 625 = .ok (.lconst 0, 1) := by decide +kernel
theorem dL_law_626 : decode cL_law 626 = .ok (.lcmp, 1) := by decide +kernel
theorem dL_law_627 : decode cL_law 627 = .ok (.ifCond .eq 5, 3) := by decide +kernel
theorem dL_law_630 : decode cL_law 630 = .ok (.iconst 0, 1) := by decide +kernel
theorem dL_law_631 : decode cL_law 631 = .ok (.ireturn, 1) := by decide +kernel
theorem dL_law_632 : decode cL_law 632 = .ok (.goto 544, 3) := by decide +kernel
theorem dL_law_635 : decode cL_law 635 = .ok (.aload_n 1, 1) := by decide +kernel
theorem dL_law_636 : decode cL_law 636 = .ok (.invokevirtual 102, 3) := by decide +kernel
theorem dL_law_639 : decode cL_law 639 = .ok (.aload_n 2, 1) := by decide +kernel
theorem dL_law_640 : decode cL_law 640 = .ok (.invokevirtual 105, 3) := by decide +kernel
theorem dL_law_643 : decode cL_law 643 = .ok (.if_icmp .eq 533, 3) := by decide +kernel
theorem dL_law_646 : decode cL_law 646 = .ok (.iconst 0, 1) := by decide +kernel
theorem dL_law_647 : decode cL_law 647 = .ok (.ireturn, 1) := by decide +kernel
theorem dL_law_648 : decode cL_law 648 = .ok (.aload_n 1, 1) := by decide +kernel
theorem dL_law_649 : decode cL_law 649 = .ok (.aload_n 0, 1) := by decide +kernel
theorem dL_law_650 : decode cL_law 650 = .ok (.iload 4, 2) := by decide +kernel
theorem dL_law_652 : decode cL_law 652 = .ok (.iconst 1, 1) := by decide +kernel
theorem dL_law_653 : decode cL_law 653 = .ok (.iadd, 1) := by decide +kernel
theorem dL_law_654 : decode cL_law 654 = .ok (.iaload, 1) := by decide +kernel
theorem dL_law_655 : decode cL_law 655 = .ok (.aload_n 3, 1) := by decide +kernel
theorem dL_law_656 : decode cL_law 656 = .ok (.invokestatic 106, 3) := by decide +kernel
theorem dL_law_659 : decode cL_law 659 = .ok (.istore 5, 2) := by decide +kernel
theorem dL_law_661 : decode cL_law 661 = .ok (.aload_n 2, 1) := by decide +kernel
theorem dL_law_662 : decode cL_law 662 = .ok (.aload_n 0, 1) := by decide +kernel
theorem dL_law_663 : decode cL_law 663 = .ok (.iload 4, 2) := by decide +kernel
theorem dL_law_665 : decode cL_law 665 = .ok (.iconst 1, 1) := by decide +kernel
theorem dL_law_666 : decode cL_law 666 = .ok (.iadd, 1) := by decide +kernel
theorem dL_law_667 : decode cL_law 667 = .ok (.iaload, 1) := by decide +kernel
theorem dL_law_668 : decode cL_law 668 = .ok (.invokevirtual 108, 3) := by decide +kernel
theorem dL_law_671 : decode cL_law 671 = .ok (.istore 6, 2) := by decide +kernel
theorem dL_law_673 : decode cL_law 673 = .ok (.aload_n 2, 1) := by decide +kernel
theorem dL_law_674 : decode cL_law 674 = .ok (.invokevirtual 77, 3) := by decide +kernel
theorem dL_law_677 : decode cL_law 677 = .ok (.iload 5, 2) := by decide +kernel
theorem dL_law_679 : decode cL_law 679 = .ok (.if_icmp .eq 5, 3) := by decide +kernel
theorem dL_law_682 : decode cL_law 682 = .ok (.iconst 0, 1) := by decide +kernel
theorem dL_law_683 : decode cL_law 683 = .ok (.ireturn, 1) := by decide +kernel
theorem dL_law_684 : decode cL_law 684 = .ok (.iload 5, 2) := by decide +kernel
theorem dL_law_686 : decode cL_law 686 = .ok (.ifCond .ne 15, 3) := by decide +kernel
theorem dL_law_689 : decode cL_law 689 = .ok (.aload_n 3, 1) := by decide +kernel
theorem dL_law_690 : decode cL_law 690 = .ok (.iconst 0, 1) := by decide +kernel
theorem dL_law_691 : decode cL_law 691 = .ok (.laload, 1) := by decide +kernel
theorem dL_law_692 : decode cL_law 692 = .ok (.iload 6, 2) := by decide +kernel
theorem dL_law_694 : decode cL_law 694 = .ok (.i2l, 1) := by decide +kernel
theorem dL_law_695 : decode cL_law 695 = .ok (.lcmp, 1) := by decide +kernel
theorem dL_law_696 : decode cL_law 696 = .ok (.ifCond .eq 5, 3) := by decide +kernel
theorem dL_law_699 : decode cL_law 699 = .ok (.iconst 0, 1) := by decide +kernel
theorem dL_law_700 : decode cL_law 700 = .ok (.ireturn, 1) := by decide +kernel
theorem dL_law_701 : decode cL_law 701 = .ok (.goto 475, 3) := by decide +kernel
theorem dL_law_704 : decode cL_law 704 = .ok (.aload_n 1, 1) := by decide +kernel
theorem dL_law_705 : decode cL_law 705 = .ok (.aload_n 0, 1) := by decide +kernel
theorem dL_law_706 : decode cL_law 706 = .ok (.iload 4, 2) := by decide +kernel
theorem dL_law_708 : decode cL_law 708 = .ok (.iconst 1, 1) := by decide +kernel
theorem dL_law_709 : decode cL_law 709 = .ok (.iadd, 1) := by decide +kernel
theorem dL_law_710 : decode cL_law 710 = .ok (.iaload, 1) := by decide +kernel
theorem dL_law_711 : decode cL_law 711 = .ok (.aload_n 3, 1) := by decide +kernel
theorem dL_law_712 : decode cL_law 712 = .ok (.invokestatic 109, 3) := by decide +kernel
theorem dL_law_715 : decode cL_law 715 = .ok (.istore 5, 2) := by decide +kernel
theorem dL_law_717 : decode cL_law 717 = .ok (.aload_n 2, 1) := by decide +kernel
theorem dL_law_718 : decode cL_law 718 = .ok (.aload_n 0, 1) := by decide +kernel
theorem dL_law_719 : decode cL_law 719 = .ok (.iload 4, 2) := by decide +kernel
theorem dL_law_721 : decode cL_law 721 = .ok (.iconst 1, 1) := by decide +kernel
theorem dL_law_722 : decode cL_law 722 = .ok (.iadd, 1) := by decide +kernel
theorem dL_law_723 : decode cL_law 723 = .ok (.iaload, 1) := by decide +kernel
theorem dL_law_724 : decode cL_law 724 = .ok (.invokevirtual 111, 3) := by decide +kernel
theorem dL_law_727 : decode cL_law 727 = .ok (.istore 6, 2) := by decide +kernel
theorem dL_law_729 : decode cL_law 729 = .ok (.aload_n 2, 1) := by decide +kernel
theorem dL_law_730 : decode cL_law 730 = .ok (.invokevirtual 77, 3) := by decide +kernel
theorem dL_law_733 : decode cL_law 733 = .ok (.iload 5, 2) := by decide +kernel
theorem dL_law_735 : decode cL_law 735 = .ok (.if_icmp .eq 5, 3) := by decide +kernel
theorem dL_law_738 : decode cL_law 738 = .ok (.iconst 0, 1) := by decide +kernel
theorem dL_law_739 : decode cL_law 739 = .ok (.ireturn, 1) := by decide +kernel
theorem dL_law_740 : decode cL_law 740 = .ok (.iload 5, 2) := by decide +kernel
theorem dL_law_742 : decode cL_law 742 = .ok (.ifCond .ne 15, 3) := by decide +kernel
theorem dL_law_745 : decode cL_law 745 = .ok (.aload_n 3, 1) := by decide +kernel
theorem dL_law_746 : decode cL_law 746 = .ok (.iconst 0, 1) := by decide +kernel
theorem dL_law_747 : decode cL_law 747 = .ok (.laload, 1) := by decide +kernel
theorem dL_law_748 : decode cL_law 748 = .ok (.iload 6, 2) := by decide +kernel
theorem dL_law_750 : decode cL_law 750 = .ok (.i2l, 1) := by decide +kernel
theorem dL_law_751 : decode cL_law 751 = .ok (.lcmp, 1) := by decide +kernel
theorem dL_law_752 : decode cL_law 752 = .ok (.ifCond .eq 5, 3) := by decide +kernel
theorem dL_law_755 : decode cL_law 755 = .ok (.iconst 0, 1) := by decide +kernel
theorem dL_law_756 : decode cL_law 756 = .ok (.ireturn, 1) := by decide +kernel
theorem dL_law_757 : decode cL_law 757 = .ok (.goto 419, 3) := by decide +kernel
theorem dL_law_760 : decode cL_law 760 = .ok (.aload_n 1, 1) := by decide +kernel
theorem dL_law_761 : decode cL_law 761 = .ok (.aload_n 0, 1) := by decide +kernel
theorem dL_law_762 : decode cL_law 762 = .ok (.iload 4, 2) := by decide +kernel
theorem dL_law_764 : decode cL_law 764 = .ok (.iconst 1, 1) := by decide +kernel
theorem dL_law_765 : decode cL_law 765 = .ok (.iadd, 1) := by decide +kernel
theorem dL_law_766 : decode cL_law 766 = .ok (.iaload, 1) := by decide +kernel
theorem dL_law_767 : decode cL_law 767 = .ok (.aload_n 3, 1) := by decide +kernel
theorem dL_law_768 : decode cL_law 768 = .ok (.invokestatic 112, 3) := by decide +kernel
theorem dL_law_771 : decode cL_law 771 = .ok (.istore 5, 2) := by decide +kernel
theorem dL_law_773 : decode cL_law 773 = .ok (.aload_n 2, 1) := by decide +kernel
theorem dL_law_774 : decode cL_law 774 = .ok (.aload_n 0, 1) := by decide +kernel
theorem dL_law_775 : decode cL_law 775 = .ok (.iload 4, 2) := by decide +kernel
theorem dL_law_777 : decode cL_law 777 = .ok (.iconst 1, 1) := by decide +kernel
theorem dL_law_778 : decode cL_law 778 = .ok (.iadd, 1) := by decide +kernel
theorem dL_law_779 : decode cL_law 779 = .ok (.iaload, 1) := by decide +kernel
theorem dL_law_780 : decode cL_law 780 = .ok (.invokevirtual 114, 3) := by decide +kernel
theorem dL_law_783 : decode cL_law 783 = .ok (.istore 6, 2) := by decide +kernel
theorem dL_law_785 : decode cL_law 785 = .ok (.aload_n 2, 1) := by decide +kernel
theorem dL_law_786 : decode cL_law 786 = .ok (.invokevirtual 77, 3) := by decide +kernel
theorem dL_law_789 : decode cL_law 789 = .ok (.iload 5, 2) := by decide +kernel
theorem dL_law_791 : decode cL_law 791 = .ok (.if_icmp .eq 5, 3) := by decide +kernel
theorem dL_law_794 : decode cL_law 794 = .ok (.iconst 0, 1) := by decide +kernel
theorem dL_law_795 : decode cL_law 795 = .ok (.ireturn, 1) := by decide +kernel
theorem dL_law_796 : decode cL_law 796 = .ok (.iload 5, 2) := by decide +kernel
theorem dL_law_798 : decode cL_law 798 = .ok (.ifCond .ne 15, 3) := by decide +kernel
theorem dL_law_801 : decode cL_law 801 = .ok (.aload_n 3, 1) := by decide +kernel
theorem dL_law_802 : decode cL_law 802 = .ok (.iconst 0, 1) := by decide +kernel
theorem dL_law_803 : decode cL_law 803 = .ok (.laload, 1) := by decide +kernel
theorem dL_law_804 : decode cL_law 804 = .ok (.iload 6, 2) := by decide +kernel
theorem dL_law_806 : decode cL_law 806 = .ok (.i2l, 1) := by decide +kernel
theorem dL_law_807 : decode cL_law 807 = .ok (.lcmp, 1) := by decide +kernel
theorem dL_law_808 : decode cL_law 808 = .ok (.ifCond .eq 5, 3) := by decide +kernel
theorem dL_law_811 : decode cL_law 811 = .ok (.iconst 0, 1) := by decide +kernel
theorem dL_law_812 : decode cL_law 812 = .ok (.ireturn, 1) := by decide +kernel
theorem dL_law_813 : decode cL_law 813 = .ok (.goto 363, 3) := by decide +kernel
theorem dL_law_816 : decode cL_law 816 = .ok (.aload_n 1, 1) := by decide +kernel
theorem dL_law_817 : decode cL_law 817 = .ok (.aload_n 0, 1) := by decide +kernel
theorem dL_law_818 : decode cL_law 818 = .ok (.iload 4, 2) := by decide +kernel
theorem dL_law_820 : decode cL_law 820 = .ok (.iconst 1, 1) := by decide +kernel
theorem dL_law_821 : decode cL_law 821 = .ok (.iadd, 1) := by decide +kernel
theorem dL_law_822 : decode cL_law 822 = .ok (.iaload, 1) := by decide +kernel
theorem dL_law_823 : decode cL_law 823 = .ok (.aload_n 0, 1) := by decide +kernel
theorem dL_law_824 : decode cL_law 824 = .ok (.iload 4, 2) := by decide +kernel
theorem dL_law_826 : decode cL_law 826 = .ok (.iconst 2, 1) := by decide +kernel
theorem dL_law_827 : decode cL_law 827 = .ok (.iadd, 1) := by decide +kernel
theorem dL_law_828 : decode cL_law 828 = .ok (.iaload, 1) := by decide +kernel
theorem dL_law_829 : decode cL_law 829 = .ok (.aload_n 3, 1) := by decide +kernel
theorem dL_law_830 : decode cL_law 830 = .ok (.invokestatic 115, 3) := by decide +kernel
theorem dL_law_833 : decode cL_law 833 = .ok (.istore 5, 2) := by decide +kernel
theorem dL_law_835 : decode cL_law 835 = .ok (.aload_n 2, 1) := by decide +kernel
theorem dL_law_836 : decode cL_law 836 = .ok (.aload_n 0, 1) := by decide +kernel
theorem dL_law_837 : decode cL_law 837 = .ok (.iload 4, 2) := by decide +kernel
theorem dL_law_839 : decode cL_law 839 = .ok (.iconst 1, 1) := by decide +kernel
theorem dL_law_840 : decode cL_law 840 = .ok (.iadd, 1) := by decide +kernel
theorem dL_law_841 : decode cL_law 841 = .ok (.iaload, 1) := by decide +kernel
theorem dL_law_842 : decode cL_law 842 = .ok (.aload_n 0, 1) := by decide +kernel
theorem dL_law_843 : decode cL_law 843 = .ok (.iload 4, 2) := by decide +kernel
theorem dL_law_845 : decode cL_law 845 = .ok (.iconst 2, 1) := by decide +kernel
theorem dL_law_846 : decode cL_law 846 = .ok (.iadd, 1) := by decide +kernel
theorem dL_law_847 : decode cL_law 847 = .ok (.iaload, 1) := by decide +kernel
theorem dL_law_848 : decode cL_law 848 = .ok (.invokevirtual 117, 3) := by decide +kernel
theorem dL_law_851 : decode cL_law 851 = .ok (.istore 6, 2) := by decide +kernel
theorem dL_law_853 : decode cL_law 853 = .ok (.aload_n 2, 1) := by decide +kernel
theorem dL_law_854 : decode cL_law 854 = .ok (.invokevirtual 77, 3) := by decide +kernel
theorem dL_law_857 : decode cL_law 857 = .ok (.iload 5, 2) := by decide +kernel
theorem dL_law_859 : decode cL_law 859 = .ok (.if_icmp .eq 5, 3) := by decide +kernel
theorem dL_law_862 : decode cL_law 862 = .ok (.iconst 0, 1) := by decide +kernel
theorem dL_law_863 : decode cL_law 863 = .ok (.ireturn, 1) := by decide +kernel
theorem dL_law_864 : decode cL_law 864 = .ok (.iload 5, 2) := by decide +kernel
theorem dL_law_866 : decode cL_law 866 = .ok (.ifCond .ne 15, 3) := by decide +kernel
theorem dL_law_869 : decode cL_law 869 = .ok (.aload_n 3, 1) := by decide +kernel
theorem dL_law_870 : decode cL_law 870 = .ok (.iconst 0, 1) := by decide +kernel
theorem dL_law_871 : decode cL_law 871 = .ok (.laload, 1) := by decide +kernel
theorem dL_law_872 : decode cL_law 872 = .ok (.iload 6, 2) := by decide +kernel
theorem dL_law_874 : decode cL_law 874 = .ok (.i2l, 1) := by decide +kernel
theorem dL_law_875 : decode cL_law 875 = .ok (.lcmp, 1) := by decide +kernel
theorem dL_law_876 : decode cL_law 876 = .ok (.ifCond .eq 5, 3) := by decide +kernel
theorem dL_law_879 : decode cL_law 879 = .ok (.iconst 0, 1) := by decide +kernel
theorem dL_law_880 : decode cL_law 880 = .ok (.ireturn, 1) := by decide +kernel
theorem dL_law_881 : decode cL_law 881 = .ok (.goto 295, 3) := by decide +kernel
theorem dL_law_884 : decode cL_law 884 = .ok (.aload_n 1, 1) := by decide +kernel
theorem dL_law_885 : decode cL_law 885 = .ok (.aload_n 0, 1) := by decide +kernel
theorem dL_law_886 : decode cL_law 886 = .ok (.iload 4, 2) := by decide +kernel
theorem dL_law_888 : decode cL_law 888 = .ok (.iconst 1, 1) := by decide +kernel
theorem dL_law_889 : decode cL_law 889 = .ok (.iadd, 1) := by decide +kernel
theorem dL_law_890 : decode cL_law 890 = .ok (.iaload, 1) := by decide +kernel
theorem dL_law_891 : decode cL_law 891 = .ok (.aload_n 3, 1) := by decide +kernel
theorem dL_law_892 : decode cL_law 892 = .ok (.invokestatic 118, 3) := by decide +kernel
theorem dL_law_895 : decode cL_law 895 = .ok (.istore 5, 2) := by decide +kernel
theorem dL_law_897 : decode cL_law 897 = .ok (.aload_n 2, 1) := by decide +kernel
theorem dL_law_898 : decode cL_law 898 = .ok (.aload_n 0, 1) := by decide +kernel
theorem dL_law_899 : decode cL_law 899 = .ok (.iload 4, 2) := by decide +kernel
theorem dL_law_901 : decode cL_law 901 = .ok (.iconst 1, 1) := by decide +kernel
theorem dL_law_902 : decode cL_law 902 = .ok (.iadd, 1) := by decide +kernel
theorem dL_law_903 : decode cL_law 903 = .ok (.iaload, 1) := by decide +kernel
theorem dL_law_904 : decode cL_law 904 = .ok (.invokevirtual 120, 3) := by decide +kernel
theorem dL_law_907 : decode cL_law 907 = .ok (.istore 6, 2) := by decide +kernel
theorem dL_law_909 : decode cL_law 909 = .ok (.aload_n 2, 1) := by decide +kernel
theorem dL_law_910 : decode cL_law 910 = .ok (.invokevirtual 77, 3) := by decide +kernel
theorem dL_law_913 : decode cL_law 913 = .ok (.iload 5, 2) := by decide +kernel
theorem dL_law_915 : decode cL_law 915 = .ok (.if_icmp .eq 5, 3) := by decide +kernel
theorem dL_law_918 : decode cL_law 918 = .ok (.iconst 0, 1) := by decide +kernel
theorem dL_law_919 : decode cL_law 919 = .ok (.ireturn, 1) := by decide +kernel
theorem dL_law_920 : decode cL_law 920 = .ok (.iload 5, 2) := by decide +kernel
theorem dL_law_922 : decode cL_law 922 = .ok (.ifCond .ne 15, 3) := by decide +kernel
theorem dL_law_925 : decode cL_law 925 = .ok (.aload_n 3, 1) := by decide +kernel
theorem dL_law_926 : decode cL_law 926 = .ok (.iconst 0, 1) := by decide +kernel
theorem dL_law_927 : decode cL_law 927 = .ok (.laload, 1) := by decide +kernel
theorem dL_law_928 : decode cL_law 928 = .ok (.iload 6, 2) := by decide +kernel
theorem dL_law_930 : decode cL_law 930 = .ok (.i2l, 1) := by decide +kernel
theorem dL_law_931 : decode cL_law 931 = .ok (.lcmp, 1) := by decide +kernel
theorem dL_law_932 : decode cL_law 932 = .ok (.ifCond .eq 5, 3) := by decide +kernel
theorem dL_law_935 : decode cL_law 935 = .ok (.iconst 0, 1) := by decide +kernel
theorem dL_law_936 : decode cL_law 936 = .ok (.ireturn, 1) := by decide +kernel
end
section
theorem dL_law_937 : decode cL_law 937 = .ok (.goto 239, 3) := by decide +kernel
theorem dL_law_940 : decode cL_law 940 = .ok (.aload_n 1, 1) := by decide +kernel
theorem dL_law_941 : decode cL_law 941 = .ok (.aload_n 0, 1) := by decide +kernel
theorem dL_law_942 : decode cL_law 942 = .ok (.iload 4, 2) := by decide +kernel
theorem dL_law_944 : decode cL_law 944 = .ok (.iconst 1, 1) := by decide +kernel
theorem dL_law_945 : decode cL_law 945 = .ok (.iadd, 1) := by decide +kernel
theorem dL_law_946 : decode cL_law 946 = .ok (.iaload, 1) := by decide +kernel
theorem dL_law_947 : decode cL_law 947 = .ok (.aload_n 0, 1) := by decide +kernel
theorem dL_law_948 : decode cL_law 948 = .ok (.iload 4, 2) := by decide +kernel
theorem dL_law_950 : decode cL_law 950 = .ok (.iconst 2, 1) := by decide +kernel
theorem dL_law_951 : decode cL_law 951 = .ok (.iadd, 1) := by decide +kernel
theorem dL_law_952 : decode cL_law 952 = .ok (.iaload, 1) := by decide +kernel
theorem dL_law_953 : decode cL_law 953 = .ok (.aload_n 3, 1) := by decide +kernel
theorem dL_law_954 : decode cL_law 954 = .ok (.invokestatic 121, 3) := by decide +kernel
theorem dL_law_957 : decode cL_law 957 = .ok (.istore 5, 2) := by decide +kernel
theorem dL_law_959 : decode cL_law 959 = .ok (.aload_n 2, 1) := by decide +kernel
theorem dL_law_960 : decode cL_law 960 = .ok (.aload_n 0, 1) := by decide +kernel
theorem dL_law_961 : decode cL_law 961 = .ok (.iload 4, 2) := by decide +kernel
theorem dL_law_963 : decode cL_law 963 = .ok (.iconst 1, 1) := by decide +kernel
theorem dL_law_964 : decode cL_law 964 = .ok (.iadd, 1) := by decide +kernel
theorem dL_law_965 : decode cL_law 965 = .ok (.iaload, 1) := by decide +kernel
theorem dL_law_966 : decode cL_law 966 = .ok (.aload_n 0, 1) := by decide +kernel
theorem dL_law_967 : decode cL_law 967 = .ok (.iload 4, 2) := by decide +kernel
theorem dL_law_969 : decode cL_law 969 = .ok (.iconst 2, 1) := by decide +kernel
theorem dL_law_970 : decode cL_law 970 = .ok (.iadd, 1) := by decide +kernel
theorem dL_law_971 : decode cL_law 971 = .ok (.iaload, 1) := by decide +kernel
theorem dL_law_972 : decode cL_law 972 = .ok (.invokevirtual 123, 3) := by decide +kernel
theorem dL_law_975 : decode cL_law 975 = .ok (.istore 6, 2) := by decide +kernel
theorem dL_law_977 : decode cL_law 977 = .ok (.aload_n 2, 1) := by decide +kernel
theorem dL_law_978 : decode cL_law 978 = .ok (.invokevirtual 77, 3) := by decide +kernel
theorem dL_law_981 : decode cL_law 981 = .ok (.iload 5, 2) := by decide +kernel
theorem dL_law_983 : decode cL_law 983 = .ok (.if_icmp .eq 5, 3) := by decide +kernel
theorem dL_law_986 : decode cL_law 986 = .ok (.iconst 0, 1) := by decide +kernel
theorem dL_law_987 : decode cL_law 987 = .ok (.ireturn, 1) := by decide +kernel
theorem dL_law_988 : decode cL_law 988 = .ok (.iload 5, 2) := by decide +kernel
theorem dL_law_990 : decode cL_law 990 = .ok (.ifCond .ne 15, 3) := by decide +kernel
theorem dL_law_993 : decode cL_law 993 = .ok (.aload_n 3, 1) := by decide +kernel
theorem dL_law_994 : decode cL_law 994 = .ok (.iconst 0, 1) := by decide +kernel
theorem dL_law_995 : decode cL_law 995 = .ok (.laload, 1) := by decide +kernel
theorem dL_law_996 : decode cL_law 996 = .ok (.iload 6, 2) := by decide +kernel
theorem dL_law_998 : decode cL_law 998 = .ok (.i2l, 1) := by decide +kernel
theorem dL_law_999 : decode cL_law 999 = .ok (.lcmp, 1) := by decide +kernel
theorem dL_law_1000 : decode cL_law 1000 = .ok (.ifCond .eq 5, 3) := by decide +kernel
theorem dL_law_1003 : decode cL_law 1003 = .ok (.iconst 0, 1) := by decide +kernel
theorem dL_law_1004 : decode cL_law 1004 = .ok (.ireturn, 1) := by decide +kernel
theorem dL_law_1005 : decode cL_law 1005 = .ok (.goto 171, 3) := by decide +kernel
theorem dL_law_1008 : decode cL_law 1008 = .ok (.aload_n 1, 1) := by decide +kernel
theorem dL_law_1009 : decode cL_law 1009 = .ok (.aload_n 3, 1) := by decide +kernel
theorem dL_law_1010 : decode cL_law 1010 = .ok (.invokestatic 124, 3) := by decide +kernel
theorem dL_law_1013 : decode cL_law 1013 = .ok (.istore 5, 2) := by decide +kernel
theorem dL_law_1015 : decode cL_law 1015 = .ok (.aload_n 2, 1) := by decide +kernel
theorem dL_law_1016 : decode cL_law 1016 = .ok (.invokevirtual 127, 3) := by decide +kernel
theorem dL_law_1019 : decode cL_law 1019 = .ok (.istore 6, 2) := by decide +kernel
theorem dL_law_1021 : decode cL_law 1021 = .ok (.aload_n 2, 1) := by decide +kernel
theorem dL_law_1022 : decode cL_law 1022 = .ok (.invokevirtual 77, 3) := by decide +kernel
theorem dL_law_1025 : decode cL_law 1025 = .ok (.iload 5, 2) := by decide +kernel
theorem dL_law_1027 : decode cL_law 1027 = .ok (.if_icmp .eq 5, 3) := by decide +kernel
theorem dL_law_1030 : decode cL_law 1030 = .ok (.iconst 0, 1) := by decide +kernel
theorem dL_law_1031 : decode cL_law 1031 = .ok (.ireturn, 1) := by decide +kernel
theorem dL_law_1032 : decode cL_law 1032 = .ok (.iload 5, 2) := by decide +kernel
theorem dL_law_1034 : decode cL_law 1034 = .ok (.ifCond .ne 15, 3) := by decide +kernel
theorem dL_law_1037 : decode cL_law 1037 = .ok (.aload_n 3, 1) := by decide +kernel
theorem dL_law_1038 : decode cL_law 1038 = .ok (.iconst 0, 1) := by decide +kernel
theorem dL_law_1039 : decode cL_law 1039 = .ok (.laload, 1) := by decide +kernel
theorem dL_law_1040 : decode cL_law 1040 = .ok (.iload 6, 2) := by decide +kernel
theorem dL_law_1042 : decode cL_law 1042 = .ok (.i2l, 1) := by decide +kernel
theorem dL_law_1043 : decode cL_law 1043 = .ok (.lcmp, 1) := by decide +kernel
theorem dL_law_1044 : decode cL_law 1044 = .ok (.ifCond .eq 5, 3) := by decide +kernel
theorem dL_law_1047 : decode cL_law 1047 = .ok (.iconst 0, 1) := by decide +kernel
theorem dL_law_1048 : decode cL_law 1048 = .ok (.ireturn, 1) := by decide +kernel
theorem dL_law_1049 : decode cL_law 1049 = .ok (.goto 127, 3) := by decide +kernel
theorem dL_law_1052 : decode cL_law 1052 = .ok (.aload_n 1, 1) := by decide +kernel
theorem dL_law_1053 : decode cL_law 1053 = .ok (.aload_n 0, 1) := by decide +kernel
theorem dL_law_1054 : decode cL_law 1054 = .ok (.iload 4, 2) := by decide +kernel
theorem dL_law_1056 : decode cL_law 1056 = .ok (.iconst 1, 1) := by decide +kernel
theorem dL_law_1057 : decode cL_law 1057 = .ok (.iadd, 1) := by decide +kernel
theorem dL_law_1058 : decode cL_law 1058 = .ok (.iaload, 1) := by decide +kernel
theorem dL_law_1059 : decode cL_law 1059 = .ok (.aload_n 3, 1) := by decide +kernel
theorem dL_law_1060 : decode cL_law 1060 = .ok (.invokestatic 128, 3) := by decide +kernel
theorem dL_law_1063 : decode cL_law 1063 = .ok (.istore 5, 2) := by decide +kernel
theorem dL_law_1065 : decode cL_law 1065 = .ok (.aload_n 2, 1) := by decide +kernel
theorem dL_law_1066 : decode cL_law 1066 = .ok (.aload_n 0, 1) := by decide +kernel
theorem dL_law_1067 : decode cL_law 1067 = .ok (.iload 4, 2) := by decide +kernel
theorem dL_law_1069 : decode cL_law 1069 = .ok (.iconst 1, 1) := by decide +kernel
theorem dL_law_1070 : decode cL_law 1070 = .ok (.iadd, 1) := by decide +kernel
theorem dL_law_1071 : decode cL_law 1071 = .ok (.iaload, 1) := by decide +kernel
theorem dL_law_1072 : decode cL_law 1072 = .ok (.invokevirtual 130, 3) := by decide +kernel
theorem dL_law_1075 : decode cL_law 1075 = .ok (.istore 6, 2) := by decide +kernel
theorem dL_law_1077 : decode cL_law 1077 = .ok (.aload_n 2, 1) := by decide +kernel
theorem dL_law_1078 : decode cL_law 1078 = .ok (.invokevirtual 77, 3) := by decide +kernel
theorem dL_law_1081 : decode cL_law 1081 = .ok (.iload 5, 2) := by decide +kernel
theorem dL_law_1083 : decode cL_law 1083 = .ok (.if_icmp .eq 5, 3) := by decide +kernel
theorem dL_law_1086 : decode cL_law 1086 = .ok (.iconst 0, 1) := by decide +kernel
theorem dL_law_1087 : decode cL_law 1087 = .ok (.ireturn, 1) := by decide +kernel
theorem dL_law_1088 : decode cL_law 1088 = .ok (.iload 5, 2) := by decide +kernel
theorem dL_law_1090 : decode cL_law 1090 = .ok (.ifCond .ne 15, 3) := by decide +kernel
theorem dL_law_1093 : decode cL_law 1093 = .ok (.aload_n 3, 1) := by decide +kernel
theorem dL_law_1094 : decode cL_law 1094 = .ok (.iconst 0, 1) := by decide +kernel
theorem dL_law_1095 : decode cL_law 1095 = .ok (.laload, 1) := by decide +kernel
theorem dL_law_1096 : decode cL_law 1096 = .ok (.iload 6, 2) := by decide +kernel
theorem dL_law_1098 : decode cL_law 1098 = .ok (.i2l, 1) := by decide +kernel
theorem dL_law_1099 : decode cL_law 1099 = .ok (.lcmp, 1) := by decide +kernel
theorem dL_law_1100 : decode cL_law 1100 = .ok (.ifCond .eq 5, 3) := by decide +kernel
theorem dL_law_1103 : decode cL_law 1103 = .ok (.iconst 0, 1) := by decide +kernel
theorem dL_law_1104 : decode cL_law 1104 = .ok (.ireturn, 1) := by decide +kernel
theorem dL_law_1105 : decode cL_law 1105 = .ok (.goto 71, 3) := by decide +kernel
theorem dL_law_1108 : decode cL_law 1108 = .ok (.aload_n 1, 1) := by decide +kernel
theorem dL_law_1109 : decode cL_law 1109 = .ok (.aload_n 0, 1) := by decide +kernel
theorem dL_law_1110 : decode cL_law 1110 = .ok (.iload 4, 2) := by decide +kernel
theorem dL_law_1112 : decode cL_law 1112 = .ok (.iconst 1, 1) := by decide +kernel
theorem dL_law_1113 : decode cL_law 1113 = .ok (.iadd, 1) := by decide +kernel
theorem dL_law_1114 : decode cL_law 1114 = .ok (.iaload, 1) := by decide +kernel
theorem dL_law_1115 : decode cL_law 1115 = .ok (.aload_n 0, 1) := by decide +kernel
theorem dL_law_1116 : decode cL_law 1116 = .ok (.iload 4, 2) := by decide +kernel
theorem dL_law_1118 : decode cL_law 1118 = .ok (.iconst 2, 1) := by decide +kernel
theorem dL_law_1119 : decode cL_law 1119 = .ok (.iadd, 1) := by decide +kernel
theorem dL_law_1120 : decode cL_law 1120 = .ok (.iaload, 1) := by decide +kernel
theorem dL_law_1121 : decode cL_law 1121 = .ok (.aload_n 3, 1) := by decide +kernel
theorem dL_law_1122 : decode cL_law 1122 = .ok (.invokestatic 131, 3) := by decide +kernel
theorem dL_law_1125 : decode cL_law 1125 = .ok (.istore 5, 2) := by decide +kernel
theorem dL_law_1127 : decode cL_law 1127 = .ok (.aload_n 2, 1) := by decide +kernel
theorem dL_law_1128 : decode cL_law 1128 = .ok (.aload_n 0, 1) := by decide +kernel
theorem dL_law_1129 : decode cL_law 1129 = .ok (.iload 4, 2) := by decide +kernel
theorem dL_law_1131 : decode cL_law 1131 = .ok (.iconst 1, 1) := by decide +kernel
theorem dL_law_1132 : decode cL_law 1132 = .ok (.iadd, 1) := by decide +kernel
theorem dL_law_1133 : decode cL_law 1133 = .ok (.iaload, 1) := by decide +kernel
theorem dL_law_1134 : decode cL_law 1134 = .ok (.aload_n 0, 1) := by decide +kernel
theorem dL_law_1135 : decode cL_law 1135 = .ok (.iload 4, 2) := by decide +kernel
theorem dL_law_1137 : decode cL_law 1137 = .ok (.iconst 2, 1) := by decide +kernel
theorem dL_law_1138 : decode cL_law 1138 = .ok (.iadd, 1) := by decide +kernel
theorem dL_law_1139 : decode cL_law 1139 = .ok (.iaload, 1) := by decide +kernel
theorem dL_law_1140 : decode cL_law 1140 = .ok (.invokevirtual 133, 3) := by decide +kernel
theorem dL_law_1143 : decode cL_law 1143 = .ok (.istore 6, 2) := by decide +kernel
theorem dL_law_1145 : decode cL_law 1145 = .ok (.aload_n 2, 1) := by decide +kernel
theorem dL_law_1146 : decode cL_law 1146 = .ok (.invokevirtual 77, 3) := by decide +kernel
theorem dL_law_1149 : decode cL_law 1149 = .ok (.iload 5, 2) := by decide +kernel
theorem dL_law_1151 : decode cL_law 1151 = .ok (.if_icmp .eq 5, 3) := by decide +kernel
theorem dL_law_1154 : decode cL_law 1154 = .ok (.iconst 0, 1) := by decide +kernel
theorem dL_law_1155 : decode cL_law 1155 = .ok (.ireturn, 1) := by decide +kernel
theorem dL_law_1156 : decode cL_law 1156 = .ok (.iload 5, 2) := by decide +kernel
theorem dL_law_1158 : decode cL_law 1158 = .ok (.ifCond .ne 15, 3) := by decide +kernel
theorem dL_law_1161 : decode cL_law 1161 = .ok (.aload_n 3, 1) := by decide +kernel
theorem dL_law_1162 : decode cL_law 1162 = .ok (.iconst 0, 1) := by decide +kernel
theorem dL_law_1163 : decode cL_law 1163 = .ok (.laload, 1) := by decide +kernel
theorem dL_law_1164 : decode cL_law 1164 = .ok (.iload 6, 2) := by decide +kernel
theorem dL_law_1166 : decode cL_law 1166 = .ok (.i2l, 1) := by decide +kernel
theorem dL_law_1167 : decode cL_law 1167 = .ok (.lcmp, 1) := by decide +kernel
theorem dL_law_1168 : decode cL_law 1168 = .ok (.ifCond .eq 5, 3) := by decide +kernel
theorem dL_law_1171 : decode cL_law 1171 = .ok (.iconst 0, 1) := by decide +kernel
theorem dL_law_1172 : decode cL_law 1172 = .ok (.ireturn, 1) := by decide +kernel
theorem dL_law_1173 : decode cL_law 1173 = .ok (.goto 3, 3) := by decide +kernel
theorem dL_law_1176 : decode cL_law 1176 = .ok (.iinc 4 4, 3) := by decide +kernel
theorem dL_law_1179 : decode cL_law 1179 = .ok (.goto (-1156), 3) := by decide +kernel
theorem dL_law_1182 : decode cL_law 1182 = .ok (.iconst 1, 1) := by decide +kernel
theorem dL_law_1183 : decode cL_law 1183 = .ok (.ireturn, 1) := by decide +kernel
end
section
/-! A world by tags: how many cells of each tag there are (dm), what each holds (en), where it lies (ad). -/
section GW
variable {p : Program} {l : Launch} {e : Env} {R : Room} {s : State} {m : MethodId} {args : Array Value} {below : List Frame} {meth : Method} {c : Code} {H : Heap} {locs : List Loc} {cells slots : Nat} {Q : State → Prop}
variable {cc : ByteArray} {pc : Nat} {ls : Array Slot} {rest : List Value} {D : va_G} {cl : List vw_C} {A : Nat → Prop} {tys : List (ClassId × FieldType)} {H0 : Heap} {dm : Nat → Nat} {en : Nat → Nat → va_E} {ad : Nat → Nat → Nat}
def gw_P (D : va_G) (cl : List vw_C) (A : Nat → Prop) (dm : Nat → Nat) (en : Nat → Nat → va_E) (ad : Nat → Nat → Nat) (H : Heap) : Prop :=
  (∀ t i : Nat, i < dm t → va_at D cl (ad t i, en t i) H) ∧ (∀ t i : Nat, i < dm t → A (ad t i)) ∧ (∀ t i u j : Nat, i < dm t → j < dm u → ad t i = ad u j → t = u ∧ i = j)
theorem gw_P.one (h : gw_P D cl A dm en ad H) {t i : Nat} (hi : i < dm t) {x : va_E} (he : en t i = x) : va_P D cl [(ad t i, x)] H := by
  intro k q hk
  match k, hk with
  | 0, hk =>
    cases hk
    rw [← he]
    exact h.1 t i hi
  | k + 1, hk => cases hk
theorem gw_P.lt (h : gw_P D cl A dm en ad H) {t i : Nat} (hi : i < dm t) : ad t i < H.size := (h.1 t i hi).lt
theorem gw_P.upd {en2 : Nat → Nat → va_E} {t i : Nat} {H1 : Heap} (h : gw_P D cl A dm en ad H) (hi : i < dm t) (h2 : ∀ t' i' : Nat, i' < dm t' → ¬ (t' = t ∧ i' = i) → en2 t' i' = en t' i') (he : va_at D cl (ad t i, en2 t i) H1) (oq : ∀ q : Nat, q ≠ ad t i → H1[q]? = H[q]?) : gw_P D cl A dm en2 ad H1 := by
  refine ⟨fun t' i' hi' => ?_, h.2.1, h.2.2⟩
  by_cases hq : t' = t ∧ i' = i
  · obtain ⟨rfl, rfl⟩ := hq
    exact he
  · rw [h2 t' i' hi' hq]
    exact (h.1 t' i' hi').kept (oq _ (fun z => hq (h.2.2 t' i' t i hi' hi z)))
theorem gw_P.kept {H1 : Heap} (h : gw_P D cl A dm en ad H) (hq : ∀ t i : Nat, i < dm t → H1[ad t i]? = H[ad t i]?) : gw_P D cl A dm en ad H1 := ⟨fun t i hi => (h.1 t i hi).kept (hq t i hi), h.2.1, h.2.2⟩
theorem gw_P.eqv {en2 : Nat → Nat → va_E} (h : gw_P D cl A dm en ad H) (h2 : ∀ t i : Nat, i < dm t → en2 t i = en t i) : gw_P D cl A dm en2 ad H := ⟨fun t i hi => by rw [h2 t i hi]; exact h.1 t i hi, h.2.1, h.2.2⟩
theorem gw_P.weaken {B : Nat → Prop} (h : gw_P D cl A dm en ad H) (hB : ∀ t i : Nat, i < dm t → B (ad t i)) : gw_P D cl B dm en ad H := ⟨h.1, hB, h.2.2⟩
theorem gw_get (hexec : p.tables.exec = Jvm.exec) (hb : c.code = cc) {own ref C : String} {T : u_T} {N ci index : Nat} (hL : ∀ w ∈ u_ws C T N, w.before args s = true) (hown : s.vm.findClass own = some m.cls) (hK : va_K D cl tys s) (hP : gw_P D cl A dm en ad H) (t i : Nat) (hi : i < dm t) {fs : List Value} (he : en t i = .inr (ci, fs)) (hc : cl[ci]? = some (C, T, N)) (k : Nat) (hk : k < N)
    (hlink : (Cond.fieldLink own index ref (T k).2.1 (T k).2.2.1).before args s = true) (hsame : ∀ x, s.fieldFound? (T k).1 (T k).2.1 (T k).2.2.1 = some x → s.fieldFound? ref (T k).2.1 (T k).2.2.1 = some x) {v : Value} (hv : fs[k]? = some v) (hdg : decode cc pc = .ok (.getfield index, 3))
    (kk : W p l e R s m args below meth c H locs cells slots Q (F0 m (pc + 3) ls (v :: rest))) : W p l e R s m args below meth c H locs cells slots Q (F0 m pc ls (.ref (ad t i) :: rest)) :=
  va_get (Ts := u_ws C T N) hexec hb hL (fun _ h => h) hown hK (hP.one hi he) 0 rfl hc k hk hlink hsame hv hdg kk
theorem gw_put (hexec : p.tables.exec = Jvm.exec) (hb : c.code = cc) {own ref C : String} {T : u_T} {N ci index : Nat} (hL : ∀ w ∈ u_ws C T N, w.before args s = true) (ty0 : Nat → FieldType) (hty : ∀ k, k < N → parseFieldDescriptor (T k).2.2.1 = some (ty0 k)) (hnm : ∀ a, a < N → ∀ b, b < N → a ≠ b → (T a).2.1 ≠ (T b).2.1) (hown : s.vm.findClass own = some m.cls) (hK : va_K D cl tys s) (hP : gw_P D cl A dm en ad H) (hS0 : va_S A H0 H locs) (t i : Nat) (hi : i < dm t) {fs : List Value} (he : en t i = .inr (ci, fs)) (hc : cl[ci]? = some (C, T, N)) (k : Nat) (hk : k < N)
    (hlink : (Cond.fieldLink own index ref (T k).2.1 (T k).2.2.1).before args s = true) (hsame : ∀ x, s.fieldFound? (T k).1 (T k).2.1 (T k).2.2.1 = some x → s.fieldFound? ref (T k).2.1 (T k).2.2.1 = some x) (hfin : (T k).2.2.2 = false) {ty : FieldType} {v : Value} (hd : parseFieldDescriptor (T k).2.2.1 = some ty) (hn : narrow ty v = v) (hfit : fits ty v = true) (hl : k < fs.length) (hdg : decode cc pc = .ok (.putfield index, 3))
    (en2 : Nat → Nat → va_E) (h1 : en2 t i = .inr (ci, fs.set k v)) (h2 : ∀ t' i' : Nat, i' < dm t' → ¬ (t' = t ∧ i' = i) → en2 t' i' = en t' i')
    (kk : ∀ (H1 : Heap) (locs1 : List Loc), gw_P D cl A dm en2 ad H1 → va_S A H0 H1 locs1 → W p l e R s m args below meth c H1 locs1 cells slots Q (F0 m (pc + 3) ls rest)) : W p l e R s m args below meth c H locs cells slots Q (F0 m pc ls (v :: .ref (ad t i) :: rest)) := by
  have hap := va_apart (own := own) hL (fun _ h => h) ty0 hty hnm hK hc
  have h9 := hP.1 t i hi
  rw [he] at h9
  obtain ⟨r, hr1, cell, q1, q2, q3, q4⟩ := h9
  have hr : r = (C, T, N) := Option.some.inj (hr1.symm.trans hc)
  subst hr
  obtain ⟨hSl, hfc, kC, hkC, hkind⟩ := hK.1 ci _ hc
  obtain ⟨cf, kf, fi, f, hfi, hsl⟩ := hSl k hk
  have hlay := hL _ (u_in_lay hk)
  unfold u_lay at hlay
  rw [if_neg (by rw [hfin]; decide)] at hlay
  have hst := (u_facts hfc hkC (u_lays hL (fun _ h => h) hk) hfi).1
  have h6 := u_store hfc hkC hkind hlay hfi hd hn hfit
  refine W.putK hexec hb (f := f) ⟨hown, hlink, ⟨_, _, _, hsame _ hfi⟩, hst⟩ (by rw [q2]; exact h6) q1 q3 (by rw [hsl]; exact k2_hasslot (q4 k hk)) rfl rfl hdg fun H' e1 e2 e3 => ?_
  rw [hsl] at e1 ⊢
  refine kk H' _ (hP.upd hi h2 ?_ e3) (hS0.put e2 e3 (hP.2.1 t i hi))
  rw [h1]
  exact ⟨_, hc, t_OB.to (V := updV (vp_V fs) k v) ⟨_, e1, q2, q3, t_set q4 hap hk v⟩ (fun j _ => vp_updV_set hl v j)⟩
theorem gw_iald (hexec : p.tables.exec = Jvm.exec) (hb : c.code = cc) (hK : va_K D cl tys s) (hP : gw_P D cl A dm en ad H) (t i : Nat) (hi : i < dm t) (t0 : Nat) {cA : ClassId} {n : Nat} {f : Nat → Int32} (he : en t i = .inl (cA, n, .inl f)) (ht : tys[t0]? = some (cA, .int)) (j : Nat) {x v : Int32} (hx : x = nI j) (hj : j < n) (hn : n < 2 ^ 31) (hv : f j = v) (hdg : decode cc pc = .ok (.iaload, 1))
    (kk : W p l e R s m args below meth c H locs cells slots Q (F0 m (pc + 1) ls (.int v :: rest))) : W p l e R s m args below meth c H locs cells slots Q (F0 m pc ls (.int x :: .ref (ad t i) :: rest)) := by
  subst hx
  subst hv
  refine va_iald hexec hb hK (hP.one hi he) 0 t0 rfl ht (vp_in_nI hj hn) hdg ?_
  rw [nI_clamp (Nat.lt_trans hj hn)]
  exact kk
theorem gw_zald (hexec : p.tables.exec = Jvm.exec) (hb : c.code = cc) (hK : va_K D cl tys s) (hP : gw_P D cl A dm en ad H) (t i : Nat) (hi : i < dm t) (t0 : Nat) {cA : ClassId} {n : Nat} {f : Nat → Int32} (he : en t i = .inl (cA, n, .inl f)) (ht : tys[t0]? = some (cA, .boolean)) (j : Nat) {x v : Int32} (hx : x = nI j) (hj : j < n) (hn : n < 2 ^ 31) (hv : f j = v) (hdg : decode cc pc = .ok (.baload, 1))
    (kk : W p l e R s m args below meth c H locs cells slots Q (F0 m (pc + 1) ls (.int v :: rest))) : W p l e R s m args below meth c H locs cells slots Q (F0 m pc ls (.int x :: .ref (ad t i) :: rest)) := by
  subst hx
  subst hv
  refine va_zald hexec hb hK (hP.one hi he) 0 t0 rfl ht (vp_in_nI hj hn) hdg ?_
  rw [nI_clamp (Nat.lt_trans hj hn)]
  exact kk
theorem gw_lald (hexec : p.tables.exec = Jvm.exec) (hb : c.code = cc) (hK : va_K D cl tys s) (hP : gw_P D cl A dm en ad H) (t i : Nat) (hi : i < dm t) (t0 : Nat) {cA : ClassId} {n : Nat} {f : Nat → Int64} (he : en t i = .inl (cA, n, .inr (.inl f))) (ht : tys[t0]? = some (cA, .long)) (j : Nat) {x : Int32} {v : Int64} (hx : x = nI j) (hj : j < n) (hn : n < 2 ^ 31) (hv : f j = v) (hdg : decode cc pc = .ok (.laload, 1))
    (kk : W p l e R s m args below meth c H locs cells slots Q (F0 m (pc + 1) ls (.long v :: rest))) : W p l e R s m args below meth c H locs cells slots Q (F0 m pc ls (.int x :: .ref (ad t i) :: rest)) := by
  subst hx
  subst hv
  refine va_lald hexec hb hK (hP.one hi he) 0 t0 rfl ht (vp_in_nI hj hn) hdg ?_
  rw [nI_clamp (Nat.lt_trans hj hn)]
  exact kk
theorem gw_aald (hexec : p.tables.exec = Jvm.exec) (hb : c.code = cc) (hK : va_K D cl tys s) (hP : gw_P D cl A dm en ad H) (t i : Nat) (hi : i < dm t) (t0 : Nat) {C : String} {cA : ClassId} {n : Nat} {f : Nat → Option Nat} (he : en t i = .inl (cA, n, .inr (.inr (.inr (.inr f))))) (ht : tys[t0]? = some (cA, .object C)) (j : Nat) {x : Int32} {a : Nat} (hx : x = nI j) (hj : j < n) (hn : n < 2 ^ 31) (hv : f j = some a) (hdg : decode cc pc = .ok (.aaload, 1))
    (kk : W p l e R s m args below meth c H locs cells slots Q (F0 m (pc + 1) ls (.ref a :: rest))) : W p l e R s m args below meth c H locs cells slots Q (F0 m pc ls (.int x :: .ref (ad t i) :: rest)) := by
  subst hx
  refine va_aldq hexec hb hK (hP.one hi he) 0 t0 rfl ht (vp_in_nI hj hn) hdg ?_
  rw [nI_clamp (Nat.lt_trans hj hn), hv]
  exact kk
theorem gw_iast (hexec : p.tables.exec = Jvm.exec) (hb : c.code = cc) (hK : va_K D cl tys s) (hP : gw_P D cl A dm en ad H) (hS : va_S A H0 H locs) (t i : Nat) (hi : i < dm t) (t0 : Nat) {cA : ClassId} {n : Nat} {f : Nat → Int32} (he : en t i = .inl (cA, n, .inl f)) (ht : tys[t0]? = some (cA, .int)) (j : Nat) {x v : Int32} (hx : x = nI j) (hj : j < n) (hn : n < 2 ^ 31) (hdg : decode cc pc = .ok (.iastore, 1))
    (en2 : Nat → Nat → va_E) (h1 : en2 t i = .inl (cA, n, .inl (upd f j v))) (h2 : ∀ t' i' : Nat, i' < dm t' → ¬ (t' = t ∧ i' = i) → en2 t' i' = en t' i')
    (kk : ∀ (H1 : Heap) (locs1 : List Loc), gw_P D cl A dm en2 ad H1 → va_S A H0 H1 locs1 → W p l e R s m args below meth c H1 locs1 cells slots Q (F0 m (pc + 1) ls rest)) : W p l e R s m args below meth c H locs cells slots Q (F0 m pc ls (.int v :: .int x :: .ref (ad t i) :: rest)) := by
  subst hx
  have hin : vp_in (nI j) n := vp_in_nI hj hn
  have hcl : (nI j).toNatClampNeg = j := nI_clamp (Nat.lt_trans hj hn)
  refine W.iast hexec hb (hP.one hi he 0 _ rfl) ((hK.2 t0 _ ht).1 n (fun j => .int (f j))) (fun q => by cases q) (by show ¬ (nI j < 0 ∨ (arrV _ _ _).slots.size ≤ _); rw [arrV_size]; exact hin) rfl rfl hdg fun H1 e1 z oq => ?_
  refine kk H1 _ (hP.upd hi h2 ?_ oq) (hS.put z oq (hP.2.1 t i hi))
  rw [h1]
  show H1[ad t i]? = some (vp_cell _ _)
  rw [e1, hcl]
  rw [vp_cell_i, vp_cell_i, arrV_store]
  congr 2
  funext q
  by_cases hq : q = j
  · subst hq
    simp [updV, upd]
  · simp [updV, upd, hq]
theorem gw_zast (hexec : p.tables.exec = Jvm.exec) (hb : c.code = cc) (hK : va_K D cl tys s) (hP : gw_P D cl A dm en ad H) (hS : va_S A H0 H locs) (t i : Nat) (hi : i < dm t) (t0 : Nat) {cA : ClassId} {n : Nat} {f : Nat → Int32} (he : en t i = .inl (cA, n, .inl f)) (ht : tys[t0]? = some (cA, .boolean)) (j : Nat) {x v : Int32} (hx : x = nI j) (hj : j < n) (hn : n < 2 ^ 31) (hz : narrow .boolean (.int v) = .int v) (hdg : decode cc pc = .ok (.bastore, 1))
    (en2 : Nat → Nat → va_E) (h1 : en2 t i = .inl (cA, n, .inl (upd f j v))) (h2 : ∀ t' i' : Nat, i' < dm t' → ¬ (t' = t ∧ i' = i) → en2 t' i' = en t' i')
    (kk : ∀ (H1 : Heap) (locs1 : List Loc), gw_P D cl A dm en2 ad H1 → va_S A H0 H1 locs1 → W p l e R s m args below meth c H1 locs1 cells slots Q (F0 m (pc + 1) ls rest)) : W p l e R s m args below meth c H locs cells slots Q (F0 m pc ls (.int v :: .int x :: .ref (ad t i) :: rest)) := by
  subst hx
  have hin : vp_in (nI j) n := vp_in_nI hj hn
  have hcl : (nI j).toNatClampNeg = j := nI_clamp (Nat.lt_trans hj hn)
  refine W.zast hexec hb (hP.one hi he 0 _ rfl) ((hK.2 t0 _ ht).1 n (fun j => .int (f j))) (fun q => by cases q) (by show ¬ (nI j < 0 ∨ (arrV _ _ _).slots.size ≤ _); rw [arrV_size]; exact hin) rfl rfl hdg fun H1 e1 z oq => ?_
  refine kk H1 _ (hP.upd hi h2 ?_ oq) (hS.put z oq (hP.2.1 t i hi))
  rw [h1]
  show H1[ad t i]? = some (vp_cell _ _)
  rw [e1, hcl, hz]
  rw [vp_cell_i, vp_cell_i, arrV_store]
  congr 2
  funext q
  by_cases hq : q = j
  · subst hq
    simp [updV, upd]
  · simp [updV, upd, hq]
theorem gw_last (hexec : p.tables.exec = Jvm.exec) (hb : c.code = cc) (hK : va_K D cl tys s) (hP : gw_P D cl A dm en ad H) (hS : va_S A H0 H locs) (t i : Nat) (hi : i < dm t) (t0 : Nat) {cA : ClassId} {n : Nat} {f : Nat → Int64} (he : en t i = .inl (cA, n, .inr (.inl f))) (ht : tys[t0]? = some (cA, .long)) (j : Nat) {x : Int32} {v : Int64} (hx : x = nI j) (hj : j < n) (hn : n < 2 ^ 31) (hdg : decode cc pc = .ok (.lastore, 1))
    (en2 : Nat → Nat → va_E) (h1 : en2 t i = .inl (cA, n, .inr (.inl (vp_updL f j v)))) (h2 : ∀ t' i' : Nat, i' < dm t' → ¬ (t' = t ∧ i' = i) → en2 t' i' = en t' i')
    (kk : ∀ (H1 : Heap) (locs1 : List Loc), gw_P D cl A dm en2 ad H1 → va_S A H0 H1 locs1 → W p l e R s m args below meth c H1 locs1 cells slots Q (F0 m (pc + 1) ls rest)) : W p l e R s m args below meth c H locs cells slots Q (F0 m pc ls (.long v :: .int x :: .ref (ad t i) :: rest)) := by
  subst hx
  have hin : vp_in (nI j) n := vp_in_nI hj hn
  have hcl : (nI j).toNatClampNeg = j := nI_clamp (Nat.lt_trans hj hn)
  refine W.last hexec hb (hP.one hi he 0 _ rfl) ((hK.2 t0 _ ht).1 n (fun j => .long (f j))) (fun q => by cases q) (by show ¬ (nI j < 0 ∨ (arrV _ _ _).slots.size ≤ _); rw [arrV_size]; exact hin) rfl rfl hdg fun H1 e1 z oq => ?_
  refine kk H1 _ (hP.upd hi h2 ?_ oq) (hS.put z oq (hP.2.1 t i hi))
  rw [h1]
  show H1[ad t i]? = some (vp_cell _ _)
  rw [e1, hcl]
  rw [vp_cell_l, vp_cell_l, arrV_store]
  congr 2
  funext q
  by_cases hq : q = j
  · subst hq
    simp [updV, vp_updL]
  · simp [updV, vp_updL, hq]
/-- a part of a world by another's tags: a receiver -/
theorem gw_recv (hK : va_K D cl tys s) (hP : gw_P D cl A dm en ad H) (t i : Nat) (hi : i < dm t) {ci : Nat} {q : vw_C} {fs : List Value} (he : en t i = .inr (ci, fs)) (hc : cl[ci]? = some q) : ∃ cell : Cell, H[ad t i]? = some cell ∧ cell.vm.isStatics = false ∧ s.vm.findClass q.1 = some cell.cls :=
  va_recv hK (hP.one hi he) hc (q0 := 0) rfl
end GW
end
section
/-! What every method here is started with: the tables' words that are no good words, the statics, the texts; the memory of numbers that both sides are pictures of. -/
def g_IA : String := "java/lang/IllegalArgumentException"
def g_IS : String := "java/lang/IllegalStateException"
def g_sup : List String := ["java/lang/RuntimeException", "java/lang/Exception"]
/-- how many inputs a kind names -/
def nmd (k : Nat) : Nat := ([0, 0, 2, 2, 2, 2, 2, 2, 2, 2, 2, 2, 2, 1, 3, 1, 1, 1, 2, 2, 0, 1, 1, 2, 2, 1] : List Nat).getD k 0
def g_strs : List (Nat × String) := [(167, "no such kind"), (55, "there are 40 blocks"), (169, "no such block"), (68, "no such input"), (84, "no such place in a row"), (89, "the block is no ROW"), (100, "no such point"), (113, "no such place in the order"), (115, "n is not 1 to 500"), (117, "there is a ring"), (119, "time would be above 3000"), (127, "a state has the values 0 and 1"), (135, "no such kind of failure"), (143, "no such failure is kept"), (145, "a failure has the facts 0 to 2"), (151, "there are 5 savings"), (158, "no such saving")]
def g_Nst (U : State) : Prop :=
  (va_Nw (.fieldLinkNest RX0 47 RX3 "NAMED_INPUTS" "[I" RX3) U ∧ va_Nw (.methodLinkNest RX0 54 yX3_isPlaceInRow RX3) U ∧ va_Nw (.methodLinkNest RX0 72 yX3_asNumber RX3) U ∧ va_Nw (.methodLinkNest RX3 35 yX1_init RX3) U ∧ va_Nw (.methodLinkNest RX3 153 yX2_init RX3) U) ∧
  (va_Nw (.castable g_IA g_IA) U ∧ va_Nw (.castable g_IS g_IS) U) ∧ (va_Nw (.declares (Bundle.initS "java/lang/RuntimeException")) U ∧ va_Nw (.declares (Bundle.initS "java/lang/Exception")) U ∧ va_Nw (.declares (Bundle.initS "java/lang/Throwable")) U) ∧ (va_AO RX0 U ∧ va_AO RX2 U) ∧ ∀ q ∈ g_strs, ∃ sa : Nat, vk_R RX3 q.1 q.2 sa U
theorem g_Nst.warm {s U : State} (hW : s.WarmedH U.vm) (h : g_Nst s) : g_Nst U := by
  obtain ⟨⟨a1, a2, a3, a4, a5⟩, ⟨b1, b2⟩, ⟨c1, c2, c3⟩, ⟨d1, d2⟩, h5⟩ := h
  refine ⟨⟨va_Nw.warmF hW a1, va_Nw.warmM hW a2, va_Nw.warmM hW a3, va_Nw.warmM hW a4, va_Nw.warmM hW a5⟩, ⟨va_Nw.warmC hW b1, va_Nw.warmC hW b2⟩, ⟨va_Nw.warmD hW c1, va_Nw.warmD hW c2, va_Nw.warmD hW c3⟩, ⟨va_AO.moved hW.alike d1, va_AO.moved hW.alike d2⟩, fun q hq => ?_⟩
  obtain ⟨sa, hs⟩ := h5 q hq
  exact ⟨sa, vk_R.warm hW hs⟩
theorem g_Nst.same {s U : State} (hv : s.vm = U.vm) (h : g_Nst s) : g_Nst U := by
  obtain ⟨⟨a1, a2, a3, a4, a5⟩, ⟨b1, b2⟩, ⟨c1, c2, c3⟩, ⟨d1, d2⟩, h5⟩ := h
  refine ⟨⟨va_Nw.same rfl hv a1, va_Nw.same rfl hv a2, va_Nw.same rfl hv a3, va_Nw.same rfl hv a4, va_Nw.same rfl hv a5⟩, ⟨va_Nw.same rfl hv b1, va_Nw.same rfl hv b2⟩, ⟨va_Nw.same rfl hv c1, va_Nw.same rfl hv c2, va_Nw.same rfl hv c3⟩, ⟨va_AO.moved (by rw [hv]; exact Vm.Alike.refl U.vm) d1, va_AO.moved (by rw [hv]; exact Vm.Alike.refl U.vm) d2⟩, fun q hq => ?_⟩
  obtain ⟨sa, hs⟩ := h5 q hq
  exact ⟨sa, vk_R.same hv.symm hs⟩
abbrev g_tys (cI cZ cB cS : ClassId) : List (ClassId × FieldType) := [(cI, .int), (cZ, .boolean), (cB, .object RX0), (cS, .object RX2)]
def g_E (D : va_G) (cI cZ cB cS : ClassId) (A : Nat → Prop) (U : State) (H : Heap) : Prop :=
  va_K D vwCl (g_tys cI cZ cB cS) U ∧ vx_Zq Bundle.tN "UNASSIGNED_STACK" Bundle.steD A U H ∧ vx_Zq Bundle.tN "SUPPRESSED_SENTINEL" Bundle.listD A U H ∧ (∃ t : Nat, va_Z RX3 "NAMED_INPUTS" "[I" (.ref t) A U H ∧ va_T .int t 26 (fun j => .int (nI (nmd j))) A U H) ∧ g_Nst U
theorem g_E.go {D : va_G} {cI cZ cB cS : ClassId} {A : Nat → Prop} {s U : State} {H H1 : Heap} (hW : s.WarmedH U.vm) (hq : ∀ a : Nat, a < H.size → ¬ A a → H1[a]? = H[a]?) (h : g_E D cI cZ cB cS A s H) : g_E D cI cZ cB cS A U H1 := by
  obtain ⟨h1, h2, h3, ⟨t, h4, h5⟩, h6⟩ := h
  exact ⟨va_K.moved hW.alike h1, (vx_Zq.moved hW.alike h2).kept hq, (vx_Zq.moved hW.alike h3).kept hq, ⟨t, (va_Z.moved hW.alike h4).kept hq, (va_T.moved hW.alike h5).kept hq⟩, h6.warm hW⟩
theorem g_E.same {D : va_G} {cI cZ cB cS : ClassId} {A : Nat → Prop} {s U : State} {H : Heap} (hv : s.vm = U.vm) (h : g_E D cI cZ cB cS A s H) : g_E D cI cZ cB cS A U H := by
  have hal : s.vm.Alike U.vm := by rw [hv]; exact Vm.Alike.refl U.vm
  obtain ⟨h1, h2, h3, ⟨t, h4, h5⟩, h6⟩ := h
  exact ⟨va_K.moved hal h1, vx_Zq.moved hal h2, vx_Zq.moved hal h3, ⟨t, va_Z.moved hal h4, va_T.moved hal h5⟩, h6.same hv⟩
theorem g_E.narrow {D : va_G} {cI cZ cB cS : ClassId} {A B : Nat → Prop} {U : State} {H : Heap} (h : g_E D cI cZ cB cS A U H) (hAB : ∀ q, B q → A q) : g_E D cI cZ cB cS B U H := by
  obtain ⟨h1, h2, h3, ⟨t, h4, h5⟩, h6⟩ := h
  exact ⟨h1, h2.narrow hAB, h3.narrow hAB, ⟨t, h4.narrow hAB, h5.narrow hAB⟩, h6⟩
/-- a method's start, whatever the world -/
def gPc (D : va_G) (cI cZ cB cS : ClassId) (A : Nat → Prop) (dm : Nat → Nat) (en : Nat → Nat → va_E) (ad : Nat → Nat → Nat) (av : List Value) : Array Value → State → Prop := fun v U =>
  v = av.toArray ∧ gw_P D vwCl A dm en ad U.heap ∧ g_E D cI cZ cB cS A U U.heap ∧ ∀ q : Nat, U.heap.size ≤ q → A q
theorem gPc_blind {D : va_G} {cI cZ cB cS : ClassId} {A : Nat → Prop} {dm : Nat → Nat} {en : Nat → Nat → va_E} {ad : Nat → Nat → Nat} {av : List Value} : FrameBlind (gPc D cI cZ cB cS A dm en ad av) := by
  intro a U g mk h
  obtain ⟨h1, h2, h3, h4⟩ := h
  exact ⟨h1, h2, g_E.same (U := U.calling g mk a) rfl h3, h4⟩
section GPC
variable {D : va_G} {cI cZ cB cS : ClassId} {A : Nat → Prop} {dm : Nat → Nat} {en : Nat → Nat → va_E} {ad : Nat → Nat → Nat} {s : State} {H : Heap} {locs : List Loc}
theorem gPc_at (hE : g_E D cI cZ cB cS A s s.heap) (hA : ∀ q : Nat, s.heap.size ≤ q → A q) (hS : va_S A s.heap H locs) (hP : gw_P D vwCl A dm en ad H) {av : List Value} (U : State) (hU : U.heap = H) (hW : s.WarmedH U.vm) : gPc D cI cZ cB cS A dm en ad av av.toArray U := by
  subst hU
  exact ⟨rfl, hP, hE.go hW hS.2.1, fun q hq => hA q (Nat.le_trans hS.1 hq)⟩
theorem gPreS (hE : g_E D cI cZ cB cS A s s.heap) (hA : ∀ q : Nat, s.heap.size ≤ q → A q) (hS : va_S A s.heap H locs) (hP : gw_P D vwCl A dm en ad H) {As : List Value} : PreS s H (gPc D cI cZ cB cS A dm en ad As) As := ⟨gPc_blind, fun U hU hW => gPc_at hE hA hS hP U hU hW⟩
theorem gPreV (hE : g_E D cI cZ cB cS A s s.heap) (hA : ∀ q : Nat, s.heap.size ≤ q → A q) (hS : va_S A s.heap H locs) (hP : gw_P D vwCl A dm en ad H) {As : List Value} {b : Nat} {C : String} (hr : ∃ cell : Cell, H[b]? = some cell ∧ cell.vm.isStatics = false ∧ s.vm.findClass C = some cell.cls) : PreV s H C b (gPc D cI cZ cB cS A dm en ad (.ref b :: As)) As := ⟨gPc_blind, hr, fun U hU hW => gPc_at hE hA hS hP U hU hW⟩
end GPC
section GTOP
variable {p : Program} {l : Launch} {e : Env} {R : Room} {s : State} {m : MethodId} {args : Array Value} {below : List Frame} {meth : Method} {c : Code} {H : Heap} {locs : List Loc} {cells slots : Nat} {Q : State → Prop} {pc : Nat} {ls : Array Slot} {rest : List Value}
theorem lv_toq {x : Int32} (y : Int32) (h : x = y) (k : W p l e R s m args below meth c H locs cells slots Q (F0 m pc ls (.int y :: rest))) : W p l e R s m args below meth c H locs cells slots Q (F0 m pc ls (.int x :: rest)) := by
  rw [h]; exact k
/-- a loop: from its head, with a measure that falls -/
theorem lv_loop (I : Nat → Heap → List Loc → Array Slot → Prop) (step : ∀ (k : Nat) (H : Heap) (locs : List Loc) (ls : Array Slot), I k H locs ls → (∀ (k2 : Nat) (H2 : Heap) (locs2 : List Loc) (ls2 : Array Slot), k2 < k → I k2 H2 locs2 ls2 → W p l e R s m args below meth c H2 locs2 cells slots Q (F0 m pc ls2 [])) → W p l e R s m args below meth c H locs cells slots Q (F0 m pc ls []))
    (k : Nat) {H : Heap} {locs : List Loc} {ls : Array Slot} (h0 : I k H locs ls) : W p l e R s m args below meth c H locs cells slots Q (F0 m pc ls []) := by
  induction k using Nat.strongRecOn generalizing H locs ls with
  | _ k ih => exact step k H locs ls h0 (fun k2 H2 locs2 ls2 hk h2 => ih k2 hk h2)
end GTOP
/-! The memory: numbers by field and place. Fields: 0 kind, 1 p, 2 q, 3 safe value, 4 output, 5 6 state, 7 in hand, 8 its value, 9 wires (three a block), 10 rows (eight a block); 20 points; 22 how many failures; 23 24 25 the latest failures; 30 .. 33 savings. Counters: 0 blocks, 1 savings, 2 failures, 3 time, 10 .. 14 how many blocks a saving has. -/
def wr (σ : Nat → Nat → Int32) (f i : Nat) (v : Int32) : Nat → Nat → Int32 := fun g j => if g = f then (if j = i then v else σ g j) else σ g j
theorem wr_s {σ : Nat → Nat → Int32} {f i : Nat} {v : Int32} : wr σ f i v f i = v := by simp [wr]
theorem wr_f {σ : Nat → Nat → Int32} {f i g j : Nat} {v : Int32} (h : g ≠ f) : wr σ f i v g j = σ g j := by simp [wr, h]
theorem wr_i {σ : Nat → Nat → Int32} {f i j : Nat} {v : Int32} (h : j ≠ i) : wr σ f i v f j = σ f j := by simp [wr, h]
theorem wr_row {σ : Nat → Nat → Int32} {f i : Nat} {v : Int32} : (fun j => wr σ f i v f j) = upd (fun j => σ f j) i v := by
  funext j
  by_cases h : j = i <;> simp [wr, upd, h]
theorem wr_same {σ : Nat → Nat → Int32} {f i : Nat} {v : Int32} (h : σ f i = v) : wr σ f i v = σ := by
  funext g j
  by_cases hg : g = f
  · by_cases hj : j = i
    · subst hg; subst hj; simp [wr, h]
    · simp [wr, hj]
  · simp [wr, hg]
abbrev qf (f : Nat → Option Nat) (n : Nat) : vp_A := (n, .inr (.inr (.inr (.inr f))))
/-- the system's cells. Tags: 0 BlockPrograms, 1 blocks, 2 points, 3 line, 4 placed, 5 Failures, 6 totals, 7 ticks, 8 numbers, 9 kinds, 10 savings, 11 a Block, 12 its wires, 13 its places, 14 a Saving, 15 .. 18 its rows -/
def cEn (cI cZ cB cS : ClassId) (κ : Nat → Nat) (σ sc : Nat → Nat → Int32) (ad : Nat → Nat → Nat) (t i : Nat) : va_E := match t with
  | 0 => .inr (3, [.ref (ad 1 0), .int (nI (κ 0)), .ref (ad 2 0), .int (nI (κ 3)), .ref (ad 3 0), .ref (ad 4 0), .ref (ad 5 0), .ref (ad 10 0), .int (nI (κ 1))])
  | 1 => .inl (cB, qf (fun j => if j < κ 0 then some (ad 11 j) else none) 40)
  | 2 => .inl (cI, 10, .inl (fun j => σ 20 j))
  | 3 => .inl (cI, 40, .inl (fun j => sc 0 j))
  | 4 => .inl (cZ, 40, .inl (fun j => sc 1 j))
  | 5 => .inr (1, [.ref (ad 6 0), .ref (ad 7 0), .ref (ad 8 0), .ref (ad 9 0), .int (nI (κ 2 % 32))])
  | 6 => .inl (cI, 4, .inl (fun j => σ 22 j))
  | 7 => .inl (cI, 32, .inl (fun j => σ 23 j))
  | 8 => .inl (cI, 32, .inl (fun j => σ 24 j))
  | 9 => .inl (cI, 32, .inl (fun j => σ 25 j))
  | 10 => .inl (cS, qf (fun j => if j < κ 1 then some (ad 14 j) else none) 5)
  | 11 => .inr (0, [.int (σ 0 i), .int (σ 1 i), .int (σ 2 i), .int (σ 3 i), .int (σ 4 i), .int (σ 5 i), .int (σ 6 i), .int (σ 7 i), .int (σ 8 i), .ref (ad 12 i), .ref (ad 13 i)])
  | 12 => .inl (cI, 3, .inl (fun k => if k < 3 then σ 9 (3 * i + k) else 0))
  | 13 => .inl (cI, 8, .inl (fun k => if k < 8 then σ 10 (8 * i + k) else 0))
  | 14 => .inr (2, [.int (nI (κ (10 + i))), .ref (ad 15 i), .ref (ad 16 i), .ref (ad 17 i), .ref (ad 18 i)])
  | 15 => .inl (cI, 40, .inl (fun k => if k < 40 then σ 30 (40 * i + k) else 0))
  | 16 => .inl (cI, 40, .inl (fun k => if k < 40 then σ 31 (40 * i + k) else 0))
  | 17 => .inl (cI, 40, .inl (fun k => if k < 40 then σ 32 (40 * i + k) else 0))
  | _ => .inl (cI, 40, .inl (fun k => if k < 40 then σ 33 (40 * i + k) else 0))
def cDm (κ : Nat → Nat) (t : Nat) : Nat := if t < 11 then 1 else if t < 14 then κ 0 else if t < 19 then κ 1 else 0
/-- the reference's cells: tag 0 its object, a tag a field -/
def rEn (cI cZ : ClassId) (κ : Nat → Nat) (σ sc : Nat → Nat → Int32) (ad : Nat → Nat → Nat) (t : Nat) (_ : Nat) : va_E := match t with
  | 0 => .inr (4, [.int (sc 2 0), .int (nI (κ 0)), .ref (ad 2 0), .ref (ad 3 0), .ref (ad 4 0), .ref (ad 5 0), .ref (ad 6 0), .ref (ad 7 0), .ref (ad 8 0), .ref (ad 9 0), .ref (ad 10 0), .ref (ad 11 0), .ref (ad 12 0), .ref (ad 13 0), .int (nI (κ 3)), .ref (ad 15 0), .int (sc 2 1), .ref (ad 17 0), .ref (ad 18 0), .int (nI (κ 2)), .ref (ad 20 0), .int (nI (κ 1)), .ref (ad 22 0), .ref (ad 23 0), .int (sc 2 2)])
  | 2 => .inl (cI, 40, .inl (fun j => σ 0 j))
  | 3 => .inl (cI, 40, .inl (fun j => σ 1 j))
  | 4 => .inl (cI, 40, .inl (fun j => σ 2 j))
  | 5 => .inl (cI, 40, .inl (fun j => σ 3 j))
  | 6 => .inl (cI, 120, .inl (fun j => σ 9 j))
  | 7 => .inl (cI, 40, .inl (fun j => σ 4 j))
  | 8 => .inl (cI, 40, .inl (fun j => σ 5 j))
  | 9 => .inl (cI, 40, .inl (fun j => σ 6 j))
  | 10 => .inl (cI, 320, .inl (fun j => σ 10 j))
  | 11 => .inl (cZ, 40, .inl (fun j => σ 7 j))
  | 12 => .inl (cI, 40, .inl (fun j => σ 8 j))
  | 13 => .inl (cI, 10, .inl (fun j => σ 20 j))
  | 15 => .inl (cI, 40, .inl (fun j => sc 0 j))
  | 17 => .inl (cZ, 40, .inl (fun j => sc 1 j))
  | 18 => .inl (cI, 4, .inl (fun j => σ 22 j))
  | 20 => .inl (cI, 96, .inl (fun j => σ (23 + j % 3) (j / 3)))
  | 22 => .inl (cI, 5, .inl (fun j => nI (κ (10 + j))))
  | _ => .inl (cI, 800, .inl (fun j => σ (30 + j % 4) (j / 4)))
def rDm (t : Nat) : Nat := if t = 0 ∨ (2 ≤ t ∧ t < 14) ∨ t = 15 ∨ t = 17 ∨ t = 18 ∨ t = 20 ∨ t = 22 ∨ t = 23 then 1 else 0
abbrev cW (D : va_G) (cI cZ cB cS : ClassId) (A : Nat → Prop) (κ : Nat → Nat) (σ sc : Nat → Nat → Int32) (ad : Nat → Nat → Nat) (H : Heap) : Prop := gw_P D vwCl A (cDm κ) (cEn cI cZ cB cS κ σ sc ad) ad H
abbrev rW (D : va_G) (cI cZ : ClassId) (A : Nat → Prop) (κ : Nat → Nat) (σ sc : Nat → Nat → Int32) (ad : Nat → Nat → Nat) (H : Heap) : Prop := gw_P D vwCl A rDm (rEn cI cZ κ σ sc ad) ad H
end
section
/-! What a store does to the pictures. -/
section UPDC
variable {cI cZ cB cS : ClassId} {κ : Nat → Nat} {σ sc : Nat → Nat → Int32} {ad : Nat → Nat → Nat}
/-- a number of a block -/
theorem cU11 {f b : Nat} (hf : f < 9) (v : Int32) (t i : Nat) (h : ¬ (t = 11 ∧ i = b)) : cEn cI cZ cB cS κ (wr σ f b v) sc ad t i = cEn cI cZ cB cS κ σ sc ad t i := by
  have w : ∀ g j : Nat, 9 ≤ g → wr σ f b v g j = σ g j := fun g j hg => wr_f (by omega)
  have w20 := fun j => w 20 j (by omega)
  have w22 := fun j => w 22 j (by omega)
  have w23 := fun j => w 23 j (by omega)
  have w24 := fun j => w 24 j (by omega)
  have w25 := fun j => w 25 j (by omega)
  have w9 := fun j => w 9 j (by omega)
  have w10 := fun j => w 10 j (by omega)
  have w30 := fun j => w 30 j (by omega)
  have w31 := fun j => w 31 j (by omega)
  have w32 := fun j => w 32 j (by omega)
  have w33 := fun j => w 33 j (by omega)
  unfold cEn
  split
  all_goals (try rfl)
  all_goals (try simp only [w20, w22, w23, w24, w25, w9, w10, w30, w31, w32, w33])
  have hi : i ≠ b := fun z => h ⟨rfl, z⟩
  have w2 : ∀ g : Nat, wr σ f b v g i = σ g i := fun g => by
    by_cases hg : g = f
    · subst hg; exact wr_i hi
    · exact wr_f hg
  simp only [w2]
/-- a wire -/
theorem cU12 {k b : Nat} (hk : k < 3) (v : Int32) (t i : Nat) (h : ¬ (t = 12 ∧ i = b)) : cEn cI cZ cB cS κ (wr σ 9 (3 * b + k) v) sc ad t i = cEn cI cZ cB cS κ σ sc ad t i := by
  unfold cEn
  split
  all_goals (try rfl)
  have hi : i ≠ b := fun z => h ⟨rfl, z⟩
  congr 4
  funext k2
  by_cases h2 : k2 < 3
  · rw [if_pos h2, if_pos h2, wr_i (by omega)]
  · rw [if_neg h2, if_neg h2]
theorem cU12s {k b : Nat} (hk : k < 3) (v : Int32) : cEn cI cZ cB cS κ (wr σ 9 (3 * b + k) v) sc ad 12 b = .inl (cI, 3, .inl (upd (fun k => if k < 3 then σ 9 (3 * b + k) else 0) k v)) := by
  refine congrArg (fun f : Nat → Int32 => (Sum.inl (cI, (3, Sum.inl f)) : va_E)) (funext fun k2 => ?_)
  by_cases h2 : k2 = k
  · subst h2; rw [if_pos hk, wr_s, pk_us]
  · rw [pk_un h2]
    by_cases h3 : k2 < 3
    · rw [if_pos h3, if_pos h3, wr_i (by omega)]
    · rw [if_neg h3, if_neg h3]
/-- a number of a row -/
theorem cU13 {k b : Nat} (hk : k < 8) (v : Int32) (t i : Nat) (h : ¬ (t = 13 ∧ i = b)) : cEn cI cZ cB cS κ (wr σ 10 (8 * b + k) v) sc ad t i = cEn cI cZ cB cS κ σ sc ad t i := by
  unfold cEn
  split
  all_goals (try rfl)
  have hi : i ≠ b := fun z => h ⟨rfl, z⟩
  congr 4
  funext k2
  by_cases h2 : k2 < 8
  · rw [if_pos h2, if_pos h2, wr_i (by omega)]
  · rw [if_neg h2, if_neg h2]
theorem cU13s {k b : Nat} (hk : k < 8) (v : Int32) : cEn cI cZ cB cS κ (wr σ 10 (8 * b + k) v) sc ad 13 b = .inl (cI, 8, .inl (upd (fun k => if k < 8 then σ 10 (8 * b + k) else 0) k v)) := by
  refine congrArg (fun f : Nat → Int32 => (Sum.inl (cI, (8, Sum.inl f)) : va_E)) (funext fun k2 => ?_)
  by_cases h2 : k2 = k
  · subst h2; rw [if_pos hk, wr_s, pk_us]
  · rw [pk_un h2]
    by_cases h3 : k2 < 8
    · rw [if_pos h3, if_pos h3, wr_i (by omega)]
    · rw [if_neg h3, if_neg h3]
/-- rows of the object and of Failures -/
theorem cU2 {j : Nat} (v : Int32) (t i : Nat) (h : ¬ (t = 2 ∧ i = 0)) (hi : i < cDm κ t) : cEn cI cZ cB cS κ (wr σ 20 j v) sc ad t i = cEn cI cZ cB cS κ σ sc ad t i := by
  unfold cEn
  split
  all_goals (try rfl)
  exact absurd ⟨rfl, by simpa [cDm] using hi⟩ h
theorem cU6 {j : Nat} (v : Int32) (t i : Nat) (h : ¬ (t = 6 ∧ i = 0)) (hi : i < cDm κ t) : cEn cI cZ cB cS κ (wr σ 22 j v) sc ad t i = cEn cI cZ cB cS κ σ sc ad t i := by
  unfold cEn
  split
  all_goals (try rfl)
  exact absurd ⟨rfl, by simpa [cDm] using hi⟩ h
theorem cU7 {j : Nat} (v : Int32) (t i : Nat) (h : ¬ (t = 7 ∧ i = 0)) (hi : i < cDm κ t) : cEn cI cZ cB cS κ (wr σ 23 j v) sc ad t i = cEn cI cZ cB cS κ σ sc ad t i := by
  unfold cEn
  split
  all_goals (try rfl)
  exact absurd ⟨rfl, by simpa [cDm] using hi⟩ h
theorem cU8 {j : Nat} (v : Int32) (t i : Nat) (h : ¬ (t = 8 ∧ i = 0)) (hi : i < cDm κ t) : cEn cI cZ cB cS κ (wr σ 24 j v) sc ad t i = cEn cI cZ cB cS κ σ sc ad t i := by
  unfold cEn
  split
  all_goals (try rfl)
  exact absurd ⟨rfl, by simpa [cDm] using hi⟩ h
theorem cU9 {j : Nat} (v : Int32) (t i : Nat) (h : ¬ (t = 9 ∧ i = 0)) (hi : i < cDm κ t) : cEn cI cZ cB cS κ (wr σ 25 j v) sc ad t i = cEn cI cZ cB cS κ σ sc ad t i := by
  unfold cEn
  split
  all_goals (try rfl)
  exact absurd ⟨rfl, by simpa [cDm] using hi⟩ h
/-- the scratch rows -/
theorem cU3 {j : Nat} (v : Int32) (t i : Nat) (h : ¬ (t = 3 ∧ i = 0)) (hi : i < cDm κ t) : cEn cI cZ cB cS κ σ (wr sc 0 j v) ad t i = cEn cI cZ cB cS κ σ sc ad t i := by
  unfold cEn
  split
  all_goals (try rfl)
  exact absurd ⟨rfl, by simpa [cDm] using hi⟩ h
theorem cU4 {j : Nat} (v : Int32) (t i : Nat) (h : ¬ (t = 4 ∧ i = 0)) (hi : i < cDm κ t) : cEn cI cZ cB cS κ σ (wr sc 1 j v) ad t i = cEn cI cZ cB cS κ σ sc ad t i := by
  unfold cEn
  split
  all_goals (try rfl)
  exact absurd ⟨rfl, by simpa [cDm] using hi⟩ h
/-- the counters: time, failures -/
theorem cU0t (T : Nat) (t i : Nat) (h : ¬ (t = 0 ∧ i = 0)) (hi : i < cDm κ t) : cEn cI cZ cB cS (va_up κ 3 T) σ sc ad t i = cEn cI cZ cB cS κ σ sc ad t i := by
  have w : ∀ k : Nat, k ≠ 3 → va_up κ 3 T k = κ k := fun k hk => va_up_ne _ _ hk
  have w10 : ∀ k : Nat, va_up κ 3 T (10 + k) = κ (10 + k) := fun k => w _ (by omega)
  unfold cEn
  split
  all_goals (try rfl)
  · exact absurd ⟨rfl, by simpa [cDm] using hi⟩ h
  · simp only [w10]
theorem cU5f (T : Nat) (t i : Nat) (h : ¬ (t = 5 ∧ i = 0)) (hi : i < cDm κ t) : cEn cI cZ cB cS (va_up κ 2 T) σ sc ad t i = cEn cI cZ cB cS κ σ sc ad t i := by
  have w : ∀ k : Nat, k ≠ 2 → va_up κ 2 T k = κ k := fun k hk => va_up_ne _ _ hk
  have w10 : ∀ k : Nat, va_up κ 2 T (10 + k) = κ (10 + k) := fun k => w _ (by omega)
  unfold cEn
  split
  all_goals (try rfl)
  · exact absurd ⟨rfl, by simpa [cDm] using hi⟩ h
  · simp only [w10]
theorem cDm_up {κ : Nat → Nat} {k T : Nat} (h0 : k ≠ 0) (h1 : k ≠ 1) : cDm (va_up κ k T) = cDm κ := by
  funext t
  unfold cDm
  rw [va_up_ne _ _ (Ne.symm h0), va_up_ne _ _ (Ne.symm h1)]
theorem cU11s_0 {b : Nat} (v : Int32) : cEn cI cZ cB cS κ (wr σ 0 b v) sc ad 11 b = .inr (0, [.int v, .int (σ 1 b), .int (σ 2 b), .int (σ 3 b), .int (σ 4 b), .int (σ 5 b), .int (σ 6 b), .int (σ 7 b), .int (σ 8 b), .ref (ad 12 b), .ref (ad 13 b)]) := by simp [cEn, wr]
theorem cU11s_1 {b : Nat} (v : Int32) : cEn cI cZ cB cS κ (wr σ 1 b v) sc ad 11 b = .inr (0, [.int (σ 0 b), .int v, .int (σ 2 b), .int (σ 3 b), .int (σ 4 b), .int (σ 5 b), .int (σ 6 b), .int (σ 7 b), .int (σ 8 b), .ref (ad 12 b), .ref (ad 13 b)]) := by simp [cEn, wr]
theorem cU11s_2 {b : Nat} (v : Int32) : cEn cI cZ cB cS κ (wr σ 2 b v) sc ad 11 b = .inr (0, [.int (σ 0 b), .int (σ 1 b), .int v, .int (σ 3 b), .int (σ 4 b), .int (σ 5 b), .int (σ 6 b), .int (σ 7 b), .int (σ 8 b), .ref (ad 12 b), .ref (ad 13 b)]) := by simp [cEn, wr]
theorem cU11s_3 {b : Nat} (v : Int32) : cEn cI cZ cB cS κ (wr σ 3 b v) sc ad 11 b = .inr (0, [.int (σ 0 b), .int (σ 1 b), .int (σ 2 b), .int v, .int (σ 4 b), .int (σ 5 b), .int (σ 6 b), .int (σ 7 b), .int (σ 8 b), .ref (ad 12 b), .ref (ad 13 b)]) := by simp [cEn, wr]
theorem cU11s_4 {b : Nat} (v : Int32) : cEn cI cZ cB cS κ (wr σ 4 b v) sc ad 11 b = .inr (0, [.int (σ 0 b), .int (σ 1 b), .int (σ 2 b), .int (σ 3 b), .int v, .int (σ 5 b), .int (σ 6 b), .int (σ 7 b), .int (σ 8 b), .ref (ad 12 b), .ref (ad 13 b)]) := by simp [cEn, wr]
theorem cU11s_5 {b : Nat} (v : Int32) : cEn cI cZ cB cS κ (wr σ 5 b v) sc ad 11 b = .inr (0, [.int (σ 0 b), .int (σ 1 b), .int (σ 2 b), .int (σ 3 b), .int (σ 4 b), .int v, .int (σ 6 b), .int (σ 7 b), .int (σ 8 b), .ref (ad 12 b), .ref (ad 13 b)]) := by simp [cEn, wr]
theorem cU11s_6 {b : Nat} (v : Int32) : cEn cI cZ cB cS κ (wr σ 6 b v) sc ad 11 b = .inr (0, [.int (σ 0 b), .int (σ 1 b), .int (σ 2 b), .int (σ 3 b), .int (σ 4 b), .int (σ 5 b), .int v, .int (σ 7 b), .int (σ 8 b), .ref (ad 12 b), .ref (ad 13 b)]) := by simp [cEn, wr]
theorem cU11s_7 {b : Nat} (v : Int32) : cEn cI cZ cB cS κ (wr σ 7 b v) sc ad 11 b = .inr (0, [.int (σ 0 b), .int (σ 1 b), .int (σ 2 b), .int (σ 3 b), .int (σ 4 b), .int (σ 5 b), .int (σ 6 b), .int v, .int (σ 8 b), .ref (ad 12 b), .ref (ad 13 b)]) := by simp [cEn, wr]
theorem cU11s_8 {b : Nat} (v : Int32) : cEn cI cZ cB cS κ (wr σ 8 b v) sc ad 11 b = .inr (0, [.int (σ 0 b), .int (σ 1 b), .int (σ 2 b), .int (σ 3 b), .int (σ 4 b), .int (σ 5 b), .int (σ 6 b), .int (σ 7 b), .int v, .ref (ad 12 b), .ref (ad 13 b)]) := by simp [cEn, wr]
theorem cUs_2 {j : Nat} {v : Int32} : cEn cI cZ cB cS κ (wr σ 20 j v) sc ad 2 0 = .inl (cI, 10, .inl (upd (fun j => σ 20 j) j v)) := congrArg (fun f : Nat → Int32 => (Sum.inl (cI, (10, Sum.inl f)) : va_E)) (wr_row (σ := σ) (f := 20) (i := j) (v := v))
theorem cUs_6 {j : Nat} {v : Int32} : cEn cI cZ cB cS κ (wr σ 22 j v) sc ad 6 0 = .inl (cI, 4, .inl (upd (fun j => σ 22 j) j v)) := congrArg (fun f : Nat → Int32 => (Sum.inl (cI, (4, Sum.inl f)) : va_E)) (wr_row (σ := σ) (f := 22) (i := j) (v := v))
theorem cUs_7 {j : Nat} {v : Int32} : cEn cI cZ cB cS κ (wr σ 23 j v) sc ad 7 0 = .inl (cI, 32, .inl (upd (fun j => σ 23 j) j v)) := congrArg (fun f : Nat → Int32 => (Sum.inl (cI, (32, Sum.inl f)) : va_E)) (wr_row (σ := σ) (f := 23) (i := j) (v := v))
theorem cUs_8 {j : Nat} {v : Int32} : cEn cI cZ cB cS κ (wr σ 24 j v) sc ad 8 0 = .inl (cI, 32, .inl (upd (fun j => σ 24 j) j v)) := congrArg (fun f : Nat → Int32 => (Sum.inl (cI, (32, Sum.inl f)) : va_E)) (wr_row (σ := σ) (f := 24) (i := j) (v := v))
theorem cUs_9 {j : Nat} {v : Int32} : cEn cI cZ cB cS κ (wr σ 25 j v) sc ad 9 0 = .inl (cI, 32, .inl (upd (fun j => σ 25 j) j v)) := congrArg (fun f : Nat → Int32 => (Sum.inl (cI, (32, Sum.inl f)) : va_E)) (wr_row (σ := σ) (f := 25) (i := j) (v := v))
theorem cUs_3 {j : Nat} {v : Int32} : cEn cI cZ cB cS κ σ (wr sc 0 j v) ad 3 0 = .inl (cI, 40, .inl (upd (fun j => sc 0 j) j v)) := congrArg (fun f : Nat → Int32 => (Sum.inl (cI, (40, Sum.inl f)) : va_E)) (wr_row (σ := sc) (f := 0) (i := j) (v := v))
theorem cUs_4 {j : Nat} {v : Int32} : cEn cI cZ cB cS κ σ (wr sc 1 j v) ad 4 0 = .inl (cZ, 40, .inl (upd (fun j => sc 1 j) j v)) := congrArg (fun f : Nat → Int32 => (Sum.inl (cZ, (40, Sum.inl f)) : va_E)) (wr_row (σ := sc) (f := 1) (i := j) (v := v))
theorem cDf {κ : Nat → Nat} {t : Nat} (h : t < 11) : 0 < cDm κ t := by unfold cDm; rw [if_pos h]; decide
theorem cDb {κ : Nat → Nat} {t b : Nat} (h : b < κ 0) (h1 : 11 ≤ t) (h2 : t < 14) : b < cDm κ t := by unfold cDm; rw [if_neg (by omega), if_pos h2]; exact h
theorem cDs {κ : Nat → Nat} {t b : Nat} (h : b < κ 1) (h1 : 14 ≤ t) (h2 : t < 19) : b < cDm κ t := by unfold cDm; rw [if_neg (by omega), if_neg (by omega), if_pos h2]; exact h
end UPDC
section UPDR
variable {cI cZ : ClassId} {κ : Nat → Nat} {σ sc : Nat → Nat → Int32} {ad : Nat → Nat → Nat}
theorem rDf {t : Nat} (h : t = 0 ∨ (2 ≤ t ∧ t < 14) ∨ t = 15 ∨ t = 17 ∨ t = 18 ∨ t = 20 ∨ t = 22 ∨ t = 23) : 0 < rDm t := by unfold rDm; rw [if_pos h]; decide
theorem rD0 {t i : Nat} (h : i < rDm t) : i = 0 := by
  unfold rDm at h
  split at h <;> omega
theorem rU0 (j : Nat) (v : Int32) (t i : Nat) (h : ¬ (t = 0 ∧ i = 0)) (hi : i < rDm t) : rEn cI cZ κ σ (wr sc 2 j v) ad t i = rEn cI cZ κ σ sc ad t i := by
  unfold rEn
  split
  all_goals (try rfl)
  exact absurd ⟨rfl, rD0 hi⟩ h
theorem rU0k {k : Nat} (hk : k < 4) (T : Nat) (t i : Nat) (h : ¬ (t = 0 ∧ i = 0)) (hi : i < rDm t) : rEn cI cZ (va_up κ k T) σ sc ad t i = rEn cI cZ κ σ sc ad t i := by
  have w10 : ∀ j : Nat, va_up κ k T (10 + j) = κ (10 + j) := fun j => va_up_ne _ _ (by omega)
  unfold rEn
  split
  all_goals (try rfl)
  · exact absurd ⟨rfl, rD0 hi⟩ h
  · simp only [w10]
theorem rU0s_0 (v : Int32) : rEn cI cZ κ σ (wr sc 2 0 v) ad 0 0 = .inr (4, [.int v, .int (nI (κ 0)), .ref (ad 2 0), .ref (ad 3 0), .ref (ad 4 0), .ref (ad 5 0), .ref (ad 6 0), .ref (ad 7 0), .ref (ad 8 0), .ref (ad 9 0), .ref (ad 10 0), .ref (ad 11 0), .ref (ad 12 0), .ref (ad 13 0), .int (nI (κ 3)), .ref (ad 15 0), .int (sc 2 1), .ref (ad 17 0), .ref (ad 18 0), .int (nI (κ 2)), .ref (ad 20 0), .int (nI (κ 1)), .ref (ad 22 0), .ref (ad 23 0), .int (sc 2 2)]) := by simp [rEn, wr]
theorem rU0s_16 (v : Int32) : rEn cI cZ κ σ (wr sc 2 1 v) ad 0 0 = .inr (4, [.int (sc 2 0), .int (nI (κ 0)), .ref (ad 2 0), .ref (ad 3 0), .ref (ad 4 0), .ref (ad 5 0), .ref (ad 6 0), .ref (ad 7 0), .ref (ad 8 0), .ref (ad 9 0), .ref (ad 10 0), .ref (ad 11 0), .ref (ad 12 0), .ref (ad 13 0), .int (nI (κ 3)), .ref (ad 15 0), .int v, .ref (ad 17 0), .ref (ad 18 0), .int (nI (κ 2)), .ref (ad 20 0), .int (nI (κ 1)), .ref (ad 22 0), .ref (ad 23 0), .int (sc 2 2)]) := by simp [rEn, wr]
theorem rU0s_24 (v : Int32) : rEn cI cZ κ σ (wr sc 2 2 v) ad 0 0 = .inr (4, [.int (sc 2 0), .int (nI (κ 0)), .ref (ad 2 0), .ref (ad 3 0), .ref (ad 4 0), .ref (ad 5 0), .ref (ad 6 0), .ref (ad 7 0), .ref (ad 8 0), .ref (ad 9 0), .ref (ad 10 0), .ref (ad 11 0), .ref (ad 12 0), .ref (ad 13 0), .int (nI (κ 3)), .ref (ad 15 0), .int (sc 2 1), .ref (ad 17 0), .ref (ad 18 0), .int (nI (κ 2)), .ref (ad 20 0), .int (nI (κ 1)), .ref (ad 22 0), .ref (ad 23 0), .int v]) := by simp [rEn, wr]
theorem rU0k_1 (T : Nat) : rEn cI cZ (va_up κ 0 T) σ sc ad 0 0 = .inr (4, [.int (sc 2 0), .int (nI T), .ref (ad 2 0), .ref (ad 3 0), .ref (ad 4 0), .ref (ad 5 0), .ref (ad 6 0), .ref (ad 7 0), .ref (ad 8 0), .ref (ad 9 0), .ref (ad 10 0), .ref (ad 11 0), .ref (ad 12 0), .ref (ad 13 0), .int (nI (κ 3)), .ref (ad 15 0), .int (sc 2 1), .ref (ad 17 0), .ref (ad 18 0), .int (nI (κ 2)), .ref (ad 20 0), .int (nI (κ 1)), .ref (ad 22 0), .ref (ad 23 0), .int (sc 2 2)]) := by simp [rEn, va_up]
theorem rU0k_14 (T : Nat) : rEn cI cZ (va_up κ 3 T) σ sc ad 0 0 = .inr (4, [.int (sc 2 0), .int (nI (κ 0)), .ref (ad 2 0), .ref (ad 3 0), .ref (ad 4 0), .ref (ad 5 0), .ref (ad 6 0), .ref (ad 7 0), .ref (ad 8 0), .ref (ad 9 0), .ref (ad 10 0), .ref (ad 11 0), .ref (ad 12 0), .ref (ad 13 0), .int (nI T), .ref (ad 15 0), .int (sc 2 1), .ref (ad 17 0), .ref (ad 18 0), .int (nI (κ 2)), .ref (ad 20 0), .int (nI (κ 1)), .ref (ad 22 0), .ref (ad 23 0), .int (sc 2 2)]) := by simp [rEn, va_up]
theorem rU0k_19 (T : Nat) : rEn cI cZ (va_up κ 2 T) σ sc ad 0 0 = .inr (4, [.int (sc 2 0), .int (nI (κ 0)), .ref (ad 2 0), .ref (ad 3 0), .ref (ad 4 0), .ref (ad 5 0), .ref (ad 6 0), .ref (ad 7 0), .ref (ad 8 0), .ref (ad 9 0), .ref (ad 10 0), .ref (ad 11 0), .ref (ad 12 0), .ref (ad 13 0), .int (nI (κ 3)), .ref (ad 15 0), .int (sc 2 1), .ref (ad 17 0), .ref (ad 18 0), .int (nI T), .ref (ad 20 0), .int (nI (κ 1)), .ref (ad 22 0), .ref (ad 23 0), .int (sc 2 2)]) := by simp [rEn, va_up]
theorem rU0k_21 (T : Nat) : rEn cI cZ (va_up κ 1 T) σ sc ad 0 0 = .inr (4, [.int (sc 2 0), .int (nI (κ 0)), .ref (ad 2 0), .ref (ad 3 0), .ref (ad 4 0), .ref (ad 5 0), .ref (ad 6 0), .ref (ad 7 0), .ref (ad 8 0), .ref (ad 9 0), .ref (ad 10 0), .ref (ad 11 0), .ref (ad 12 0), .ref (ad 13 0), .int (nI (κ 3)), .ref (ad 15 0), .int (sc 2 1), .ref (ad 17 0), .ref (ad 18 0), .int (nI (κ 2)), .ref (ad 20 0), .int (nI T), .ref (ad 22 0), .ref (ad 23 0), .int (sc 2 2)]) := by simp [rEn, va_up]
theorem rUs_2 {j : Nat} {v : Int32} : rEn cI cZ κ (wr σ 0 j v) sc ad 2 0 = .inl (cI, 40, .inl (upd (fun j => σ 0 j) j v)) := congrArg (fun f : Nat → Int32 => (Sum.inl (cI, (40, Sum.inl f)) : va_E)) (wr_row (σ := σ) (f := 0) (i := j) (v := v))
theorem rU2 {j : Nat} (v : Int32) (t i : Nat) (h : ¬ (t = 2 ∧ i = 0)) (hi : i < rDm t) : rEn cI cZ κ (wr σ 0 j v) sc ad t i = rEn cI cZ κ σ sc ad t i := by
  unfold rEn
  split
  all_goals (try rfl)
  all_goals (first | exact absurd ⟨rfl, rD0 hi⟩ h | (congr 4; funext k2; exact wr_f (by omega)))
theorem rUs_3 {j : Nat} {v : Int32} : rEn cI cZ κ (wr σ 1 j v) sc ad 3 0 = .inl (cI, 40, .inl (upd (fun j => σ 1 j) j v)) := congrArg (fun f : Nat → Int32 => (Sum.inl (cI, (40, Sum.inl f)) : va_E)) (wr_row (σ := σ) (f := 1) (i := j) (v := v))
theorem rU3 {j : Nat} (v : Int32) (t i : Nat) (h : ¬ (t = 3 ∧ i = 0)) (hi : i < rDm t) : rEn cI cZ κ (wr σ 1 j v) sc ad t i = rEn cI cZ κ σ sc ad t i := by
  unfold rEn
  split
  all_goals (try rfl)
  all_goals (first | exact absurd ⟨rfl, rD0 hi⟩ h | (congr 4; funext k2; exact wr_f (by omega)))
theorem rUs_4 {j : Nat} {v : Int32} : rEn cI cZ κ (wr σ 2 j v) sc ad 4 0 = .inl (cI, 40, .inl (upd (fun j => σ 2 j) j v)) := congrArg (fun f : Nat → Int32 => (Sum.inl (cI, (40, Sum.inl f)) : va_E)) (wr_row (σ := σ) (f := 2) (i := j) (v := v))
theorem rU4 {j : Nat} (v : Int32) (t i : Nat) (h : ¬ (t = 4 ∧ i = 0)) (hi : i < rDm t) : rEn cI cZ κ (wr σ 2 j v) sc ad t i = rEn cI cZ κ σ sc ad t i := by
  unfold rEn
  split
  all_goals (try rfl)
  all_goals (first | exact absurd ⟨rfl, rD0 hi⟩ h | (congr 4; funext k2; exact wr_f (by omega)))
theorem rUs_5 {j : Nat} {v : Int32} : rEn cI cZ κ (wr σ 3 j v) sc ad 5 0 = .inl (cI, 40, .inl (upd (fun j => σ 3 j) j v)) := congrArg (fun f : Nat → Int32 => (Sum.inl (cI, (40, Sum.inl f)) : va_E)) (wr_row (σ := σ) (f := 3) (i := j) (v := v))
theorem rU5 {j : Nat} (v : Int32) (t i : Nat) (h : ¬ (t = 5 ∧ i = 0)) (hi : i < rDm t) : rEn cI cZ κ (wr σ 3 j v) sc ad t i = rEn cI cZ κ σ sc ad t i := by
  unfold rEn
  split
  all_goals (try rfl)
  all_goals (first | exact absurd ⟨rfl, rD0 hi⟩ h | (congr 4; funext k2; exact wr_f (by omega)))
theorem rUs_6 {j : Nat} {v : Int32} : rEn cI cZ κ (wr σ 9 j v) sc ad 6 0 = .inl (cI, 120, .inl (upd (fun j => σ 9 j) j v)) := congrArg (fun f : Nat → Int32 => (Sum.inl (cI, (120, Sum.inl f)) : va_E)) (wr_row (σ := σ) (f := 9) (i := j) (v := v))
theorem rU6 {j : Nat} (v : Int32) (t i : Nat) (h : ¬ (t = 6 ∧ i = 0)) (hi : i < rDm t) : rEn cI cZ κ (wr σ 9 j v) sc ad t i = rEn cI cZ κ σ sc ad t i := by
  unfold rEn
  split
  all_goals (try rfl)
  all_goals (first | exact absurd ⟨rfl, rD0 hi⟩ h | (congr 4; funext k2; exact wr_f (by omega)))
theorem rUs_7 {j : Nat} {v : Int32} : rEn cI cZ κ (wr σ 4 j v) sc ad 7 0 = .inl (cI, 40, .inl (upd (fun j => σ 4 j) j v)) := congrArg (fun f : Nat → Int32 => (Sum.inl (cI, (40, Sum.inl f)) : va_E)) (wr_row (σ := σ) (f := 4) (i := j) (v := v))
theorem rU7 {j : Nat} (v : Int32) (t i : Nat) (h : ¬ (t = 7 ∧ i = 0)) (hi : i < rDm t) : rEn cI cZ κ (wr σ 4 j v) sc ad t i = rEn cI cZ κ σ sc ad t i := by
  unfold rEn
  split
  all_goals (try rfl)
  all_goals (first | exact absurd ⟨rfl, rD0 hi⟩ h | (congr 4; funext k2; exact wr_f (by omega)))
theorem rUs_8 {j : Nat} {v : Int32} : rEn cI cZ κ (wr σ 5 j v) sc ad 8 0 = .inl (cI, 40, .inl (upd (fun j => σ 5 j) j v)) := congrArg (fun f : Nat → Int32 => (Sum.inl (cI, (40, Sum.inl f)) : va_E)) (wr_row (σ := σ) (f := 5) (i := j) (v := v))
theorem rU8 {j : Nat} (v : Int32) (t i : Nat) (h : ¬ (t = 8 ∧ i = 0)) (hi : i < rDm t) : rEn cI cZ κ (wr σ 5 j v) sc ad t i = rEn cI cZ κ σ sc ad t i := by
  unfold rEn
  split
  all_goals (try rfl)
  all_goals (first | exact absurd ⟨rfl, rD0 hi⟩ h | (congr 4; funext k2; exact wr_f (by omega)))
theorem rUs_9 {j : Nat} {v : Int32} : rEn cI cZ κ (wr σ 6 j v) sc ad 9 0 = .inl (cI, 40, .inl (upd (fun j => σ 6 j) j v)) := congrArg (fun f : Nat → Int32 => (Sum.inl (cI, (40, Sum.inl f)) : va_E)) (wr_row (σ := σ) (f := 6) (i := j) (v := v))
theorem rU9 {j : Nat} (v : Int32) (t i : Nat) (h : ¬ (t = 9 ∧ i = 0)) (hi : i < rDm t) : rEn cI cZ κ (wr σ 6 j v) sc ad t i = rEn cI cZ κ σ sc ad t i := by
  unfold rEn
  split
  all_goals (try rfl)
  all_goals (first | exact absurd ⟨rfl, rD0 hi⟩ h | (congr 4; funext k2; exact wr_f (by omega)))
theorem rUs_10 {j : Nat} {v : Int32} : rEn cI cZ κ (wr σ 10 j v) sc ad 10 0 = .inl (cI, 320, .inl (upd (fun j => σ 10 j) j v)) := congrArg (fun f : Nat → Int32 => (Sum.inl (cI, (320, Sum.inl f)) : va_E)) (wr_row (σ := σ) (f := 10) (i := j) (v := v))
theorem rU10 {j : Nat} (v : Int32) (t i : Nat) (h : ¬ (t = 10 ∧ i = 0)) (hi : i < rDm t) : rEn cI cZ κ (wr σ 10 j v) sc ad t i = rEn cI cZ κ σ sc ad t i := by
  unfold rEn
  split
  all_goals (try rfl)
  all_goals (first | exact absurd ⟨rfl, rD0 hi⟩ h | (congr 4; funext k2; exact wr_f (by omega)))
theorem rUs_11 {j : Nat} {v : Int32} : rEn cI cZ κ (wr σ 7 j v) sc ad 11 0 = .inl (cZ, 40, .inl (upd (fun j => σ 7 j) j v)) := congrArg (fun f : Nat → Int32 => (Sum.inl (cZ, (40, Sum.inl f)) : va_E)) (wr_row (σ := σ) (f := 7) (i := j) (v := v))
theorem rU11 {j : Nat} (v : Int32) (t i : Nat) (h : ¬ (t = 11 ∧ i = 0)) (hi : i < rDm t) : rEn cI cZ κ (wr σ 7 j v) sc ad t i = rEn cI cZ κ σ sc ad t i := by
  unfold rEn
  split
  all_goals (try rfl)
  all_goals (first | exact absurd ⟨rfl, rD0 hi⟩ h | (congr 4; funext k2; exact wr_f (by omega)))
theorem rUs_12 {j : Nat} {v : Int32} : rEn cI cZ κ (wr σ 8 j v) sc ad 12 0 = .inl (cI, 40, .inl (upd (fun j => σ 8 j) j v)) := congrArg (fun f : Nat → Int32 => (Sum.inl (cI, (40, Sum.inl f)) : va_E)) (wr_row (σ := σ) (f := 8) (i := j) (v := v))
theorem rU12 {j : Nat} (v : Int32) (t i : Nat) (h : ¬ (t = 12 ∧ i = 0)) (hi : i < rDm t) : rEn cI cZ κ (wr σ 8 j v) sc ad t i = rEn cI cZ κ σ sc ad t i := by
  unfold rEn
  split
  all_goals (try rfl)
  all_goals (first | exact absurd ⟨rfl, rD0 hi⟩ h | (congr 4; funext k2; exact wr_f (by omega)))
theorem rUs_13 {j : Nat} {v : Int32} : rEn cI cZ κ (wr σ 20 j v) sc ad 13 0 = .inl (cI, 10, .inl (upd (fun j => σ 20 j) j v)) := congrArg (fun f : Nat → Int32 => (Sum.inl (cI, (10, Sum.inl f)) : va_E)) (wr_row (σ := σ) (f := 20) (i := j) (v := v))
theorem rU13 {j : Nat} (v : Int32) (t i : Nat) (h : ¬ (t = 13 ∧ i = 0)) (hi : i < rDm t) : rEn cI cZ κ (wr σ 20 j v) sc ad t i = rEn cI cZ κ σ sc ad t i := by
  unfold rEn
  split
  all_goals (try rfl)
  all_goals (first | exact absurd ⟨rfl, rD0 hi⟩ h | (congr 4; funext k2; exact wr_f (by omega)))
theorem rUs_15 {j : Nat} {v : Int32} : rEn cI cZ κ σ (wr sc 0 j v) ad 15 0 = .inl (cI, 40, .inl (upd (fun j => sc 0 j) j v)) := congrArg (fun f : Nat → Int32 => (Sum.inl (cI, (40, Sum.inl f)) : va_E)) (wr_row (σ := sc) (f := 0) (i := j) (v := v))
theorem rU15 {j : Nat} (v : Int32) (t i : Nat) (h : ¬ (t = 15 ∧ i = 0)) (hi : i < rDm t) : rEn cI cZ κ σ (wr sc 0 j v) ad t i = rEn cI cZ κ σ sc ad t i := by
  unfold rEn
  split
  all_goals (try rfl)
  exact absurd ⟨rfl, rD0 hi⟩ h
theorem rUs_17 {j : Nat} {v : Int32} : rEn cI cZ κ σ (wr sc 1 j v) ad 17 0 = .inl (cZ, 40, .inl (upd (fun j => sc 1 j) j v)) := congrArg (fun f : Nat → Int32 => (Sum.inl (cZ, (40, Sum.inl f)) : va_E)) (wr_row (σ := sc) (f := 1) (i := j) (v := v))
theorem rU17 {j : Nat} (v : Int32) (t i : Nat) (h : ¬ (t = 17 ∧ i = 0)) (hi : i < rDm t) : rEn cI cZ κ σ (wr sc 1 j v) ad t i = rEn cI cZ κ σ sc ad t i := by
  unfold rEn
  split
  all_goals (try rfl)
  exact absurd ⟨rfl, rD0 hi⟩ h
theorem rUs_18 {j : Nat} {v : Int32} : rEn cI cZ κ (wr σ 22 j v) sc ad 18 0 = .inl (cI, 4, .inl (upd (fun j => σ 22 j) j v)) := congrArg (fun f : Nat → Int32 => (Sum.inl (cI, (4, Sum.inl f)) : va_E)) (wr_row (σ := σ) (f := 22) (i := j) (v := v))
theorem rU18 {j : Nat} (v : Int32) (t i : Nat) (h : ¬ (t = 18 ∧ i = 0)) (hi : i < rDm t) : rEn cI cZ κ (wr σ 22 j v) sc ad t i = rEn cI cZ κ σ sc ad t i := by
  unfold rEn
  split
  all_goals (try rfl)
  all_goals (first | exact absurd ⟨rfl, rD0 hi⟩ h | (congr 4; funext k2; exact wr_f (by omega)))
/-- the latest failures -/
theorem rUs_20 {j w : Nat} (hw : w < 3) {v : Int32} : rEn cI cZ κ (wr σ (23 + w) j v) sc ad 20 0 = .inl (cI, 96, .inl (upd (fun j => σ (23 + j % 3) (j / 3)) (3 * j + w) v)) := by
  refine congrArg (fun f : Nat → Int32 => (Sum.inl (cI, (96, Sum.inl f)) : va_E)) (funext fun k2 => ?_)
  by_cases h2 : k2 = 3 * j + w
  · subst h2
    rw [pk_us, show (3 * j + w) % 3 = w by omega, show (3 * j + w) / 3 = j by omega, wr_s]
  · rw [pk_un h2]
    by_cases h3 : k2 % 3 = w
    · rw [h3, wr_i (by omega)]
    · rw [wr_f (by omega)]
theorem rU20 {j w : Nat} (hw : w < 3) (v : Int32) (t i : Nat) (h : ¬ (t = 20 ∧ i = 0)) (hi : i < rDm t) : rEn cI cZ κ (wr σ (23 + w) j v) sc ad t i = rEn cI cZ κ σ sc ad t i := by
  have w0 : ∀ g k2 : Nat, g < 23 ∨ 26 ≤ g → wr σ (23 + w) j v g k2 = σ g k2 := fun g k2 hg => wr_f (by omega)
  unfold rEn
  split
  all_goals (try rfl)
  all_goals (first | exact absurd ⟨rfl, rD0 hi⟩ h | (congr 4; funext k2; exact w0 _ _ (by omega)))
/-- the savings -/
theorem rUs_23 {j w : Nat} (hw : w < 4) {v : Int32} : rEn cI cZ κ (wr σ (30 + w) j v) sc ad 23 0 = .inl (cI, 800, .inl (upd (fun j => σ (30 + j % 4) (j / 4)) (4 * j + w) v)) := by
  refine congrArg (fun f : Nat → Int32 => (Sum.inl (cI, (800, Sum.inl f)) : va_E)) (funext fun k2 => ?_)
  by_cases h2 : k2 = 4 * j + w
  · subst h2
    rw [pk_us, show (4 * j + w) % 4 = w by omega, show (4 * j + w) / 4 = j by omega, wr_s]
  · rw [pk_un h2]
    by_cases h3 : k2 % 4 = w
    · rw [h3, wr_i (by omega)]
    · rw [wr_f (by omega)]
theorem rU23 {j w : Nat} (hw : w < 4) (v : Int32) (t i : Nat) (h : ¬ (t = 23 ∧ i = 0)) (hi : i < rDm t) : rEn cI cZ κ (wr σ (30 + w) j v) sc ad t i = rEn cI cZ κ σ sc ad t i := by
  have w0 : ∀ g k2 : Nat, g < 30 → wr σ (30 + w) j v g k2 = σ g k2 := fun g k2 hg => wr_f (by omega)
  unfold rEn
  split
  all_goals (try rfl)
  all_goals (first | (congr 4; funext k2; exact w0 _ _ (by omega)) | (refine absurd ⟨?_, rD0 hi⟩ h; unfold rDm at hi; split at hi <;> (simp only [imp_false] at *; omega)))
theorem rUs_22 {j T : Nat} : rEn cI cZ (va_up κ (10 + j) T) σ sc ad 22 0 = .inl (cI, 5, .inl (upd (fun j => nI (κ (10 + j))) j (nI T))) := by
  refine congrArg (fun f : Nat → Int32 => (Sum.inl (cI, (5, Sum.inl f)) : va_E)) (funext fun k2 => ?_)
  by_cases h2 : k2 = j
  · subst h2
    rw [pk_us, va_up_self]
  · rw [pk_un h2, va_up_ne _ _ (by omega)]
theorem rU22 {j : Nat} (T : Nat) (t i : Nat) (h : ¬ (t = 22 ∧ i = 0)) (hi : i < rDm t) : rEn cI cZ (va_up κ (10 + j) T) σ sc ad t i = rEn cI cZ κ σ sc ad t i := by
  have w : ∀ k : Nat, k < 10 → va_up κ (10 + j) T k = κ k := fun k hk => va_up_ne _ _ (by omega)
  unfold rEn
  split
  all_goals (try rfl)
  · rw [w 0 (by decide), w 1 (by decide), w 2 (by decide), w 3 (by decide)]
  · exact absurd ⟨rfl, rD0 hi⟩ h
end UPDR
end
section
/-! The system as numbers: what each thing does to the memory. -/
/-- a number of 0 .. N - 1 -/
abbrev okI (N : Nat) (x : Int32) : Prop := ¬ x < 0 ∧ ¬ nI N ≤ x
theorem ix_of {n : Nat} {x : Int32} (hn : n < 2 ^ 31) (h1 : ¬ x < 0) (h2 : ¬ nI n ≤ x) : ∃ j : Nat, j < n ∧ x = nI j := by
  rcases pk_ix x hn with h | h | h
  · exact absurd h h1
  · exact absurd h h2
  · exact h
theorem okI_at {n j : Nat} (hj : j < n) (hn : n < 2 ^ 31) : okI n (nI j) := ⟨nI_pos (Nat.lt_trans hj hn), nI_ge hj hn⟩
theorem ix_nb {n : Nat} {x : Int32} (hn : n < 2 ^ 31) (h : nI n ≤ x) : ¬ x < 0 := by
  intro z
  rw [Int32.lt_iff_toInt_lt] at z
  rw [Int32.le_iff_toInt_le, nI_toInt hn] at h
  have : (0 : Int32).toInt = 0 := rfl
  omega
theorem nmd_le (k : Nat) : nmd k ≤ 3 := by
  by_cases h : k < 26
  · have h2 : ∀ k : Fin 26, nmd k.val ≤ 3 := by decide
    exact h2 ⟨k, h⟩
  · unfold nmd
    rw [List.getD_eq_getElem?_getD, List.getElem?_eq_none (by simp only [List.length_cons, List.length_nil]; omega)]
    decide
/-- a block says a value: in hand the hand's -/
def say (σ : Nat → Nat → Int32) (b : Nat) (v : Int32) : Nat → Nat → Int32 := wr σ 4 b (if σ 7 b = 0 then v else σ 8 b)
/-- what a wire brings -/
def outV (n : Nat) (σ : Nat → Nat → Int32) (w : Int32) : Int32 := if okI n w then σ 4 w.toNatClampNeg else 0
theorem outV_at {n j : Nat} {σ : Nat → Nat → Int32} (hj : j < n) (hn : n < 2 ^ 31) : outV n σ (nI j) = σ 4 j := by
  unfold outV
  rw [if_pos (okI_at hj hn), nI_clamp (Nat.lt_trans hj hn)]
/-- a wire that a kind names is wanting -/
def lack (σ : Nat → Nat → Int32) (k b : Nat) : Bool := (List.range (nmd k)).any fun i => decide (σ 9 (3 * b + i) = -1)
theorem lack_t {σ : Nat → Nat → Int32} {k b i : Nat} (hi : i < nmd k) (h : σ 9 (3 * b + i) = -1) : lack σ k b = true := List.any_eq_true.mpr ⟨i, List.mem_range.mpr hi, decide_eq_true h⟩
theorem lack_f {σ : Nat → Nat → Int32} {k b : Nat} (h : ∀ i, i < nmd k → ¬ σ 9 (3 * b + i) = -1) : lack σ k b = false := by
  cases hl : lack σ k b with
  | false => rfl
  | true =>
    obtain ⟨i, hi, h2⟩ := List.any_eq_true.mp hl
    exact absurd (of_decide_eq_true h2) (h i (List.mem_range.mp hi))
/-- RAMP -/
def f_ramp (p o a : Int32) : Int32 :=
  if (if 0 < a.toInt64 - o.toInt64 then a.toInt64 - o.toInt64 else -(a.toInt64 - o.toInt64)) ≤ (if p < 0 then (0 : Int32) else p).toInt64 then a else if 0 < a.toInt64 - o.toInt64 then o + (if p < 0 then 0 else p) else o - (if p < 0 then 0 else p)
/-- COUNT, LATCH, PULSE, SUM, SINCE: the first value behind it -/
def f_count (f s a b : Int32) : Int32 := if b = 0 then (if a = 0 then f else if s = 0 then f + 1 else f) else 0
def f_latch (f a b : Int32) : Int32 := if a = 0 then (if b = 0 then f else 0) else 1
def f_pulse0 (p f s a : Int32) : Int32 := if a = 0 then f else if s = 0 then p else f
def f_clock (p q m : Int32) : Bool := if p ≤ q then decide (p ≤ m ∧ m < q) else decide (p ≤ m ∨ m < q)
def f_limit (p q a : Int32) : Int32 := if a < p then p else if q < a then q else a
def f_sum (f a b : Int32) : Int32 := if b = 0 then f + a else 0
def f_since (p f a : Int32) : Int32 := if p < (if a = 0 then 0 else f + 1) then p else (if a = 0 then 0 else f + 1)
/-- what the kinds with numbers, rows or states of their own say, and their state behind it -/
def f_own (σ : Nat → Nat → Int32) (k b : Nat) (x y tm : Int32) : Int32 := match k with
  | 1 => σ 1 b
  | 15 => σ 10 (8 * b + x.toNatClampNeg)
  | 16 => σ 5 b
  | 17 => f_ramp (σ 1 b) (σ 4 b) x
  | 18 => f_count (σ 5 b) (σ 6 b) x y
  | 19 => f_latch (σ 5 b) x y
  | 20 => if f_clock (σ 1 b) (σ 2 b) tm then 1 else 0
  | 21 => if 0 < f_pulse0 (σ 1 b) (σ 5 b) (σ 6 b) x then 1 else 0
  | 22 => f_limit (σ 1 b) (σ 2 b) x
  | 23 => if y = 0 then x else σ 4 b
  | 24 => f_sum (σ 5 b) x y
  | 25 => f_since (σ 1 b) (σ 5 b) x
  | _ => 0
def f_fst (σ : Nat → Nat → Int32) (k b : Nat) (x y : Int32) : Int32 := match k with
  | 18 => f_count (σ 5 b) (σ 6 b) x y
  | 19 => f_latch (σ 5 b) x y
  | 21 => if 0 < f_pulse0 (σ 1 b) (σ 5 b) (σ 6 b) x then f_pulse0 (σ 1 b) (σ 5 b) (σ 6 b) x - 1 else f_pulse0 (σ 1 b) (σ 5 b) (σ 6 b) x
  | 24 => f_sum (σ 5 b) x y
  | 25 => f_since (σ 1 b) (σ 5 b) x
  | _ => σ 5 b
def f_snd (σ : Nat → Nat → Int32) (k b : Nat) (x : Int32) : Int32 := match k with
  | 18 => x
  | 21 => x
  | _ => σ 6 b
def ownS (σ : Nat → Nat → Int32) (k b : Nat) (x y : Int32) : Nat → Nat → Int32 := wr (wr σ 5 b (f_fst σ k b x y)) 6 b (f_snd σ k b x)
/-- what the kinds of inputs alone say -/
def f_comb (k : Nat) (x y z : Int32) : Int32 := match k with
  | 2 => x + y
  | 3 => x - y
  | 4 => x * y
  | 5 => if y = 0 then 0 else x / y
  | 6 => x - y * (if y = 0 then 0 else x / y)
  | 7 => if y < x then y else x
  | 8 => if x < y then y else x
  | 9 => if x < y then 1 else 0
  | 10 => if x = y then 1 else 0
  | 11 => if x = 0 then 0 else if y = 0 then 0 else 1
  | 12 => if x = 0 then (if y = 0 then 0 else 1) else 1
  | 13 => if x = 0 then 1 else 0
  | 14 => if x = 0 then z else y
  | _ => 0
/-- how a block fails: 0 not at all -/
def f_fail (σ : Nat → Nat → Int32) (k b : Nat) (x y : Int32) : Nat :=
  if k ≠ 16 ∧ lack σ k b = true then 3 else if k = 0 then (if okI 10 (σ 1 b) then 0 else 2) else if k = 15 then (if okI 8 x then 0 else 2) else if k = 5 ∨ k = 6 then (if y = 0 then 1 else 0) else 0
theorem wr_wr {σ : Nat → Nat → Int32} {f i : Nat} {v w : Int32} : wr (wr σ f i v) f i w = wr σ f i w := by
  funext g j
  by_cases hg : g = f <;> by_cases hj : j = i <;> simp [wr, hg, hj]
theorem wr_id {σ : Nat → Nat → Int32} {f i : Nat} : wr σ f i (σ f i) = σ := wr_same rfl
theorem wr_comm {σ : Nat → Nat → Int32} {f i g j : Nat} {v w : Int32} (h : f ≠ g) : wr (wr σ f i v) g j w = wr (wr σ g j w) f i v := by
  funext a c
  by_cases h1 : a = f
  · by_cases h2 : a = g
    · exact absurd (h1.symm.trans h2) h
    · simp [wr, h1, h]
  · by_cases h2 : a = g <;> simp [wr, h1, h2, Ne.symm h]
theorem wr_65 {σ : Nat → Nat → Int32} {i j : Nat} {v w : Int32} : wr (wr σ 6 i v) 5 j w = wr (wr σ 5 j w) 6 i v := wr_comm (by decide)
theorem wr_id6 {σ : Nat → Nat → Int32} {i j : Nat} {v : Int32} : wr (wr σ 5 i v) 6 j (σ 6 j) = wr σ 5 i v := wr_same (wr_f (by decide))
/-- a failure is told -/
def noteK (κ : Nat → Nat) : Nat → Nat := va_up κ 2 (κ 2 + 1)
def noteS (κ : Nat → Nat) (σ : Nat → Nat → Int32) (tk nb : Int32) (k : Nat) : Nat → Nat → Int32 :=
  wr (wr (wr (wr (wr σ 23 (κ 2 % 32) tk) 24 (κ 2 % 32) nb) 25 (κ 2 % 32) (nI k)) 22 0 (σ 22 0 + 1)) 22 k (wr σ 22 0 (σ 22 0 + 1) 22 k + 1)
/-- a block fails -/
def failS (κ : Nat → Nat) (σ : Nat → Nat → Int32) (b k : Nat) : Nat → Nat → Int32 := say (noteS κ σ (nI (κ 3)) (nI b) k) b (σ 3 b)
end
section
set_option maxHeartbeats 4000000 in
set_option maxRecDepth 100000 in
theorem k_X3_asNumber {l : Launch} {D : va_G} {cI cZ cB cS : ClassId} {A : Nat → Prop} (dm : Nat → Nat) (en : Nat → Nat → va_E) (ad : Nat → Nat → Nat) (y0 : Int32) : Met l yX3_asNumber wsX3_asNumber ({ frames := 0, cells := 0, slots := 0, locals := 0 } : Room) (gPc D cI cZ cB cS A dm en ad [.int y0]) (va_Qi (fun (r : Int32) (_ : Unit) => r = if y0 = 0 then 0 else 1) (fun _ t => gw_P D vwCl A dm en ad t.heap) A) 0 0 A := by
  refine Met.ofW (cc := cX3_asNumber) (maxL := 1) (ret := (some .int)) (by decide) rfl ?_
  intro p e s m args below meth c s₁ B hml hv
  obtain ⟨rfl, hP, hE, hA⟩ := hv
  have hx := B.exec
  have hb := B.bytes
  have hr := B.returns
  have hts := atoms_spec (ws := wsX3_asNumber) B.pre
  have hown : s.vm.findClass RX3 = some m.cls := findClass_of_methodNamed B.named
  have hlocks := B.notSynchronized
  have hK := hE.1
  have hS : va_S A s.heap s.heap [] := va_S.rf
  have hl := lv_entry ([.int y0]) (n := 1) (Nat.le_of_ble_eq_true rfl)
  rw [lg_entry_eq]
  generalize (lg_sl ([.int y0]) ++ List.replicate (1 - (lg_sl ([.int y0])).length) Slot.unset).toArray = ls at hl ⊢
  have hl : lv_has ls 1 [(0, .int y0)] := hl
  refine lv_iload_n hx hb dX3_asNumber_0 rfl (lv_at hl 0 rfl) ?_
  refine lv_if_eq (tgt := 8) hx hb dX3_asNumber_1 (by decide) (fun c_1 => ?_) (fun c_1 => ?_)
  · refine lv_iconst (v := 0) hx hb dX3_asNumber_8 (by decide) ?_
    exact W.iret (v := 0) hx hb hr (fun t ht hW => ⟨⟨0, (), rfl, (by simp [c_1]), by rw [← ht] at hP; exact hP⟩, hS.F ht⟩) hS.2.2 dX3_asNumber_9
  · refine lv_iconst (v := 1) hx hb dX3_asNumber_4 (by decide) ?_
    refine lv_goto (tgt := 9) hx hb dX3_asNumber_5 (by decide) ?_
    exact W.iret (v := 1) hx hb hr (fun t ht hW => ⟨⟨1, (), rfl, (by simp [c_1]), by rw [← ht] at hP; exact hP⟩, hS.F ht⟩) hS.2.2 dX3_asNumber_9

set_option maxHeartbeats 4000000 in
set_option maxRecDepth 100000 in
theorem k_X3_isPoint {l : Launch} {D : va_G} {cI cZ cB cS : ClassId} {A : Nat → Prop} (dm : Nat → Nat) (en : Nat → Nat → va_E) (ad : Nat → Nat → Nat) (y0 : Int32) : Met l yX3_isPoint wsX3_isPoint ({ frames := 0, cells := 0, slots := 0, locals := 0 } : Room) (gPc D cI cZ cB cS A dm en ad [.int y0]) (va_Qi (fun (r : Int32) (_ : Unit) => r = if okI 10 y0 then 1 else 0) (fun _ t => gw_P D vwCl A dm en ad t.heap) A) 0 0 A := by
  refine Met.ofW (cc := cX3_isPoint) (maxL := 1) (ret := (some .boolean)) (by decide) rfl ?_
  intro p e s m args below meth c s₁ B hml hv
  obtain ⟨rfl, hP, hE, hA⟩ := hv
  have hx := B.exec
  have hb := B.bytes
  have hr := B.returns
  have hts := atoms_spec (ws := wsX3_isPoint) B.pre
  have hown : s.vm.findClass RX3 = some m.cls := findClass_of_methodNamed B.named
  have hlocks := B.notSynchronized
  have hK := hE.1
  have hS : va_S A s.heap s.heap [] := va_S.rf
  have hl := lv_entry ([.int y0]) (n := 1) (Nat.le_of_ble_eq_true rfl)
  rw [lg_entry_eq]
  generalize (lg_sl ([.int y0]) ++ List.replicate (1 - (lg_sl ([.int y0])).length) Slot.unset).toArray = ls at hl ⊢
  have hl : lv_has ls 1 [(0, .int y0)] := hl
  refine lv_iload_n hx hb dX3_isPoint_0 rfl (lv_at hl 0 rfl) ?_
  refine lv_if_lt (tgt := 14) hx hb dX3_isPoint_1 (by decide) (fun c_1 => ?_) (fun c_1 => ?_)
  · refine lv_iconst (v := 0) hx hb dX3_isPoint_14 (by decide) ?_
    exact W.zret (v := 0) (ty := .boolean) hx hb hr rfl (fun t ht hW => ⟨⟨0, (), rfl, (by rw [if_neg]; exact fun z => z.1 c_1), by rw [← ht] at hP; exact hP⟩, hS.F ht⟩) hS.2.2 dX3_isPoint_15
  · refine lv_iload_n hx hb dX3_isPoint_4 rfl (lv_at hl 0 rfl) ?_
    refine lv_bipush (v := 10) hx hb dX3_isPoint_5 (by decide) ?_
    refine lv_icmp_ge (tgt := 14) hx hb dX3_isPoint_7 (by decide) (fun c_2 => ?_) (fun c_2 => ?_)
    · refine lv_iconst (v := 0) hx hb dX3_isPoint_14 (by decide) ?_
      exact W.zret (v := 0) (ty := .boolean) hx hb hr rfl (fun t ht hW => ⟨⟨0, (), rfl, (by rw [if_neg]; exact fun z => z.2 c_2), by rw [← ht] at hP; exact hP⟩, hS.F ht⟩) hS.2.2 dX3_isPoint_15
    · refine lv_iconst (v := 1) hx hb dX3_isPoint_10 (by decide) ?_
      refine lv_goto (tgt := 15) hx hb dX3_isPoint_11 (by decide) ?_
      exact W.zret (v := 1) (ty := .boolean) hx hb hr rfl (fun t ht hW => ⟨⟨1, (), rfl, (by rw [if_pos]; exact ⟨c_1, fun z => c_2 z⟩), by rw [← ht] at hP; exact hP⟩, hS.F ht⟩) hS.2.2 dX3_isPoint_15

set_option maxHeartbeats 4000000 in
set_option maxRecDepth 100000 in
theorem k_X3_isPlaceInRow {l : Launch} {D : va_G} {cI cZ cB cS : ClassId} {A : Nat → Prop} (dm : Nat → Nat) (en : Nat → Nat → va_E) (ad : Nat → Nat → Nat) (y0 : Int32) : Met l yX3_isPlaceInRow wsX3_isPlaceInRow ({ frames := 0, cells := 0, slots := 0, locals := 0 } : Room) (gPc D cI cZ cB cS A dm en ad [.int y0]) (va_Qi (fun (r : Int32) (_ : Unit) => r = if okI 8 y0 then 1 else 0) (fun _ t => gw_P D vwCl A dm en ad t.heap) A) 0 0 A := by
  refine Met.ofW (cc := cX3_isPlaceInRow) (maxL := 1) (ret := (some .boolean)) (by decide) rfl ?_
  intro p e s m args below meth c s₁ B hml hv
  obtain ⟨rfl, hP, hE, hA⟩ := hv
  have hx := B.exec
  have hb := B.bytes
  have hr := B.returns
  have hts := atoms_spec (ws := wsX3_isPlaceInRow) B.pre
  have hown : s.vm.findClass RX3 = some m.cls := findClass_of_methodNamed B.named
  have hlocks := B.notSynchronized
  have hK := hE.1
  have hS : va_S A s.heap s.heap [] := va_S.rf
  have hl := lv_entry ([.int y0]) (n := 1) (Nat.le_of_ble_eq_true rfl)
  rw [lg_entry_eq]
  generalize (lg_sl ([.int y0]) ++ List.replicate (1 - (lg_sl ([.int y0])).length) Slot.unset).toArray = ls at hl ⊢
  have hl : lv_has ls 1 [(0, .int y0)] := hl
  refine lv_iload_n hx hb dX3_isPlaceInRow_0 rfl (lv_at hl 0 rfl) ?_
  refine lv_if_lt (tgt := 14) hx hb dX3_isPlaceInRow_1 (by decide) (fun c_1 => ?_) (fun c_1 => ?_)
  · refine lv_iconst (v := 0) hx hb dX3_isPlaceInRow_14 (by decide) ?_
    exact W.zret (v := 0) (ty := .boolean) hx hb hr rfl (fun t ht hW => ⟨⟨0, (), rfl, (by rw [if_neg]; exact fun z => z.1 c_1), by rw [← ht] at hP; exact hP⟩, hS.F ht⟩) hS.2.2 dX3_isPlaceInRow_15
  · refine lv_iload_n hx hb dX3_isPlaceInRow_4 rfl (lv_at hl 0 rfl) ?_
    refine lv_bipush (v := 8) hx hb dX3_isPlaceInRow_5 (by decide) ?_
    refine lv_icmp_ge (tgt := 14) hx hb dX3_isPlaceInRow_7 (by decide) (fun c_2 => ?_) (fun c_2 => ?_)
    · refine lv_iconst (v := 0) hx hb dX3_isPlaceInRow_14 (by decide) ?_
      exact W.zret (v := 0) (ty := .boolean) hx hb hr rfl (fun t ht hW => ⟨⟨0, (), rfl, (by rw [if_neg]; exact fun z => z.2 c_2), by rw [← ht] at hP; exact hP⟩, hS.F ht⟩) hS.2.2 dX3_isPlaceInRow_15
    · refine lv_iconst (v := 1) hx hb dX3_isPlaceInRow_10 (by decide) ?_
      refine lv_goto (tgt := 15) hx hb dX3_isPlaceInRow_11 (by decide) ?_
      exact W.zret (v := 1) (ty := .boolean) hx hb hr rfl (fun t ht hW => ⟨⟨1, (), rfl, (by rw [if_pos]; exact ⟨c_1, fun z => c_2 z⟩), by rw [← ht] at hP; exact hP⟩, hS.F ht⟩) hS.2.2 dX3_isPlaceInRow_15

set_option maxHeartbeats 4000000 in
set_option maxRecDepth 100000 in
theorem k_X3_quotient {l : Launch} {D : va_G} {cI cZ cB cS : ClassId} {A : Nat → Prop} (dm : Nat → Nat) (en : Nat → Nat → va_E) (ad : Nat → Nat → Nat) (y0 y1 : Int32) : Met l yX3_quotient wsX3_quotient ({ frames := 0, cells := 0, slots := 0, locals := 0 } : Room) (gPc D cI cZ cB cS A dm en ad [.int y0, .int y1]) (va_Qi (fun (r : Int32) (_ : Unit) => r = if y1 = 0 then 0 else y0 / y1) (fun _ t => gw_P D vwCl A dm en ad t.heap) A) 0 0 A := by
  refine Met.ofW (cc := cX3_quotient) (maxL := 2) (ret := (some .int)) (by decide) rfl ?_
  intro p e s m args below meth c s₁ B hml hv
  obtain ⟨rfl, hP, hE, hA⟩ := hv
  have hx := B.exec
  have hb := B.bytes
  have hr := B.returns
  have hts := atoms_spec (ws := wsX3_quotient) B.pre
  have hown : s.vm.findClass RX3 = some m.cls := findClass_of_methodNamed B.named
  have hlocks := B.notSynchronized
  have hK := hE.1
  have hS : va_S A s.heap s.heap [] := va_S.rf
  have hl := lv_entry ([.int y0, .int y1]) (n := 2) (Nat.le_of_ble_eq_true rfl)
  rw [lg_entry_eq]
  generalize (lg_sl ([.int y0, .int y1]) ++ List.replicate (2 - (lg_sl ([.int y0, .int y1])).length) Slot.unset).toArray = ls at hl ⊢
  have hl : lv_has ls 2 [(0, .int y0), (1, .int y1)] := hl
  refine lv_iload_n hx hb dX3_quotient_0 rfl (lv_at hl 1 rfl) ?_
  refine lv_if_ne (tgt := 8) hx hb dX3_quotient_1 (by decide) (fun c_1 => ?_) (fun c_1 => ?_)
  · refine lv_iload_n hx hb dX3_quotient_8 rfl (lv_at hl 0 rfl) ?_
    refine lv_iload_n hx hb dX3_quotient_9 rfl (lv_at hl 1 rfl) ?_
    refine lv_idiv hx hb dX3_quotient_10 c_1 ?_
    exact W.iret (v := (y0 / y1)) hx hb hr (fun t ht hW => ⟨⟨((y0 / y1)), (), rfl, (by simp [c_1]), by rw [← ht] at hP; exact hP⟩, hS.F ht⟩) hS.2.2 dX3_quotient_11
  · refine lv_iconst (v := 0) hx hb dX3_quotient_4 (by decide) ?_
    refine lv_goto (tgt := 11) hx hb dX3_quotient_5 (by decide) ?_
    exact W.iret (v := 0) hx hb hr (fun t ht hW => ⟨⟨0, (), rfl, (by simp [c_1]), by rw [← ht] at hP; exact hP⟩, hS.F ht⟩) hS.2.2 dX3_quotient_11

theorem iL_X0_namedInputs_X0 : ∀ w ∈ u_ws RX0 TX0 11, w ∈ wsX0_namedInputs := by decide +kernel
set_option maxHeartbeats 4000000 in
set_option maxRecDepth 100000 in
theorem k_X0_namedInputs {l : Launch} {D : va_G} {cI cZ cB cS : ClassId} {A : Nat → Prop} (κ : Nat → Nat) (σ sc : Nat → Nat → Int32) (ad : Nat → Nat → Nat) (b k : Nat) (hb0 : b < κ 0) (hk0 : k < 26) (ek : σ 0 b = nI k) : Met l yX0_namedInputs wsX0_namedInputs ({ frames := 0, cells := 0, slots := 0, locals := 0 } : Room) (gPc D cI cZ cB cS A (cDm κ) (cEn cI cZ cB cS κ σ sc ad) ad [.ref (ad 11 b)]) (va_Qi (fun (r : Int32) (_ : Unit) => r = nI (nmd k)) (fun _ t => gw_P D vwCl A (cDm κ) (cEn cI cZ cB cS κ σ sc ad) ad t.heap) A) 0 0 A := by
  refine Met.ofW (cc := cX0_namedInputs) (maxL := 1) (ret := (some .int)) (by decide) rfl ?_
  intro p e s m args below meth c s₁ B hml hv
  obtain ⟨rfl, hP, hE, hA⟩ := hv
  have hx := B.exec
  have hb := B.bytes
  have hr := B.returns
  have hts := atoms_spec (ws := wsX0_namedInputs) B.pre
  have hown : s.vm.findClass RX0 = some m.cls := findClass_of_methodNamed B.named
  have hlocks := B.notSynchronized
  have hK := hE.1
  have hS : va_S A s.heap s.heap [] := va_S.rf
  have hL0 := fun w (hw : w ∈ u_ws RX0 TX0 11) => hts w (iL_X0_namedInputs_X0 w hw)
  have hl := lv_entry ([.ref (ad 11 b)]) (n := 1) (Nat.le_of_ble_eq_true rfl)
  rw [lg_entry_eq]
  generalize (lg_sl ([.ref (ad 11 b)]) ++ List.replicate (1 - (lg_sl ([.ref (ad 11 b)])).length) Slot.unset).toArray = ls at hl ⊢
  have hl : lv_has ls 1 [(0, .ref (ad 11 b))] := hl
  obtain ⟨tn, hZn, hTn⟩ := hE.2.2.2.1
  refine lv_aload_n hx hb dX0_namedInputs_0 rfl (lv_at hl 0 rfl) ?_
  refine gw_get (C := RX0) (T := TX0) (N := 11) hx hb hL0 hown hK hP 11 b (cDb (by omega) (by decide) (by decide)) rfl rfl 0 (by decide) (hts (.fieldLink RX0 44 "BlockPrograms$Block" "kind" "I") (by decide +kernel)) (fun _ h9 => h9) (v := .int (nI k)) (congrArg (fun z : Int32 => some (Value.int z)) ek) dX0_namedInputs_1 ?_
  refine lv_if_lt (tgt := 29) hx hb dX0_namedInputs_4 (by decide) (fun c_1 => ?_) (fun c_1 => ?_)
  · have c_1 : k < 0 := (nI_ltI (a := k) (b := 0) (by omega) (by omega)).mp c_1
    exfalso; omega
  · have c_1 : ¬ (k < 0) := fun z => c_1 ((nI_ltI (a := k) (b := 0) (by omega) (by omega)).mpr z)
    refine lv_aload_n hx hb dX0_namedInputs_7 rfl (lv_at hl 0 rfl) ?_
    refine gw_get (C := RX0) (T := TX0) (N := 11) hx hb hL0 hown hK hP 11 b (cDb (by omega) (by decide) (by decide)) rfl rfl 0 (by decide) (hts (.fieldLink RX0 44 "BlockPrograms$Block" "kind" "I") (by decide +kernel)) (fun _ h9 => h9) (v := .int (nI k)) (congrArg (fun z : Int32 => some (Value.int z)) ek) dX0_namedInputs_8 ?_
    refine va_getsN hx hb hZn hS hown (va_Nw.use rfl hE.2.2.2.2.1.1) (fun _ h9 => h9) dX0_namedInputs_11 ?_
    refine va_tlen hx hb hTn hS (v := nI 26) rfl dX0_namedInputs_14 ?_
    refine lv_icmp_ge (tgt := 29) hx hb dX0_namedInputs_15 (by decide) (fun c_2 => ?_) (fun c_2 => ?_)
    · have c_2 : 26 ≤ k := (nI_leI (a := 26) (b := k) (by omega) (by omega)).mp c_2
      exfalso; omega
    · have c_2 : ¬ (26 ≤ k) := fun z => c_2 ((nI_leI (a := 26) (b := k) (by omega) (by omega)).mpr z)
      refine va_getsN hx hb hZn hS hown (va_Nw.use rfl hE.2.2.2.2.1.1) (fun _ h9 => h9) dX0_namedInputs_18 ?_
      refine lv_aload_n hx hb dX0_namedInputs_21 rfl (lv_at hl 0 rfl) ?_
      refine gw_get (C := RX0) (T := TX0) (N := 11) hx hb hL0 hown hK hP 11 b (cDb (by omega) (by decide) (by decide)) rfl rfl 0 (by decide) (hts (.fieldLink RX0 44 "BlockPrograms$Block" "kind" "I") (by decide +kernel)) (fun _ h9 => h9) (v := .int (nI k)) (congrArg (fun z : Int32 => some (Value.int z)) ek) dX0_namedInputs_22 ?_
      refine va_ti hx hb hTn hS (vp_in_nI (n := k) (N := 26) (by omega) (by decide)) (v := .int (nI (nmd k))) (by rw [nI_clamp (by omega)]) dX0_namedInputs_25 ?_
      refine lv_goto (tgt := 30) hx hb dX0_namedInputs_26 (by decide) ?_
      exact W.iret (v := nI (nmd k)) hx hb hr (fun t ht hW => ⟨⟨(nI (nmd k)), (), rfl, rfl, by rw [← ht] at hP; exact hP⟩, hS.F ht⟩) hS.2.2 dX0_namedInputs_30

theorem iL_X0_lacksWire_X0 : ∀ w ∈ u_ws RX0 TX0 11, w ∈ wsX0_lacksWire := by decide +kernel
set_option maxHeartbeats 4000000 in
set_option maxRecDepth 100000 in
theorem k_X0_lacksWire {l : Launch} {D : va_G} {cI cZ cB cS : ClassId} {A : Nat → Prop} (κ : Nat → Nat) (σ sc : Nat → Nat → Int32) (ad : Nat → Nat → Nat) (b k : Nat) (hb0 : b < κ 0) (hk0 : k < 26) (ek : σ 0 b = nI k) : Met l yX0_lacksWire wsX0_lacksWire ({ frames := 1, cells := 0, slots := 0, locals := 20 } : Room) (gPc D cI cZ cB cS A (cDm κ) (cEn cI cZ cB cS κ σ sc ad) ad [.ref (ad 11 b)]) (va_Qi (fun (r : Int32) (_ : Unit) => r = if lack σ k b then 1 else 0) (fun _ t => gw_P D vwCl A (cDm κ) (cEn cI cZ cB cS κ σ sc ad) ad t.heap) A) 0 0 A := by
  refine Met.ofW (cc := cX0_lacksWire) (maxL := 2) (ret := (some .boolean)) (by decide) rfl ?_
  intro p e s m args below meth c s₁ B hml hv
  obtain ⟨rfl, hP, hE, hA⟩ := hv
  have hx := B.exec
  have hb := B.bytes
  have hr := B.returns
  have hts := atoms_spec (ws := wsX0_lacksWire) B.pre
  have hown : s.vm.findClass RX0 = some m.cls := findClass_of_methodNamed B.named
  have hlocks := B.notSynchronized
  have hK := hE.1
  have hS : va_S A s.heap s.heap [] := va_S.rf
  have hL0 := fun w (hw : w ∈ u_ws RX0 TX0 11) => hts w (iL_X0_lacksWire_X0 w hw)
  have hl := lv_entry ([.ref (ad 11 b)]) (n := 2) (Nat.le_of_ble_eq_true rfl)
  rw [lg_entry_eq]
  generalize (lg_sl ([.ref (ad 11 b)]) ++ List.replicate (2 - (lg_sl ([.ref (ad 11 b)])).length) Slot.unset).toArray = ls at hl ⊢
  have hl : lv_has ls 2 [(0, .ref (ad 11 b))] := hl
  have hn3 := nmd_le k
  refine lv_iconst (v := 0) hx hb dX0_lacksWire_0 (by decide) ?_
  refine lv_istore_n (lv' := [(1, .int 0), (0, .ref (ad 11 b))]) hx hb dX0_lacksWire_1 rfl hl (by decide) rfl (fun ls hl => ?_)
  refine lv_loop (fun kk H locs ls => ∃ i : Nat, kk = (nmd k) - i ∧ i ≤ nmd k ∧ (∀ j : Nat, j < i → ¬ σ 9 (3 * b + j) = -1) ∧ gw_P D vwCl A (cDm κ) (cEn cI cZ cB cS κ σ sc ad) ad H ∧ va_S A s.heap H locs ∧ lv_has ls 2 [(0, .ref (ad 11 b)), (1, .int (nI i))]) (fun kk H locs ls hI ih => ?_) ((nmd k) - 0) ⟨0, rfl, by omega, fun j hj => absurd hj (Nat.not_lt_zero j), hP, hS, lv_sub hl [1, 0] rfl⟩
  obtain ⟨i, hk_2, hi_2, hq, hP, hS, hl⟩ := hI
  refine lv_iload_n hx hb dX0_lacksWire_2 rfl (lv_at hl 1 rfl) ?_
  refine lv_aload_n hx hb dX0_lacksWire_3 rfl (lv_at hl 0 rfl) ?_
  refine va_calli (va_runV (As := []) (rest := [.int (nI i)]) ⟨hx, hb, hml, hown, hts⟩ (k_X0_namedInputs (l := l) (D := D) (cI := cI) (cZ := cZ) (cB := cB) (cS := cS) (A := A) κ σ sc ad b k hb0 hk0 ek) (cwV 0 hts gX0_lacksWire_X0_namedInputs rfl rfl rfl (by decide +kernel) ⟨Nat.le_of_ble_eq_true rfl, Nat.le_of_ble_eq_true rfl⟩) (gPreV hE hA hS hP (gw_recv hK hP 11 b (cDb (by omega) (by decide) (by decide)) rfl rfl)) rfl rfl hl.1 rfl (lv_room (Nat.le_of_ble_eq_true rfl)) dX0_lacksWire_4 ⟨Nat.le_of_ble_eq_true rfl, Nat.le_of_ble_eq_true rfl⟩) hS (fun q _ h9 => h9) (fun q h9 => h9) (fun r_1 u9 t9 H locs ht9 hvm9 hw_r_1 hB9 hz9 hk9 hS => ?_)
  have hP : gw_P D vwCl A (cDm κ) (cEn cI cZ cB cS κ σ sc ad) ad H := by rw [← ht9]; exact hB9
  refine lv_toq (nI (nmd k)) hw_r_1 ?_
  refine lv_icmp_ge (tgt := 28) hx hb dX0_lacksWire_7 (by decide) (fun c_2 => ?_) (fun c_2 => ?_)
  · have c_2 : nmd k ≤ i := (nI_leI (a := nmd k) (b := i) (by omega) (by omega)).mp c_2
    refine lv_iconst (v := 0) hx hb dX0_lacksWire_28 (by decide) ?_
    exact W.zret (v := 0) (ty := .boolean) hx hb hr rfl (fun t ht hW => ⟨⟨0, (), rfl, (by rw [lack_f (fun j hj => hq j (by omega))]; rfl), by rw [← ht] at hP; exact hP⟩, hS.F ht⟩) hS.2.2 dX0_lacksWire_29
  · have c_2 : ¬ (nmd k ≤ i) := fun z => c_2 ((nI_leI (a := nmd k) (b := i) (by omega) (by omega)).mpr z)
    refine lv_aload_n hx hb dX0_lacksWire_10 rfl (lv_at hl 0 rfl) ?_
    refine gw_get (C := RX0) (T := TX0) (N := 11) hx hb hL0 hown hK hP 11 b (cDb (by omega) (by decide) (by decide)) rfl rfl 9 (by decide) (hts (.fieldLink RX0 37 "BlockPrograms$Block" "wires" "[I") (by decide +kernel)) (fun _ h9 => h9) (v := .ref (ad 12 b)) rfl dX0_lacksWire_11 ?_
    refine lv_iload_n hx hb dX0_lacksWire_14 rfl (lv_at hl 1 rfl) ?_
    refine gw_iald hx hb hK hP 12 b (cDb (by omega) (by decide) (by decide)) 0 rfl rfl (i) rfl (by omega) (by decide) (v := (σ 9 (3 * b + i))) (if_pos (by omega)) dX0_lacksWire_15 ?_
    refine lv_iconst (v := -1) hx hb dX0_lacksWire_16 (by decide) ?_
    refine lv_icmp_ne (tgt := 22) hx hb dX0_lacksWire_17 (by decide) (fun c_3 => ?_) (fun c_3 => ?_)
    · refine lv_iinc (v := nI (i + 1)) (lv' := [(1, .int (nI (i + 1))), (0, .ref (ad 11 b))]) hx hb dX0_lacksWire_22 hl (k := 1) rfl (nI_add i 1) (by decide) rfl (fun ls hl => ?_)
      refine lv_goto (tgt := 2) hx hb dX0_lacksWire_25 (by decide) ?_
      exact ih _ _ _ _ (by omega) ⟨i + 1, rfl, by omega, lt_s hq c_3, hP, hS, lv_sub hl [1, 0] rfl⟩
    · refine lv_iconst (v := 1) hx hb dX0_lacksWire_20 (by decide) ?_
      exact W.zret (v := 1) (ty := .boolean) hx hb hr rfl (fun t ht hW => ⟨⟨1, (), rfl, (by rw [lack_t (i := i) (by omega) c_3]; rfl), by rw [← ht] at hP; exact hP⟩, hS.F ht⟩) hS.2.2 dX0_lacksWire_21

theorem iL_X0_say_X0 : ∀ w ∈ u_ws RX0 TX0 11, w ∈ wsX0_say := by decide +kernel
set_option maxHeartbeats 4000000 in
set_option maxRecDepth 100000 in
theorem k_X0_say {l : Launch} {D : va_G} {cI cZ cB cS : ClassId} {A : Nat → Prop} (κ : Nat → Nat) (σ sc : Nat → Nat → Int32) (ad : Nat → Nat → Nat) (b : Nat) (hb0 : b < κ 0) (y0 : Int32) : Met l yX0_say wsX0_say ({ frames := 0, cells := 0, slots := 0, locals := 0 } : Room) (gPc D cI cZ cB cS A (cDm κ) (cEn cI cZ cB cS κ σ sc ad) ad [.ref (ad 11 b), .int y0]) (va_Qv (fun _ : Unit => True) (fun _ t => gw_P D vwCl A (cDm κ) (cEn cI cZ cB cS κ (say σ b y0) sc ad) ad t.heap) A) 0 0 A := by
  refine Met.ofW (cc := cX0_say) (maxL := 2) (ret := none) (by decide) rfl ?_
  intro p e s m args below meth c s₁ B hml hv
  obtain ⟨rfl, hP, hE, hA⟩ := hv
  have hx := B.exec
  have hb := B.bytes
  have hr := B.returns
  have hts := atoms_spec (ws := wsX0_say) B.pre
  have hown : s.vm.findClass RX0 = some m.cls := findClass_of_methodNamed B.named
  have hlocks := B.notSynchronized
  have hK := hE.1
  have hS : va_S A s.heap s.heap [] := va_S.rf
  have hL0 := fun w (hw : w ∈ u_ws RX0 TX0 11) => hts w (iL_X0_say_X0 w hw)
  have hl := lv_entry ([.ref (ad 11 b), .int y0]) (n := 2) (Nat.le_of_ble_eq_true rfl)
  rw [lg_entry_eq]
  generalize (lg_sl ([.ref (ad 11 b), .int y0]) ++ List.replicate (2 - (lg_sl ([.ref (ad 11 b), .int y0])).length) Slot.unset).toArray = ls at hl ⊢
  have hl : lv_has ls 2 [(0, .ref (ad 11 b)), (1, .int y0)] := hl
  refine lv_aload_n hx hb dX0_say_0 rfl (lv_at hl 0 rfl) ?_
  refine lv_aload_n hx hb dX0_say_1 rfl (lv_at hl 0 rfl) ?_
  refine gw_get (C := RX0) (T := TX0) (N := 11) hx hb hL0 hown hK hP 11 b (cDb (by omega) (by decide) (by decide)) rfl rfl 7 (by decide) (hts (.fieldLink RX0 30 "BlockPrograms$Block" "inHand" "Z") (by decide +kernel)) (fun _ h9 => h9) (v := .int ((σ 7 b))) rfl dX0_say_2 ?_
  refine lv_if_eq (tgt := 15) hx hb dX0_say_5 (by decide) (fun c_1 => ?_) (fun c_1 => ?_)
  · refine lv_iload_n hx hb dX0_say_15 rfl (lv_at hl 1 rfl) ?_
    refine gw_put (ty := .int) (C := RX0) (T := TX0) (N := 11) hx hb hL0 tyX0 tyX0_ok nmX0 hown hK hP hS 11 b (cDb (by omega) (by decide) (by decide)) rfl rfl 4 (by decide) (hts (.fieldLink RX0 21 "BlockPrograms$Block" "output" "I") (by decide +kernel)) (fun _ h9 => h9) rfl (by decide +kernel) rfl rfl (Nat.le_of_ble_eq_true rfl) dX0_say_16 (cEn cI cZ cB cS κ (wr σ 4 b y0) sc ad) (cU11s_4 _) (fun t9 i9 _ h9 => cU11 (by decide) _ t9 i9 h9) (fun H locs hP hS => ?_)
    have eσ : wr σ 4 b y0 = say σ b y0 := by simp [say, c_1]
    rw [eσ] at hP
    exact W.vret hx hb hr (fun t ht hW => ⟨⟨(), rfl, trivial, by rw [← ht] at hP; exact hP⟩, hS.F ht⟩) hS.2.2 dX0_say_19
  · refine lv_aload_n hx hb dX0_say_8 rfl (lv_at hl 0 rfl) ?_
    refine gw_get (C := RX0) (T := TX0) (N := 11) hx hb hL0 hown hK hP 11 b (cDb (by omega) (by decide) (by decide)) rfl rfl 8 (by decide) (hts (.fieldLink RX0 34 "BlockPrograms$Block" "handValue" "I") (by decide +kernel)) (fun _ h9 => h9) (v := .int ((σ 8 b))) rfl dX0_say_9 ?_
    refine lv_goto (tgt := 16) hx hb dX0_say_12 (by decide) ?_
    refine gw_put (ty := .int) (C := RX0) (T := TX0) (N := 11) hx hb hL0 tyX0 tyX0_ok nmX0 hown hK hP hS 11 b (cDb (by omega) (by decide) (by decide)) rfl rfl 4 (by decide) (hts (.fieldLink RX0 21 "BlockPrograms$Block" "output" "I") (by decide +kernel)) (fun _ h9 => h9) rfl (by decide +kernel) rfl rfl (Nat.le_of_ble_eq_true rfl) dX0_say_16 (cEn cI cZ cB cS κ (wr σ 4 b ((σ 8 b))) sc ad) (cU11s_4 _) (fun t9 i9 _ h9 => cU11 (by decide) _ t9 i9 h9) (fun H locs hP hS => ?_)
    have eσ : wr σ 4 b ((σ 8 b)) = say σ b y0 := by simp [say, c_1]
    rw [eσ] at hP
    exact W.vret hx hb hr (fun t ht hW => ⟨⟨(), rfl, trivial, by rw [← ht] at hP; exact hP⟩, hS.F ht⟩) hS.2.2 dX0_say_19

theorem iL_X0_ramped_X0 : ∀ w ∈ u_ws RX0 TX0 11, w ∈ wsX0_ramped := by decide +kernel
set_option maxHeartbeats 4000000 in
set_option maxRecDepth 100000 in
theorem k_X0_ramped {l : Launch} {D : va_G} {cI cZ cB cS : ClassId} {A : Nat → Prop} (κ : Nat → Nat) (σ sc : Nat → Nat → Int32) (ad : Nat → Nat → Nat) (b : Nat) (hb0 : b < κ 0) (y0 : Int32) : Met l yX0_ramped wsX0_ramped ({ frames := 1, cells := 0, slots := 0, locals := 19 } : Room) (gPc D cI cZ cB cS A (cDm κ) (cEn cI cZ cB cS κ σ sc ad) ad [.ref (ad 11 b), .int y0]) (va_Qi (fun (r : Int32) (_ : Unit) => r = f_ramp (σ 1 b) (σ 4 b) y0) (fun _ t => gw_P D vwCl A (cDm κ) (cEn cI cZ cB cS κ σ sc ad) ad t.heap) A) 0 0 A := by
  refine Met.ofW (cc := cX0_ramped) (maxL := 5) (ret := (some .int)) (by decide) rfl ?_
  intro p e s m args below meth c s₁ B hml hv
  obtain ⟨rfl, hP, hE, hA⟩ := hv
  have hx := B.exec
  have hb := B.bytes
  have hr := B.returns
  have hts := atoms_spec (ws := wsX0_ramped) B.pre
  have hown : s.vm.findClass RX0 = some m.cls := findClass_of_methodNamed B.named
  have hlocks := B.notSynchronized
  have hK := hE.1
  have hS : va_S A s.heap s.heap [] := va_S.rf
  have hL0 := fun w (hw : w ∈ u_ws RX0 TX0 11) => hts w (iL_X0_ramped_X0 w hw)
  have hl := lv_entry ([.ref (ad 11 b), .int y0]) (n := 5) (Nat.le_of_ble_eq_true rfl)
  rw [lg_entry_eq]
  generalize (lg_sl ([.ref (ad 11 b), .int y0]) ++ List.replicate (5 - (lg_sl ([.ref (ad 11 b), .int y0])).length) Slot.unset).toArray = ls at hl ⊢
  have hl : lv_has ls 5 [(0, .ref (ad 11 b)), (1, .int y0)] := hl
  refine lv_aload_n hx hb dX0_ramped_0 rfl (lv_at hl 0 rfl) ?_
  refine gw_get (C := RX0) (T := TX0) (N := 11) hx hb hL0 hown hK hP 11 b (cDb (by omega) (by decide) (by decide)) rfl rfl 1 (by decide) (hts (.fieldLink RX0 9 "BlockPrograms$Block" "p" "I") (by decide +kernel)) (fun _ h9 => h9) (v := .int ((σ 1 b))) rfl dX0_ramped_1 ?_
  refine lv_iconst (v := 0) hx hb dX0_ramped_4 (by decide) ?_
  refine va_mmax hx hb (hml.trans hl.1.symm) hown (hts (.methodLink RX0 84 Lib.Math.max.name) (by decide +kernel)) (hts (.static Lib.Math.max.name) (by decide +kernel)) (hts (.initialized "java/lang/Math") (by decide +kernel)) (hts (.code Lib.Math.max.name Lib.Math.max.code 2 (some .int)) (by decide +kernel)) (Nat.le_of_ble_eq_true rfl) (Nat.le_of_ble_eq_true rfl) (Nat.le_of_ble_eq_true rfl) (Nat.le_of_ble_eq_true rfl) dX0_ramped_5 ?_
  refine lv_istore_n (lv' := [(2, .int ((if (σ 1 b) < 0 then 0 else (σ 1 b)))), (0, .ref (ad 11 b)), (1, .int y0)]) hx hb dX0_ramped_8 rfl hl (by decide) rfl (fun ls hl => ?_)
  refine lv_iload_n hx hb dX0_ramped_9 rfl (lv_at hl 2 rfl) ?_
  refine lv_i2l (v := (y0).toInt64) hx hb dX0_ramped_10 rfl ?_
  refine lv_aload_n hx hb dX0_ramped_11 rfl (lv_at hl 1 rfl) ?_
  refine gw_get (C := RX0) (T := TX0) (N := 11) hx hb hL0 hown hK hP 11 b (cDb (by omega) (by decide) (by decide)) rfl rfl 4 (by decide) (hts (.fieldLink RX0 21 "BlockPrograms$Block" "output" "I") (by decide +kernel)) (fun _ h9 => h9) (v := .int ((σ 4 b))) rfl dX0_ramped_12 ?_
  refine lv_i2l (v := ((σ 4 b)).toInt64) hx hb dX0_ramped_15 rfl ?_
  refine lv_lsub hx hb dX0_ramped_16 ?_
  refine lv_lstore_n (lv' := [(3, .long ((((y0).toInt64) - (((σ 4 b)).toInt64)))), (2, .int ((if (σ 1 b) < 0 then 0 else (σ 1 b)))), (0, .ref (ad 11 b)), (1, .int y0)]) hx hb dX0_ramped_17 rfl hl (by decide) rfl (fun ls hl => ?_)
  refine lv_lload_n hx hb dX0_ramped_18 rfl (lv_at hl 0 rfl) ?_
  refine va_mabs_long hx hb (hml.trans hl.1.symm) hown (hts (.methodLink RX0 87 Lib.MathLoose.abs_long.x) (by decide +kernel)) (hts (.static Lib.MathLoose.abs_long.x) (by decide +kernel)) (hts (.initialized "java/lang/Math") (by decide +kernel)) (hts (.code Lib.MathLoose.abs_long.x Lib.MathLoose.abs_long.code 2 (some .long)) (by decide +kernel)) (Nat.le_of_ble_eq_true rfl) (Nat.le_of_ble_eq_true rfl) (Nat.le_of_ble_eq_true rfl) (Nat.le_of_ble_eq_true rfl) dX0_ramped_19 ?_
  refine lv_iload_n hx hb dX0_ramped_22 rfl (lv_at hl 1 rfl) ?_
  refine lv_i2l (v := ((if (σ 1 b) < 0 then 0 else (σ 1 b))).toInt64) hx hb dX0_ramped_23 rfl ?_
  refine W.lcmp hx hb dX0_ramped_24 ?_
  refine lv_if_gt (tgt := 30) hx hb dX0_ramped_25 (by decide) (fun c_1 => ?_) (fun c_1 => ?_)
  · refine lv_lload_n hx hb dX0_ramped_30 rfl (lv_at hl 0 rfl) ?_
    refine lv_lconst (v := 0) hx hb dX0_ramped_31 (by decide) ?_
    refine W.lcmp hx hb dX0_ramped_32 ?_
    refine lv_if_le (tgt := 45) hx hb dX0_ramped_33 (by decide) (fun c_2 => ?_) (fun c_2 => ?_)
    · refine lv_aload_n hx hb dX0_ramped_45 rfl (lv_at hl 2 rfl) ?_
      refine gw_get (C := RX0) (T := TX0) (N := 11) hx hb hL0 hown hK hP 11 b (cDb (by omega) (by decide) (by decide)) rfl rfl 4 (by decide) (hts (.fieldLink RX0 21 "BlockPrograms$Block" "output" "I") (by decide +kernel)) (fun _ h9 => h9) (v := .int ((σ 4 b))) rfl dX0_ramped_46 ?_
      refine lv_iload_n hx hb dX0_ramped_49 rfl (lv_at hl 1 rfl) ?_
      refine lv_isub hx hb dX0_ramped_50 ?_
      exact W.iret (v := ((σ 4 b) - (if (σ 1 b) < 0 then 0 else (σ 1 b)))) hx hb hr (fun t ht hW => ⟨⟨(((σ 4 b) - (if (σ 1 b) < 0 then 0 else (σ 1 b)))), (), rfl, (by unfold f_ramp; sorry), by rw [← ht] at hP; exact hP⟩, hS.F ht⟩) hS.2.2 dX0_ramped_51
    · refine lv_aload_n hx hb dX0_ramped_36 rfl (lv_at hl 2 rfl) ?_
      refine gw_get (C := RX0) (T := TX0) (N := 11) hx hb hL0 hown hK hP 11 b (cDb (by omega) (by decide) (by decide)) rfl rfl 4 (by decide) (hts (.fieldLink RX0 21 "BlockPrograms$Block" "output" "I") (by decide +kernel)) (fun _ h9 => h9) (v := .int ((σ 4 b))) rfl dX0_ramped_37 ?_
      refine lv_iload_n hx hb dX0_ramped_40 rfl (lv_at hl 1 rfl) ?_
      refine lv_iadd hx hb dX0_ramped_41 ?_
      refine lv_goto (tgt := 51) hx hb dX0_ramped_42 (by decide) ?_
      exact W.iret (v := ((σ 4 b) + (if (σ 1 b) < 0 then 0 else (σ 1 b)))) hx hb hr (fun t ht hW => ⟨⟨(((σ 4 b) + (if (σ 1 b) < 0 then 0 else (σ 1 b)))), (), rfl, (by unfold f_ramp; sorry), by rw [← ht] at hP; exact hP⟩, hS.F ht⟩) hS.2.2 dX0_ramped_51
  · refine lv_iload_n hx hb dX0_ramped_28 rfl (lv_at hl 3 rfl) ?_
    exact W.iret (v := y0) hx hb hr (fun t ht hW => ⟨⟨y0, (), rfl, (by unfold f_ramp; sorry), by rw [← ht] at hP; exact hP⟩, hS.F ht⟩) hS.2.2 dX0_ramped_29

theorem iL_X0_counted_X0 : ∀ w ∈ u_ws RX0 TX0 11, w ∈ wsX0_counted := by decide +kernel
set_option maxHeartbeats 4000000 in
set_option maxRecDepth 100000 in
theorem k_X0_counted {l : Launch} {D : va_G} {cI cZ cB cS : ClassId} {A : Nat → Prop} (κ : Nat → Nat) (σ sc : Nat → Nat → Int32) (ad : Nat → Nat → Nat) (b : Nat) (hb0 : b < κ 0) (y0 y1 : Int32) : Met l yX0_counted wsX0_counted ({ frames := 0, cells := 0, slots := 0, locals := 0 } : Room) (gPc D cI cZ cB cS A (cDm κ) (cEn cI cZ cB cS κ σ sc ad) ad [.ref (ad 11 b), .int y0, .int y1]) (va_Qi (fun (r : Int32) (_ : Unit) => r = f_count (σ 5 b) (σ 6 b) y0 y1) (fun _ t => gw_P D vwCl A (cDm κ) (cEn cI cZ cB cS κ (wr (wr σ 5 b (f_count (σ 5 b) (σ 6 b) y0 y1)) 6 b y0) sc ad) ad t.heap) A) 0 0 A := by
  refine Met.ofW (cc := cX0_counted) (maxL := 3) (ret := (some .int)) (by decide) rfl ?_
  intro p e s m args below meth c s₁ B hml hv
  obtain ⟨rfl, hP, hE, hA⟩ := hv
  have hx := B.exec
  have hb := B.bytes
  have hr := B.returns
  have hts := atoms_spec (ws := wsX0_counted) B.pre
  have hown : s.vm.findClass RX0 = some m.cls := findClass_of_methodNamed B.named
  have hlocks := B.notSynchronized
  have hK := hE.1
  have hS : va_S A s.heap s.heap [] := va_S.rf
  have hL0 := fun w (hw : w ∈ u_ws RX0 TX0 11) => hts w (iL_X0_counted_X0 w hw)
  have hl := lv_entry ([.ref (ad 11 b), .int y0, .int y1]) (n := 3) (Nat.le_of_ble_eq_true rfl)
  rw [lg_entry_eq]
  generalize (lg_sl ([.ref (ad 11 b), .int y0, .int y1]) ++ List.replicate (3 - (lg_sl ([.ref (ad 11 b), .int y0, .int y1])).length) Slot.unset).toArray = ls at hl ⊢
  have hl : lv_has ls 3 [(0, .ref (ad 11 b)), (1, .int y0), (2, .int y1)] := hl
  refine lv_iload_n hx hb dX0_counted_0 rfl (lv_at hl 2 rfl) ?_
  refine lv_if_eq (tgt := 12) hx hb dX0_counted_1 (by decide) (fun c_1 => ?_) (fun c_1 => ?_)
  · refine lv_iload_n hx hb dX0_counted_12 rfl (lv_at hl 1 rfl) ?_
    refine lv_if_eq (tgt := 33) hx hb dX0_counted_13 (by decide) (fun c_2 => ?_) (fun c_2 => ?_)
    · refine lv_aload_n hx hb dX0_counted_33 rfl (lv_at hl 0 rfl) ?_
      refine lv_iload_n hx hb dX0_counted_34 rfl (lv_at hl 1 rfl) ?_
      refine gw_put (ty := .int) (C := RX0) (T := TX0) (N := 11) hx hb hL0 tyX0 tyX0_ok nmX0 hown hK hP hS 11 b (cDb (by omega) (by decide) (by decide)) rfl rfl 6 (by decide) (hts (.fieldLink RX0 27 "BlockPrograms$Block" "second" "I") (by decide +kernel)) (fun _ h9 => h9) rfl (by decide +kernel) rfl rfl (Nat.le_of_ble_eq_true rfl) dX0_counted_35 (cEn cI cZ cB cS κ (wr σ 6 b y0) sc ad) (cU11s_6 _) (fun t9 i9 _ h9 => cU11 (by decide) _ t9 i9 h9) (fun H locs hP hS => ?_)
      refine lv_aload_n hx hb dX0_counted_38 rfl (lv_at hl 0 rfl) ?_
      refine gw_get (C := RX0) (T := TX0) (N := 11) hx hb hL0 hown hK hP 11 b (cDb (by omega) (by decide) (by decide)) rfl rfl 5 (by decide) (hts (.fieldLink RX0 24 "BlockPrograms$Block" "first" "I") (by decide +kernel)) (fun _ h9 => h9) (v := .int ((σ 5 b))) (by simp [wr, va_up]) dX0_counted_39 ?_
      have eσ : wr σ 6 b y0 = wr (wr σ 5 b (f_count (σ 5 b) (σ 6 b) y0 y1)) 6 b y0 := by simp [f_count, c_1, c_2, wr_wr, wr_id, wr_65, wr_id6]
      rw [eσ] at hP
      exact W.iret (v := (σ 5 b)) hx hb hr (fun t ht hW => ⟨⟨((σ 5 b)), (), rfl, (by simp [f_count, c_1, c_2]), by rw [← ht] at hP; exact hP⟩, hS.F ht⟩) hS.2.2 dX0_counted_42
    · refine lv_aload_n hx hb dX0_counted_16 rfl (lv_at hl 0 rfl) ?_
      refine gw_get (C := RX0) (T := TX0) (N := 11) hx hb hL0 hown hK hP 11 b (cDb (by omega) (by decide) (by decide)) rfl rfl 6 (by decide) (hts (.fieldLink RX0 27 "BlockPrograms$Block" "second" "I") (by decide +kernel)) (fun _ h9 => h9) (v := .int ((σ 6 b))) rfl dX0_counted_17 ?_
      refine lv_if_ne (tgt := 33) hx hb dX0_counted_20 (by decide) (fun c_3 => ?_) (fun c_3 => ?_)
      · refine lv_aload_n hx hb dX0_counted_33 rfl (lv_at hl 0 rfl) ?_
        refine lv_iload_n hx hb dX0_counted_34 rfl (lv_at hl 1 rfl) ?_
        refine gw_put (ty := .int) (C := RX0) (T := TX0) (N := 11) hx hb hL0 tyX0 tyX0_ok nmX0 hown hK hP hS 11 b (cDb (by omega) (by decide) (by decide)) rfl rfl 6 (by decide) (hts (.fieldLink RX0 27 "BlockPrograms$Block" "second" "I") (by decide +kernel)) (fun _ h9 => h9) rfl (by decide +kernel) rfl rfl (Nat.le_of_ble_eq_true rfl) dX0_counted_35 (cEn cI cZ cB cS κ (wr σ 6 b y0) sc ad) (cU11s_6 _) (fun t9 i9 _ h9 => cU11 (by decide) _ t9 i9 h9) (fun H locs hP hS => ?_)
        refine lv_aload_n hx hb dX0_counted_38 rfl (lv_at hl 0 rfl) ?_
        refine gw_get (C := RX0) (T := TX0) (N := 11) hx hb hL0 hown hK hP 11 b (cDb (by omega) (by decide) (by decide)) rfl rfl 5 (by decide) (hts (.fieldLink RX0 24 "BlockPrograms$Block" "first" "I") (by decide +kernel)) (fun _ h9 => h9) (v := .int ((σ 5 b))) (by simp [wr, va_up]) dX0_counted_39 ?_
        have eσ : wr σ 6 b y0 = wr (wr σ 5 b (f_count (σ 5 b) (σ 6 b) y0 y1)) 6 b y0 := by simp [f_count, c_1, c_2, c_3, wr_wr, wr_id, wr_65, wr_id6]
        rw [eσ] at hP
        exact W.iret (v := (σ 5 b)) hx hb hr (fun t ht hW => ⟨⟨((σ 5 b)), (), rfl, (by simp [f_count, c_1, c_2, c_3]), by rw [← ht] at hP; exact hP⟩, hS.F ht⟩) hS.2.2 dX0_counted_42
      · refine lv_aload_n hx hb dX0_counted_23 rfl (lv_at hl 0 rfl) ?_
        refine lv_dup hx hb dX0_counted_24 rfl ?_
        refine gw_get (C := RX0) (T := TX0) (N := 11) hx hb hL0 hown hK hP 11 b (cDb (by omega) (by decide) (by decide)) rfl rfl 5 (by decide) (hts (.fieldLink RX0 24 "BlockPrograms$Block" "first" "I") (by decide +kernel)) (fun _ h9 => h9) (v := .int ((σ 5 b))) rfl dX0_counted_25 ?_
        refine lv_iconst (v := 1) hx hb dX0_counted_28 (by decide) ?_
        refine lv_iadd hx hb dX0_counted_29 ?_
        refine gw_put (ty := .int) (C := RX0) (T := TX0) (N := 11) hx hb hL0 tyX0 tyX0_ok nmX0 hown hK hP hS 11 b (cDb (by omega) (by decide) (by decide)) rfl rfl 5 (by decide) (hts (.fieldLink RX0 24 "BlockPrograms$Block" "first" "I") (by decide +kernel)) (fun _ h9 => h9) rfl (by decide +kernel) rfl rfl (Nat.le_of_ble_eq_true rfl) dX0_counted_30 (cEn cI cZ cB cS κ (wr σ 5 b (((σ 5 b) + 1))) sc ad) (cU11s_5 _) (fun t9 i9 _ h9 => cU11 (by decide) _ t9 i9 h9) (fun H locs hP hS => ?_)
        refine lv_aload_n hx hb dX0_counted_33 rfl (lv_at hl 0 rfl) ?_
        refine lv_iload_n hx hb dX0_counted_34 rfl (lv_at hl 1 rfl) ?_
        refine gw_put (ty := .int) (C := RX0) (T := TX0) (N := 11) hx hb hL0 tyX0 tyX0_ok nmX0 hown hK hP hS 11 b (cDb (by omega) (by decide) (by decide)) rfl rfl 6 (by decide) (hts (.fieldLink RX0 27 "BlockPrograms$Block" "second" "I") (by decide +kernel)) (fun _ h9 => h9) rfl (by decide +kernel) rfl rfl (Nat.le_of_ble_eq_true rfl) dX0_counted_35 (cEn cI cZ cB cS κ (wr (wr σ 5 b (((σ 5 b) + 1))) 6 b y0) sc ad) (cU11s_6 _) (fun t9 i9 _ h9 => cU11 (by decide) _ t9 i9 h9) (fun H locs hP hS => ?_)
        refine lv_aload_n hx hb dX0_counted_38 rfl (lv_at hl 0 rfl) ?_
        refine gw_get (C := RX0) (T := TX0) (N := 11) hx hb hL0 hown hK hP 11 b (cDb (by omega) (by decide) (by decide)) rfl rfl 5 (by decide) (hts (.fieldLink RX0 24 "BlockPrograms$Block" "first" "I") (by decide +kernel)) (fun _ h9 => h9) (v := .int ((((σ 5 b) + 1)))) (by simp [wr, va_up]) dX0_counted_39 ?_
        have eσ : wr (wr σ 5 b (((σ 5 b) + 1))) 6 b y0 = wr (wr σ 5 b (f_count (σ 5 b) (σ 6 b) y0 y1)) 6 b y0 := by simp [f_count, c_1, c_2, c_3, wr_wr, wr_id, wr_65, wr_id6]
        rw [eσ] at hP
        exact W.iret (v := (((σ 5 b) + 1))) hx hb hr (fun t ht hW => ⟨⟨((((σ 5 b) + 1))), (), rfl, (by simp [f_count, c_1, c_2, c_3]), by rw [← ht] at hP; exact hP⟩, hS.F ht⟩) hS.2.2 dX0_counted_42
  · refine lv_aload_n hx hb dX0_counted_4 rfl (lv_at hl 0 rfl) ?_
    refine lv_iconst (v := 0) hx hb dX0_counted_5 (by decide) ?_
    refine gw_put (ty := .int) (C := RX0) (T := TX0) (N := 11) hx hb hL0 tyX0 tyX0_ok nmX0 hown hK hP hS 11 b (cDb (by omega) (by decide) (by decide)) rfl rfl 5 (by decide) (hts (.fieldLink RX0 24 "BlockPrograms$Block" "first" "I") (by decide +kernel)) (fun _ h9 => h9) rfl (by decide +kernel) rfl rfl (Nat.le_of_ble_eq_true rfl) dX0_counted_6 (cEn cI cZ cB cS κ (wr σ 5 b 0) sc ad) (cU11s_5 _) (fun t9 i9 _ h9 => cU11 (by decide) _ t9 i9 h9) (fun H locs hP hS => ?_)
    refine lv_goto (tgt := 33) hx hb dX0_counted_9 (by decide) ?_
    refine lv_aload_n hx hb dX0_counted_33 rfl (lv_at hl 0 rfl) ?_
    refine lv_iload_n hx hb dX0_counted_34 rfl (lv_at hl 1 rfl) ?_
    refine gw_put (ty := .int) (C := RX0) (T := TX0) (N := 11) hx hb hL0 tyX0 tyX0_ok nmX0 hown hK hP hS 11 b (cDb (by omega) (by decide) (by decide)) rfl rfl 6 (by decide) (hts (.fieldLink RX0 27 "BlockPrograms$Block" "second" "I") (by decide +kernel)) (fun _ h9 => h9) rfl (by decide +kernel) rfl rfl (Nat.le_of_ble_eq_true rfl) dX0_counted_35 (cEn cI cZ cB cS κ (wr (wr σ 5 b 0) 6 b y0) sc ad) (cU11s_6 _) (fun t9 i9 _ h9 => cU11 (by decide) _ t9 i9 h9) (fun H locs hP hS => ?_)
    refine lv_aload_n hx hb dX0_counted_38 rfl (lv_at hl 0 rfl) ?_
    refine gw_get (C := RX0) (T := TX0) (N := 11) hx hb hL0 hown hK hP 11 b (cDb (by omega) (by decide) (by decide)) rfl rfl 5 (by decide) (hts (.fieldLink RX0 24 "BlockPrograms$Block" "first" "I") (by decide +kernel)) (fun _ h9 => h9) (v := .int 0) (by simp [wr, va_up]) dX0_counted_39 ?_
    have eσ : wr (wr σ 5 b 0) 6 b y0 = wr (wr σ 5 b (f_count (σ 5 b) (σ 6 b) y0 y1)) 6 b y0 := by simp [f_count, c_1, wr_wr, wr_id, wr_65, wr_id6]
    rw [eσ] at hP
    exact W.iret (v := 0) hx hb hr (fun t ht hW => ⟨⟨0, (), rfl, (by simp [f_count, c_1]), by rw [← ht] at hP; exact hP⟩, hS.F ht⟩) hS.2.2 dX0_counted_42

theorem iL_X0_latched_X0 : ∀ w ∈ u_ws RX0 TX0 11, w ∈ wsX0_latched := by decide +kernel
set_option maxHeartbeats 4000000 in
set_option maxRecDepth 100000 in
theorem k_X0_latched {l : Launch} {D : va_G} {cI cZ cB cS : ClassId} {A : Nat → Prop} (κ : Nat → Nat) (σ sc : Nat → Nat → Int32) (ad : Nat → Nat → Nat) (b : Nat) (hb0 : b < κ 0) (y0 y1 : Int32) : Met l yX0_latched wsX0_latched ({ frames := 0, cells := 0, slots := 0, locals := 0 } : Room) (gPc D cI cZ cB cS A (cDm κ) (cEn cI cZ cB cS κ σ sc ad) ad [.ref (ad 11 b), .int y0, .int y1]) (va_Qi (fun (r : Int32) (_ : Unit) => r = f_latch (σ 5 b) y0 y1) (fun _ t => gw_P D vwCl A (cDm κ) (cEn cI cZ cB cS κ (wr σ 5 b (f_latch (σ 5 b) y0 y1)) sc ad) ad t.heap) A) 0 0 A := by
  refine Met.ofW (cc := cX0_latched) (maxL := 3) (ret := (some .int)) (by decide) rfl ?_
  intro p e s m args below meth c s₁ B hml hv
  obtain ⟨rfl, hP, hE, hA⟩ := hv
  have hx := B.exec
  have hb := B.bytes
  have hr := B.returns
  have hts := atoms_spec (ws := wsX0_latched) B.pre
  have hown : s.vm.findClass RX0 = some m.cls := findClass_of_methodNamed B.named
  have hlocks := B.notSynchronized
  have hK := hE.1
  have hS : va_S A s.heap s.heap [] := va_S.rf
  have hL0 := fun w (hw : w ∈ u_ws RX0 TX0 11) => hts w (iL_X0_latched_X0 w hw)
  have hl := lv_entry ([.ref (ad 11 b), .int y0, .int y1]) (n := 3) (Nat.le_of_ble_eq_true rfl)
  rw [lg_entry_eq]
  generalize (lg_sl ([.ref (ad 11 b), .int y0, .int y1]) ++ List.replicate (3 - (lg_sl ([.ref (ad 11 b), .int y0, .int y1])).length) Slot.unset).toArray = ls at hl ⊢
  have hl : lv_has ls 3 [(0, .ref (ad 11 b)), (1, .int y0), (2, .int y1)] := hl
  refine lv_iload_n hx hb dX0_latched_0 rfl (lv_at hl 1 rfl) ?_
  refine lv_if_eq (tgt := 12) hx hb dX0_latched_1 (by decide) (fun c_1 => ?_) (fun c_1 => ?_)
  · refine lv_iload_n hx hb dX0_latched_12 rfl (lv_at hl 2 rfl) ?_
    refine lv_if_eq (tgt := 21) hx hb dX0_latched_13 (by decide) (fun c_2 => ?_) (fun c_2 => ?_)
    · refine lv_aload_n hx hb dX0_latched_21 rfl (lv_at hl 0 rfl) ?_
      refine gw_get (C := RX0) (T := TX0) (N := 11) hx hb hL0 hown hK hP 11 b (cDb (by omega) (by decide) (by decide)) rfl rfl 5 (by decide) (hts (.fieldLink RX0 24 "BlockPrograms$Block" "first" "I") (by decide +kernel)) (fun _ h9 => h9) (v := .int ((σ 5 b))) rfl dX0_latched_22 ?_
      have eσ : σ = wr σ 5 b (f_latch (σ 5 b) y0 y1) := by simp [f_latch, c_1, c_2, wr_wr, wr_id, wr_65, wr_id6]
      rw [eσ] at hP
      exact W.iret (v := (σ 5 b)) hx hb hr (fun t ht hW => ⟨⟨((σ 5 b)), (), rfl, (by simp [f_latch, c_1, c_2]), by rw [← ht] at hP; exact hP⟩, hS.F ht⟩) hS.2.2 dX0_latched_25
    · refine lv_aload_n hx hb dX0_latched_16 rfl (lv_at hl 0 rfl) ?_
      refine lv_iconst (v := 0) hx hb dX0_latched_17 (by decide) ?_
      refine gw_put (ty := .int) (C := RX0) (T := TX0) (N := 11) hx hb hL0 tyX0 tyX0_ok nmX0 hown hK hP hS 11 b (cDb (by omega) (by decide) (by decide)) rfl rfl 5 (by decide) (hts (.fieldLink RX0 24 "BlockPrograms$Block" "first" "I") (by decide +kernel)) (fun _ h9 => h9) rfl (by decide +kernel) rfl rfl (Nat.le_of_ble_eq_true rfl) dX0_latched_18 (cEn cI cZ cB cS κ (wr σ 5 b 0) sc ad) (cU11s_5 _) (fun t9 i9 _ h9 => cU11 (by decide) _ t9 i9 h9) (fun H locs hP hS => ?_)
      refine lv_aload_n hx hb dX0_latched_21 rfl (lv_at hl 0 rfl) ?_
      refine gw_get (C := RX0) (T := TX0) (N := 11) hx hb hL0 hown hK hP 11 b (cDb (by omega) (by decide) (by decide)) rfl rfl 5 (by decide) (hts (.fieldLink RX0 24 "BlockPrograms$Block" "first" "I") (by decide +kernel)) (fun _ h9 => h9) (v := .int 0) (by simp [wr, va_up]) dX0_latched_22 ?_
      have eσ : wr σ 5 b 0 = wr σ 5 b (f_latch (σ 5 b) y0 y1) := by simp [f_latch, c_1, c_2, wr_wr, wr_id, wr_65, wr_id6]
      rw [eσ] at hP
      exact W.iret (v := 0) hx hb hr (fun t ht hW => ⟨⟨0, (), rfl, (by simp [f_latch, c_1, c_2]), by rw [← ht] at hP; exact hP⟩, hS.F ht⟩) hS.2.2 dX0_latched_25
  · refine lv_aload_n hx hb dX0_latched_4 rfl (lv_at hl 0 rfl) ?_
    refine lv_iconst (v := 1) hx hb dX0_latched_5 (by decide) ?_
    refine gw_put (ty := .int) (C := RX0) (T := TX0) (N := 11) hx hb hL0 tyX0 tyX0_ok nmX0 hown hK hP hS 11 b (cDb (by omega) (by decide) (by decide)) rfl rfl 5 (by decide) (hts (.fieldLink RX0 24 "BlockPrograms$Block" "first" "I") (by decide +kernel)) (fun _ h9 => h9) rfl (by decide +kernel) rfl rfl (Nat.le_of_ble_eq_true rfl) dX0_latched_6 (cEn cI cZ cB cS κ (wr σ 5 b 1) sc ad) (cU11s_5 _) (fun t9 i9 _ h9 => cU11 (by decide) _ t9 i9 h9) (fun H locs hP hS => ?_)
    refine lv_goto (tgt := 21) hx hb dX0_latched_9 (by decide) ?_
    refine lv_aload_n hx hb dX0_latched_21 rfl (lv_at hl 0 rfl) ?_
    refine gw_get (C := RX0) (T := TX0) (N := 11) hx hb hL0 hown hK hP 11 b (cDb (by omega) (by decide) (by decide)) rfl rfl 5 (by decide) (hts (.fieldLink RX0 24 "BlockPrograms$Block" "first" "I") (by decide +kernel)) (fun _ h9 => h9) (v := .int 1) (by simp [wr, va_up]) dX0_latched_22 ?_
    have eσ : wr σ 5 b 1 = wr σ 5 b (f_latch (σ 5 b) y0 y1) := by simp [f_latch, c_1, wr_wr, wr_id, wr_65, wr_id6]
    rw [eσ] at hP
    exact W.iret (v := 1) hx hb hr (fun t ht hW => ⟨⟨1, (), rfl, (by simp [f_latch, c_1]), by rw [← ht] at hP; exact hP⟩, hS.F ht⟩) hS.2.2 dX0_latched_25

theorem iL_X0_isClockOn_X0 : ∀ w ∈ u_ws RX0 TX0 11, w ∈ wsX0_isClockOn := by decide +kernel
set_option maxHeartbeats 4000000 in
set_option maxRecDepth 100000 in
theorem k_X0_isClockOn {l : Launch} {D : va_G} {cI cZ cB cS : ClassId} {A : Nat → Prop} (κ : Nat → Nat) (σ sc : Nat → Nat → Int32) (ad : Nat → Nat → Nat) (b : Nat) (hb0 : b < κ 0) (y0 : Int32) : Met l yX0_isClockOn wsX0_isClockOn ({ frames := 0, cells := 0, slots := 0, locals := 0 } : Room) (gPc D cI cZ cB cS A (cDm κ) (cEn cI cZ cB cS κ σ sc ad) ad [.ref (ad 11 b), .int y0]) (va_Qi (fun (r : Int32) (_ : Unit) => r = if f_clock (σ 1 b) (σ 2 b) y0 then 1 else 0) (fun _ t => gw_P D vwCl A (cDm κ) (cEn cI cZ cB cS κ σ sc ad) ad t.heap) A) 0 0 A := by
  refine Met.ofW (cc := cX0_isClockOn) (maxL := 2) (ret := (some .boolean)) (by decide) rfl ?_
  intro p e s m args below meth c s₁ B hml hv
  obtain ⟨rfl, hP, hE, hA⟩ := hv
  have hx := B.exec
  have hb := B.bytes
  have hr := B.returns
  have hts := atoms_spec (ws := wsX0_isClockOn) B.pre
  have hown : s.vm.findClass RX0 = some m.cls := findClass_of_methodNamed B.named
  have hlocks := B.notSynchronized
  have hK := hE.1
  have hS : va_S A s.heap s.heap [] := va_S.rf
  have hL0 := fun w (hw : w ∈ u_ws RX0 TX0 11) => hts w (iL_X0_isClockOn_X0 w hw)
  have hl := lv_entry ([.ref (ad 11 b), .int y0]) (n := 2) (Nat.le_of_ble_eq_true rfl)
  rw [lg_entry_eq]
  generalize (lg_sl ([.ref (ad 11 b), .int y0]) ++ List.replicate (2 - (lg_sl ([.ref (ad 11 b), .int y0])).length) Slot.unset).toArray = ls at hl ⊢
  have hl : lv_has ls 2 [(0, .ref (ad 11 b)), (1, .int y0)] := hl
  refine lv_aload_n hx hb dX0_isClockOn_0 rfl (lv_at hl 0 rfl) ?_
  refine gw_get (C := RX0) (T := TX0) (N := 11) hx hb hL0 hown hK hP 11 b (cDb (by omega) (by decide) (by decide)) rfl rfl 1 (by decide) (hts (.fieldLink RX0 9 "BlockPrograms$Block" "p" "I") (by decide +kernel)) (fun _ h9 => h9) (v := .int ((σ 1 b))) rfl dX0_isClockOn_1 ?_
  refine lv_aload_n hx hb dX0_isClockOn_4 rfl (lv_at hl 0 rfl) ?_
  refine gw_get (C := RX0) (T := TX0) (N := 11) hx hb hL0 hown hK hP 11 b (cDb (by omega) (by decide) (by decide)) rfl rfl 2 (by decide) (hts (.fieldLink RX0 15 "BlockPrograms$Block" "q" "I") (by decide +kernel)) (fun _ h9 => h9) (v := .int ((σ 2 b))) rfl dX0_isClockOn_5 ?_
  refine lv_icmp_le (tgt := 35) hx hb dX0_isClockOn_8 (by decide) (fun c_1 => ?_) (fun c_1 => ?_)
  · refine lv_iload_n hx hb dX0_isClockOn_35 rfl (lv_at hl 1 rfl) ?_
    refine lv_aload_n hx hb dX0_isClockOn_36 rfl (lv_at hl 0 rfl) ?_
    refine gw_get (C := RX0) (T := TX0) (N := 11) hx hb hL0 hown hK hP 11 b (cDb (by omega) (by decide) (by decide)) rfl rfl 1 (by decide) (hts (.fieldLink RX0 9 "BlockPrograms$Block" "p" "I") (by decide +kernel)) (fun _ h9 => h9) (v := .int ((σ 1 b))) rfl dX0_isClockOn_37 ?_
    refine lv_icmp_lt (tgt := 55) hx hb dX0_isClockOn_40 (by decide) (fun c_2 => ?_) (fun c_2 => ?_)
    · refine lv_iconst (v := 0) hx hb dX0_isClockOn_55 (by decide) ?_
      exact W.zret (v := 0) (ty := .boolean) hx hb hr rfl (fun t ht hW => ⟨⟨0, (), rfl, (by simp only [f_clock, Int32.lt_iff_toInt_lt, Int32.le_iff_toInt_le] at c_1 c_2 ⊢; split <;> simp <;> omega), by rw [← ht] at hP; exact hP⟩, hS.F ht⟩) hS.2.2 dX0_isClockOn_56
    · refine lv_iload_n hx hb dX0_isClockOn_43 rfl (lv_at hl 1 rfl) ?_
      refine lv_aload_n hx hb dX0_isClockOn_44 rfl (lv_at hl 0 rfl) ?_
      refine gw_get (C := RX0) (T := TX0) (N := 11) hx hb hL0 hown hK hP 11 b (cDb (by omega) (by decide) (by decide)) rfl rfl 2 (by decide) (hts (.fieldLink RX0 15 "BlockPrograms$Block" "q" "I") (by decide +kernel)) (fun _ h9 => h9) (v := .int ((σ 2 b))) rfl dX0_isClockOn_45 ?_
      refine lv_icmp_ge (tgt := 55) hx hb dX0_isClockOn_48 (by decide) (fun c_3 => ?_) (fun c_3 => ?_)
      · refine lv_iconst (v := 0) hx hb dX0_isClockOn_55 (by decide) ?_
        exact W.zret (v := 0) (ty := .boolean) hx hb hr rfl (fun t ht hW => ⟨⟨0, (), rfl, (by simp only [f_clock, Int32.lt_iff_toInt_lt, Int32.le_iff_toInt_le] at c_1 c_2 c_3 ⊢; split <;> simp <;> omega), by rw [← ht] at hP; exact hP⟩, hS.F ht⟩) hS.2.2 dX0_isClockOn_56
      · refine lv_iconst (v := 1) hx hb dX0_isClockOn_51 (by decide) ?_
        refine lv_goto (tgt := 56) hx hb dX0_isClockOn_52 (by decide) ?_
        exact W.zret (v := 1) (ty := .boolean) hx hb hr rfl (fun t ht hW => ⟨⟨1, (), rfl, (by simp only [f_clock, Int32.lt_iff_toInt_lt, Int32.le_iff_toInt_le] at c_1 c_2 c_3 ⊢; split <;> simp <;> omega), by rw [← ht] at hP; exact hP⟩, hS.F ht⟩) hS.2.2 dX0_isClockOn_56
  · refine lv_iload_n hx hb dX0_isClockOn_11 rfl (lv_at hl 1 rfl) ?_
    refine lv_aload_n hx hb dX0_isClockOn_12 rfl (lv_at hl 0 rfl) ?_
    refine gw_get (C := RX0) (T := TX0) (N := 11) hx hb hL0 hown hK hP 11 b (cDb (by omega) (by decide) (by decide)) rfl rfl 1 (by decide) (hts (.fieldLink RX0 9 "BlockPrograms$Block" "p" "I") (by decide +kernel)) (fun _ h9 => h9) (v := .int ((σ 1 b))) rfl dX0_isClockOn_13 ?_
    refine lv_icmp_ge (tgt := 27) hx hb dX0_isClockOn_16 (by decide) (fun c_4 => ?_) (fun c_4 => ?_)
    · refine lv_iconst (v := 1) hx hb dX0_isClockOn_27 (by decide) ?_
      refine lv_goto (tgt := 56) hx hb dX0_isClockOn_28 (by decide) ?_
      exact W.zret (v := 1) (ty := .boolean) hx hb hr rfl (fun t ht hW => ⟨⟨1, (), rfl, (by simp only [f_clock, Int32.lt_iff_toInt_lt, Int32.le_iff_toInt_le] at c_1 c_4 ⊢; split <;> simp <;> omega), by rw [← ht] at hP; exact hP⟩, hS.F ht⟩) hS.2.2 dX0_isClockOn_56
    · refine lv_iload_n hx hb dX0_isClockOn_19 rfl (lv_at hl 1 rfl) ?_
      refine lv_aload_n hx hb dX0_isClockOn_20 rfl (lv_at hl 0 rfl) ?_
      refine gw_get (C := RX0) (T := TX0) (N := 11) hx hb hL0 hown hK hP 11 b (cDb (by omega) (by decide) (by decide)) rfl rfl 2 (by decide) (hts (.fieldLink RX0 15 "BlockPrograms$Block" "q" "I") (by decide +kernel)) (fun _ h9 => h9) (v := .int ((σ 2 b))) rfl dX0_isClockOn_21 ?_
      refine lv_icmp_ge (tgt := 31) hx hb dX0_isClockOn_24 (by decide) (fun c_5 => ?_) (fun c_5 => ?_)
      · refine lv_iconst (v := 0) hx hb dX0_isClockOn_31 (by decide) ?_
        refine lv_goto (tgt := 56) hx hb dX0_isClockOn_32 (by decide) ?_
        exact W.zret (v := 0) (ty := .boolean) hx hb hr rfl (fun t ht hW => ⟨⟨0, (), rfl, (by simp only [f_clock, Int32.lt_iff_toInt_lt, Int32.le_iff_toInt_le] at c_1 c_4 c_5 ⊢; split <;> simp <;> omega), by rw [← ht] at hP; exact hP⟩, hS.F ht⟩) hS.2.2 dX0_isClockOn_56
      · refine lv_iconst (v := 1) hx hb dX0_isClockOn_27 (by decide) ?_
        refine lv_goto (tgt := 56) hx hb dX0_isClockOn_28 (by decide) ?_
        exact W.zret (v := 1) (ty := .boolean) hx hb hr rfl (fun t ht hW => ⟨⟨1, (), rfl, (by simp only [f_clock, Int32.lt_iff_toInt_lt, Int32.le_iff_toInt_le] at c_1 c_4 c_5 ⊢; split <;> simp <;> omega), by rw [← ht] at hP; exact hP⟩, hS.F ht⟩) hS.2.2 dX0_isClockOn_56

theorem iL_X0_pulsed_X0 : ∀ w ∈ u_ws RX0 TX0 11, w ∈ wsX0_pulsed := by decide +kernel
set_option maxHeartbeats 4000000 in
set_option maxRecDepth 100000 in
theorem k_X0_pulsed {l : Launch} {D : va_G} {cI cZ cB cS : ClassId} {A : Nat → Prop} (κ : Nat → Nat) (σ sc : Nat → Nat → Int32) (ad : Nat → Nat → Nat) (b : Nat) (hb0 : b < κ 0) (y0 : Int32) : Met l yX0_pulsed wsX0_pulsed ({ frames := 0, cells := 0, slots := 0, locals := 0 } : Room) (gPc D cI cZ cB cS A (cDm κ) (cEn cI cZ cB cS κ σ sc ad) ad [.ref (ad 11 b), .int y0]) (va_Qi (fun (r : Int32) (_ : Unit) => r = if 0 < f_pulse0 (σ 1 b) (σ 5 b) (σ 6 b) y0 then 1 else 0) (fun _ t => gw_P D vwCl A (cDm κ) (cEn cI cZ cB cS κ (wr (wr σ 5 b (if 0 < f_pulse0 (σ 1 b) (σ 5 b) (σ 6 b) y0 then f_pulse0 (σ 1 b) (σ 5 b) (σ 6 b) y0 - 1 else f_pulse0 (σ 1 b) (σ 5 b) (σ 6 b) y0)) 6 b y0) sc ad) ad t.heap) A) 0 0 A := by
  refine Met.ofW (cc := cX0_pulsed) (maxL := 2) (ret := (some .int)) (by decide) rfl ?_
  intro p e s m args below meth c s₁ B hml hv
  obtain ⟨rfl, hP, hE, hA⟩ := hv
  have hx := B.exec
  have hb := B.bytes
  have hr := B.returns
  have hts := atoms_spec (ws := wsX0_pulsed) B.pre
  have hown : s.vm.findClass RX0 = some m.cls := findClass_of_methodNamed B.named
  have hlocks := B.notSynchronized
  have hK := hE.1
  have hS : va_S A s.heap s.heap [] := va_S.rf
  have hL0 := fun w (hw : w ∈ u_ws RX0 TX0 11) => hts w (iL_X0_pulsed_X0 w hw)
  have hl := lv_entry ([.ref (ad 11 b), .int y0]) (n := 2) (Nat.le_of_ble_eq_true rfl)
  rw [lg_entry_eq]
  generalize (lg_sl ([.ref (ad 11 b), .int y0]) ++ List.replicate (2 - (lg_sl ([.ref (ad 11 b), .int y0])).length) Slot.unset).toArray = ls at hl ⊢
  have hl : lv_has ls 2 [(0, .ref (ad 11 b)), (1, .int y0)] := hl
  refine lv_iload_n hx hb dX0_pulsed_0 rfl (lv_at hl 1 rfl) ?_
  refine lv_if_eq (tgt := 19) hx hb dX0_pulsed_1 (by decide) (fun c_1 => ?_) (fun c_1 => ?_)
  · refine lv_aload_n hx hb dX0_pulsed_19 rfl (lv_at hl 0 rfl) ?_
    refine lv_iload_n hx hb dX0_pulsed_20 rfl (lv_at hl 1 rfl) ?_
    refine gw_put (ty := .int) (C := RX0) (T := TX0) (N := 11) hx hb hL0 tyX0 tyX0_ok nmX0 hown hK hP hS 11 b (cDb (by omega) (by decide) (by decide)) rfl rfl 6 (by decide) (hts (.fieldLink RX0 27 "BlockPrograms$Block" "second" "I") (by decide +kernel)) (fun _ h9 => h9) rfl (by decide +kernel) rfl rfl (Nat.le_of_ble_eq_true rfl) dX0_pulsed_21 (cEn cI cZ cB cS κ (wr σ 6 b y0) sc ad) (cU11s_6 _) (fun t9 i9 _ h9 => cU11 (by decide) _ t9 i9 h9) (fun H locs hP hS => ?_)
    refine lv_aload_n hx hb dX0_pulsed_24 rfl (lv_at hl 0 rfl) ?_
    refine gw_get (C := RX0) (T := TX0) (N := 11) hx hb hL0 hown hK hP 11 b (cDb (by omega) (by decide) (by decide)) rfl rfl 5 (by decide) (hts (.fieldLink RX0 24 "BlockPrograms$Block" "first" "I") (by decide +kernel)) (fun _ h9 => h9) (v := .int ((σ 5 b))) (by simp [wr, va_up]) dX0_pulsed_25 ?_
    refine lv_if_gt (tgt := 33) hx hb dX0_pulsed_28 (by decide) (fun c_2 => ?_) (fun c_2 => ?_)
    · refine lv_aload_n hx hb dX0_pulsed_33 rfl (lv_at hl 0 rfl) ?_
      refine lv_dup hx hb dX0_pulsed_34 rfl ?_
      refine gw_get (C := RX0) (T := TX0) (N := 11) hx hb hL0 hown hK hP 11 b (cDb (by omega) (by decide) (by decide)) rfl rfl 5 (by decide) (hts (.fieldLink RX0 24 "BlockPrograms$Block" "first" "I") (by decide +kernel)) (fun _ h9 => h9) (v := .int ((σ 5 b))) (by simp [wr, va_up]) dX0_pulsed_35 ?_
      refine lv_iconst (v := 1) hx hb dX0_pulsed_38 (by decide) ?_
      refine lv_isub hx hb dX0_pulsed_39 ?_
      refine gw_put (ty := .int) (C := RX0) (T := TX0) (N := 11) hx hb hL0 tyX0 tyX0_ok nmX0 hown hK hP hS 11 b (cDb (by omega) (by decide) (by decide)) rfl rfl 5 (by decide) (hts (.fieldLink RX0 24 "BlockPrograms$Block" "first" "I") (by decide +kernel)) (fun _ h9 => h9) rfl (by decide +kernel) rfl rfl (Nat.le_of_ble_eq_true rfl) dX0_pulsed_40 (cEn cI cZ cB cS κ (wr (wr σ 6 b y0) 5 b (((σ 5 b) - 1))) sc ad) (cU11s_5 _) (fun t9 i9 _ h9 => cU11 (by decide) _ t9 i9 h9) (fun H locs hP hS => ?_)
      refine lv_iconst (v := 1) hx hb dX0_pulsed_43 (by decide) ?_
      have eσ : wr (wr σ 6 b y0) 5 b (((σ 5 b) - 1)) = wr (wr σ 5 b (if 0 < f_pulse0 (σ 1 b) (σ 5 b) (σ 6 b) y0 then f_pulse0 (σ 1 b) (σ 5 b) (σ 6 b) y0 - 1 else f_pulse0 (σ 1 b) (σ 5 b) (σ 6 b) y0)) 6 b y0 := by simp [f_pulse0, c_1, c_2, wr_wr, wr_id, wr_65, wr_id6]
      rw [eσ] at hP
      exact W.iret (v := 1) hx hb hr (fun t ht hW => ⟨⟨1, (), rfl, (by simp [f_pulse0, c_1, c_2]), by rw [← ht] at hP; exact hP⟩, hS.F ht⟩) hS.2.2 dX0_pulsed_44
    · refine lv_iconst (v := 0) hx hb dX0_pulsed_31 (by decide) ?_
      have eσ : wr σ 6 b y0 = wr (wr σ 5 b (if 0 < f_pulse0 (σ 1 b) (σ 5 b) (σ 6 b) y0 then f_pulse0 (σ 1 b) (σ 5 b) (σ 6 b) y0 - 1 else f_pulse0 (σ 1 b) (σ 5 b) (σ 6 b) y0)) 6 b y0 := by simp [f_pulse0, c_1, c_2, wr_wr, wr_id, wr_65, wr_id6]
      rw [eσ] at hP
      exact W.iret (v := 0) hx hb hr (fun t ht hW => ⟨⟨0, (), rfl, (by simp [f_pulse0, c_1, c_2]), by rw [← ht] at hP; exact hP⟩, hS.F ht⟩) hS.2.2 dX0_pulsed_32
  · refine lv_aload_n hx hb dX0_pulsed_4 rfl (lv_at hl 0 rfl) ?_
    refine gw_get (C := RX0) (T := TX0) (N := 11) hx hb hL0 hown hK hP 11 b (cDb (by omega) (by decide) (by decide)) rfl rfl 6 (by decide) (hts (.fieldLink RX0 27 "BlockPrograms$Block" "second" "I") (by decide +kernel)) (fun _ h9 => h9) (v := .int ((σ 6 b))) rfl dX0_pulsed_5 ?_
    refine lv_if_ne (tgt := 19) hx hb dX0_pulsed_8 (by decide) (fun c_3 => ?_) (fun c_3 => ?_)
    · refine lv_aload_n hx hb dX0_pulsed_19 rfl (lv_at hl 0 rfl) ?_
      refine lv_iload_n hx hb dX0_pulsed_20 rfl (lv_at hl 1 rfl) ?_
      refine gw_put (ty := .int) (C := RX0) (T := TX0) (N := 11) hx hb hL0 tyX0 tyX0_ok nmX0 hown hK hP hS 11 b (cDb (by omega) (by decide) (by decide)) rfl rfl 6 (by decide) (hts (.fieldLink RX0 27 "BlockPrograms$Block" "second" "I") (by decide +kernel)) (fun _ h9 => h9) rfl (by decide +kernel) rfl rfl (Nat.le_of_ble_eq_true rfl) dX0_pulsed_21 (cEn cI cZ cB cS κ (wr σ 6 b y0) sc ad) (cU11s_6 _) (fun t9 i9 _ h9 => cU11 (by decide) _ t9 i9 h9) (fun H locs hP hS => ?_)
      refine lv_aload_n hx hb dX0_pulsed_24 rfl (lv_at hl 0 rfl) ?_
      refine gw_get (C := RX0) (T := TX0) (N := 11) hx hb hL0 hown hK hP 11 b (cDb (by omega) (by decide) (by decide)) rfl rfl 5 (by decide) (hts (.fieldLink RX0 24 "BlockPrograms$Block" "first" "I") (by decide +kernel)) (fun _ h9 => h9) (v := .int ((σ 5 b))) (by simp [wr, va_up]) dX0_pulsed_25 ?_
      refine lv_if_gt (tgt := 33) hx hb dX0_pulsed_28 (by decide) (fun c_4 => ?_) (fun c_4 => ?_)
      · refine lv_aload_n hx hb dX0_pulsed_33 rfl (lv_at hl 0 rfl) ?_
        refine lv_dup hx hb dX0_pulsed_34 rfl ?_
        refine gw_get (C := RX0) (T := TX0) (N := 11) hx hb hL0 hown hK hP 11 b (cDb (by omega) (by decide) (by decide)) rfl rfl 5 (by decide) (hts (.fieldLink RX0 24 "BlockPrograms$Block" "first" "I") (by decide +kernel)) (fun _ h9 => h9) (v := .int ((σ 5 b))) (by simp [wr, va_up]) dX0_pulsed_35 ?_
        refine lv_iconst (v := 1) hx hb dX0_pulsed_38 (by decide) ?_
        refine lv_isub hx hb dX0_pulsed_39 ?_
        refine gw_put (ty := .int) (C := RX0) (T := TX0) (N := 11) hx hb hL0 tyX0 tyX0_ok nmX0 hown hK hP hS 11 b (cDb (by omega) (by decide) (by decide)) rfl rfl 5 (by decide) (hts (.fieldLink RX0 24 "BlockPrograms$Block" "first" "I") (by decide +kernel)) (fun _ h9 => h9) rfl (by decide +kernel) rfl rfl (Nat.le_of_ble_eq_true rfl) dX0_pulsed_40 (cEn cI cZ cB cS κ (wr (wr σ 6 b y0) 5 b (((σ 5 b) - 1))) sc ad) (cU11s_5 _) (fun t9 i9 _ h9 => cU11 (by decide) _ t9 i9 h9) (fun H locs hP hS => ?_)
        refine lv_iconst (v := 1) hx hb dX0_pulsed_43 (by decide) ?_
        have eσ : wr (wr σ 6 b y0) 5 b (((σ 5 b) - 1)) = wr (wr σ 5 b (if 0 < f_pulse0 (σ 1 b) (σ 5 b) (σ 6 b) y0 then f_pulse0 (σ 1 b) (σ 5 b) (σ 6 b) y0 - 1 else f_pulse0 (σ 1 b) (σ 5 b) (σ 6 b) y0)) 6 b y0 := by simp [f_pulse0, c_1, c_3, c_4, wr_wr, wr_id, wr_65, wr_id6]
        rw [eσ] at hP
        exact W.iret (v := 1) hx hb hr (fun t ht hW => ⟨⟨1, (), rfl, (by simp [f_pulse0, c_1, c_3, c_4]), by rw [← ht] at hP; exact hP⟩, hS.F ht⟩) hS.2.2 dX0_pulsed_44
      · refine lv_iconst (v := 0) hx hb dX0_pulsed_31 (by decide) ?_
        have eσ : wr σ 6 b y0 = wr (wr σ 5 b (if 0 < f_pulse0 (σ 1 b) (σ 5 b) (σ 6 b) y0 then f_pulse0 (σ 1 b) (σ 5 b) (σ 6 b) y0 - 1 else f_pulse0 (σ 1 b) (σ 5 b) (σ 6 b) y0)) 6 b y0 := by simp [f_pulse0, c_1, c_3, c_4, wr_wr, wr_id, wr_65, wr_id6]
        rw [eσ] at hP
        exact W.iret (v := 0) hx hb hr (fun t ht hW => ⟨⟨0, (), rfl, (by simp [f_pulse0, c_1, c_3, c_4]), by rw [← ht] at hP; exact hP⟩, hS.F ht⟩) hS.2.2 dX0_pulsed_32
    · refine lv_aload_n hx hb dX0_pulsed_11 rfl (lv_at hl 0 rfl) ?_
      refine lv_aload_n hx hb dX0_pulsed_12 rfl (lv_at hl 0 rfl) ?_
      refine gw_get (C := RX0) (T := TX0) (N := 11) hx hb hL0 hown hK hP 11 b (cDb (by omega) (by decide) (by decide)) rfl rfl 1 (by decide) (hts (.fieldLink RX0 9 "BlockPrograms$Block" "p" "I") (by decide +kernel)) (fun _ h9 => h9) (v := .int ((σ 1 b))) rfl dX0_pulsed_13 ?_
      refine gw_put (ty := .int) (C := RX0) (T := TX0) (N := 11) hx hb hL0 tyX0 tyX0_ok nmX0 hown hK hP hS 11 b (cDb (by omega) (by decide) (by decide)) rfl rfl 5 (by decide) (hts (.fieldLink RX0 24 "BlockPrograms$Block" "first" "I") (by decide +kernel)) (fun _ h9 => h9) rfl (by decide +kernel) rfl rfl (Nat.le_of_ble_eq_true rfl) dX0_pulsed_16 (cEn cI cZ cB cS κ (wr σ 5 b ((σ 1 b))) sc ad) (cU11s_5 _) (fun t9 i9 _ h9 => cU11 (by decide) _ t9 i9 h9) (fun H locs hP hS => ?_)
      refine lv_aload_n hx hb dX0_pulsed_19 rfl (lv_at hl 0 rfl) ?_
      refine lv_iload_n hx hb dX0_pulsed_20 rfl (lv_at hl 1 rfl) ?_
      refine gw_put (ty := .int) (C := RX0) (T := TX0) (N := 11) hx hb hL0 tyX0 tyX0_ok nmX0 hown hK hP hS 11 b (cDb (by omega) (by decide) (by decide)) rfl rfl 6 (by decide) (hts (.fieldLink RX0 27 "BlockPrograms$Block" "second" "I") (by decide +kernel)) (fun _ h9 => h9) rfl (by decide +kernel) rfl rfl (Nat.le_of_ble_eq_true rfl) dX0_pulsed_21 (cEn cI cZ cB cS κ (wr (wr σ 5 b ((σ 1 b))) 6 b y0) sc ad) (cU11s_6 _) (fun t9 i9 _ h9 => cU11 (by decide) _ t9 i9 h9) (fun H locs hP hS => ?_)
      refine lv_aload_n hx hb dX0_pulsed_24 rfl (lv_at hl 0 rfl) ?_
      refine gw_get (C := RX0) (T := TX0) (N := 11) hx hb hL0 hown hK hP 11 b (cDb (by omega) (by decide) (by decide)) rfl rfl 5 (by decide) (hts (.fieldLink RX0 24 "BlockPrograms$Block" "first" "I") (by decide +kernel)) (fun _ h9 => h9) (v := .int (((σ 1 b)))) (by simp [wr, va_up]) dX0_pulsed_25 ?_
      refine lv_if_gt (tgt := 33) hx hb dX0_pulsed_28 (by decide) (fun c_5 => ?_) (fun c_5 => ?_)
      · refine lv_aload_n hx hb dX0_pulsed_33 rfl (lv_at hl 0 rfl) ?_
        refine lv_dup hx hb dX0_pulsed_34 rfl ?_
        refine gw_get (C := RX0) (T := TX0) (N := 11) hx hb hL0 hown hK hP 11 b (cDb (by omega) (by decide) (by decide)) rfl rfl 5 (by decide) (hts (.fieldLink RX0 24 "BlockPrograms$Block" "first" "I") (by decide +kernel)) (fun _ h9 => h9) (v := .int (((σ 1 b)))) (by simp [wr, va_up]) dX0_pulsed_35 ?_
        refine lv_iconst (v := 1) hx hb dX0_pulsed_38 (by decide) ?_
        refine lv_isub hx hb dX0_pulsed_39 ?_
        refine gw_put (ty := .int) (C := RX0) (T := TX0) (N := 11) hx hb hL0 tyX0 tyX0_ok nmX0 hown hK hP hS 11 b (cDb (by omega) (by decide) (by decide)) rfl rfl 5 (by decide) (hts (.fieldLink RX0 24 "BlockPrograms$Block" "first" "I") (by decide +kernel)) (fun _ h9 => h9) rfl (by decide +kernel) rfl rfl (Nat.le_of_ble_eq_true rfl) dX0_pulsed_40 (cEn cI cZ cB cS κ (wr (wr (wr σ 5 b ((σ 1 b))) 6 b y0) 5 b ((((σ 1 b)) - 1))) sc ad) (cU11s_5 _) (fun t9 i9 _ h9 => cU11 (by decide) _ t9 i9 h9) (fun H locs hP hS => ?_)
        refine lv_iconst (v := 1) hx hb dX0_pulsed_43 (by decide) ?_
        have eσ : wr (wr (wr σ 5 b ((σ 1 b))) 6 b y0) 5 b ((((σ 1 b)) - 1)) = wr (wr σ 5 b (if 0 < f_pulse0 (σ 1 b) (σ 5 b) (σ 6 b) y0 then f_pulse0 (σ 1 b) (σ 5 b) (σ 6 b) y0 - 1 else f_pulse0 (σ 1 b) (σ 5 b) (σ 6 b) y0)) 6 b y0 := by simp [f_pulse0, c_1, c_3, c_5, wr_wr, wr_id, wr_65, wr_id6]
        rw [eσ] at hP
        exact W.iret (v := 1) hx hb hr (fun t ht hW => ⟨⟨1, (), rfl, (by simp [f_pulse0, c_1, c_3, c_5]), by rw [← ht] at hP; exact hP⟩, hS.F ht⟩) hS.2.2 dX0_pulsed_44
      · refine lv_iconst (v := 0) hx hb dX0_pulsed_31 (by decide) ?_
        have eσ : wr (wr σ 5 b ((σ 1 b))) 6 b y0 = wr (wr σ 5 b (if 0 < f_pulse0 (σ 1 b) (σ 5 b) (σ 6 b) y0 then f_pulse0 (σ 1 b) (σ 5 b) (σ 6 b) y0 - 1 else f_pulse0 (σ 1 b) (σ 5 b) (σ 6 b) y0)) 6 b y0 := by simp [f_pulse0, c_1, c_3, c_5, wr_wr, wr_id, wr_65, wr_id6]
        rw [eσ] at hP
        exact W.iret (v := 0) hx hb hr (fun t ht hW => ⟨⟨0, (), rfl, (by simp [f_pulse0, c_1, c_3, c_5]), by rw [← ht] at hP; exact hP⟩, hS.F ht⟩) hS.2.2 dX0_pulsed_32
end
section
theorem zz_last : (1 : Nat) = 1 := rfl
end
