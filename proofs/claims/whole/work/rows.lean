section
-- ===== PART A: goes FIRST, ahead of the names: the tables' words, and 'selects' of the private methods out of them =====
/-- a private method of a class that the tables say can be made, by its rows of tables_1 -/
def lw_okq (q : MethodName × Nat) : Prop := (q.1.cls ≠ "java/lang/invoke/MethodHandle" ∧ q.1.cls ≠ "java/lang/invoke/VarHandle") ∧ Cond.instantiable q.1.cls q.2 ∈ tables_1 ∧ Cond.privateMethod q.1 ∈ tables_1 ∧ Cond.instanceMethod q.1 ∈ tables_1
theorem lw_p0 : lw_okq (⟨"LogDisk", "existingLog", "(I)LLogDisk$Log;"⟩, 7) := ⟨⟨by decide +kernel, by decide +kernel⟩, List.mem_of_getElem? (i := 12) (by decide +kernel), List.mem_of_getElem? (i := 115) (by decide +kernel), List.mem_of_getElem? (i := 116) (by decide +kernel)⟩
theorem lw_p1 : lw_okq (⟨"java/lang/Throwable", "fillInStackTrace", "(I)Ljava/lang/Throwable;"⟩, 6) := ⟨⟨by decide +kernel, by decide +kernel⟩, List.mem_of_getElem? (i := 156) (by decide +kernel), List.mem_of_getElem? (i := 154) (by decide +kernel), List.mem_of_getElem? (i := 155) (by decide +kernel)⟩
theorem lw_p2 : lw_okq (⟨"LogDisk", "requirePower", "()V"⟩, 7) := ⟨⟨by decide +kernel, by decide +kernel⟩, List.mem_of_getElem? (i := 12) (by decide +kernel), List.mem_of_getElem? (i := 190) (by decide +kernel), List.mem_of_getElem? (i := 191) (by decide +kernel)⟩
theorem lw_p3 : lw_okq (⟨"LogDisk", "segmentBytes", "()I"⟩, 7) := ⟨⟨by decide +kernel, by decide +kernel⟩, List.mem_of_getElem? (i := 12) (by decide +kernel), List.mem_of_getElem? (i := 210) (by decide +kernel), List.mem_of_getElem? (i := 211) (by decide +kernel)⟩
theorem lw_p4 : lw_okq (⟨"LogDisk", "startOfNewSegment", "(LLogDisk$Log;)I"⟩, 7) := ⟨⟨by decide +kernel, by decide +kernel⟩, List.mem_of_getElem? (i := 12) (by decide +kernel), List.mem_of_getElem? (i := 229) (by decide +kernel), List.mem_of_getElem? (i := 230) (by decide +kernel)⟩
theorem lw_p5 : lw_okq (⟨"LogDisk", "markBlockUse", "()V"⟩, 7) := ⟨⟨by decide +kernel, by decide +kernel⟩, List.mem_of_getElem? (i := 12) (by decide +kernel), List.mem_of_getElem? (i := 237) (by decide +kernel), List.mem_of_getElem? (i := 238) (by decide +kernel)⟩
theorem lw_p6 : lw_okq (⟨"LogDisk", "markSegmentsOf", "(LLogDisk$Log;)V"⟩, 7) := ⟨⟨by decide +kernel, by decide +kernel⟩, List.mem_of_getElem? (i := 12) (by decide +kernel), List.mem_of_getElem? (i := 247) (by decide +kernel), List.mem_of_getElem? (i := 248) (by decide +kernel)⟩
theorem lw_p7 : lw_okq (⟨"LogDisk", "markSegment", "(I)V"⟩, 7) := ⟨⟨by decide +kernel, by decide +kernel⟩, List.mem_of_getElem? (i := 12) (by decide +kernel), List.mem_of_getElem? (i := 252) (by decide +kernel), List.mem_of_getElem? (i := 253) (by decide +kernel)⟩
theorem lw_p8 : lw_okq (⟨"LogDisk", "firstFreeRun", "()I"⟩, 7) := ⟨⟨by decide +kernel, by decide +kernel⟩, List.mem_of_getElem? (i := 12) (by decide +kernel), List.mem_of_getElem? (i := 256) (by decide +kernel), List.mem_of_getElem? (i := 257) (by decide +kernel)⟩
theorem lw_p9 : lw_okq (⟨"LogDisk", "writeThroughHead", "(I)Z"⟩, 7) := ⟨⟨by decide +kernel, by decide +kernel⟩, List.mem_of_getElem? (i := 12) (by decide +kernel), List.mem_of_getElem? (i := 268) (by decide +kernel), List.mem_of_getElem? (i := 269) (by decide +kernel)⟩
theorem lw_p10 : lw_okq (⟨"LogDisk", "putDraftInPlaceOf", "(I)V"⟩, 7) := ⟨⟨by decide +kernel, by decide +kernel⟩, List.mem_of_getElem? (i := 12) (by decide +kernel), List.mem_of_getElem? (i := 309) (by decide +kernel), List.mem_of_getElem? (i := 310) (by decide +kernel)⟩
theorem lw_p11 : lw_okq (⟨"LogDisk", "packThinned", "(LLogDisk$Log;II)Z"⟩, 7) := ⟨⟨by decide +kernel, by decide +kernel⟩, List.mem_of_getElem? (i := 12) (by decide +kernel), List.mem_of_getElem? (i := 324) (by decide +kernel), List.mem_of_getElem? (i := 325) (by decide +kernel)⟩
theorem lw_p12 : lw_okq (⟨"LogDisk", "packEntry", "(LLogDisk$Log;I)Z"⟩, 7) := ⟨⟨by decide +kernel, by decide +kernel⟩, List.mem_of_getElem? (i := 12) (by decide +kernel), List.mem_of_getElem? (i := 331) (by decide +kernel), List.mem_of_getElem? (i := 332) (by decide +kernel)⟩
theorem lw_p13 : lw_okq (⟨"LogDiskModel", "goes", "(Z)Z"⟩, 20) := ⟨⟨by decide +kernel, by decide +kernel⟩, List.mem_of_getElem? (i := 380) (by decide +kernel), List.mem_of_getElem? (i := 459) (by decide +kernel), List.mem_of_getElem? (i := 460) (by decide +kernel)⟩
theorem lw_p14 : lw_okq (⟨"LogDiskModel", "mark", "()V"⟩, 20) := ⟨⟨by decide +kernel, by decide +kernel⟩, List.mem_of_getElem? (i := 380) (by decide +kernel), List.mem_of_getElem? (i := 463) (by decide +kernel), List.mem_of_getElem? (i := 464) (by decide +kernel)⟩
theorem lw_p15 : lw_okq (⟨"LogDiskModel", "hold", "(I)V"⟩, 20) := ⟨⟨by decide +kernel, by decide +kernel⟩, List.mem_of_getElem? (i := 380) (by decide +kernel), List.mem_of_getElem? (i := 467) (by decide +kernel), List.mem_of_getElem? (i := 468) (by decide +kernel)⟩
def lw_privs_1 : List (MethodName × Nat) := [(⟨"LogDisk", "existingLog", "(I)LLogDisk$Log;"⟩, 7), (⟨"java/lang/Throwable", "fillInStackTrace", "(I)Ljava/lang/Throwable;"⟩, 6), (⟨"LogDisk", "requirePower", "()V"⟩, 7), (⟨"LogDisk", "segmentBytes", "()I"⟩, 7), (⟨"LogDisk", "startOfNewSegment", "(LLogDisk$Log;)I"⟩, 7), (⟨"LogDisk", "markBlockUse", "()V"⟩, 7), (⟨"LogDisk", "markSegmentsOf", "(LLogDisk$Log;)V"⟩, 7), (⟨"LogDisk", "markSegment", "(I)V"⟩, 7), (⟨"LogDisk", "firstFreeRun", "()I"⟩, 7), (⟨"LogDisk", "writeThroughHead", "(I)Z"⟩, 7), (⟨"LogDisk", "putDraftInPlaceOf", "(I)V"⟩, 7), (⟨"LogDisk", "packThinned", "(LLogDisk$Log;II)Z"⟩, 7), (⟨"LogDisk", "packEntry", "(LLogDisk$Log;I)Z"⟩, 7), (⟨"LogDiskModel", "goes", "(Z)Z"⟩, 20), (⟨"LogDiskModel", "mark", "()V"⟩, 20), (⟨"LogDiskModel", "hold", "(I)V"⟩, 20)]
theorem lw_r1 : ∀ q ∈ lw_privs_1, lw_okq q := List.forall_mem_cons.mpr ⟨lw_p0, List.forall_mem_cons.mpr ⟨lw_p1, List.forall_mem_cons.mpr ⟨lw_p2, List.forall_mem_cons.mpr ⟨lw_p3, List.forall_mem_cons.mpr ⟨lw_p4, List.forall_mem_cons.mpr ⟨lw_p5, List.forall_mem_cons.mpr ⟨lw_p6, List.forall_mem_cons.mpr ⟨lw_p7, List.forall_mem_cons.mpr ⟨lw_p8, List.forall_mem_cons.mpr ⟨lw_p9, List.forall_mem_cons.mpr ⟨lw_p10, List.forall_mem_cons.mpr ⟨lw_p11, List.forall_mem_cons.mpr ⟨lw_p12, List.forall_mem_cons.mpr ⟨lw_p13, List.forall_mem_cons.mpr ⟨lw_p14, List.forall_mem_cons.mpr ⟨lw_p15, fun _ h => absurd h List.not_mem_nil⟩⟩⟩⟩⟩⟩⟩⟩⟩⟩⟩⟩⟩⟩⟩⟩
theorem lw_p16 : lw_okq (⟨"LogDiskModel", "place", "()I"⟩, 20) := ⟨⟨by decide +kernel, by decide +kernel⟩, List.mem_of_getElem? (i := 380) (by decide +kernel), List.mem_of_getElem? (i := 471) (by decide +kernel), List.mem_of_getElem? (i := 472) (by decide +kernel)⟩
theorem lw_p17 : lw_okq (⟨"LogDiskModel", "spend", "(I)Z"⟩, 20) := ⟨⟨by decide +kernel, by decide +kernel⟩, List.mem_of_getElem? (i := 380) (by decide +kernel), List.mem_of_getElem? (i := 478) (by decide +kernel), List.mem_of_getElem? (i := 479) (by decide +kernel)⟩
theorem lw_p18 : lw_okq (⟨"LogDiskModel", "add", "(IIIII)V"⟩, 20) := ⟨⟨by decide +kernel, by decide +kernel⟩, List.mem_of_getElem? (i := 380) (by decide +kernel), List.mem_of_getElem? (i := 482) (by decide +kernel), List.mem_of_getElem? (i := 483) (by decide +kernel)⟩
theorem lw_p19 : lw_okq (⟨"LogDiskModel", "sum", "(I)I"⟩, 20) := ⟨⟨by decide +kernel, by decide +kernel⟩, List.mem_of_getElem? (i := 380) (by decide +kernel), List.mem_of_getElem? (i := 493) (by decide +kernel), List.mem_of_getElem? (i := 494) (by decide +kernel)⟩
theorem lw_p20 : lw_okq (⟨"LogDiskModel", "inSegment", "(II)I"⟩, 20) := ⟨⟨by decide +kernel, by decide +kernel⟩, List.mem_of_getElem? (i := 380) (by decide +kernel), List.mem_of_getElem? (i := 497) (by decide +kernel), List.mem_of_getElem? (i := 498) (by decide +kernel)⟩
theorem lw_p21 : lw_okq (⟨"LogDiskModel", "copy", "(II)V"⟩, 20) := ⟨⟨by decide +kernel, by decide +kernel⟩, List.mem_of_getElem? (i := 380) (by decide +kernel), List.mem_of_getElem? (i := 501) (by decide +kernel), List.mem_of_getElem? (i := 502) (by decide +kernel)⟩
theorem lw_p22 : lw_okq (⟨"LogDiskModel", "closed", "(I)I"⟩, 20) := ⟨⟨by decide +kernel, by decide +kernel⟩, List.mem_of_getElem? (i := 380) (by decide +kernel), List.mem_of_getElem? (i := 509) (by decide +kernel), List.mem_of_getElem? (i := 510) (by decide +kernel)⟩
theorem lw_p23 : lw_okq (⟨"LogDiskModel", "count", "(I)I"⟩, 20) := ⟨⟨by decide +kernel, by decide +kernel⟩, List.mem_of_getElem? (i := 380) (by decide +kernel), List.mem_of_getElem? (i := 513) (by decide +kernel), List.mem_of_getElem? (i := 514) (by decide +kernel)⟩
theorem lw_p24 : lw_okq (⟨"LogDiskModel", "plan", "(II)Z"⟩, 20) := ⟨⟨by decide +kernel, by decide +kernel⟩, List.mem_of_getElem? (i := 380) (by decide +kernel), List.mem_of_getElem? (i := 517) (by decide +kernel), List.mem_of_getElem? (i := 518) (by decide +kernel)⟩
theorem lw_p25 : lw_okq (⟨"LogDiskModel", "entryOf", "(II)I"⟩, 20) := ⟨⟨by decide +kernel, by decide +kernel⟩, List.mem_of_getElem? (i := 380) (by decide +kernel), List.mem_of_getElem? (i := 521) (by decide +kernel), List.mem_of_getElem? (i := 522) (by decide +kernel)⟩
theorem lw_p26 : lw_okq (⟨"LogDiskModel", "happen", "(II)V"⟩, 20) := ⟨⟨by decide +kernel, by decide +kernel⟩, List.mem_of_getElem? (i := 380) (by decide +kernel), List.mem_of_getElem? (i := 525) (by decide +kernel), List.mem_of_getElem? (i := 526) (by decide +kernel)⟩
theorem lw_p27 : lw_okq (⟨"LogDiskModel", "isEntry", "(II)Z"⟩, 20) := ⟨⟨by decide +kernel, by decide +kernel⟩, List.mem_of_getElem? (i := 380) (by decide +kernel), List.mem_of_getElem? (i := 537) (by decide +kernel), List.mem_of_getElem? (i := 538) (by decide +kernel)⟩
def lw_privs_2 : List (MethodName × Nat) := [(⟨"LogDiskModel", "place", "()I"⟩, 20), (⟨"LogDiskModel", "spend", "(I)Z"⟩, 20), (⟨"LogDiskModel", "add", "(IIIII)V"⟩, 20), (⟨"LogDiskModel", "sum", "(I)I"⟩, 20), (⟨"LogDiskModel", "inSegment", "(II)I"⟩, 20), (⟨"LogDiskModel", "copy", "(II)V"⟩, 20), (⟨"LogDiskModel", "closed", "(I)I"⟩, 20), (⟨"LogDiskModel", "count", "(I)I"⟩, 20), (⟨"LogDiskModel", "plan", "(II)Z"⟩, 20), (⟨"LogDiskModel", "entryOf", "(II)I"⟩, 20), (⟨"LogDiskModel", "happen", "(II)V"⟩, 20), (⟨"LogDiskModel", "isEntry", "(II)Z"⟩, 20)]
theorem lw_r2 : ∀ q ∈ lw_privs_2, lw_okq q := List.forall_mem_cons.mpr ⟨lw_p16, List.forall_mem_cons.mpr ⟨lw_p17, List.forall_mem_cons.mpr ⟨lw_p18, List.forall_mem_cons.mpr ⟨lw_p19, List.forall_mem_cons.mpr ⟨lw_p20, List.forall_mem_cons.mpr ⟨lw_p21, List.forall_mem_cons.mpr ⟨lw_p22, List.forall_mem_cons.mpr ⟨lw_p23, List.forall_mem_cons.mpr ⟨lw_p24, List.forall_mem_cons.mpr ⟨lw_p25, List.forall_mem_cons.mpr ⟨lw_p26, List.forall_mem_cons.mpr ⟨lw_p27, fun _ h => absurd h List.not_mem_nil⟩⟩⟩⟩⟩⟩⟩⟩⟩⟩⟩⟩
def lw_privs : List (MethodName × Nat) := lw_privs_1 ++ (lw_privs_2)
def lw_tbl : List Cond := k2_sels lw_privs ++ tables_1
theorem lw_privs_ok : ∀ q ∈ lw_privs, lw_okq q := by
  show ∀ q ∈ lw_privs_1 ++ (lw_privs_2), lw_okq q
  exact List.forall_mem_append.mpr ⟨lw_r1, lw_r2⟩
/-! ===== BEGIN words of one list among another's, by their places ===== -/
theorem goodIn_r {big : List Cond} (ws : List Cond) (ps : List Nat) (hp : ws = ps.filterMap (fun i => big[i]?)) (h : ws.all goodWord = true) : GoodIn big ws := by
  intro w hw
  have h1 := List.all_eq_true.mp h w hw
  rw [hp] at hw
  obtain ⟨i, -, hi⟩ := List.mem_filterMap.mp hw
  have hm : w ∈ big := by first | exact List.mem_of_getElem? hi | exact List.getElem?_mem hi
  exact ⟨hm, good_of_word h1⟩
theorem goodIn_app {big a b : List Cond} (ha : GoodIn big a) (hb : GoodIn big b) : GoodIn big (a ++ b) := fun w h => (List.mem_append.mp h).elim (ha w) (hb w)
theorem goodIn_ca {big a b : List Cond} {c : Cond} (ha : GoodIn big (c :: a)) (hb : GoodIn big b) : GoodIn big (c :: (a ++ b)) := fun w h => (List.mem_cons.mp h).elim (fun e => ha w (List.mem_cons.mpr (Or.inl e))) (fun h => (List.mem_append.mp h).elim (fun h => ha w (List.mem_cons.mpr (Or.inr h))) (hb w))
theorem goodIn_sub {big ws : List Cond} (hm : ∀ w ∈ ws, w ∈ big) (h : ws.all goodWord = true) : GoodIn big ws := fun w hw => ⟨hm w hw, good_of_word (List.all_eq_true.mp h w hw)⟩
/-! ===== END ===== -/

/-! ===== BEGIN exceptions that leave a method, and their catching by the caller (launches without stack traces) ===== -/
section VXA
/-! The laws vx_back, vx_callV, vx_callS, vx_callSW, vx_throw0, vx_throwS follow proofs of the library, with one case more: JvmDerived/Free/Laws.lean (Back.of_free), Shelf42/LK1.lean (callV, callS), Shelf/KitTraced.lean (throwNew0V, throwNewS). -/
/-- where a method has thrown q: the class by its name, the cell, what was written, the world -/
def vx_T (XC : String → State → State → Prop) (st : State) (q : Addr) (t : State) (mc ms : Nat) (free : Addr → Prop) : Prop :=
  ∃ (E : String) (ce : Cell) (L : List Loc), XC E st t ∧ t.heap[q]? = some ce ∧ ce.vm = .none ∧ st.vm.findClass E = some ce.cls ∧ st.WarmedH t.vm ∧ st.sameButNew ({ t with vm := st.vm } : State) L mc ms ∧ ∀ z ∈ L, free z.base
def vx_Q (Qc : Array Value → State → Outcome → State → Prop) (XC : String → State → State → Prop) (mc ms : Nat) (free : Addr → Prop) : Array Value → State → Outcome → State → Prop := fun a st o t =>
  (Qc a st o t ∧ ∃ L, FrameEnd st o t L mc ms ∧ ∀ q ∈ L, free q.base) ∨ ∃ q, o = .threw q ∧ vx_T XC st q t mc ms free
/-- a callee that returns or throws -/
def vx_Met (l : Launch) (y : MethodName) (ws : List Cond) (rm : Room) (Pc : Array Value → State → Prop) (Qc : Array Value → State → Outcome → State → Prop) (XC : String → State → State → Prop) (mc ms : Nat) (free : Addr → Prop) : Prop :=
  MetFree l y (headSpec ws rm) Pc (fun _ _ _ _ _ => True) (vx_Q Qc XC mc ms free)
def vx_Post (XC : String → State → State → Prop) (mc ms : Nat) (free : Addr → Prop) : Pt → Array Value → Addr → Pt → Prop := fun A a q B =>
  ∃ (g : JFrame) (mk : MethodId) (t : State) (L : List Loc) (E : String) (ce : Cell), B.U.heap = t.heap ∧ B.U.vm = t.vm ∧ XC E (A.U.calling g mk a) t ∧ t.heap[q]? = some ce ∧ ce.vm = .none ∧ A.U.vm.findClass E = some ce.cls ∧ B.locs = A.locs ++ L ∧ (∀ z ∈ L, free z.base) ∧ B.cells = A.cells + mc ∧ B.slots = A.slots + ms
def vx_Back (l : Launch) (R : Room) (p : Program) (e : Env) (below : List Frame) (s : State) (sargs : Array Value) (y : MethodName) (len W9 : Nat)
    (Pre : Pt → Array Value → Prop) (Post : Pt → Array Value → Option Value → Pt → Prop) (PostX : Pt → Array Value → Addr → Pt → Prop) : Prop :=
  ∀ (m : MethodId) (meth : Method) (c : Code) (A : Pt) (g : JFrame) (ig : Instr) (mk : MethodId) (a : Array Value),
    Stand p l e R s m sargs below meth c A.U A.locs A.cells A.slots → g.method = m → g.locals.size = c.maxLocals → decode c.code g.pc = .ok (ig, len) →
    2 * g.monitorRoom + (g.stack.map fun v => v.category).sum ≤ W9 → A.U.methodNamed? y = some mk → Pre A a →
    (∃ (v : Option Value) (B : Pt), Stand p l e R s m sargs below meth c B.U B.locs B.cells B.slots ∧ Post A a v B ∧
      Steps p.tables e below (doInvoke e (A.U.setTop g) [] mk a).1 (B.U.setTop { g with pc := g.pc + len, stack := v.toList ++ g.stack })) ∨
    (∃ (q : Addr) (B : Pt), Stand p l e R s m sargs below meth c B.U B.locs B.cells B.slots ∧ PostX A a q B ∧
      Steps p.tables e below (doInvoke e (A.U.setTop g) [] mk a).1 ((B.U.setTop g).pushFrame (.throwing q)))
section Payer
variable {l : Launch} {R : Room} {p : Program} {e : Env} {below : List Frame} {s : State} {sargs : Array Value} {y : MethodName} {len W9 : Nat}
theorem vx_back {ws : List Cond} {rm : Room} {Pc : Array Value → State → Prop} {Qc : Array Value → State → Outcome → State → Prop} {XC : String → State → State → Prop} {mc ms : Nat} {free : Addr → Prop} {bytes : ByteArray} {maxL : Nat} {ret : Option FieldType}
    (hM : vx_Met l y ws rm Pc Qc XC mc ms free) (hblind : FrameBlind Pc) (hrc : rm.cells = mc) (hrs : rm.slots = ms)
    (hframes : rm.frames + 1 ≤ R.frames) (hlocals : W9 + (maxL + 11) + rm.locals ≤ R.locals)
    (hws : ∀ w ∈ ws, ∀ a' U, s.WarmedH U.vm → w.before a' U = true) (hcode : Cond.code y bytes maxL ret ∈ ws) (hinit : ∀ a' U, s.WarmedH U.vm → (Cond.initialized y.cls).before a' U = true) :
    vx_Back l R p e below s sargs y len W9 (PreOf R mc ms Pc) (PostOf Qc mc ms free) (vx_Post XC mc ms free) := by
  intro m meth c A g ig mk a X hg hsize hdg hW hn hp
  have h1 : (headSpec ws rm).pre.before a A.U = true := atoms_intro fun w hw => hws w hw _ _ X.warmed
  have h2 : (Cond.code y bytes maxL ret).before a A.U = true := hws _ hcode _ _ X.warmed
  have h3 : (Cond.initialized y.cls).before a A.U = true := hinit _ _ X.warmed
  have h4 : A.cells + (headSpec ws rm).room.cells ≤ R.cells := by rw [show (headSpec ws rm).room.cells = mc from hrc]; exact hp.1
  have h5 : A.slots + (headSpec ws rm).room.slots ≤ R.slots := by rw [show (headSpec ws rm).room.slots = ms from hrs]; exact hp.2.1
  have hPc : Pc a (A.U.calling g mk a) := hblind _ _ _ _ hp.2.2
  obtain ⟨U, Ls, c0, s0⟩ := A
  dsimp only [Pt.U, Pt.locs, Pt.cells, Pt.slots] at h1 h2 h3 h4 h5 X hn hPc ⊢
  obtain ⟨methY, cY, hmY, hcY, -, hlY, -, -, -, -⟩ := Cond.code_spec hn h2
  obtain ⟨kY, hkY, -⟩ := className_of_methodNamed hn
  have hinitY : kY.init = .initialized := Cond.initialized_spec (findClass_of_methodNamed hn) hkY h3
  have h : At U g.method c below := by rw [hg]; exact X.here
  have hlocals9 : W9 + (maxL + 11) + (headSpec ws rm).room.locals ≤ R.locals := hlocals
  have happ : (headSpec ws rm).appliesLoose y e.platform (U.calling g mk a) = true :=
    Spec.appliesLoose_calling (g := g) h hdg hn hkY hinitY
      (X.room_calling (g := g) (R' := (headSpec ws rm).room) hsize hmY hcY hframes (by rw [hlY]; omega) h4 h5) h1
  obtain ⟨mid, hmid⟩ := h.above
  have hfr : (U.setTop g).frames = (.java g :: mid) ++ below := by rw [State.frames_setTop' g h.top, hmid]; rfl
  obtain ⟨o, s₂, hsteps, -, hend, hq⟩ := Steps.callFree hM p X.admits X.cas X.clock (acts := []) hfr happ hPc trivial
  have hq' : vx_Q Qc XC mc ms free a (U.calling g mk a) o s₂ := hq
  rw [State.frames_setTop' g h.top] at hend
  obtain ⟨g₀, hg0⟩ := Option.isSome_iff_exists.mp h.top
  obtain ⟨r, hr⟩ := State.topJava?_eq_some.mp hg0
  have hr' : (({ U with heap := s₂.heap, slotsUsed := s₂.slotsUsed } : State).setVm s₂.vm).frames = .java g₀ :: r := hr
  rcases hq' with ⟨hqc, L, hfe, hL⟩ | ⟨q, rfl, E, ce, L, hx, hce, hcv, hcl, hW₂, hsm, hL⟩
  · obtain ⟨⟨v, rfl⟩, hW₂, e2, q2, q3, q4, q5, q6⟩ := id hfe
    have e3 : s₂ = ({ (U.calling g mk a).setFrames s₂.frames with heap := s₂.heap, slotsUsed := s₂.slotsUsed } : State).setVm s₂.vm := by
      have : s₂ = ({ s₂ with vm := (U.calling g mk a).vm } : State).setVm s₂.vm := rfl
      rw [e2] at this
      exact this
    obtain ⟨c₂, i₂, len₂, hc₂, hd₂, hf₂⟩ := hend
    have hW' : U.WarmedH s₂.vm := hW₂
    have hcc : c₂ = c := by
      have h1 : s₂.code? g.method = U.code? g.method := by
        rw [State.code?_eq, State.code?_eq, hW'.alike.method?]
      exact Option.some.inj (hc₂.symm.trans (h1.trans h.code))
    subst hcc
    have hlen : len₂ = len := by rw [hdg] at hd₂; cases hd₂; rfl
    subst hlen
    have hs₂ : s₂ = (({ U with heap := s₂.heap, slotsUsed := s₂.slotsUsed } : State).setVm s₂.vm).setTop { g with pc := g.pc + len₂, stack := v.toList ++ g.stack } := by
      refine e3.trans ?_
      rw [hf₂, State.calling_eq h.top, State.setFrames_setFrames, State.setTop_of_frames _ hr', hr]
      rfl
    have hsame : U.sameButNew ({ U with heap := s₂.heap, slotsUsed := s₂.slotsUsed } : State) L mc ms := by
      refine ⟨?_, q2, q3, q4, q5, q6⟩
      obtain ⟨t, ht, -⟩ := State.frames_cons hr
      show ({ U with heap := s₂.heap, slotsUsed := s₂.slotsUsed } : State) = { U.setFrames U.frames with heap := s₂.heap, slotsUsed := s₂.slotsUsed }
      rw [State.setFrames_self ht]
    subst hg
    refine Or.inl ⟨v, ⟨(({ U with heap := s₂.heap, slotsUsed := s₂.slotsUsed } : State).setVm s₂.vm), Ls ++ L, c0 + mc, s0 + ms⟩,
      ⟨X.admits, X.cas, X.clock, X.frames, X.room, X.hears, X.method, X.code, (X.here.setHeapUsed s₂.heap s₂.slotsUsed).setVm hW'.alike, X.tail, State.WarmedH.trans X.warmed hW', X.limits, X.bytes, X.same.trans (hsame.setVm s.vm)⟩,
      ⟨g, mk, s₂, L, rfl, rfl, hqc, rfl, hL, rfl, rfl⟩, ?_⟩
    show Steps p.tables e below _ ((({ U with heap := s₂.heap, slotsUsed := s₂.slotsUsed } : State).setVm s₂.vm).setTop { g with pc := g.pc + len₂, stack := v.toList ++ g.stack })
    rw [← hs₂]
    exact hsteps
  · obtain ⟨e2, q2, q3, q4, q5, q6⟩ := id hsm
    have e3 : s₂ = ({ (U.calling g mk a).setFrames s₂.frames with heap := s₂.heap, slotsUsed := s₂.slotsUsed } : State).setVm s₂.vm := by
      have : s₂ = ({ s₂ with vm := (U.calling g mk a).vm } : State).setVm s₂.vm := rfl
      rw [e2] at this
      exact this
    have hf₂ : s₂.frames = .throwing q :: .java g :: U.frames.tail := hend
    have hW' : U.WarmedH s₂.vm := hW₂
    have hs₂ : s₂ = ((({ U with heap := s₂.heap, slotsUsed := s₂.slotsUsed } : State).setVm s₂.vm).setTop g).pushFrame (.throwing q) := by
      refine e3.trans ?_
      rw [hf₂, State.calling_eq h.top, State.setFrames_setFrames, State.pushFrame, State.frames_setTop _ hr', State.setTop_of_frames _ hr', State.setFrames_setFrames, hr]
      rfl
    have hsame : U.sameButNew ({ U with heap := s₂.heap, slotsUsed := s₂.slotsUsed } : State) L mc ms := by
      refine ⟨?_, q2, q3, q4, q5, q6⟩
      obtain ⟨t, ht, -⟩ := State.frames_cons hr
      show ({ U with heap := s₂.heap, slotsUsed := s₂.slotsUsed } : State) = { U.setFrames U.frames with heap := s₂.heap, slotsUsed := s₂.slotsUsed }
      rw [State.setFrames_self ht]
    subst hg
    refine Or.inr ⟨q, ⟨(({ U with heap := s₂.heap, slotsUsed := s₂.slotsUsed } : State).setVm s₂.vm), Ls ++ L, c0 + mc, s0 + ms⟩,
      ⟨X.admits, X.cas, X.clock, X.frames, X.room, X.hears, X.method, X.code, (X.here.setHeapUsed s₂.heap s₂.slotsUsed).setVm hW'.alike, X.tail, State.WarmedH.trans X.warmed hW', X.limits, X.bytes, X.same.trans (hsame.setVm s.vm)⟩,
      ⟨g, mk, s₂, L, E, ce, rfl, rfl, hx, hce, hcv, hcl, rfl, hL, rfl, rfl⟩, ?_⟩
    show Steps p.tables e below _ (((({ U with heap := s₂.heap, slotsUsed := s₂.slotsUsed } : State).setVm s₂.vm).setTop g).pushFrame (.throwing q))
    rw [← hs₂]
    exact hsteps
end Payer
section Calls
variable {p : Program} {l : Launch} {e : Env} {R : Room} {s : State} {m : MethodId} {args : Array Value} {below : List Frame} {meth : Method} {c : Code} {T : State} {locs : List Loc} {cells slots : Nat}
theorem vx_callV (X : Stand p l e R s m args below meth c T locs cells slots) (hexec : p.tables.exec = Jvm.exec) {own C : String} {index : Nat} {y : MethodName} {bytes : ByteArray} {maxL : Nat} {ret : Option FieldType}
    (hown : s.vm.findClass own = some m.cls) (hlink : (Cond.methodLink own index y).before args s = true) (hinst : (Cond.instanceMethod y).before args s = true) (hsel : (Cond.selects C y y).before args s = true)
    (hcode : (Cond.code y bytes maxL ret).before args s = true) (hy : y.cls ≠ "java/lang/invoke/MethodHandle" ∧ y.cls ≠ "java/lang/invoke/VarHandle")
    {W9 : Nat} {Pre : Pt → Array Value → Prop} {Post : Pt → Array Value → Option Value → Pt → Prop} {PostX : Pt → Array Value → Addr → Pt → Prop} (hK : vx_Back l R p e below s args y 3 W9 Pre Post PostX)
    {b : Addr} {cellB : Cell} (hcell : T.heap[b]? = some cellB) (hobj : cellB.vm.isStatics = false) (hcls : s.vm.findClass C = some cellB.cls)
    {g : JFrame} (hg : g.method = m) (hsize : g.locals.size = c.maxLocals) {argsL rest : List Value} (hlen : ∀ sig, parseMethodDescriptor y.desc = some sig → argsL.length = sig.parameters.length)
    (hstack : g.stack = argsL.reverse ++ .ref b :: rest) (hW : 2 * g.monitorRoom + (rest.map fun v => v.category).sum ≤ W9) (hdg : decode c.code g.pc = .ok (.invokevirtual index, 3))
    (hpre : ∀ vm₁, s.WarmedH vm₁ → Pre ⟨T.setVm vm₁, locs, cells, slots⟩ (Value.ref b :: argsL).toArray) :
    (∃ (v : Option Value) (vm₁ : Vm) (B : Pt), s.WarmedH vm₁ ∧ Stand p l e R s m args below meth c B.U B.locs B.cells B.slots ∧ Post ⟨T.setVm vm₁, locs, cells, slots⟩ (Value.ref b :: argsL).toArray v B ∧
      ∀ target, Steps p.tables e below (B.U.setTop { g with pc := g.pc + 3, stack := v.toList ++ rest }) target → Steps p.tables e below (T.setTop g) target) ∨
    (∃ (q : Addr) (vm₁ : Vm) (B : Pt), s.WarmedH vm₁ ∧ Stand p l e R s m args below meth c B.U B.locs B.cells B.slots ∧ PostX ⟨T.setVm vm₁, locs, cells, slots⟩ (Value.ref b :: argsL).toArray q B ∧
      Steps p.tables e below (T.setTop g) ((B.U.setTop { g with stack := rest }).pushFrame (.throwing q))) := by
  obtain ⟨mk, methM, hnamed, hmethM, hstM, habM⟩ := Cond.instanceMethod_spec hinst
  obtain ⟨methM', cM, hmethM', -, -, -, -, -, -, hsigM⟩ := Cond.code_spec hnamed hcode
  cases hmethM.symm.trans hmethM'
  obtain ⟨c2, r2, m2, q1, q2, q3, q4, kP, hkP, hkPi⟩ := Cond.selects_spec hsel
  cases hcls.symm.trans q1
  cases (State.methodFound?_of_named hnamed hy).symm.trans q2
  cases hnamed.symm.trans q3
  have hselP : selectMethod e.platform s.vm cellB.cls mk = .method mk := by rw [Launch.admits_selectMethod X.admits]; exact q4
  obtain ⟨vm₁, X₁, hstep₁⟩ := X.invokevirtual hexec hown hlink hnamed hmethM hstM hkP hkPi hy (a := b) (cell := cellB) hcell
    (fun z h => by rw [h] at hobj; cases hobj) hselP hmethM habM hkP hkPi (g := g) hg (argsL := argsL) (rest := rest) (hlen _ hsigM) hstack hdg
  rcases hK m meth c ⟨T.setVm vm₁, locs, cells, slots⟩ { g with stack := rest } (.invokevirtual index) mk (Value.ref b :: argsL).toArray X₁ hg hsize hdg hW (X₁.named hnamed) (hpre vm₁ X₁.warmed) with ⟨v, B, X', hpost, hsteps⟩ | ⟨q, B, X', hpost, hsteps⟩
  · exact Or.inl ⟨v, vm₁, B, X₁.warmed, X', hpost, fun target h => hstep₁ _ fun acts => by rw [doInvoke_state]; exact hsteps.trans h⟩
  · exact Or.inr ⟨q, vm₁, B, X₁.warmed, X', hpost, hstep₁ _ fun acts => by rw [doInvoke_state]; exact hsteps⟩
theorem vx_callS (X : Stand p l e R s m args below meth c T locs cells slots) (hexec : p.tables.exec = Jvm.exec) {own : String} {index : Nat} {y : MethodName} {bytes : ByteArray} {maxL : Nat} {ret : Option FieldType}
    (hown : s.vm.findClass own = some m.cls) (hlink : (Cond.methodLink own index y).before args s = true) (hstat : (Cond.static y).before args s = true) (hinit : (Cond.initialized y.cls).before args s = true)
    (hcode : (Cond.code y bytes maxL ret).before args s = true) (hy : y.cls ≠ "java/lang/invoke/MethodHandle" ∧ y.cls ≠ "java/lang/invoke/VarHandle")
    {W9 : Nat} {Pre : Pt → Array Value → Prop} {Post : Pt → Array Value → Option Value → Pt → Prop} {PostX : Pt → Array Value → Addr → Pt → Prop} (hK : vx_Back l R p e below s args y 3 W9 Pre Post PostX)
    {g : JFrame} (hg : g.method = m) (hsize : g.locals.size = c.maxLocals) {argsL rest : List Value} (hlen : ∀ sig, parseMethodDescriptor y.desc = some sig → argsL.length = sig.parameters.length)
    (hstack : g.stack = argsL.reverse ++ rest) (hW : 2 * g.monitorRoom + (rest.map fun v => v.category).sum ≤ W9) (hdg : decode c.code g.pc = .ok (.invokestatic index, 3))
    (hpre : ∀ vm₁, s.WarmedH vm₁ → Pre ⟨T.setVm vm₁, locs, cells, slots⟩ argsL.toArray) :
    (∃ (v : Option Value) (vm₁ : Vm) (B : Pt), s.WarmedH vm₁ ∧ Stand p l e R s m args below meth c B.U B.locs B.cells B.slots ∧ Post ⟨T.setVm vm₁, locs, cells, slots⟩ argsL.toArray v B ∧
      ∀ target, Steps p.tables e below (B.U.setTop { g with pc := g.pc + 3, stack := v.toList ++ rest }) target → Steps p.tables e below (T.setTop g) target) ∨
    (∃ (q : Addr) (vm₁ : Vm) (B : Pt), s.WarmedH vm₁ ∧ Stand p l e R s m args below meth c B.U B.locs B.cells B.slots ∧ PostX ⟨T.setVm vm₁, locs, cells, slots⟩ argsL.toArray q B ∧
      Steps p.tables e below (T.setTop g) ((B.U.setTop { g with stack := rest }).pushFrame (.throwing q))) := by
  obtain ⟨mk, hnamed⟩ := Cond.code_named hcode
  obtain ⟨methM, cM, hmethM, -, -, -, -, -, -, hsigM⟩ := Cond.code_spec hnamed hcode
  have hstatic : methM.isStatic = true := Cond.static_spec hnamed hmethM hstat
  obtain ⟨kP, hkP, -⟩ := className_of_methodNamed hnamed
  have hinitP : kP.init = .initialized := Cond.initialized_spec (findClass_of_methodNamed hnamed) hkP hinit
  obtain ⟨vm₁, X₁, hstep₁⟩ := X.invokestatic hexec hown hlink hnamed hmethM hstatic hkP hinitP hy (g := g) hg (argsL := argsL) (rest := rest) (hlen _ hsigM) hstack hdg
  rcases hK m meth c ⟨T.setVm vm₁, locs, cells, slots⟩ { g with stack := rest } (.invokestatic index) mk argsL.toArray X₁ hg hsize hdg hW (X₁.named hnamed) (hpre vm₁ X₁.warmed) with ⟨v, B, X', hpost, hsteps⟩ | ⟨q, B, X', hpost, hsteps⟩
  · exact Or.inl ⟨v, vm₁, B, X₁.warmed, X', hpost, fun target h => hstep₁ _ fun acts => by rw [doInvoke_state]; exact hsteps.trans h⟩
  · exact Or.inr ⟨q, vm₁, B, X₁.warmed, X', hpost, hstep₁ _ fun acts => by rw [doInvoke_state]; exact hsteps⟩
end Calls
theorem vx_cls {s : State} {T : State} {vm₁ : Vm} {E : String} {k : ClassId} (hW : s.WarmedH vm₁) (h : (T.setVm vm₁).vm.findClass E = some k) : s.vm.findClass E = some k := by
  have h1 : vm₁.findClass E = some k := h
  rw [hW.alike.findClass] at h1
  exact h1
/-- the method's frame g, with q thrown over it -/
def vx_W (p : Program) (l : Launch) (e : Env) (R : Room) (s : State) (m : MethodId) (args : Array Value) (below : List Frame) (meth : Method) (c : Code) (H : Heap) (locs : List Loc) (cells slots : Nat) (Q : State → Prop) (g : JFrame) (q : Addr) : Prop :=
  ∀ T : State, T.heap = H → Stand p l e R s m args below meth c T locs cells slots → ∃ t, Steps p.tables e below ((T.setTop g).pushFrame (.throwing q)) t ∧ Q t
def vx_Run (p : Program) (l : Launch) (e : Env) (R : Room) (s : State) (m : MethodId) (args : Array Value) (below : List Frame) (meth : Method) (c : Code) (H : Heap) (locs : List Loc) (cells slots mc ms : Nat) (g : JFrame) (rest : List Value) (Qa : State → Outcome → State → Prop) (XC : String → State → State → Prop) (free : Addr → Prop) : Prop :=
  ∀ T : State, T.heap = H → Stand p l e R s m args below meth c T locs cells slots →
    (∃ (v : Option Value) (st₀ t T' : State) (L : List Loc), st₀.heap = H ∧ Stand p l e R s m args below meth c T' (locs ++ L) (cells + mc) (slots + ms) ∧ (∀ q ∈ L, free q.base) ∧ T'.heap = t.heap ∧ T'.vm = t.vm ∧ Qa st₀ (.returned v) t ∧
      Goes p e below T g T' { g with pc := g.pc + 3, stack := v.toList ++ rest }) ∨
    (∃ (q : Addr) (st₀ t T' : State) (L : List Loc) (E : String) (ce : Cell), st₀.heap = H ∧ Stand p l e R s m args below meth c T' (locs ++ L) (cells + mc) (slots + ms) ∧ (∀ z ∈ L, free z.base) ∧ T'.heap = t.heap ∧ T'.vm = t.vm ∧ XC E st₀ t ∧ t.heap[q]? = some ce ∧ ce.vm = .none ∧ s.vm.findClass E = some ce.cls ∧
      Steps p.tables e below (T.setTop g) ((T'.setTop { g with stack := rest }).pushFrame (.throwing q)))
def vx_X {S : Type} (px : S → Prop) (B : String → S → State → Prop) (A : Nat → Prop) : String → State → State → Prop := fun E st t => ∃ u : S, px u ∧ B E u t ∧ va_F A st t
section Runs
variable {p : Program} {l : Launch} {e : Env} {R : Room} {s : State} {m : MethodId} {args : Array Value} {below : List Frame} {meth : Method} {c : Code} {H : Heap} {locs : List Loc} {cells slots : Nat}
variable {y : MethodName} {bytes cc : ByteArray} {maxL nL mc ms n index : Nat} {ret : Option FieldType} {ws : List Cond} {rm : Room} {Pc : Array Value → State → Prop} {Qc : Array Value → State → Outcome → State → Prop} {XC : String → State → State → Prop} {free : Addr → Prop} {Ts : List Cond} {own C : String} {b : Addr} {As rest : List Value} {g : JFrame}
theorem vx_callBack (cb : CallB R s args own index y bytes maxL ret ws rm mc ms n) (hM : vx_Met l y ws rm Pc Qc XC mc ms free) (hbl : FrameBlind Pc) : vx_Back l R p e below s args y 3 8 (PreOf R mc ms Pc) (PostOf Qc mc ms free) (vx_Post XC mc ms free) := by
  obtain ⟨hrc, hrs, hfr, hlo, hws, hcw, -, hini, -⟩ := cb
  exact vx_back (bytes := bytes) (maxL := maxL) (ret := ret) hM hbl hrc hrs hfr hlo hws hcw (fun a' U hW => word_at hW (Or.inl (by first | rfl | simp [Cond.onTables, Cond.keeps, Cond.steady])) hini)
theorem vx_runV (S : CallFix p m c cc nL s args Ts own) (hM : vx_Met l y ws rm Pc Qc XC mc ms free) (cw : CallW R s args own C index y bytes maxL ret ws rm mc ms n) (hp : PreV s H C b Pc As)
    (hg : g.method = m) (hn : As.length = n) (hsize : g.locals.size = nL) (hstack : g.stack = As.reverse ++ .ref b :: rest) (hW : 2 * g.monitorRoom + (rest.map fun v => v.category).sum ≤ 8) (hdg : decode cc g.pc = .ok (.invokevirtual index, 3)) (hf : cells + mc ≤ R.cells ∧ slots + ms ≤ R.slots) :
    vx_Run p l e R s m args below meth c H locs cells slots mc ms g rest (Qc (Value.ref b :: As).toArray) XC free := by
  have hK : vx_Back l R p e below s args y 3 8 (PreOf R mc ms Pc) (PostOf Qc mc ms free) (vx_Post XC mc ms free) := vx_callBack cw.1 hM hp.1
  obtain ⟨⟨-, -, -, -, -, -, hcode, -, hy, hlen, hl⟩, hin, hse⟩ := cw
  obtain ⟨hx, hb, hml, ho, -⟩ := S
  obtain ⟨-, ⟨cellB, hcB, hoB, hclB⟩, hPc⟩ := hp
  intro T hT X
  rcases vx_callV X hx (C := C) (bytes := bytes) (maxL := maxL) (ret := ret) ho hl hin hse hcode hy hK (by rw [hT]; exact hcB) hoB hclB hg (hsize.trans hml.symm) (argsL := As) (rest := rest) (fun sig h => hn.trans (hlen sig h)) hstack hW (by rw [hb]; exact hdg)
    (fun vm₁ hW₁ => ⟨hf.1, hf.2, hPc (T.setVm vm₁) hT hW₁⟩) with ⟨v, vm₁, ⟨U', l2, c2, s2⟩, hW₁, X', ⟨g', mk, t, L, e1, e2, hq, h1, hL, h2, h3⟩, st⟩ | ⟨q, vm₁, ⟨U', l2, c2, s2⟩, hW₁, X', ⟨g', mk, t, L, E, ce, e1, e2, hq, hce, hcv, hcl, h1, hL, h2, h3⟩, st⟩
  · dsimp only [Pt.U, Pt.locs, Pt.cells, Pt.slots] at X' e1 e2 h1 h2 h3 st
    subst h1; subst h2; subst h3
    exact Or.inl ⟨v, (T.setVm vm₁).calling g' mk (Value.ref b :: As).toArray, t, U', L, hT, X', hL, e1, e2, hq, st⟩
  · dsimp only [Pt.U, Pt.locs, Pt.cells, Pt.slots] at X' e1 e2 h1 h2 h3 st hcl
    subst h1; subst h2; subst h3
    exact Or.inr ⟨q, (T.setVm vm₁).calling g' mk (Value.ref b :: As).toArray, t, U', L, E, ce, hT, X', hL, e1, e2, hq, hce, hcv, vx_cls hW₁ hcl, st⟩
theorem vx_runS (S : CallFix p m c cc nL s args Ts own) (hM : vx_Met l y ws rm Pc Qc XC mc ms free) (cw : CallB R s args own index y bytes maxL ret ws rm mc ms n ∧ (Cond.static y).before args s = true) (hp : PreS s H Pc As)
    (hg : g.method = m) (hn : As.length = n) (hsize : g.locals.size = nL) (hstack : g.stack = As.reverse ++ rest) (hW : 2 * g.monitorRoom + (rest.map fun v => v.category).sum ≤ 8) (hdg : decode cc g.pc = .ok (.invokestatic index, 3)) (hf : cells + mc ≤ R.cells ∧ slots + ms ≤ R.slots) :
    vx_Run p l e R s m args below meth c H locs cells slots mc ms g rest (Qc As.toArray) XC free := by
  have hK : vx_Back l R p e below s args y 3 8 (PreOf R mc ms Pc) (PostOf Qc mc ms free) (vx_Post XC mc ms free) := vx_callBack cw.1 hM hp.1
  obtain ⟨⟨-, -, -, -, -, -, hcode, hini, hy, hlen, hl⟩, hstt⟩ := cw
  obtain ⟨hx, hb, hml, ho, -⟩ := S
  intro T hT X
  rcases vx_callS X hx (bytes := bytes) (maxL := maxL) (ret := ret) ho hl hstt hini hcode hy hK hg (hsize.trans hml.symm) (argsL := As) (rest := rest) (fun sig h => hn.trans (hlen sig h)) hstack hW (by rw [hb]; exact hdg)
    (fun vm₁ hW₁ => ⟨hf.1, hf.2, hp.2 (T.setVm vm₁) hT hW₁⟩) with ⟨v, vm₁, ⟨U', l2, c2, s2⟩, hW₁, X', ⟨g', mk, t, L, e1, e2, hq, h1, hL, h2, h3⟩, st⟩ | ⟨q, vm₁, ⟨U', l2, c2, s2⟩, hW₁, X', ⟨g', mk, t, L, E, ce, e1, e2, hq, hce, hcv, hcl, h1, hL, h2, h3⟩, st⟩
  · dsimp only [Pt.U, Pt.locs, Pt.cells, Pt.slots] at X' e1 e2 h1 h2 h3 st
    subst h1; subst h2; subst h3
    exact Or.inl ⟨v, (T.setVm vm₁).calling g' mk As.toArray, t, U', L, hT, X', hL, e1, e2, hq, st⟩
  · dsimp only [Pt.U, Pt.locs, Pt.cells, Pt.slots] at X' e1 e2 h1 h2 h3 st hcl
    subst h1; subst h2; subst h3
    exact Or.inr ⟨q, (T.setVm vm₁).calling g' mk As.toArray, t, U', L, E, ce, hT, X', hL, e1, e2, hq, hce, hcv, vx_cls hW₁ hcl, st⟩
end Runs
section Rows
variable {p : Program} {l : Launch} {e : Env} {R : Room} {s : State} {m : MethodId} {args : Array Value} {below : List Frame} {meth : Method} {c : Code} {H : Heap} {locs : List Loc} {cells slots : Nat} {Q : State → Prop}
variable {mc ms : Nat} {free : Addr → Prop} {A0 A1 : Nat → Prop} {H0 : Heap} {a : Array Value} {pc : Nat} {ls : Array Slot} {st0 rest : List Value}
theorem vx_keep {st₀ t T' : State} {L : List Loc} (h0 : st₀.heap = H) (e1 : T'.heap = t.heap) (hS : va_S A0 H0 H locs) (hA : ∀ q, q < H.size → A1 q → A0 q) (hf : ∀ q, free q → A0 q) (hL : ∀ q ∈ L, free q.base) (hF : va_F A1 st₀ t) :
    H.size ≤ T'.heap.size ∧ (∀ q : Nat, q < H.size → ¬ A1 q → T'.heap[q]? = H[q]?) ∧ va_S A0 H0 T'.heap (locs ++ L) := by
  obtain ⟨hz, hk⟩ := hF
  rw [h0] at hz hk
  exact ⟨by rw [e1]; exact hz, fun q h1 h2 => by rw [e1]; exact hk q h1 h2,
    ⟨Nat.le_trans hS.1 (by rw [e1]; exact hz), fun q h1 h2 => by rw [e1, hk q (Nat.lt_of_lt_of_le h1 hS.1) (fun z => h2 (hA q (Nat.lt_of_lt_of_le h1 hS.1) z))]; exact hS.2.1 q h1 h2, fun q hq => by
      rcases List.mem_append.mp hq with h | h
      · exact hS.2.2 q h
      · exact hf _ (hL q h)⟩⟩
theorem vx_calli {S SX : Type} {post : Int32 → S → Prop} {px : SX → Prop} {B : S → State → Prop} {BX : String → SX → State → Prop} {AX : Nat → Prop} (hr : vx_Run p l e R s m args below meth c H locs cells slots mc ms (F0 m pc ls st0) rest (va_Qi post B A1 a) (vx_X px BX AX) free) (hS : va_S A0 H0 H locs) (hA : ∀ q, q < H.size → A1 q → A0 q) (hf : ∀ q, free q → A0 q) (hAX : ∀ q, q < H.size → AX q → A0 q)
    (kx : ∀ (E : String) (ce : Cell) (q9 : Addr) (u : SX) (t : State) (H1 : Heap) (locs1 : List Loc), t.heap = H1 → s.vm.Alike t.vm → px u → BX E u t → H.size ≤ H1.size → (∀ q : Nat, q < H.size → ¬ AX q → H1[q]? = H[q]?) → va_S A0 H0 H1 locs1 → H1[q9]? = some ce → ce.vm = .none → s.vm.findClass E = some ce.cls → vx_W p l e R s m args below meth c H1 locs1 (cells + mc) (slots + ms) Q (F0 m pc ls rest) q9)
    (kk : ∀ (r : Int32) (u : S) (t : State) (H1 : Heap) (locs1 : List Loc), t.heap = H1 → s.vm.Alike t.vm → post r u → B u t → H.size ≤ H1.size → (∀ q : Nat, q < H.size → ¬ A1 q → H1[q]? = H[q]?) → va_S A0 H0 H1 locs1 → W p l e R s m args below meth c H1 locs1 (cells + mc) (slots + ms) Q (F0 m (pc + 3) ls (.int r :: rest))) : W p l e R s m args below meth c H locs cells slots Q (F0 m pc ls st0) := by
  intro T hT X
  rcases hr T hT X with ⟨v, st₀, t, T', L, h0, X', hL, e1, e2, ⟨⟨r, u, hv, hp, hb⟩, hF⟩, st⟩ | ⟨q, st₀, t, T', L, E, ce, h0, X', hL, e1, e2, ⟨u, hp, hb, hF⟩, hce, hcv, hcl, st⟩
  · cases hv
    obtain ⟨k1, k2, k3⟩ := vx_keep h0 e1 hS hA hf hL hF
    obtain ⟨t2, a1, b1⟩ := kk r u t T'.heap (locs ++ L) e1.symm (by rw [← e2]; exact X'.warmed.alike) hp hb k1 k2 k3 T' rfl X'
    exact ⟨t2, st t2 a1, b1⟩
  · obtain ⟨k1, k2, k3⟩ := vx_keep h0 e1 hS hAX hf hL hF
    obtain ⟨t2, a1, b1⟩ := kx E ce q u t T'.heap (locs ++ L) e1.symm (by rw [← e2]; exact X'.warmed.alike) hp hb k1 k2 k3 (by rw [e1]; exact hce) hcv hcl T' rfl X'
    exact ⟨t2, st.trans a1, b1⟩
theorem vx_calll {S SX : Type} {post : Int64 → S → Prop} {px : SX → Prop} {B : S → State → Prop} {BX : String → SX → State → Prop} {AX : Nat → Prop} (hr : vx_Run p l e R s m args below meth c H locs cells slots mc ms (F0 m pc ls st0) rest (va_Ql post B A1 a) (vx_X px BX AX) free) (hS : va_S A0 H0 H locs) (hA : ∀ q, q < H.size → A1 q → A0 q) (hf : ∀ q, free q → A0 q) (hAX : ∀ q, q < H.size → AX q → A0 q)
    (kx : ∀ (E : String) (ce : Cell) (q9 : Addr) (u : SX) (t : State) (H1 : Heap) (locs1 : List Loc), t.heap = H1 → s.vm.Alike t.vm → px u → BX E u t → H.size ≤ H1.size → (∀ q : Nat, q < H.size → ¬ AX q → H1[q]? = H[q]?) → va_S A0 H0 H1 locs1 → H1[q9]? = some ce → ce.vm = .none → s.vm.findClass E = some ce.cls → vx_W p l e R s m args below meth c H1 locs1 (cells + mc) (slots + ms) Q (F0 m pc ls rest) q9)
    (kk : ∀ (r : Int64) (u : S) (t : State) (H1 : Heap) (locs1 : List Loc), t.heap = H1 → s.vm.Alike t.vm → post r u → B u t → H.size ≤ H1.size → (∀ q : Nat, q < H.size → ¬ A1 q → H1[q]? = H[q]?) → va_S A0 H0 H1 locs1 → W p l e R s m args below meth c H1 locs1 (cells + mc) (slots + ms) Q (F0 m (pc + 3) ls (.long r :: rest))) : W p l e R s m args below meth c H locs cells slots Q (F0 m pc ls st0) := by
  intro T hT X
  rcases hr T hT X with ⟨v, st₀, t, T', L, h0, X', hL, e1, e2, ⟨⟨r, u, hv, hp, hb⟩, hF⟩, st⟩ | ⟨q, st₀, t, T', L, E, ce, h0, X', hL, e1, e2, ⟨u, hp, hb, hF⟩, hce, hcv, hcl, st⟩
  · cases hv
    obtain ⟨k1, k2, k3⟩ := vx_keep h0 e1 hS hA hf hL hF
    obtain ⟨t2, a1, b1⟩ := kk r u t T'.heap (locs ++ L) e1.symm (by rw [← e2]; exact X'.warmed.alike) hp hb k1 k2 k3 T' rfl X'
    exact ⟨t2, st t2 a1, b1⟩
  · obtain ⟨k1, k2, k3⟩ := vx_keep h0 e1 hS hAX hf hL hF
    obtain ⟨t2, a1, b1⟩ := kx E ce q u t T'.heap (locs ++ L) e1.symm (by rw [← e2]; exact X'.warmed.alike) hp hb k1 k2 k3 (by rw [e1]; exact hce) hcv hcl T' rfl X'
    exact ⟨t2, st.trans a1, b1⟩
theorem vx_callf {S SX : Type} {post : UInt32 → S → Prop} {px : SX → Prop} {B : S → State → Prop} {BX : String → SX → State → Prop} {AX : Nat → Prop} (hr : vx_Run p l e R s m args below meth c H locs cells slots mc ms (F0 m pc ls st0) rest (va_Qf post B A1 a) (vx_X px BX AX) free) (hS : va_S A0 H0 H locs) (hA : ∀ q, q < H.size → A1 q → A0 q) (hf : ∀ q, free q → A0 q) (hAX : ∀ q, q < H.size → AX q → A0 q)
    (kx : ∀ (E : String) (ce : Cell) (q9 : Addr) (u : SX) (t : State) (H1 : Heap) (locs1 : List Loc), t.heap = H1 → s.vm.Alike t.vm → px u → BX E u t → H.size ≤ H1.size → (∀ q : Nat, q < H.size → ¬ AX q → H1[q]? = H[q]?) → va_S A0 H0 H1 locs1 → H1[q9]? = some ce → ce.vm = .none → s.vm.findClass E = some ce.cls → vx_W p l e R s m args below meth c H1 locs1 (cells + mc) (slots + ms) Q (F0 m pc ls rest) q9)
    (kk : ∀ (r : UInt32) (u : S) (t : State) (H1 : Heap) (locs1 : List Loc), t.heap = H1 → s.vm.Alike t.vm → post r u → B u t → H.size ≤ H1.size → (∀ q : Nat, q < H.size → ¬ A1 q → H1[q]? = H[q]?) → va_S A0 H0 H1 locs1 → W p l e R s m args below meth c H1 locs1 (cells + mc) (slots + ms) Q (F0 m (pc + 3) ls (.float r :: rest))) : W p l e R s m args below meth c H locs cells slots Q (F0 m pc ls st0) := by
  intro T hT X
  rcases hr T hT X with ⟨v, st₀, t, T', L, h0, X', hL, e1, e2, ⟨⟨r, u, hv, hp, hb⟩, hF⟩, st⟩ | ⟨q, st₀, t, T', L, E, ce, h0, X', hL, e1, e2, ⟨u, hp, hb, hF⟩, hce, hcv, hcl, st⟩
  · cases hv
    obtain ⟨k1, k2, k3⟩ := vx_keep h0 e1 hS hA hf hL hF
    obtain ⟨t2, a1, b1⟩ := kk r u t T'.heap (locs ++ L) e1.symm (by rw [← e2]; exact X'.warmed.alike) hp hb k1 k2 k3 T' rfl X'
    exact ⟨t2, st t2 a1, b1⟩
  · obtain ⟨k1, k2, k3⟩ := vx_keep h0 e1 hS hAX hf hL hF
    obtain ⟨t2, a1, b1⟩ := kx E ce q u t T'.heap (locs ++ L) e1.symm (by rw [← e2]; exact X'.warmed.alike) hp hb k1 k2 k3 (by rw [e1]; exact hce) hcv hcl T' rfl X'
    exact ⟨t2, st.trans a1, b1⟩
theorem vx_calld {S SX : Type} {post : UInt64 → S → Prop} {px : SX → Prop} {B : S → State → Prop} {BX : String → SX → State → Prop} {AX : Nat → Prop} (hr : vx_Run p l e R s m args below meth c H locs cells slots mc ms (F0 m pc ls st0) rest (va_Qd post B A1 a) (vx_X px BX AX) free) (hS : va_S A0 H0 H locs) (hA : ∀ q, q < H.size → A1 q → A0 q) (hf : ∀ q, free q → A0 q) (hAX : ∀ q, q < H.size → AX q → A0 q)
    (kx : ∀ (E : String) (ce : Cell) (q9 : Addr) (u : SX) (t : State) (H1 : Heap) (locs1 : List Loc), t.heap = H1 → s.vm.Alike t.vm → px u → BX E u t → H.size ≤ H1.size → (∀ q : Nat, q < H.size → ¬ AX q → H1[q]? = H[q]?) → va_S A0 H0 H1 locs1 → H1[q9]? = some ce → ce.vm = .none → s.vm.findClass E = some ce.cls → vx_W p l e R s m args below meth c H1 locs1 (cells + mc) (slots + ms) Q (F0 m pc ls rest) q9)
    (kk : ∀ (r : UInt64) (u : S) (t : State) (H1 : Heap) (locs1 : List Loc), t.heap = H1 → s.vm.Alike t.vm → post r u → B u t → H.size ≤ H1.size → (∀ q : Nat, q < H.size → ¬ A1 q → H1[q]? = H[q]?) → va_S A0 H0 H1 locs1 → W p l e R s m args below meth c H1 locs1 (cells + mc) (slots + ms) Q (F0 m (pc + 3) ls (.double r :: rest))) : W p l e R s m args below meth c H locs cells slots Q (F0 m pc ls st0) := by
  intro T hT X
  rcases hr T hT X with ⟨v, st₀, t, T', L, h0, X', hL, e1, e2, ⟨⟨r, u, hv, hp, hb⟩, hF⟩, st⟩ | ⟨q, st₀, t, T', L, E, ce, h0, X', hL, e1, e2, ⟨u, hp, hb, hF⟩, hce, hcv, hcl, st⟩
  · cases hv
    obtain ⟨k1, k2, k3⟩ := vx_keep h0 e1 hS hA hf hL hF
    obtain ⟨t2, a1, b1⟩ := kk r u t T'.heap (locs ++ L) e1.symm (by rw [← e2]; exact X'.warmed.alike) hp hb k1 k2 k3 T' rfl X'
    exact ⟨t2, st t2 a1, b1⟩
  · obtain ⟨k1, k2, k3⟩ := vx_keep h0 e1 hS hAX hf hL hF
    obtain ⟨t2, a1, b1⟩ := kx E ce q u t T'.heap (locs ++ L) e1.symm (by rw [← e2]; exact X'.warmed.alike) hp hb k1 k2 k3 (by rw [e1]; exact hce) hcv hcl T' rfl X'
    exact ⟨t2, st.trans a1, b1⟩
theorem vx_callv {S SX : Type} {post : S → Prop} {px : SX → Prop} {B : S → State → Prop} {BX : String → SX → State → Prop} {AX : Nat → Prop} (hr : vx_Run p l e R s m args below meth c H locs cells slots mc ms (F0 m pc ls st0) rest (va_Qv post B A1 a) (vx_X px BX AX) free) (hS : va_S A0 H0 H locs) (hA : ∀ q, q < H.size → A1 q → A0 q) (hf : ∀ q, free q → A0 q) (hAX : ∀ q, q < H.size → AX q → A0 q)
    (kx : ∀ (E : String) (ce : Cell) (q9 : Addr) (u : SX) (t : State) (H1 : Heap) (locs1 : List Loc), t.heap = H1 → s.vm.Alike t.vm → px u → BX E u t → H.size ≤ H1.size → (∀ q : Nat, q < H.size → ¬ AX q → H1[q]? = H[q]?) → va_S A0 H0 H1 locs1 → H1[q9]? = some ce → ce.vm = .none → s.vm.findClass E = some ce.cls → vx_W p l e R s m args below meth c H1 locs1 (cells + mc) (slots + ms) Q (F0 m pc ls rest) q9)
    (kk : ∀ (u : S) (t : State) (H1 : Heap) (locs1 : List Loc), t.heap = H1 → s.vm.Alike t.vm → post u → B u t → H.size ≤ H1.size → (∀ q : Nat, q < H.size → ¬ A1 q → H1[q]? = H[q]?) → va_S A0 H0 H1 locs1 → W p l e R s m args below meth c H1 locs1 (cells + mc) (slots + ms) Q (F0 m (pc + 3) ls (rest))) : W p l e R s m args below meth c H locs cells slots Q (F0 m pc ls st0) := by
  intro T hT X
  rcases hr T hT X with ⟨v, st₀, t, T', L, h0, X', hL, e1, e2, ⟨⟨u, hv, hp, hb⟩, hF⟩, st⟩ | ⟨q, st₀, t, T', L, E, ce, h0, X', hL, e1, e2, ⟨u, hp, hb, hF⟩, hce, hcv, hcl, st⟩
  · cases hv
    obtain ⟨k1, k2, k3⟩ := vx_keep h0 e1 hS hA hf hL hF
    obtain ⟨t2, a1, b1⟩ := kk u t T'.heap (locs ++ L) e1.symm (by rw [← e2]; exact X'.warmed.alike) hp hb k1 k2 k3 T' rfl X'
    exact ⟨t2, st t2 a1, b1⟩
  · obtain ⟨k1, k2, k3⟩ := vx_keep h0 e1 hS hAX hf hL hF
    obtain ⟨t2, a1, b1⟩ := kx E ce q u t T'.heap (locs ++ L) e1.symm (by rw [← e2]; exact X'.warmed.alike) hp hb k1 k2 k3 (by rw [e1]; exact hce) hcv hcl T' rfl X'
    exact ⟨t2, st.trans a1, b1⟩
/-- caught by the row x of this method's table; the rows ahead don't take it -/
theorem vx_catch {own name : String} {E : String} {ce : Cell} {q : Addr} (hown : s.vm.findClass own = some m.cls) (pre : List ExceptionTableEntry) (x : ExceptionTableEntry) (suf : List ExceptionTableEntry) (hsplit : c.exceptionTable.toList = pre ++ x :: suf)
    (hpass : ∀ z ∈ pre, covers z pc = false ∨ (z.catchType ≠ 0 ∧ ∃ nm : String, (Cond.classLink own z.catchType nm).before args s = true ∧ va_Nc E nm s)) (hx : covers x pc = true) (h0 : x.catchType ≠ 0)
    (hlink : (Cond.classLink own x.catchType name).before args s = true) (hcast : (Cond.castable E name).before args s = true) (hcell : H[q]? = some ce) (hv : ce.vm = .none) (hcl : s.vm.findClass E = some ce.cls)
    (kk : W p l e R s m args below meth c H locs cells slots Q (F0 m x.handlerPc ls [.ref q])) : vx_W p l e R s m args below meth c H locs cells slots Q (F0 m pc ls rest) q := by
  intro T hT X
  have hpl : e.platform.magicAccessors = ({} : Platform).magicAccessors := by rw [X.admits.platform]
  obtain ⟨c3, c4, hc3, hc4, hasg⟩ := Cond.castable_spec hcast
  cases Option.some.inj (hc3.symm.trans hcl)
  obtain ⟨c5, hc5, hcl5⟩ := Cond.classLink_spec hown hlink e.platform hpl
  cases Option.some.inj (hc4.symm.trans hc5)
  obtain ⟨vm', X', st⟩ := X.thenCaughtThrough q (g := F0 m pc ls rest) rfl (Steps.refl _) (by rw [hT]; exact hcell) (by rw [hv]; rfl) (by obtain ⟨k9, h9, -⟩ := Vm.findClass_spec hcl; exact ⟨k9, h9⟩) pre x suf hsplit
    (fun z hz => by
      rcases hpass z hz with h | ⟨hz0, nm, hl1, hn1⟩
      · exact Or.inl h
      · obtain ⟨c6, hc6, hcl6⟩ := Cond.classLink_spec hown hl1 e.platform hpl
        obtain ⟨a8, b8, h1, h2, h3⟩ := hn1
        cases Option.some.inj (h1.symm.trans hcl)
        cases Option.some.inj (h2.symm.trans hc6)
        exact Or.inr ⟨hz0, _, hcl6, h3⟩) hx (Or.inr ⟨h0, c4, hcl5, hasg⟩)
  obtain ⟨t, a1, b1⟩ := kk (T.setVm vm') hT X'
  exact ⟨t, st.trans a1, b1⟩
end Rows
section Ends
variable {p : Program} {l : Launch} {e : Env} {R : Room} {s : State} {m : MethodId} {args : Array Value} {below : List Frame} {meth : Method} {c : Code} {H : Heap} {locs : List Loc} {cells slots : Nat} {Q : State → Prop}
variable {mc ms : Nat} {free : Addr → Prop} {A0 A1 : Nat → Prop} {H0 : Heap} {a : Array Value} {ls : Array Slot} {st0 rest : List Value}
variable {Qc : Array Value → State → Outcome → State → Prop} {XC : String → State → State → Prop}
/-- what a body that may throw owes at its end -/
def vx_MQ (below : List Frame) (Qc : Array Value → State → Outcome → State → Prop) (XC : String → State → State → Prop) (a : Array Value) (s : State) (mc ms : Nat) (free : Addr → Prop) : State → Prop := fun t =>
  ∃ o, t.status = .running ∧ Ended t below o ∧ vx_Q Qc XC mc ms free a s o t
theorem vx_ret {g : JFrame} {mc ms : Nat} (k : W p l e R s m args below meth c H locs cells slots (MQ below Qc args s mc ms free) g) : W p l e R s m args below meth c H locs cells slots (vx_MQ below Qc XC args s mc ms free) g := by
  intro T hT X
  obtain ⟨t, a1, o, b1, b2, b3, b4⟩ := k T hT X
  exact ⟨t, a1, o, b1, b2, Or.inl ⟨b3, b4⟩⟩
/-- not caught here: it goes on to the caller -/
theorem vx_widen {g : JFrame} {q : Addr} {k n : Nat} (h1 : cells ≤ k) (h2 : slots ≤ n) (kk : vx_W p l e R s m args below meth c H locs k n Q g q) : vx_W p l e R s m args below meth c H locs cells slots Q g q := fun T hT X => kk T hT (stand_widen X h1 h2)
theorem vx_out {pc : Nat} {E : String} {ce : Cell} {q : Addr} {mc ms : Nat} (hout : ∀ x ∈ c.exceptionTable.toList, covers x pc = false) (hlocks : meth.locks = false) (hcell : H[q]? = some ce) (hv : ce.vm = .none) (hcl : s.vm.findClass E = some ce.cls)
    (hx : ∀ t : State, t.heap = H → s.vm.Alike t.vm → XC E s t) (hf : ∀ z ∈ locs, free z.base) (hc : cells ≤ mc) (hs : slots ≤ ms) :
    vx_W p l e R s m args below meth c H locs cells slots (vx_MQ below Qc XC args s mc ms free) (F0 m pc ls rest) q := by
  intro T hT X
  obtain ⟨st1, hrun, hend, hW, hsm⟩ := X.leaveThrown q (g := F0 m pc ls rest) rfl rfl rfl hout hlocks
  have hcell9 : (T.setFrames (.throwing q :: below)).heap[q]? = some ce := by
    show T.heap[q]? = some ce
    rw [hT]; exact hcell
  exact ⟨_, st1, .threw q, hrun, hend, Or.inr ⟨q, rfl, E, ce, locs, hx _ hT hW.alike, hcell9, hv, hcl, hW, hsm.mono hc hs, hf⟩⟩
theorem vx_frame {U : State} {k n : Nat} (h : s.sameButNew ({ U with vm := s.vm } : State) locs k n) : s.heap.size ≤ U.heap.size ∧ ∀ q : Nat, q < s.heap.size → (∀ z ∈ locs, z.base ≠ q) → U.heap[q]? = s.heap[q]? := by
  obtain ⟨-, h2, -, -, -, h6⟩ := h
  refine ⟨h2, fun q hq hz => ?_⟩
  obtain ⟨c9, e1, e2, e3, e4⟩ := h6 q _ (Array.getElem?_eq_getElem hq)
  have hs : c9.slots = (s.heap[q]).slots := Array.ext_getElem? fun i => e4 i fun hm => hz _ hm rfl
  have h9 : c9 = s.heap[q] := by
    rw [hs] at e2
    exact e2
  have e5 : U.heap[q]? = some c9 := e1
  rw [e5, h9, Array.getElem?_eq_getElem hq]
/-- the words of a throw but the four that speak of the heap -/
def vx_no (w : Cond) : Bool := decide (w ≠ .isRef (.static Bundle.tN "UNASSIGNED_STACK" Bundle.steD)) && decide (w ≠ .isRef (.static Bundle.tN "SUPPRESSED_SENTINEL" Bundle.listD)) && decide (w ≠ .laysStatic Bundle.tN "UNASSIGNED_STACK" Bundle.steD) && decide (w ≠ .laysStatic Bundle.tN "SUPPRESSED_SENTINEL" Bundle.listD)
def vx_at0 (own : String) (ic : Nat) (X : String) (names : List String) : List Cond := (Bundle.ownAtoms0 own ic X names).filter vx_no
def vx_atS (own : String) (ic : Nat) (X : String) (names : List String) : List Cond := (Bundle.ownAtoms own ic X names).filter vx_no
/-- a word that the tables alone decide, or a good one -/
def vx_ot (w : Cond) : Bool := w.onTables || goodWord w
theorem vx_ot_at {args a' : Array Value} {s U : State} {w : Cond} (hW : s.WarmedH U.vm) (hvm : s.vm = U.vm) (hg : vx_ot w = true) (h : w.before args s = true) : w.before a' U = true := by
  simp only [vx_ot, Bool.or_eq_true] at hg
  rcases hg with hg | hg
  · exact va_tabs hg hvm h
  · exact word_at hW (good_of_word hg) h
/-- a list's words: the good ones out of the method's own list, the others by premises of their own -/
theorem vx_hat {args : Array Value} {s : State} {L B : List Cond} (h1 : ∀ w ∈ L.filter goodWord, w.before args s = true) (h2 : ∀ w ∈ L.filter (fun w => !goodWord w), w ∈ B) (h3 : ∀ w ∈ B, w.before args s = true) : ∀ w ∈ L, w.before args s = true := by
  intro w hw
  by_cases g : goodWord w = true
  · exact h1 w (List.mem_filter.mpr ⟨hw, g⟩)
  · refine h3 w (h2 w (List.mem_filter.mpr ⟨hw, ?_⟩))
    show (!goodWord w) = true
    cases hgw : goodWord w
    · rfl
    · exact absurd hgw g
theorem vx_c {args : Array Value} {s : State} {w : Cond} {B : List Cond} (h : w.before args s = true) (t : ∀ w ∈ B, w.before args s = true) : ∀ w' ∈ w :: B, w'.before args s = true := fun w' h' => (List.mem_cons.mp h').elim (fun e => by rw [e]; exact h) (t w')
theorem vx_n {args : Array Value} {s : State} : ∀ w ∈ ([] : List Cond), w.before args s = true := fun _ h => nomatch h
theorem vx_own {args : Array Value} {s : State} {L : List Cond} (h1 : ∀ w ∈ L.filter vx_no, w.before args s = true)
    (hU : (Cond.isRef (.static Bundle.tN "UNASSIGNED_STACK" Bundle.steD)).before args s = true) (hN : (Cond.isRef (.static Bundle.tN "SUPPRESSED_SENTINEL" Bundle.listD)).before args s = true)
    (lU : (Cond.laysStatic Bundle.tN "UNASSIGNED_STACK" Bundle.steD).before args s = true) (lN : (Cond.laysStatic Bundle.tN "SUPPRESSED_SENTINEL" Bundle.listD).before args s = true) : ∀ w ∈ L, w.before args s = true := by
  intro w hw
  by_cases e1 : w = .isRef (.static Bundle.tN "UNASSIGNED_STACK" Bundle.steD)
  · rw [e1]; exact hU
  · by_cases e2 : w = .isRef (.static Bundle.tN "SUPPRESSED_SENTINEL" Bundle.listD)
    · rw [e2]; exact hN
    · by_cases e3 : w = .laysStatic Bundle.tN "UNASSIGNED_STACK" Bundle.steD
      · rw [e3]; exact lU
      · by_cases e4 : w = .laysStatic Bundle.tN "SUPPRESSED_SENTINEL" Bundle.listD
        · rw [e4]; exact lN
        · exact h1 w (List.mem_filter.mpr ⟨hw, by unfold vx_no; rw [decide_eq_true e1, decide_eq_true e2, decide_eq_true e3, decide_eq_true e4]; rfl⟩)
/-- where a static field lies, its class's statics cell in H -/
def vx_L (C n d : String) (A : Nat → Prop) (U : State) (H : Heap) : Prop := ∃ (c : ClassId) (k : Class) (i : Nat) (f : Field) (a : Nat) (cell : Cell), U.vm.findClass C = some c ∧ U.fieldFound? C n d = some (c, k, i, f) ∧ f.isStatic = true ∧ k.statics = some a ∧ H[a]? = some cell ∧ cell.vm.isStatics = true ∧ cell.cls = c ∧ f.slot < cell.slots.size ∧ k.staticTypes[f.slot]? = some f.type ∧ ¬ A a
theorem vx_L.moved {C n d : String} {A : Nat → Prop} {u U : State} {H : Heap} (hvm : u.vm.Alike U.vm) (h : vx_L C n d A u H) : vx_L C n d A U H := by
  obtain ⟨c, k, i, f, a, cell, h1, h2, h3, h4, h5, h6, h7, h8, h9, h10⟩ := h
  obtain ⟨k', hi', he⟩ := State.fieldFound?_setVm hvm h2
  exact ⟨c, k', i, f, a, cell, by rw [hvm.findClass]; exact h1, hi', h3, by rw [he]; exact h4, h5, h6, h7, h8, by rw [he]; exact h9, h10⟩
theorem vx_L.kept {C n d : String} {A : Nat → Prop} {U : State} {H H1 : Heap} (h : vx_L C n d A U H) (hq : ∀ a : Nat, a < H.size → ¬ A a → H1[a]? = H[a]?) : vx_L C n d A U H1 := by
  obtain ⟨c, k, i, f, a, cell, h1, h2, h3, h4, h5, h6, h7, h8, h9, h10⟩ := h
  exact ⟨c, k, i, f, a, cell, h1, h2, h3, h4, by rw [hq a (Array.getElem?_eq_some_iff.mp h5).1 h10]; exact h5, h6, h7, h8, h9, h10⟩
theorem vx_L.narrow {C n d : String} {A B : Nat → Prop} {U : State} {H : Heap} (h : vx_L C n d A U H) (hAB : ∀ q, B q → A q) : vx_L C n d B U H := by
  obtain ⟨c, k, i, f, a, cell, h1, h2, h3, h4, h5, h6, h7, h8, h9, h10⟩ := h
  exact ⟨c, k, i, f, a, cell, h1, h2, h3, h4, h5, h6, h7, h8, h9, fun z => h10 (hAB _ z)⟩
theorem vx_L.word {C n d : String} {A : Nat → Prop} {s : State} {args : Array Value} (h : vx_L C n d A s s.heap) : (Cond.laysStatic C n d).before args s = true := by
  obtain ⟨c, k, i, f, a, cell, h1, h2, h3, h4, h5, h6, h7, h8, h9, -⟩ := h
  show (Cond.laysStatic C n d).holds args s none s [] = true
  exact Cond.laysStatic_of h1 h2 h3 h4 h5 h6 h7 h8 h9
/-- .. and what it holds: null or some reference -/
def vx_Zq (C n d : String) (A : Nat → Prop) (U : State) (H : Heap) : Prop := va_Zq C n d A U H ∧ vx_L C n d A U H
theorem vx_Zq.moved {C n d : String} {A : Nat → Prop} {u U : State} {H : Heap} (hvm : u.vm.Alike U.vm) (h : vx_Zq C n d A u H) : vx_Zq C n d A U H := ⟨va_Zq.moved hvm h.1, vx_L.moved hvm h.2⟩
theorem vx_Zq.kept {C n d : String} {A : Nat → Prop} {U : State} {H H1 : Heap} (h : vx_Zq C n d A U H) (hq : ∀ a : Nat, a < H.size → ¬ A a → H1[a]? = H[a]?) : vx_Zq C n d A U H1 := ⟨va_Zq.kept h.1 hq, vx_L.kept h.2 hq⟩
theorem vx_Zq.narrow {C n d : String} {A B : Nat → Prop} {U : State} {H : Heap} (h : vx_Zq C n d A U H) (hAB : ∀ q, B q → A q) : vx_Zq C n d B U H := ⟨va_Zq.narrow h.1 hAB, vx_L.narrow h.2 hAB⟩
theorem vx_Zqof {args : Array Value} {s : State} {C n d : String} {A : Nat → Prop} (hl : (Cond.laysStatic C n d).before args s = true) (hini : (Cond.initialized C).before args s = true) (h : (Cond.isRef (.static C n d)).before args s = true) (hA : ∀ a : Nat, a < s.heap.size → ¬ A a) : vx_Zq C n d A s s.heap := by
  refine ⟨va_Zqof hl hini h hA, ?_⟩
  obtain ⟨c, k, i, f, a, cell, h1, h2, h3, h4, h5, h6, h7, h8, h9⟩ := Cond.laysStatic_spec hl
  exact ⟨c, k, i, f, a, cell, h1, h2, h3, h4, h5, h6, h7, h8, h9, hA a (Array.getElem?_eq_some_iff.mp h5).1⟩
theorem vx_isRef {C n d : String} {v : Value} {A : Nat → Prop} {s : State} {args : Array Value} (h : va_Z C n d v A s s.heap) (hv : v.isRef = true) : (Cond.isRef (.static C n d)).before args s = true := by
  obtain ⟨cf, kf, fi, f, a, cell, h1, h2, h3, h4, h5, h6, h7, -⟩ := h
  have he : (Term.static C n d).eval args s none [] s = some v := by
    simp [Term.eval, State.fieldNamed?, h1, h2, h4, h5, h6, h7]
  simp only [Cond.before, Cond.holds, Cond.value, he]
  cases v <;> simp_all [Value.isRef]
theorem vx_isRefq {C n d : String} {A : Nat → Prop} {s : State} {args : Array Value} (h : va_Zq C n d A s s.heap) : (Cond.isRef (.static C n d)).before args s = true := by
  rcases h with h | ⟨t, h⟩
  · exact vx_isRef h rfl
  · exact vx_isRef h rfl
/-- the same frame, seen from here: as if the method were called anew in this heap -/
theorem vx_rebase {T : State} (X : Stand p l e R s m args below meth c T locs cells slots) {R' : Room} (hf : R'.frames ≤ R.frames) (hl : R'.locals ≤ R.locals) (hc : cells + R'.cells ≤ R.cells) (hs : slots + R'.slots ≤ R.slots) :
    Stand p l e R' ((T.setVm s.vm).setFrames (.invoking m args :: below)) m args below meth c T [] 0 0 := by
  have htop : (T.setVm s.vm).topJava?.isSome := X.here.top
  have hF : ((T.setVm s.vm).setFrames (.invoking m args :: below)).frames = .invoking m args :: below := State.frames_setFrames _ (State.cur_lt_of_top htop)
  obtain ⟨g₀, hg0⟩ := Option.isSome_iff_exists.mp htop
  obtain ⟨r, hr⟩ := State.topJava?_eq_some.mp hg0
  have hl9 : e.platform.stackLimits (T.setVm s.vm).me = e.platform.stackLimits s.me := X.limits
  have hb9 : (T.setVm s.vm).me.stackBytes = s.me.stackBytes := X.bytes
  refine ⟨X.admits, X.cas, X.clock, hF, ?_, X.hears, X.method, X.code, X.here, X.tail, X.warmed, ?_, ?_, ?_⟩
  · have h := X.room
    have hU : ((T.setVm s.vm).setFrames (.invoking m args :: below)).localsInUse = s.localsInUse := by
      rw [State.localsInUse_invoking hF (meth := meth) (c := c) X.method X.code, State.localsInUse_invoking X.frames X.method X.code]
    simp only [State.hasRoom, Bool.and_eq_true, decide_eq_true_eq] at h ⊢
    obtain ⟨⟨⟨⟨h1, h2, h3, h4, h5, h6⟩, h7⟩, h8⟩, h9⟩ := h
    rw [X.frames, List.length_cons] at h2 h3
    have q1 := X.heapSize
    have q2 := X.used
    simp only [hF, hU, List.length_cons, State.stackLimits_setFrames, State.stackBytes_setFrames, hl9, hb9]
    refine ⟨⟨⟨⟨by omega, by omega, by omega, by omega, by omega, h6⟩, ?_⟩, ?_⟩, X.book⟩
    · show T.heap.size + R'.cells ≤ e.platform.maxCells
      omega
    · show T.slotsUsed + R'.slots ≤ e.platform.maxSlots
      omega
  · rw [State.stackLimits_setFrames]; rfl
  · rw [State.stackBytes_setFrames]; rfl
  · refine ⟨?_, Nat.le_refl _, Nat.le_refl _, ?_, ?_, fun a c9 h9 => ⟨c9, h9, rfl, rfl, fun _ _ => rfl⟩⟩
    · obtain ⟨t, ht, -⟩ := State.frames_cons hr
      show T.setVm s.vm = { ((T.setVm s.vm).setFrames (.invoking m args :: below)).setFrames (T.setVm s.vm).frames with heap := T.heap, slotsUsed := T.slotsUsed }
      rw [State.setFrames_setFrames, State.setFrames_self ht]
      rfl
    · show T.slotsUsed = T.slotsUsed + ((T.heap.toList.drop T.heap.size).map (·.slots.size)).sum
      rw [List.drop_eq_nil_of_le (Nat.le_of_eq Array.length_toList)]
      rfl
    · show ((T.heap.toList.drop T.heap.size).map (·.slots.size)).sum ≤ 0
      rw [List.drop_eq_nil_of_le (Nat.le_of_eq Array.length_toList)]
      exact Nat.le_refl _
/-- 'throw new E()': new; dup; invokespecial; athrow -/
theorem vx_throw0 {cc : ByteArray} {pc : Nat} (hexec : p.tables.exec = Jvm.exec) (hb : c.code = cc) (hl : l.stackTraces = false) {own cls : String} {names : List String} {ik ic mc ms : Nat} {A : Nat → Prop}
    (hown : s.vm.findClass own = some m.cls) (hcls : Bundle.fit cls = true) (hnames : ∀ n ∈ names, Bundle.fit n = true)
    (hk : (Cond.classLink own ik cls).before args s = true) (hini : (Cond.initialized cls).before args s = true) (hat : ∀ w ∈ vx_at0 own ic cls names, w.before args s = true)
    (hgood : ∀ w ∈ Cond.classLink own ik cls :: Cond.initialized cls :: vx_at0 own ic cls names, vx_ot w = true)
    (hU : vx_Zq Bundle.tN "UNASSIGNED_STACK" Bundle.steD A s s.heap) (hN : vx_Zq Bundle.tN "SUPPRESSED_SENTINEL" Bundle.listD A s s.heap) (hS : va_S A s.heap H locs) (hsize : ls.size = c.maxLocals)
    (d0 : decode cc pc = .ok (.new ik, 3)) (d3 : decode cc (pc + 3) = .ok (.dup, 1)) (d4 : decode cc (pc + 4) = .ok (.invokespecial ic, 3)) (d7 : decode cc (pc + 7) = .ok (.athrow, 1))
    (hout : ∀ x ∈ c.exceptionTable.toList, covers x (pc + 7) = false)
    (hRframes : names.length + 3 < R.frames) (hRlocals : (rest.map fun v => v.category).sum + (13 * (names.length + 1) + 42) ≤ R.locals) (hRcells : cells + 1 ≤ R.cells) (hRslots : slots + 6 ≤ R.slots) (hlocks : meth.locks = false)
    (hx : ∀ t : State, s.vm.Alike t.vm → H.size ≤ t.heap.size → (∀ q : Nat, q < H.size → t.heap[q]? = H[q]?) → XC cls s t)
    (hf : ∀ z ∈ locs, free z.base) (hc : cells + 1 ≤ mc) (hs : slots + 6 ≤ ms) :
    W p l e R s m args below meth c H locs cells slots (vx_MQ below Qc XC args s mc ms free) (F0 m pc ls rest) := by
  intro T hT X
  have htr : e.platform.stackTraces = false := (show e.platform.stackTraces = l.stackTraces by rw [X.admits.platform]).trans hl
  have Y := vx_rebase X (R' := { frames := R.frames, locals := R.locals, cells := 1, slots := 6 }) (Nat.le_refl _) (Nat.le_refl _) hRcells hRslots
  obtain ⟨s', hA⟩ : ∃ z, z = (T.setVm s.vm).setFrames (.invoking m args :: below) := ⟨_, rfl⟩
  rw [← hA] at Y
  have hvm : s'.vm = s.vm := by rw [hA]; rfl
  have hhp : s'.heap = H := by rw [hA]; exact hT
  have hW0 : s.WarmedH s'.vm := by rw [hvm]; exact State.WarmedH.refl s
  have hat' : ∀ w ∈ vx_at0 own ic cls names, w.before args s' = true := fun w hw => vx_ot_at hW0 hvm.symm (hgood w (List.mem_cons_of_mem _ (List.mem_cons_of_mem _ hw))) (hat w hw)
  have hk' : (Cond.classLink own ik cls).before args s' = true := vx_ot_at hW0 hvm.symm (hgood _ List.mem_cons_self) hk
  have hini' : (Cond.initialized cls).before args s' = true := vx_ot_at hW0 hvm.symm (hgood _ (List.mem_cons_of_mem _ List.mem_cons_self)) hini
  have hU' : vx_Zq Bundle.tN "UNASSIGNED_STACK" Bundle.steD A s' s'.heap := by rw [hhp]; exact vx_Zq.moved hW0.alike (hU.kept hS.2.1)
  have hN' : vx_Zq Bundle.tN "SUPPRESSED_SENTINEL" Bundle.listD A s' s'.heap := by rw [hhp]; exact vx_Zq.moved hW0.alike (hN.kept hS.2.1)
  have h : ∀ w ∈ Bundle.ownAtoms0 own ic cls names, w.before args s' = true := vx_own hat' (vx_isRefq hU'.1) (vx_isRefq hN'.1) hU'.2.word hN'.2.word
  have hown' : s'.vm.findClass own = some m.cls := by rw [hvm]; exact hown
  have hins : (Cond.instantiable cls 6).before args s' = true := h _ (by simp [Bundle.ownAtoms0])
  obtain ⟨vm₁, cX, kX, hfX, hkX, -, -, X₁, st1⟩ := Y.newCold hexec (own := own) (C := cls) (index := ik) (n := 6) hown' hk' hins hini'
    (g := F0 m pc ls rest) rfl (by rw [hb]; exact d0) (Nat.le_refl _) (Nat.le_refl _)
  generalize hT1 : (T.setVm vm₁).pushCell { cls := cX, slots := kX.instanceTypes.map defaultValue, vm := .none } = T1 at X₁ st1
  have hcat : (Value.ref T.heap.size).category = 1 := rfl
  have hcellA : T1.heap[T.heap.size]? = some (freshCell cX kX) := by rw [← hT1]; exact State.heap_pushCell_size _ _
  have d3' : decode c.code (pc + 3) = .ok (.dup, 1) := by rw [hb]; exact d3
  obtain ⟨U, hsteps, hrun, hend, hW, hsame, ce, hce, hO⟩ := X₁.ctorThrow0 hexec htr (own := own) (cls := cls) (names := names) (ic := ic) hown' hcls hnames h (fun x hx => nomatch hx) hfX hkX hcellA (by rw [hhp, hT]; exact Nat.le_refl _)
    (g := { method := m, pc := pc + 4, locals := ls, stack := .ref T.heap.size :: .ref T.heap.size :: rest, locked := none }) rfl hsize rfl rfl (rest := rest) rfl
    (by rw [hb]; exact d4) (by rw [hb]; exact d7) hout hRframes (by simp only [List.map_cons, List.sum_cons, hcat]; omega) hlocks
  obtain ⟨f1, f2⟩ := vx_frame hsame
  rw [hhp] at f1 f2
  have hWs : s.WarmedH U.vm := State.WarmedH.trans hW0 hW
  have hcl : s.vm.findClass cls = some ce.cls := by
    have h9 := hO.cls
    rw [hvm] at h9
    exact h9
  have hall : s.sameButNew ({ U with vm := s.vm } : State) locs mc ms := by
    subst hA
    obtain ⟨e1, e2⟩ := hsame
    rw [State.setFrames_setFrames] at e1
    have h2 : (T.setVm s.vm).sameButNew ({ U with vm := s.vm } : State) [] (0 + 1) (0 + 6) := ⟨e1, e2⟩
    have h3 := X.same.trans h2
    rw [List.append_nil] at h3
    exact h3.mono hc hs
  refine ⟨U, ?_, .threw T.heap.size, hrun, hend, Or.inr ⟨T.heap.size, rfl, cls, ce, locs, hx U hWs.alike f1 (fun q hq => f2 q hq (fun z hz => nomatch hz)), hce, hO.vm, hcl, hWs, hall, hf⟩⟩
  refine st1 _ ?_
  show Steps p.tables e below (T1.setTop { method := m, pc := pc + 3, locals := ls, stack := .ref T.heap.size :: rest, locked := none }) _
  jvm_step X₁.here [X₁.here.top, hexec, d3', Value.category]
  exact hsteps
/-- 'throw new E("text")': new; dup; ldc; invokespecial; athrow -/
theorem vx_throwS {cc : ByteArray} {pc : Nat} (hexec : p.tables.exec = Jvm.exec) (hb : c.code = cc) (hl : l.stackTraces = false) {own cls text : String} {names : List String} {ik is ic mc ms sa : Nat} {A : Nat → Prop}
    (hown : s.vm.findClass own = some m.cls) (hcls : Bundle.fit cls = true) (hnames : ∀ n ∈ names, Bundle.fit n = true)
    (hk : (Cond.classLink own ik cls).before args s = true) (hini : (Cond.initialized cls).before args s = true) (hstr : vk_R own is text sa s) (hat : ∀ w ∈ vx_atS own ic cls names, w.before args s = true)
    (hgood : ∀ w ∈ Cond.classLink own ik cls :: Cond.initialized cls :: vx_atS own ic cls names, vx_ot w = true)
    (hU : vx_Zq Bundle.tN "UNASSIGNED_STACK" Bundle.steD A s s.heap) (hN : vx_Zq Bundle.tN "SUPPRESSED_SENTINEL" Bundle.listD A s s.heap) (hS : va_S A s.heap H locs) (hsize : ls.size = c.maxLocals)
    (d0 : decode cc pc = .ok (.new ik, 3)) (d3 : decode cc (pc + 3) = .ok (.dup, 1)) (d4 : decode cc (pc + 4) = .ok (.ldc is, 2)) (d6 : decode cc (pc + 6) = .ok (.invokespecial ic, 3)) (d9 : decode cc (pc + 9) = .ok (.athrow, 1))
    (hout : ∀ x ∈ c.exceptionTable.toList, covers x (pc + 9) = false)
    (hRframes : names.length + 3 < R.frames) (hRlocals : (rest.map fun v => v.category).sum + (13 * (names.length + 1) + 43) ≤ R.locals) (hRcells : cells + 1 ≤ R.cells) (hRslots : slots + 6 ≤ R.slots) (hlocks : meth.locks = false)
    (hx : ∀ t : State, s.vm.Alike t.vm → H.size ≤ t.heap.size → (∀ q : Nat, q < H.size → t.heap[q]? = H[q]?) → XC cls s t)
    (hf : ∀ z ∈ locs, free z.base) (hc : cells + 1 ≤ mc) (hs : slots + 6 ≤ ms) :
    W p l e R s m args below meth c H locs cells slots (vx_MQ below Qc XC args s mc ms free) (F0 m pc ls rest) := by
  intro T hT X
  have htr : e.platform.stackTraces = false := (show e.platform.stackTraces = l.stackTraces by rw [X.admits.platform]).trans hl
  have Y := vx_rebase X (R' := { frames := R.frames, locals := R.locals, cells := 1, slots := 6 }) (Nat.le_refl _) (Nat.le_refl _) hRcells hRslots
  obtain ⟨s', hA⟩ : ∃ z, z = (T.setVm s.vm).setFrames (.invoking m args :: below) := ⟨_, rfl⟩
  rw [← hA] at Y
  have hvm : s'.vm = s.vm := by rw [hA]; rfl
  have hhp : s'.heap = H := by rw [hA]; exact hT
  have hW0 : s.WarmedH s'.vm := by rw [hvm]; exact State.WarmedH.refl s
  have hat' : ∀ w ∈ vx_atS own ic cls names, w.before args s' = true := fun w hw => vx_ot_at hW0 hvm.symm (hgood w (List.mem_cons_of_mem _ (List.mem_cons_of_mem _ hw))) (hat w hw)
  have hk' : (Cond.classLink own ik cls).before args s' = true := vx_ot_at hW0 hvm.symm (hgood _ List.mem_cons_self) hk
  have hini' : (Cond.initialized cls).before args s' = true := vx_ot_at hW0 hvm.symm (hgood _ (List.mem_cons_of_mem _ List.mem_cons_self)) hini
  have hU' : vx_Zq Bundle.tN "UNASSIGNED_STACK" Bundle.steD A s' s'.heap := by rw [hhp]; exact vx_Zq.moved hW0.alike (hU.kept hS.2.1)
  have hN' : vx_Zq Bundle.tN "SUPPRESSED_SENTINEL" Bundle.listD A s' s'.heap := by rw [hhp]; exact vx_Zq.moved hW0.alike (hN.kept hS.2.1)
  have h : ∀ w ∈ Bundle.ownAtoms own ic cls names, w.before args s' = true := vx_own hat' (vx_isRefq hU'.1) (vx_isRefq hN'.1) hU'.2.word hN'.2.word
  have hown' : s'.vm.findClass own = some m.cls := by rw [hvm]; exact hown
  have hins : (Cond.instantiable cls 6).before args s' = true := h _ (by simp [Bundle.ownAtoms])
  obtain ⟨vm₁, cX, kX, hfX, hkX, -, -, X₁, st1⟩ := Y.newCold hexec (own := own) (C := cls) (index := ik) (n := 6) hown' hk' hins hini'
    (g := F0 m pc ls rest) rfl (by rw [hb]; exact d0) (Nat.le_refl _) (Nat.le_refl _)
  generalize hT1 : (T.setVm vm₁).pushCell { cls := cX, slots := kX.instanceTypes.map defaultValue, vm := .none } = T1 at X₁ st1
  have hcat : (Value.ref T.heap.size).category = 1 := rfl
  have hcellA : T1.heap[T.heap.size]? = some (freshCell cX kX) := by rw [← hT1]; exact State.heap_pushCell_size _ _
  have d3' : decode c.code (pc + 3) = .ok (.dup, 1) := by rw [hb]; exact d3
  have d4' : decode c.code (pc + 4) = .ok (.ldc is, 2) := by rw [hb]; exact d4
  have hstr' : vk_R own is text sa s' := vk_R.warm hW0 hstr
  obtain ⟨U, hsteps, hrun, hend, hW, hsame, ce, hce, hO⟩ := X₁.ctorThrowS hexec htr (own := own) (cls := cls) (names := names) (ic := ic) hown' hcls hnames h (fun x hx => nomatch hx) hfX hkX hcellA (by rw [hhp, hT]; exact Nat.le_refl _) (msg := .ref sa) rfl
    (g := { method := m, pc := pc + 6, locals := ls, stack := .ref sa :: .ref T.heap.size :: .ref T.heap.size :: rest, locked := none }) rfl hsize rfl rfl (rest := rest) rfl
    (by rw [hb]; exact d6) (by rw [hb]; exact d9) hout hRframes (by simp only [List.map_cons, List.sum_cons, hcat]; omega) hlocks
  obtain ⟨f1, f2⟩ := vx_frame hsame
  rw [hhp] at f1 f2
  have hWs : s.WarmedH U.vm := State.WarmedH.trans hW0 hW
  have hcl : s.vm.findClass cls = some ce.cls := by
    have h9 := hO.cls
    rw [hvm] at h9
    exact h9
  have hall : s.sameButNew ({ U with vm := s.vm } : State) locs mc ms := by
    subst hA
    obtain ⟨e1, e2⟩ := hsame
    rw [State.setFrames_setFrames] at e1
    have h2 : (T.setVm s.vm).sameButNew ({ U with vm := s.vm } : State) [] (0 + 1) (0 + 6) := ⟨e1, e2⟩
    have h3 := X.same.trans h2
    rw [List.append_nil] at h3
    exact h3.mono hc hs
  refine ⟨U, ?_, .threw T.heap.size, hrun, hend, Or.inr ⟨T.heap.size, rfl, cls, ce, locs, hx U hWs.alike f1 (fun q hq => f2 q hq (fun z hz => nomatch hz)), hce, hO.vm, hcl, hWs, hall, hf⟩⟩
  refine st1 _ ?_
  show Steps p.tables e below (T1.setTop { method := m, pc := pc + 3, locals := ls, stack := .ref T.heap.size :: rest, locked := none }) _
  jvm_step X₁.here [X₁.here.top, hexec, d3', Value.category]
  exact X₁.ldcString hexec (own := own) (text := text) (index := is) (a := sa) hown' hstr'.1 hstr'.2
    (g := { method := m, pc := pc + 4, locals := ls, stack := .ref T.heap.size :: .ref T.heap.size :: rest, locked := none }) rfl d4' _ hsteps
/-- 'throw new E("text")', the text by a wide index -/
theorem vx_throwSW {cc : ByteArray} {pc : Nat} (hexec : p.tables.exec = Jvm.exec) (hb : c.code = cc) (hl : l.stackTraces = false) {own cls text : String} {names : List String} {ik is ic mc ms sa : Nat} {A : Nat → Prop}
    (hown : s.vm.findClass own = some m.cls) (hcls : Bundle.fit cls = true) (hnames : ∀ n ∈ names, Bundle.fit n = true)
    (hk : (Cond.classLink own ik cls).before args s = true) (hini : (Cond.initialized cls).before args s = true) (hstr : vk_R own is text sa s) (hat : ∀ w ∈ vx_atS own ic cls names, w.before args s = true)
    (hgood : ∀ w ∈ Cond.classLink own ik cls :: Cond.initialized cls :: vx_atS own ic cls names, vx_ot w = true)
    (hU : vx_Zq Bundle.tN "UNASSIGNED_STACK" Bundle.steD A s s.heap) (hN : vx_Zq Bundle.tN "SUPPRESSED_SENTINEL" Bundle.listD A s s.heap) (hS : va_S A s.heap H locs) (hsize : ls.size = c.maxLocals)
    (d0 : decode cc pc = .ok (.new ik, 3)) (d3 : decode cc (pc + 3) = .ok (.dup, 1)) (d4 : decode cc (pc + 4) = .ok (.ldc_w is, 3)) (d7 : decode cc (pc + 7) = .ok (.invokespecial ic, 3)) (d10 : decode cc (pc + 10) = .ok (.athrow, 1))
    (hout : ∀ x ∈ c.exceptionTable.toList, covers x (pc + 10) = false)
    (hRframes : names.length + 3 < R.frames) (hRlocals : (rest.map fun v => v.category).sum + (13 * (names.length + 1) + 43) ≤ R.locals) (hRcells : cells + 1 ≤ R.cells) (hRslots : slots + 6 ≤ R.slots) (hlocks : meth.locks = false)
    (hx : ∀ t : State, s.vm.Alike t.vm → H.size ≤ t.heap.size → (∀ q : Nat, q < H.size → t.heap[q]? = H[q]?) → XC cls s t)
    (hf : ∀ z ∈ locs, free z.base) (hc : cells + 1 ≤ mc) (hs : slots + 6 ≤ ms) :
    W p l e R s m args below meth c H locs cells slots (vx_MQ below Qc XC args s mc ms free) (F0 m pc ls rest) := by
  intro T hT X
  have htr : e.platform.stackTraces = false := (show e.platform.stackTraces = l.stackTraces by rw [X.admits.platform]).trans hl
  have Y := vx_rebase X (R' := { frames := R.frames, locals := R.locals, cells := 1, slots := 6 }) (Nat.le_refl _) (Nat.le_refl _) hRcells hRslots
  obtain ⟨s', hA⟩ : ∃ z, z = (T.setVm s.vm).setFrames (.invoking m args :: below) := ⟨_, rfl⟩
  rw [← hA] at Y
  have hvm : s'.vm = s.vm := by rw [hA]; rfl
  have hhp : s'.heap = H := by rw [hA]; exact hT
  have hW0 : s.WarmedH s'.vm := by rw [hvm]; exact State.WarmedH.refl s
  have hat' : ∀ w ∈ vx_atS own ic cls names, w.before args s' = true := fun w hw => vx_ot_at hW0 hvm.symm (hgood w (List.mem_cons_of_mem _ (List.mem_cons_of_mem _ hw))) (hat w hw)
  have hk' : (Cond.classLink own ik cls).before args s' = true := vx_ot_at hW0 hvm.symm (hgood _ List.mem_cons_self) hk
  have hini' : (Cond.initialized cls).before args s' = true := vx_ot_at hW0 hvm.symm (hgood _ (List.mem_cons_of_mem _ List.mem_cons_self)) hini
  have hU' : vx_Zq Bundle.tN "UNASSIGNED_STACK" Bundle.steD A s' s'.heap := by rw [hhp]; exact vx_Zq.moved hW0.alike (hU.kept hS.2.1)
  have hN' : vx_Zq Bundle.tN "SUPPRESSED_SENTINEL" Bundle.listD A s' s'.heap := by rw [hhp]; exact vx_Zq.moved hW0.alike (hN.kept hS.2.1)
  have h : ∀ w ∈ Bundle.ownAtoms own ic cls names, w.before args s' = true := vx_own hat' (vx_isRefq hU'.1) (vx_isRefq hN'.1) hU'.2.word hN'.2.word
  have hown' : s'.vm.findClass own = some m.cls := by rw [hvm]; exact hown
  have hins : (Cond.instantiable cls 6).before args s' = true := h _ (by simp [Bundle.ownAtoms])
  obtain ⟨vm₁, cX, kX, hfX, hkX, -, -, X₁, st1⟩ := Y.newCold hexec (own := own) (C := cls) (index := ik) (n := 6) hown' hk' hins hini'
    (g := F0 m pc ls rest) rfl (by rw [hb]; exact d0) (Nat.le_refl _) (Nat.le_refl _)
  generalize hT1 : (T.setVm vm₁).pushCell { cls := cX, slots := kX.instanceTypes.map defaultValue, vm := .none } = T1 at X₁ st1
  have hcat : (Value.ref T.heap.size).category = 1 := rfl
  have hcellA : T1.heap[T.heap.size]? = some (freshCell cX kX) := by rw [← hT1]; exact State.heap_pushCell_size _ _
  have d3' : decode c.code (pc + 3) = .ok (.dup, 1) := by rw [hb]; exact d3
  have d4' : decode c.code (pc + 4) = .ok (.ldc_w is, 3) := by rw [hb]; exact d4
  have hstr' : vk_R own is text sa s' := vk_R.warm hW0 hstr
  obtain ⟨U, hsteps, hrun, hend, hW, hsame, ce, hce, hO⟩ := X₁.ctorThrowS hexec htr (own := own) (cls := cls) (names := names) (ic := ic) hown' hcls hnames h (fun x hx => nomatch hx) hfX hkX hcellA (by rw [hhp, hT]; exact Nat.le_refl _) (msg := .ref sa) rfl
    (g := { method := m, pc := pc + 7, locals := ls, stack := .ref sa :: .ref T.heap.size :: .ref T.heap.size :: rest, locked := none }) rfl hsize rfl rfl (rest := rest) rfl
    (by rw [hb]; exact d7) (by rw [hb]; exact d10) hout hRframes (by simp only [List.map_cons, List.sum_cons, hcat]; omega) hlocks
  obtain ⟨f1, f2⟩ := vx_frame hsame
  rw [hhp] at f1 f2
  have hWs : s.WarmedH U.vm := State.WarmedH.trans hW0 hW
  have hcl : s.vm.findClass cls = some ce.cls := by
    have h9 := hO.cls
    rw [hvm] at h9
    exact h9
  have hall : s.sameButNew ({ U with vm := s.vm } : State) locs mc ms := by
    subst hA
    obtain ⟨e1, e2⟩ := hsame
    rw [State.setFrames_setFrames] at e1
    have h2 : (T.setVm s.vm).sameButNew ({ U with vm := s.vm } : State) [] (0 + 1) (0 + 6) := ⟨e1, e2⟩
    have h3 := X.same.trans h2
    rw [List.append_nil] at h3
    exact h3.mono hc hs
  refine ⟨U, ?_, .threw T.heap.size, hrun, hend, Or.inr ⟨T.heap.size, rfl, cls, ce, locs, hx U hWs.alike f1 (fun q hq => f2 q hq (fun z hz => nomatch hz)), hce, hO.vm, hcl, hWs, hall, hf⟩⟩
  refine st1 _ ?_
  show Steps p.tables e below (T1.setTop { method := m, pc := pc + 3, locals := ls, stack := .ref T.heap.size :: rest, locked := none }) _
  jvm_step X₁.here [X₁.here.top, hexec, d3', Value.category]
  exact X₁.ldcStringW hexec (own := own) (text := text) (index := is) (a := sa) hown' hstr'.1 hstr'.2
    (g := { method := m, pc := pc + 4, locals := ls, stack := .ref T.heap.size :: .ref T.heap.size :: rest, locked := none }) rfl d4' _ hsteps
end Ends
section Bodies
variable {l : Launch}
theorem vx_ofW {y : MethodName} {ws ws' : List Cond} {rm : Room} {Pc : Array Value → State → Prop} {Qc : Array Value → State → Outcome → State → Prop} {XC : String → State → State → Prop} {mc ms : Nat} {free : Addr → Prop} {cc : ByteArray} {maxL : Nat} {ret : Option FieldType}
    (hy : plainName y.cls = true) (hw : ws = Cond.code y cc maxL ret :: ws')
    (body : ∀ p e s m args below meth c s₁, BodyLoose p l y (headSpec ws rm) cc maxL ret e s m args below meth c s₁ → c.maxLocals = maxL → (∀ x ∈ c.exceptionTable.toList, False) → Pc args s →
      W p l e (headSpec ws rm).room s m args below meth c s.heap [] 0 0 (vx_MQ below Qc XC args s mc ms free) (entryFrame m args maxL)) : vx_Met l y ws rm Pc Qc XC mc ms free := by
  refine MetFree.of_bodyS (code := cc) (maxLocals := maxL) (ret := ret) hy ?_ ?_
  · intro args s m h hn
    obtain ⟨meth, c, h1, h2, h3, h4, h5, h6, -, -⟩ := Cond.code_spec hn (atoms_spec (ws := ws) h _ (by rw [hw]; exact List.mem_cons_self))
    exact ⟨meth, c, h1, h2, h3, h4, h5, h6⟩
  · intro p e s m args below meth c s₁ B hml hP _
    have hh0 : s₁.heap = s.heap := by rw [B.state]; rfl
    have ht : ∀ x ∈ c.exceptionTable.toList, False := by
      obtain ⟨meth9, c9, h1, h2, -, -, -, -, h7, -⟩ := Cond.code_spec B.named (atoms_spec (ws := ws) B.pre _ (by rw [hw]; exact List.mem_cons_self))
      cases Option.some.inj (h1.symm.trans B.method)
      cases Option.some.inj (h2.symm.trans (Stand.of_body B).code)
      intro x hx
      rw [Array.isEmpty_iff.mp h7] at hx
      cases hx
    obtain ⟨t, a1, o, b1, b2, b3⟩ := body p e s m args below meth c s₁ B hml ht hP s₁ hh0 (Stand.of_body B)
    exact ⟨t, o, a1, b1, b2, b3⟩
/-- the table of a body with handlers -/
theorem vx_table {p : Program} {x y : MethodName} {S : Spec} {cc bytes : ByteArray} {maxL maxL' : Nat} {ret ret' : Option FieldType} {e : Env} {s s₁ : State} {m : MethodId} {args : Array Value} {below : List Frame} {meth : Method} {c : Code} {hh : List (Nat × Nat × Nat × Nat)}
    (B : BodyLoose p l y S cc maxL ret e s m args below meth c s₁) (h : (Cond.codeWith y bytes maxL' ret' hh).before args s = true) : c.exceptionTable.toList = tableOf hh := by
  obtain ⟨m9, meth9, c9, hn9, h1, h2, -, -, h6, -⟩ := Cond.codeWith_spec h
  cases Option.some.inj (hn9.symm.trans B.named)
  cases Option.some.inj (h1.symm.trans B.method)
  cases Option.some.inj (h2.symm.trans (Stand.of_body B).code)
  rw [← h6, table_eq]
end Bodies
end VXA
/-! ===== END ===== -/
/-! ===== BEGIN a static call of a method with an exception table ===== -/
section VXS
variable {p : Program} {l : Launch} {e : Env} {R : Room} {s : State} {m : MethodId} {args : Array Value} {below : List Frame} {meth : Method} {c : Code} {T : State} {H : Heap} {locs : List Loc} {cells slots : Nat}
abbrev vx_CSW (R : Room) (s : State) (args : Array Value) (own : String) (index : Nat) (y : MethodName) (bytes : ByteArray) (maxL : Nat) (ret : Option FieldType) (hh : List (Nat × Nat × Nat × Nat)) (ws : List Cond) (rm : Room) (mc ms n : Nat) : Prop :=
  (rm.cells = mc ∧ rm.slots = ms ∧ rm.frames + 1 ≤ R.frames ∧ 8 + (maxL + 11) + rm.locals ≤ R.locals ∧ (∀ w ∈ ws, ∀ (a' : Array Value) (U : State), s.WarmedH U.vm → w.before a' U = true) ∧ Cond.codeWith y bytes maxL ret hh ∈ ws) ∧
  (Cond.codeWith y bytes maxL ret hh).before args s = true ∧ (Cond.initialized y.cls).before args s = true ∧ (y.cls ≠ "java/lang/invoke/MethodHandle" ∧ y.cls ≠ "java/lang/invoke/VarHandle") ∧
  (∀ sig, parseMethodDescriptor y.desc = some sig → n = sig.parameters.length) ∧ (Cond.methodLink own index y).before args s = true ∧ (Cond.static y).before args s = true
theorem vx_cwSW {own : String} {index maxL mc ms : Nat} {y : MethodName} {bytes : ByteArray} {ret : Option FieldType} {hh : List (Nat × Nat × Nat × Nat)} {Ts ws ws' : List Cond} {rm : Room} (n : Nat) (ht : ∀ w ∈ Ts, w.before args s = true) (hT : GoodIn Ts (va_wsS own index y ws)) (hw : ws = Cond.codeWith y bytes maxL ret hh :: ws') (hrc : rm.cells = mc) (hrs : rm.slots = ms)
    (hd : y.cls ≠ "java/lang/invoke/MethodHandle" ∧ y.cls ≠ "java/lang/invoke/VarHandle" ∧ (parseMethodDescriptor y.desc).map (fun d => d.parameters.length) = some n) (hR : rm.frames + 1 ≤ R.frames ∧ 8 + (maxL + 11) + rm.locals ≤ R.locals) :
    vx_CSW R s args own index y bytes maxL ret hh ws rm mc ms n := by
  have ok : ∀ w ∈ va_wsS own index y ws, w.before args s = true := fun w h => ht w (hT w h).1
  have hG : GoodIn Ts ws := fun w h => hT w (by unfold va_wsS; exact List.mem_append_right _ h)
  have hc : Cond.codeWith y bytes maxL ret hh ∈ ws := by rw [hw]; exact List.mem_cons_self
  refine ⟨⟨hrc, hrs, hR.1, hR.2, pay_in ht hG, hc⟩, ht _ (hG _ hc).1, ok _ (by simp [va_wsS]), ⟨hd.1, hd.2.1⟩, fun sig h => ?_, ok _ (by simp [va_wsS]), ok _ (by simp [va_wsS])⟩
  have h2 := hd.2.2
  rw [h] at h2
  exact (Option.some.inj h2).symm
theorem vx_callSW (X : Stand p l e R s m args below meth c T locs cells slots) (hexec : p.tables.exec = Jvm.exec) {own : String} {index : Nat} {y : MethodName} {bytes : ByteArray} {maxL : Nat} {ret : Option FieldType} {hh : List (Nat × Nat × Nat × Nat)}
    (hown : s.vm.findClass own = some m.cls) (hlink : (Cond.methodLink own index y).before args s = true) (hstat : (Cond.static y).before args s = true) (hinit : (Cond.initialized y.cls).before args s = true)
    (hcode : (Cond.codeWith y bytes maxL ret hh).before args s = true) (hy : y.cls ≠ "java/lang/invoke/MethodHandle" ∧ y.cls ≠ "java/lang/invoke/VarHandle")
    {W9 : Nat} {Pre : Pt → Array Value → Prop} {Post : Pt → Array Value → Option Value → Pt → Prop} (hK : Back l R p e below s args y 3 W9 Pre Post)
    {g : JFrame} (hg : g.method = m) (hsize : g.locals.size = c.maxLocals) {argsL rest : List Value} (hlen : ∀ sig, parseMethodDescriptor y.desc = some sig → argsL.length = sig.parameters.length)
    (hstack : g.stack = argsL.reverse ++ rest) (hW : 2 * g.monitorRoom + (rest.map fun v => v.category).sum ≤ W9) (hdg : decode c.code g.pc = .ok (.invokestatic index, 3))
    (hpre : ∀ vm₁, s.WarmedH vm₁ → Pre ⟨T.setVm vm₁, locs, cells, slots⟩ argsL.toArray) :
    ∃ (v : Option Value) (vm₁ : Vm) (B : Pt), s.WarmedH vm₁ ∧ Stand p l e R s m args below meth c B.U B.locs B.cells B.slots ∧ Post ⟨T.setVm vm₁, locs, cells, slots⟩ argsL.toArray v B ∧
      ∀ target, Steps p.tables e below (B.U.setTop { g with pc := g.pc + 3, stack := v.toList ++ rest }) target → Steps p.tables e below (T.setTop g) target := by
  obtain ⟨mk, methM, cM, hnamed, hmethM, -, -, -, -, -, -, hsigM⟩ := Cond.codeWith_spec hcode
  have hstatic : methM.isStatic = true := Cond.static_spec hnamed hmethM hstat
  obtain ⟨kP, hkP, -⟩ := className_of_methodNamed hnamed
  have hinitP : kP.init = .initialized := Cond.initialized_spec (findClass_of_methodNamed hnamed) hkP hinit
  obtain ⟨vm₁, X₁, hstep₁⟩ := X.invokestatic hexec hown hlink hnamed hmethM hstatic hkP hinitP hy (g := g) hg (argsL := argsL) (rest := rest) (hlen _ hsigM) hstack hdg
  obtain ⟨v, B, X', hpost, hsteps⟩ := hK m meth c ⟨T.setVm vm₁, locs, cells, slots⟩ { g with stack := rest } (.invokestatic index) mk argsL.toArray X₁ hg hsize hdg hW (X₁.named hnamed) (hpre vm₁ X₁.warmed)
  exact ⟨v, vm₁, B, X₁.warmed, X', hpost, fun target h => hstep₁ _ fun acts => by rw [doInvoke_state]; exact hsteps.trans h⟩
theorem vx_runSW {y : MethodName} {bytes cc : ByteArray} {maxL nL mc ms n index : Nat} {ret : Option FieldType} {hh : List (Nat × Nat × Nat × Nat)} {ws : List Cond} {rm : Room} {Pc : Array Value → State → Prop} {Qc : Array Value → State → Outcome → State → Prop} {free : Addr → Prop} {Ts : List Cond} {own : String} {As rest : List Value} {g : JFrame}
    (S : CallFix p m c cc nL s args Ts own) (hM : Met l y ws rm Pc Qc mc ms free) (cw : vx_CSW R s args own index y bytes maxL ret hh ws rm mc ms n) (hp : PreS s H Pc As)
    (hg : g.method = m) (hn : As.length = n) (hsize : g.locals.size = nL) (hstack : g.stack = As.reverse ++ rest) (hW : 2 * g.monitorRoom + (rest.map fun v => v.category).sum ≤ 8) (hdg : decode cc g.pc = .ok (.invokestatic index, 3)) (hf : cells + mc ≤ R.cells ∧ slots + ms ≤ R.slots) :
    va_Run p l e R s m args below meth c H locs cells slots mc ms g rest (Qc As.toArray) (free) := by
  obtain ⟨⟨hrc, hrs, hfr, hlo, hws, hcw⟩, hcode, hini, hy, hlen, hl, hstt⟩ := cw
  have hK : Back l R p e below s args y 3 8 (PreOf R mc ms Pc) (PostOf Qc mc ms free) := va_backW (hh := hh) (bytes := bytes) (maxL := maxL) (ret := ret) hM hp.1 hrc hrs hfr hlo hws hcw (fun a' U hW => word_at hW (Or.inl (by first | rfl | simp [Cond.onTables, Cond.keeps, Cond.steady])) hini)
  obtain ⟨hx, hb, hml, ho, -⟩ := S
  intro T hT X
  obtain ⟨v, vm₁, ⟨U', l2, c2, s2⟩, hW₁, X', ⟨g', mk, t, L, e1, e2, hq, h1, hL, h2, h3⟩, st⟩ := vx_callSW X hx (hh := hh) (bytes := bytes) (maxL := maxL) (ret := ret) ho hl hstt hini hcode hy hK hg (hsize.trans hml.symm) (argsL := As) (rest := rest) (fun sig h => hn.trans (hlen sig h)) hstack hW (by rw [hb]; exact hdg)
    (fun vm₁ hW₁ => ⟨hf.1, hf.2, hp.2 (T.setVm vm₁) hT hW₁⟩)
  dsimp only [Pt.U, Pt.locs, Pt.cells, Pt.slots] at X' e1 e2 h1 h2 h3 st
  subst h1; subst h2; subst h3
  exact ⟨v, (T.setVm vm₁).calling g' mk As.toArray, t, U', L, hT, X', hL, e1, e2, hq, st⟩
/-- not caught here, past rows that name other classes: it goes on to the caller -/
theorem vx_outP {p : Program} {l : Launch} {e : Env} {R : Room} {s : State} {m : MethodId} {args : Array Value} {below : List Frame} {meth : Method} {c : Code} {H : Heap} {locs : List Loc} {cells slots : Nat} {free : Addr → Prop} {ls : Array Slot} {rest : List Value} {Qc : Array Value → State → Outcome → State → Prop} {XC : String → State → State → Prop}
    {pc : Nat} {own E : String} {ce : Cell} {q : Addr} {mc ms : Nat} (hown : s.vm.findClass own = some m.cls) (hlocks : meth.locks = false)
    (hpass : ∀ z ∈ c.exceptionTable.toList, covers z pc = false ∨ (z.catchType ≠ 0 ∧ ∃ nm : String, (Cond.classLink own z.catchType nm).before args s = true ∧ va_Nc E nm s)) (hcell : H[q]? = some ce) (hv : ce.vm = .none) (hcl : s.vm.findClass E = some ce.cls)
    (hx : ∀ t : State, t.heap = H → s.vm.Alike t.vm → XC E s t) (hf : ∀ z ∈ locs, free z.base) (hc : cells ≤ mc) (hs : slots ≤ ms) :
    vx_W p l e R s m args below meth c H locs cells slots (vx_MQ below Qc XC args s mc ms free) (F0 m pc ls rest) q := by
  intro T hT X
  have hpl : e.platform.magicAccessors = ({} : Platform).magicAccessors := by rw [X.admits.platform]
  obtain ⟨vm', hW', X', st⟩ := X.outThrough hlocks q (g := F0 m pc ls rest) rfl rfl rfl (cell := ce) (by rw [hT]; exact hcell) (by rw [hv]; rfl)
    (by obtain ⟨k9, h9, -⟩ := Vm.findClass_spec hcl; exact ⟨k9, h9⟩) (fun z hz => by
      rcases hpass z hz with h | ⟨hz0, nm, hl1, hn1⟩
      · exact Or.inl h
      · obtain ⟨c6, hc6, hcl6⟩ := Cond.classLink_spec hown hl1 e.platform hpl
        obtain ⟨a8, b8, h1, h2, h3⟩ := hn1
        cases Option.some.inj (h1.symm.trans hcl)
        cases Option.some.inj (h2.symm.trans hc6)
        exact Or.inr ⟨hz0, _, hcl6, h3⟩)
  obtain ⟨g₀, hfr⟩ := X'.frames_eq
  have hcell9 : ((T.setVm vm').setFrames (.throwing q :: below)).heap[q]? = some ce := by
    show T.heap[q]? = some ce
    rw [hT]; exact hcell
  have hend : Ended ((T.setVm vm').setFrames (.throwing q :: below)) below (.threw q) := State.frames_setFrames _ (State.cur_lt_of_frames hfr)
  refine ⟨(T.setVm vm').setFrames (.throwing q :: below), ?_, .threw q, X'.here.running, hend, Or.inr ⟨q, rfl, E, ce, locs, hx _ hT (X'.ends _).1.alike, hcell9, hv, hcl, (X'.ends _).1, (X'.ends _).2.mono hc hs, hf⟩⟩
  rw [X.pushThrowing_eq]
  exact st
/-- a thing of a world lies in the heap -/
theorem vx_lt {D : va_G} {cl : List vw_C} {ws : va_W} {H1 : Heap} (h : va_P D cl ws H1) {k : Nat} {q : Nat × va_E} (hk : ws[k]? = some q) : q.1 < H1.size := (h k q hk).lt
end VXS
/-! ===== END ===== -/
/-! ===== BEGIN methods with a table of their own: called by a name, returning or throwing ===== -/
section VXH
/-! vx_backW, vx_callVX, vx_callSX, vx_callVW, vx_runVW, vx_runVX, vx_runSX, vx_ofWH follow the same proofs as their sisters above (Free/Laws.lean, Shelf42/LK1.lean); vx_outP calls Shelf42/NT130.lean (outThrough). -/
section
variable {l : Launch} {R : Room} {p : Program} {e : Env} {below : List Frame} {s : State} {sargs : Array Value} {y : MethodName} {len W9 : Nat}
theorem vx_backW {ws : List Cond} {rm : Room} {Pc : Array Value → State → Prop} {Qc : Array Value → State → Outcome → State → Prop} {XC : String → State → State → Prop} {mc ms : Nat} {free : Addr → Prop} {bytes : ByteArray} {maxL : Nat} {ret : Option FieldType} {hh : List (Nat × Nat × Nat × Nat)}
    (hM : vx_Met l y ws rm Pc Qc XC mc ms free) (hblind : FrameBlind Pc) (hrc : rm.cells = mc) (hrs : rm.slots = ms)
    (hframes : rm.frames + 1 ≤ R.frames) (hlocals : W9 + (maxL + 11) + rm.locals ≤ R.locals)
    (hws : ∀ w ∈ ws, ∀ a' U, s.WarmedH U.vm → w.before a' U = true) (hcode : Cond.codeWith y bytes maxL ret hh ∈ ws) (hinit : ∀ a' U, s.WarmedH U.vm → (Cond.initialized y.cls).before a' U = true) :
    vx_Back l R p e below s sargs y len W9 (PreOf R mc ms Pc) (PostOf Qc mc ms free) (vx_Post XC mc ms free) := by
  intro m meth c A g ig mk a X hg hsize hdg hW hn hp
  have h1 : (headSpec ws rm).pre.before a A.U = true := atoms_intro fun w hw => hws w hw _ _ X.warmed
  have h2 : (Cond.codeWith y bytes maxL ret hh).before a A.U = true := hws _ hcode _ _ X.warmed
  have h3 : (Cond.initialized y.cls).before a A.U = true := hinit _ _ X.warmed
  have h4 : A.cells + (headSpec ws rm).room.cells ≤ R.cells := by rw [show (headSpec ws rm).room.cells = mc from hrc]; exact hp.1
  have h5 : A.slots + (headSpec ws rm).room.slots ≤ R.slots := by rw [show (headSpec ws rm).room.slots = ms from hrs]; exact hp.2.1
  have hPc : Pc a (A.U.calling g mk a) := hblind _ _ _ _ hp.2.2
  obtain ⟨U, Ls, c0, s0⟩ := A
  dsimp only [Pt.U, Pt.locs, Pt.cells, Pt.slots] at h1 h2 h3 h4 h5 X hn hPc ⊢
  obtain ⟨m9, methY, cY, hn9, hmY, hcY, -, hlY, -⟩ := Cond.codeWith_spec h2
  cases Option.some.inj (hn9.symm.trans hn)
  obtain ⟨kY, hkY, -⟩ := className_of_methodNamed hn
  have hinitY : kY.init = .initialized := Cond.initialized_spec (findClass_of_methodNamed hn) hkY h3
  have h : At U g.method c below := by rw [hg]; exact X.here
  have hlocals9 : W9 + (maxL + 11) + (headSpec ws rm).room.locals ≤ R.locals := hlocals
  have happ : (headSpec ws rm).appliesLoose y e.platform (U.calling g mk a) = true :=
    Spec.appliesLoose_calling (g := g) h hdg hn hkY hinitY
      (X.room_calling (g := g) (R' := (headSpec ws rm).room) hsize hmY hcY hframes (by rw [hlY]; omega) h4 h5) h1
  obtain ⟨mid, hmid⟩ := h.above
  have hfr : (U.setTop g).frames = (.java g :: mid) ++ below := by rw [State.frames_setTop' g h.top, hmid]; rfl
  obtain ⟨o, s₂, hsteps, -, hend, hq⟩ := Steps.callFree hM p X.admits X.cas X.clock (acts := []) hfr happ hPc trivial
  have hq' : vx_Q Qc XC mc ms free a (U.calling g mk a) o s₂ := hq
  rw [State.frames_setTop' g h.top] at hend
  obtain ⟨g₀, hg0⟩ := Option.isSome_iff_exists.mp h.top
  obtain ⟨r, hr⟩ := State.topJava?_eq_some.mp hg0
  have hr' : (({ U with heap := s₂.heap, slotsUsed := s₂.slotsUsed } : State).setVm s₂.vm).frames = .java g₀ :: r := hr
  rcases hq' with ⟨hqc, L, hfe, hL⟩ | ⟨q, rfl, E, ce, L, hx, hce, hcv, hcl, hW₂, hsm, hL⟩
  · obtain ⟨⟨v, rfl⟩, hW₂, e2, q2, q3, q4, q5, q6⟩ := id hfe
    have e3 : s₂ = ({ (U.calling g mk a).setFrames s₂.frames with heap := s₂.heap, slotsUsed := s₂.slotsUsed } : State).setVm s₂.vm := by
      have : s₂ = ({ s₂ with vm := (U.calling g mk a).vm } : State).setVm s₂.vm := rfl
      rw [e2] at this
      exact this
    obtain ⟨c₂, i₂, len₂, hc₂, hd₂, hf₂⟩ := hend
    have hW' : U.WarmedH s₂.vm := hW₂
    have hcc : c₂ = c := by
      have h1 : s₂.code? g.method = U.code? g.method := by
        rw [State.code?_eq, State.code?_eq, hW'.alike.method?]
      exact Option.some.inj (hc₂.symm.trans (h1.trans h.code))
    subst hcc
    have hlen : len₂ = len := by rw [hdg] at hd₂; cases hd₂; rfl
    subst hlen
    have hs₂ : s₂ = (({ U with heap := s₂.heap, slotsUsed := s₂.slotsUsed } : State).setVm s₂.vm).setTop { g with pc := g.pc + len₂, stack := v.toList ++ g.stack } := by
      refine e3.trans ?_
      rw [hf₂, State.calling_eq h.top, State.setFrames_setFrames, State.setTop_of_frames _ hr', hr]
      rfl
    have hsame : U.sameButNew ({ U with heap := s₂.heap, slotsUsed := s₂.slotsUsed } : State) L mc ms := by
      refine ⟨?_, q2, q3, q4, q5, q6⟩
      obtain ⟨t, ht, -⟩ := State.frames_cons hr
      show ({ U with heap := s₂.heap, slotsUsed := s₂.slotsUsed } : State) = { U.setFrames U.frames with heap := s₂.heap, slotsUsed := s₂.slotsUsed }
      rw [State.setFrames_self ht]
    subst hg
    refine Or.inl ⟨v, ⟨(({ U with heap := s₂.heap, slotsUsed := s₂.slotsUsed } : State).setVm s₂.vm), Ls ++ L, c0 + mc, s0 + ms⟩,
      ⟨X.admits, X.cas, X.clock, X.frames, X.room, X.hears, X.method, X.code, (X.here.setHeapUsed s₂.heap s₂.slotsUsed).setVm hW'.alike, X.tail, State.WarmedH.trans X.warmed hW', X.limits, X.bytes, X.same.trans (hsame.setVm s.vm)⟩,
      ⟨g, mk, s₂, L, rfl, rfl, hqc, rfl, hL, rfl, rfl⟩, ?_⟩
    show Steps p.tables e below _ ((({ U with heap := s₂.heap, slotsUsed := s₂.slotsUsed } : State).setVm s₂.vm).setTop { g with pc := g.pc + len₂, stack := v.toList ++ g.stack })
    rw [← hs₂]
    exact hsteps
  · obtain ⟨e2, q2, q3, q4, q5, q6⟩ := id hsm
    have e3 : s₂ = ({ (U.calling g mk a).setFrames s₂.frames with heap := s₂.heap, slotsUsed := s₂.slotsUsed } : State).setVm s₂.vm := by
      have : s₂ = ({ s₂ with vm := (U.calling g mk a).vm } : State).setVm s₂.vm := rfl
      rw [e2] at this
      exact this
    have hf₂ : s₂.frames = .throwing q :: .java g :: U.frames.tail := hend
    have hW' : U.WarmedH s₂.vm := hW₂
    have hs₂ : s₂ = ((({ U with heap := s₂.heap, slotsUsed := s₂.slotsUsed } : State).setVm s₂.vm).setTop g).pushFrame (.throwing q) := by
      refine e3.trans ?_
      rw [hf₂, State.calling_eq h.top, State.setFrames_setFrames, State.pushFrame, State.frames_setTop _ hr', State.setTop_of_frames _ hr', State.setFrames_setFrames, hr]
      rfl
    have hsame : U.sameButNew ({ U with heap := s₂.heap, slotsUsed := s₂.slotsUsed } : State) L mc ms := by
      refine ⟨?_, q2, q3, q4, q5, q6⟩
      obtain ⟨t, ht, -⟩ := State.frames_cons hr
      show ({ U with heap := s₂.heap, slotsUsed := s₂.slotsUsed } : State) = { U.setFrames U.frames with heap := s₂.heap, slotsUsed := s₂.slotsUsed }
      rw [State.setFrames_self ht]
    subst hg
    refine Or.inr ⟨q, ⟨(({ U with heap := s₂.heap, slotsUsed := s₂.slotsUsed } : State).setVm s₂.vm), Ls ++ L, c0 + mc, s0 + ms⟩,
      ⟨X.admits, X.cas, X.clock, X.frames, X.room, X.hears, X.method, X.code, (X.here.setHeapUsed s₂.heap s₂.slotsUsed).setVm hW'.alike, X.tail, State.WarmedH.trans X.warmed hW', X.limits, X.bytes, X.same.trans (hsame.setVm s.vm)⟩,
      ⟨g, mk, s₂, L, E, ce, rfl, rfl, hx, hce, hcv, hcl, rfl, hL, rfl, rfl⟩, ?_⟩
    show Steps p.tables e below _ (((({ U with heap := s₂.heap, slotsUsed := s₂.slotsUsed } : State).setVm s₂.vm).setTop g).pushFrame (.throwing q))
    rw [← hs₂]
    exact hsteps
end
variable {p : Program} {l : Launch} {e : Env} {R : Room} {s : State} {m : MethodId} {args : Array Value} {below : List Frame} {meth : Method} {c : Code} {T : State} {H : Heap} {locs : List Loc} {cells slots : Nat}
theorem vx_callVX (X : Stand p l e R s m args below meth c T locs cells slots) (hexec : p.tables.exec = Jvm.exec) {own C : String} {index : Nat} {y : MethodName} {bytes : ByteArray} {maxL : Nat} {ret : Option FieldType} {hh : List (Nat × Nat × Nat × Nat)}
    (hown : s.vm.findClass own = some m.cls) (hlink : (Cond.methodLink own index y).before args s = true) (hinst : (Cond.instanceMethod y).before args s = true) (hsel : (Cond.selects C y y).before args s = true)
    (hcode : (Cond.codeWith y bytes maxL ret hh).before args s = true) (hy : y.cls ≠ "java/lang/invoke/MethodHandle" ∧ y.cls ≠ "java/lang/invoke/VarHandle")
    {W9 : Nat} {Pre : Pt → Array Value → Prop} {Post : Pt → Array Value → Option Value → Pt → Prop} {PostX : Pt → Array Value → Addr → Pt → Prop} (hK : vx_Back l R p e below s args y 3 W9 Pre Post PostX)
    {b : Addr} {cellB : Cell} (hcell : T.heap[b]? = some cellB) (hobj : cellB.vm.isStatics = false) (hcls : s.vm.findClass C = some cellB.cls)
    {g : JFrame} (hg : g.method = m) (hsize : g.locals.size = c.maxLocals) {argsL rest : List Value} (hlen : ∀ sig, parseMethodDescriptor y.desc = some sig → argsL.length = sig.parameters.length)
    (hstack : g.stack = argsL.reverse ++ .ref b :: rest) (hW : 2 * g.monitorRoom + (rest.map fun v => v.category).sum ≤ W9) (hdg : decode c.code g.pc = .ok (.invokevirtual index, 3))
    (hpre : ∀ vm₁, s.WarmedH vm₁ → Pre ⟨T.setVm vm₁, locs, cells, slots⟩ (Value.ref b :: argsL).toArray) :
    (∃ (v : Option Value) (vm₁ : Vm) (B : Pt), s.WarmedH vm₁ ∧ Stand p l e R s m args below meth c B.U B.locs B.cells B.slots ∧ Post ⟨T.setVm vm₁, locs, cells, slots⟩ (Value.ref b :: argsL).toArray v B ∧
      ∀ target, Steps p.tables e below (B.U.setTop { g with pc := g.pc + 3, stack := v.toList ++ rest }) target → Steps p.tables e below (T.setTop g) target) ∨
    (∃ (q : Addr) (vm₁ : Vm) (B : Pt), s.WarmedH vm₁ ∧ Stand p l e R s m args below meth c B.U B.locs B.cells B.slots ∧ PostX ⟨T.setVm vm₁, locs, cells, slots⟩ (Value.ref b :: argsL).toArray q B ∧
      Steps p.tables e below (T.setTop g) ((B.U.setTop { g with stack := rest }).pushFrame (.throwing q))) := by
  obtain ⟨mk, methM, hnamed, hmethM, hstM, habM⟩ := Cond.instanceMethod_spec hinst
  obtain ⟨m8, methM', cM, hn8, hmethM', -, -, -, -, -, -, hsigM⟩ := Cond.codeWith_spec hcode
  cases Option.some.inj (hn8.symm.trans hnamed)
  cases hmethM.symm.trans hmethM'
  obtain ⟨c2, r2, m2, q1, q2, q3, q4, kP, hkP, hkPi⟩ := Cond.selects_spec hsel
  cases hcls.symm.trans q1
  cases (State.methodFound?_of_named hnamed hy).symm.trans q2
  cases hnamed.symm.trans q3
  have hselP : selectMethod e.platform s.vm cellB.cls mk = .method mk := by rw [Launch.admits_selectMethod X.admits]; exact q4
  obtain ⟨vm₁, X₁, hstep₁⟩ := X.invokevirtual hexec hown hlink hnamed hmethM hstM hkP hkPi hy (a := b) (cell := cellB) hcell
    (fun z h => by rw [h] at hobj; cases hobj) hselP hmethM habM hkP hkPi (g := g) hg (argsL := argsL) (rest := rest) (hlen _ hsigM) hstack hdg
  rcases hK m meth c ⟨T.setVm vm₁, locs, cells, slots⟩ { g with stack := rest } (.invokevirtual index) mk (Value.ref b :: argsL).toArray X₁ hg hsize hdg hW (X₁.named hnamed) (hpre vm₁ X₁.warmed) with ⟨v, B, X', hpost, hsteps⟩ | ⟨q, B, X', hpost, hsteps⟩
  · exact Or.inl ⟨v, vm₁, B, X₁.warmed, X', hpost, fun target h => hstep₁ _ fun acts => by rw [doInvoke_state]; exact hsteps.trans h⟩
  · exact Or.inr ⟨q, vm₁, B, X₁.warmed, X', hpost, hstep₁ _ fun acts => by rw [doInvoke_state]; exact hsteps⟩
theorem vx_callSX (X : Stand p l e R s m args below meth c T locs cells slots) (hexec : p.tables.exec = Jvm.exec) {own : String} {index : Nat} {y : MethodName} {bytes : ByteArray} {maxL : Nat} {ret : Option FieldType} {hh : List (Nat × Nat × Nat × Nat)}
    (hown : s.vm.findClass own = some m.cls) (hlink : (Cond.methodLink own index y).before args s = true) (hstat : (Cond.static y).before args s = true) (hinit : (Cond.initialized y.cls).before args s = true)
    (hcode : (Cond.codeWith y bytes maxL ret hh).before args s = true) (hy : y.cls ≠ "java/lang/invoke/MethodHandle" ∧ y.cls ≠ "java/lang/invoke/VarHandle")
    {W9 : Nat} {Pre : Pt → Array Value → Prop} {Post : Pt → Array Value → Option Value → Pt → Prop} {PostX : Pt → Array Value → Addr → Pt → Prop} (hK : vx_Back l R p e below s args y 3 W9 Pre Post PostX)
    {g : JFrame} (hg : g.method = m) (hsize : g.locals.size = c.maxLocals) {argsL rest : List Value} (hlen : ∀ sig, parseMethodDescriptor y.desc = some sig → argsL.length = sig.parameters.length)
    (hstack : g.stack = argsL.reverse ++ rest) (hW : 2 * g.monitorRoom + (rest.map fun v => v.category).sum ≤ W9) (hdg : decode c.code g.pc = .ok (.invokestatic index, 3))
    (hpre : ∀ vm₁, s.WarmedH vm₁ → Pre ⟨T.setVm vm₁, locs, cells, slots⟩ argsL.toArray) :
    (∃ (v : Option Value) (vm₁ : Vm) (B : Pt), s.WarmedH vm₁ ∧ Stand p l e R s m args below meth c B.U B.locs B.cells B.slots ∧ Post ⟨T.setVm vm₁, locs, cells, slots⟩ argsL.toArray v B ∧
      ∀ target, Steps p.tables e below (B.U.setTop { g with pc := g.pc + 3, stack := v.toList ++ rest }) target → Steps p.tables e below (T.setTop g) target) ∨
    (∃ (q : Addr) (vm₁ : Vm) (B : Pt), s.WarmedH vm₁ ∧ Stand p l e R s m args below meth c B.U B.locs B.cells B.slots ∧ PostX ⟨T.setVm vm₁, locs, cells, slots⟩ argsL.toArray q B ∧
      Steps p.tables e below (T.setTop g) ((B.U.setTop { g with stack := rest }).pushFrame (.throwing q))) := by
  obtain ⟨mk, methM, cM, hnamed, hmethM, -, -, -, -, -, -, hsigM⟩ := Cond.codeWith_spec hcode
  have hstatic : methM.isStatic = true := Cond.static_spec hnamed hmethM hstat
  obtain ⟨kP, hkP, -⟩ := className_of_methodNamed hnamed
  have hinitP : kP.init = .initialized := Cond.initialized_spec (findClass_of_methodNamed hnamed) hkP hinit
  obtain ⟨vm₁, X₁, hstep₁⟩ := X.invokestatic hexec hown hlink hnamed hmethM hstatic hkP hinitP hy (g := g) hg (argsL := argsL) (rest := rest) (hlen _ hsigM) hstack hdg
  rcases hK m meth c ⟨T.setVm vm₁, locs, cells, slots⟩ { g with stack := rest } (.invokestatic index) mk argsL.toArray X₁ hg hsize hdg hW (X₁.named hnamed) (hpre vm₁ X₁.warmed) with ⟨v, B, X', hpost, hsteps⟩ | ⟨q, B, X', hpost, hsteps⟩
  · exact Or.inl ⟨v, vm₁, B, X₁.warmed, X', hpost, fun target h => hstep₁ _ fun acts => by rw [doInvoke_state]; exact hsteps.trans h⟩
  · exact Or.inr ⟨q, vm₁, B, X₁.warmed, X', hpost, hstep₁ _ fun acts => by rw [doInvoke_state]; exact hsteps⟩
theorem vx_callVW (X : Stand p l e R s m args below meth c T locs cells slots) (hexec : p.tables.exec = Jvm.exec) {own C : String} {index : Nat} {y : MethodName} {bytes : ByteArray} {maxL : Nat} {ret : Option FieldType} {hh : List (Nat × Nat × Nat × Nat)}
    (hown : s.vm.findClass own = some m.cls) (hlink : (Cond.methodLink own index y).before args s = true) (hinst : (Cond.instanceMethod y).before args s = true) (hsel : (Cond.selects C y y).before args s = true)
    (hcode : (Cond.codeWith y bytes maxL ret hh).before args s = true) (hy : y.cls ≠ "java/lang/invoke/MethodHandle" ∧ y.cls ≠ "java/lang/invoke/VarHandle")
    {W9 : Nat} {Pre : Pt → Array Value → Prop} {Post : Pt → Array Value → Option Value → Pt → Prop} (hK : Back l R p e below s args y 3 W9 Pre Post)
    {b : Addr} {cellB : Cell} (hcell : T.heap[b]? = some cellB) (hobj : cellB.vm.isStatics = false) (hcls : s.vm.findClass C = some cellB.cls)
    {g : JFrame} (hg : g.method = m) (hsize : g.locals.size = c.maxLocals) {argsL rest : List Value} (hlen : ∀ sig, parseMethodDescriptor y.desc = some sig → argsL.length = sig.parameters.length)
    (hstack : g.stack = argsL.reverse ++ .ref b :: rest) (hW : 2 * g.monitorRoom + (rest.map fun v => v.category).sum ≤ W9) (hdg : decode c.code g.pc = .ok (.invokevirtual index, 3))
    (hpre : ∀ vm₁, s.WarmedH vm₁ → Pre ⟨T.setVm vm₁, locs, cells, slots⟩ (Value.ref b :: argsL).toArray) :
    ∃ (v : Option Value) (vm₁ : Vm) (B : Pt), s.WarmedH vm₁ ∧ Stand p l e R s m args below meth c B.U B.locs B.cells B.slots ∧ Post ⟨T.setVm vm₁, locs, cells, slots⟩ (Value.ref b :: argsL).toArray v B ∧
      ∀ target, Steps p.tables e below (B.U.setTop { g with pc := g.pc + 3, stack := v.toList ++ rest }) target → Steps p.tables e below (T.setTop g) target := by
  obtain ⟨mk, methM, hnamed, hmethM, hstM, habM⟩ := Cond.instanceMethod_spec hinst
  obtain ⟨m8, methM', cM, hn8, hmethM', -, -, -, -, -, -, hsigM⟩ := Cond.codeWith_spec hcode
  cases Option.some.inj (hn8.symm.trans hnamed)
  cases hmethM.symm.trans hmethM'
  obtain ⟨c2, r2, m2, q1, q2, q3, q4, kP, hkP, hkPi⟩ := Cond.selects_spec hsel
  cases hcls.symm.trans q1
  cases (State.methodFound?_of_named hnamed hy).symm.trans q2
  cases hnamed.symm.trans q3
  have hselP : selectMethod e.platform s.vm cellB.cls mk = .method mk := by rw [Launch.admits_selectMethod X.admits]; exact q4
  obtain ⟨vm₁, X₁, hstep₁⟩ := X.invokevirtual hexec hown hlink hnamed hmethM hstM hkP hkPi hy (a := b) (cell := cellB) hcell
    (fun z h => by rw [h] at hobj; cases hobj) hselP hmethM habM hkP hkPi (g := g) hg (argsL := argsL) (rest := rest) (hlen _ hsigM) hstack hdg
  obtain ⟨v, B, X', hpost, hsteps⟩ := hK m meth c ⟨T.setVm vm₁, locs, cells, slots⟩ { g with stack := rest } (.invokevirtual index) mk (Value.ref b :: argsL).toArray X₁ hg hsize hdg hW (X₁.named hnamed) (hpre vm₁ X₁.warmed)
  exact ⟨v, vm₁, B, X₁.warmed, X', hpost, fun target h => hstep₁ _ fun acts => by rw [doInvoke_state]; exact hsteps.trans h⟩
abbrev vx_CVW (R : Room) (s : State) (args : Array Value) (own C : String) (index : Nat) (y : MethodName) (bytes : ByteArray) (maxL : Nat) (ret : Option FieldType) (hh : List (Nat × Nat × Nat × Nat)) (ws : List Cond) (rm : Room) (mc ms n : Nat) : Prop :=
  (rm.cells = mc ∧ rm.slots = ms ∧ rm.frames + 1 ≤ R.frames ∧ 8 + (maxL + 11) + rm.locals ≤ R.locals ∧ (∀ w ∈ ws, ∀ (a' : Array Value) (U : State), s.WarmedH U.vm → w.before a' U = true) ∧ Cond.codeWith y bytes maxL ret hh ∈ ws) ∧
  (Cond.codeWith y bytes maxL ret hh).before args s = true ∧ (Cond.initialized y.cls).before args s = true ∧ (y.cls ≠ "java/lang/invoke/MethodHandle" ∧ y.cls ≠ "java/lang/invoke/VarHandle") ∧
  (∀ sig, parseMethodDescriptor y.desc = some sig → n = sig.parameters.length) ∧ (Cond.methodLink own index y).before args s = true ∧ (Cond.instanceMethod y).before args s = true ∧ (Cond.selects C y y).before args s = true
theorem vx_cwVW {own C : String} {index maxL mc ms : Nat} {y : MethodName} {bytes : ByteArray} {ret : Option FieldType} {hh : List (Nat × Nat × Nat × Nat)} {Ts ws ws' : List Cond} {rm : Room} (n : Nat) (ht : ∀ w ∈ Ts, w.before args s = true) (hT : GoodIn Ts (wsV own index C y ws)) (hw : ws = Cond.codeWith y bytes maxL ret hh :: ws') (hrc : rm.cells = mc) (hrs : rm.slots = ms)
    (hd : y.cls = C ∧ y.cls ≠ "java/lang/invoke/MethodHandle" ∧ y.cls ≠ "java/lang/invoke/VarHandle" ∧ (parseMethodDescriptor y.desc).map (fun d => d.parameters.length) = some n) (hR : rm.frames + 1 ≤ R.frames ∧ 8 + (maxL + 11) + rm.locals ≤ R.locals) :
    vx_CVW R s args own C index y bytes maxL ret hh ws rm mc ms n := by
  obtain ⟨hC, hd⟩ := hd
  subst hC
  have ok : ∀ w ∈ wsV own index y.cls y ws, w.before args s = true := fun w h => ht w (hT w h).1
  have hG : GoodIn Ts ws := fun w h => hT w (by unfold wsV; exact List.mem_append_right _ h)
  have hc : Cond.codeWith y bytes maxL ret hh ∈ ws := by rw [hw]; exact List.mem_cons_self
  refine ⟨⟨hrc, hrs, hR.1, hR.2, pay_in ht hG, hc⟩, ht _ (hG _ hc).1, ok _ (by simp [wsV]), ⟨hd.1, hd.2.1⟩, fun sig h => ?_, ok _ (by simp [wsV]), ok _ (by simp [wsV]), ok _ (by simp [wsV])⟩
  have h2 := hd.2.2
  rw [h] at h2
  exact (Option.some.inj h2).symm
theorem vx_runVW {y : MethodName} {bytes cc : ByteArray} {maxL nL mc ms n index : Nat} {ret : Option FieldType} {hh : List (Nat × Nat × Nat × Nat)} {ws : List Cond} {rm : Room} {Pc : Array Value → State → Prop} {Qc : Array Value → State → Outcome → State → Prop} {free : Addr → Prop} {Ts : List Cond} {own C : String} {b : Addr} {As rest : List Value} {g : JFrame}
    (S : CallFix p m c cc nL s args Ts own) (hM : Met l y ws rm Pc Qc mc ms free) (cw : vx_CVW R s args own C index y bytes maxL ret hh ws rm mc ms n) (hp : PreV s H C b Pc As)
    (hg : g.method = m) (hn : As.length = n) (hsize : g.locals.size = nL) (hstack : g.stack = As.reverse ++ .ref b :: rest) (hW : 2 * g.monitorRoom + (rest.map fun v => v.category).sum ≤ 8) (hdg : decode cc g.pc = .ok (.invokevirtual index, 3)) (hf : cells + mc ≤ R.cells ∧ slots + ms ≤ R.slots) :
    va_Run p l e R s m args below meth c H locs cells slots mc ms g rest (Qc (Value.ref b :: As).toArray) free := by
  obtain ⟨⟨hrc, hrs, hfr, hlo, hws, hcw⟩, hcode, hini, hy, hlen, hl, hin, hse⟩ := cw
  have hK : Back l R p e below s args y 3 8 (PreOf R mc ms Pc) (PostOf Qc mc ms free) := va_backW (hh := hh) (bytes := bytes) (maxL := maxL) (ret := ret) hM hp.1 hrc hrs hfr hlo hws hcw (fun a' U hW => word_at hW (Or.inl (by first | rfl | simp [Cond.onTables, Cond.keeps, Cond.steady])) hini)
  obtain ⟨hx, hb, hml, ho, -⟩ := S
  obtain ⟨-, ⟨cellB, hcB, hoB, hclB⟩, hPc⟩ := hp
  intro T hT X
  obtain ⟨v, vm₁, ⟨U', l2, c2, s2⟩, hW₁, X', ⟨g', mk, t, L, e1, e2, hq, h1, hL, h2, h3⟩, st⟩ := vx_callVW X hx (C := C) (hh := hh) (bytes := bytes) (maxL := maxL) (ret := ret) ho hl hin hse hcode hy hK (by rw [hT]; exact hcB) hoB hclB hg (hsize.trans hml.symm) (argsL := As) (rest := rest) (fun sig h => hn.trans (hlen sig h)) hstack hW (by rw [hb]; exact hdg)
    (fun vm₁ hW₁ => ⟨hf.1, hf.2, hPc (T.setVm vm₁) hT hW₁⟩)
  dsimp only [Pt.U, Pt.locs, Pt.cells, Pt.slots] at X' e1 e2 h1 h2 h3 st
  subst h1; subst h2; subst h3
  exact ⟨v, (T.setVm vm₁).calling g' mk (Value.ref b :: As).toArray, t, U', L, hT, X', hL, e1, e2, hq, st⟩
section
variable {y : MethodName} {bytes cc : ByteArray} {maxL nL mc ms n index : Nat} {ret : Option FieldType} {ws : List Cond} {rm : Room} {Pc : Array Value → State → Prop} {Qc : Array Value → State → Outcome → State → Prop} {XC : String → State → State → Prop} {free : Addr → Prop} {Ts : List Cond} {own C : String} {b : Addr} {As rest : List Value} {g : JFrame}
theorem vx_runVX {hh : List (Nat × Nat × Nat × Nat)} (S : CallFix p m c cc nL s args Ts own) (hM : vx_Met l y ws rm Pc Qc XC mc ms free) (cw : vx_CVW R s args own C index y bytes maxL ret hh ws rm mc ms n) (hp : PreV s H C b Pc As)
    (hg : g.method = m) (hn : As.length = n) (hsize : g.locals.size = nL) (hstack : g.stack = As.reverse ++ .ref b :: rest) (hW : 2 * g.monitorRoom + (rest.map fun v => v.category).sum ≤ 8) (hdg : decode cc g.pc = .ok (.invokevirtual index, 3)) (hf : cells + mc ≤ R.cells ∧ slots + ms ≤ R.slots) :
    vx_Run p l e R s m args below meth c H locs cells slots mc ms g rest (Qc (Value.ref b :: As).toArray) XC free := by
  obtain ⟨⟨hrc, hrs, hfr, hlo, hws, hcw⟩, hcode, hini, hy, hlen, hl, hin, hse⟩ := cw
  have hK : vx_Back l R p e below s args y 3 8 (PreOf R mc ms Pc) (PostOf Qc mc ms free) (vx_Post XC mc ms free) := vx_backW (hh := hh) (bytes := bytes) (maxL := maxL) (ret := ret) hM hp.1 hrc hrs hfr hlo hws hcw (fun a' U hW => word_at hW (Or.inl (by first | rfl | simp [Cond.onTables, Cond.keeps, Cond.steady])) hini)
  obtain ⟨hx, hb, hml, ho, -⟩ := S
  obtain ⟨-, ⟨cellB, hcB, hoB, hclB⟩, hPc⟩ := hp
  intro T hT X
  rcases vx_callVX X hx (C := C) (hh := hh) (bytes := bytes) (maxL := maxL) (ret := ret) ho hl hin hse hcode hy hK (by rw [hT]; exact hcB) hoB hclB hg (hsize.trans hml.symm) (argsL := As) (rest := rest) (fun sig h => hn.trans (hlen sig h)) hstack hW (by rw [hb]; exact hdg)
    (fun vm₁ hW₁ => ⟨hf.1, hf.2, hPc (T.setVm vm₁) hT hW₁⟩) with ⟨v, vm₁, ⟨U', l2, c2, s2⟩, hW₁, X', ⟨g', mk, t, L, e1, e2, hq, h1, hL, h2, h3⟩, st⟩ | ⟨q, vm₁, ⟨U', l2, c2, s2⟩, hW₁, X', ⟨g', mk, t, L, E, ce, e1, e2, hq, hce, hcv, hcl, h1, hL, h2, h3⟩, st⟩
  · dsimp only [Pt.U, Pt.locs, Pt.cells, Pt.slots] at X' e1 e2 h1 h2 h3 st
    subst h1; subst h2; subst h3
    exact Or.inl ⟨v, (T.setVm vm₁).calling g' mk (Value.ref b :: As).toArray, t, U', L, hT, X', hL, e1, e2, hq, st⟩
  · dsimp only [Pt.U, Pt.locs, Pt.cells, Pt.slots] at X' e1 e2 h1 h2 h3 st hcl
    subst h1; subst h2; subst h3
    exact Or.inr ⟨q, (T.setVm vm₁).calling g' mk (Value.ref b :: As).toArray, t, U', L, E, ce, hT, X', hL, e1, e2, hq, hce, hcv, vx_cls hW₁ hcl, st⟩
theorem vx_runSX {hh : List (Nat × Nat × Nat × Nat)} (S : CallFix p m c cc nL s args Ts own) (hM : vx_Met l y ws rm Pc Qc XC mc ms free) (cw : vx_CSW R s args own index y bytes maxL ret hh ws rm mc ms n) (hp : PreS s H Pc As)
    (hg : g.method = m) (hn : As.length = n) (hsize : g.locals.size = nL) (hstack : g.stack = As.reverse ++ rest) (hW : 2 * g.monitorRoom + (rest.map fun v => v.category).sum ≤ 8) (hdg : decode cc g.pc = .ok (.invokestatic index, 3)) (hf : cells + mc ≤ R.cells ∧ slots + ms ≤ R.slots) :
    vx_Run p l e R s m args below meth c H locs cells slots mc ms g rest (Qc As.toArray) XC free := by
  obtain ⟨⟨hrc, hrs, hfr, hlo, hws, hcw⟩, hcode, hini, hy, hlen, hl, hstt⟩ := cw
  have hK : vx_Back l R p e below s args y 3 8 (PreOf R mc ms Pc) (PostOf Qc mc ms free) (vx_Post XC mc ms free) := vx_backW (hh := hh) (bytes := bytes) (maxL := maxL) (ret := ret) hM hp.1 hrc hrs hfr hlo hws hcw (fun a' U hW => word_at hW (Or.inl (by first | rfl | simp [Cond.onTables, Cond.keeps, Cond.steady])) hini)
  obtain ⟨hx, hb, hml, ho, -⟩ := S
  intro T hT X
  rcases vx_callSX X hx (hh := hh) (bytes := bytes) (maxL := maxL) (ret := ret) ho hl hstt hini hcode hy hK hg (hsize.trans hml.symm) (argsL := As) (rest := rest) (fun sig h => hn.trans (hlen sig h)) hstack hW (by rw [hb]; exact hdg)
    (fun vm₁ hW₁ => ⟨hf.1, hf.2, hp.2 (T.setVm vm₁) hT hW₁⟩) with ⟨v, vm₁, ⟨U', l2, c2, s2⟩, hW₁, X', ⟨g', mk, t, L, e1, e2, hq, h1, hL, h2, h3⟩, st⟩ | ⟨q, vm₁, ⟨U', l2, c2, s2⟩, hW₁, X', ⟨g', mk, t, L, E, ce, e1, e2, hq, hce, hcv, hcl, h1, hL, h2, h3⟩, st⟩
  · dsimp only [Pt.U, Pt.locs, Pt.cells, Pt.slots] at X' e1 e2 h1 h2 h3 st
    subst h1; subst h2; subst h3
    exact Or.inl ⟨v, (T.setVm vm₁).calling g' mk As.toArray, t, U', L, hT, X', hL, e1, e2, hq, st⟩
  · dsimp only [Pt.U, Pt.locs, Pt.cells, Pt.slots] at X' e1 e2 h1 h2 h3 st hcl
    subst h1; subst h2; subst h3
    exact Or.inr ⟨q, (T.setVm vm₁).calling g' mk As.toArray, t, U', L, E, ce, hT, X', hL, e1, e2, hq, hce, hcv, vx_cls hW₁ hcl, st⟩
end
end VXH
theorem vx_ofWH {l : Launch} {y : MethodName} {ws ws' : List Cond} {rm : Room} {Pc : Array Value → State → Prop} {Qc : Array Value → State → Outcome → State → Prop} {XC : String → State → State → Prop} {mc ms : Nat} {free : Addr → Prop} {cc : ByteArray} {maxL : Nat} {ret : Option FieldType} {hh : List (Nat × Nat × Nat × Nat)}
    (hy : plainName y.cls = true) (hw : ws = Cond.codeWith y cc maxL ret hh :: ws')
    (body : ∀ p e s m args below meth c s₁, BodyLoose p l y (headSpec ws rm) cc maxL ret e s m args below meth c s₁ → c.maxLocals = maxL → Pc args s →
      W p l e (headSpec ws rm).room s m args below meth c s.heap [] 0 0 (vx_MQ below Qc XC args s mc ms free) (entryFrame m args maxL)) : vx_Met l y ws rm Pc Qc XC mc ms free := by
  refine MetFree.of_bodyS (code := cc) (maxLocals := maxL) (ret := ret) hy ?_ ?_
  · intro args s m h hn
    obtain ⟨m9, meth, c, hn9, h1, h2, h3, h4, -, h5, h6, -⟩ := Cond.codeWith_spec (atoms_spec (ws := ws) h _ (by rw [hw]; exact List.mem_cons_self))
    cases hn.symm.trans hn9
    exact ⟨meth, c, h1, h2, h3, h4, h5, h6⟩
  · intro p e s m args below meth c s₁ B hml hP _
    have hh0 : s₁.heap = s.heap := by rw [B.state]; rfl
    obtain ⟨t, a1, o, b1, b2, b3⟩ := body p e s m args below meth c s₁ B hml hP s₁ hh0 (Stand.of_body B)
    exact ⟨t, o, a1, b1, b2, b3⟩
/-! ===== END ===== -/
end
section
def RX0 : String := "LogDisk$Log"
def TX0 : u_T := fun k => match k with
  | 0 => ("LogDisk$Log", "starts", "[I", true)
  | 1 => ("LogDisk$Log", "fills", "[I", true)
  | 2 => ("LogDisk$Log", "segments", "I", false)
  | 3 => ("LogDisk$Log", "sizes", "[I", true)
  | 4 => ("LogDisk$Log", "firstBytes", "[I", true)
  | 5 => ("LogDisk$Log", "homes", "[I", true)
  | 6 => ("LogDisk$Log", "offsets", "[I", true)
  | 7 => ("LogDisk$Log", "entries", "I", false)
  | _ => ("LogDisk$Log", "came", "I", false)
def tyX0 : Nat → FieldType := fun k => match k with
  | 0 => .array (.int)
  | 1 => .array (.int)
  | 2 => .int
  | 3 => .array (.int)
  | 4 => .array (.int)
  | 5 => .array (.int)
  | 6 => .array (.int)
  | 7 => .int
  | _ => .int
theorem nmX0 : ∀ a, a < 9 → ∀ b, b < 9 → a ≠ b → (TX0 a).2.1 ≠ (TX0 b).2.1 := by decide +kernel
theorem tyX0_ok : ∀ k, k < 9 → parseFieldDescriptor (TX0 k).2.2.1 = some (tyX0 k) := by decide +kernel
def RX1 : String := "LogDisk"
def TX1 : u_T := fun k => match k with
  | 0 => ("LogDisk", "segmentBlocks", "I", true)
  | 1 => ("LogDisk", "logs", "[LLogDisk$Log;", true)
  | 2 => ("LogDisk", "blockUse", "[I", true)
  | 3 => ("LogDisk", "draft", "LLogDisk$Log;", false)
  | 4 => ("LogDisk", "blocksToCrash", "I", false)
  | 5 => ("LogDisk", "down", "Z", false)
  | _ => ("LogDisk", "blocksWritten", "I", false)
def tyX1 : Nat → FieldType := fun k => match k with
  | 0 => .int
  | 1 => .array (.object "LogDisk$Log")
  | 2 => .array (.int)
  | 3 => .object "LogDisk$Log"
  | 4 => .int
  | 5 => .boolean
  | _ => .int
theorem nmX1 : ∀ a, a < 7 → ∀ b, b < 7 → a ≠ b → (TX1 a).2.1 ≠ (TX1 b).2.1 := by decide +kernel
theorem tyX1_ok : ∀ k, k < 7 → parseFieldDescriptor (TX1 k).2.2.1 = some (tyX1 k) := by decide +kernel
def RX2 : String := "LogDiskModel"
def TX2 : u_T := fun k => match k with
  | 0 => ("LogDiskModel", "code", "I", false)
  | 1 => ("LogDiskModel", "wide", "I", true)
  | 2 => ("LogDiskModel", "blocks", "I", true)
  | 3 => ("LogDiskModel", "writes", "I", false)
  | 4 => ("LogDiskModel", "left", "I", false)
  | 5 => ("LogDiskModel", "down", "Z", false)
  | 6 => ("LogDiskModel", "segments", "[I", true)
  | 7 => ("LogDiskModel", "first", "[I", true)
  | 8 => ("LogDiskModel", "bytes", "[I", true)
  | 9 => ("LogDiskModel", "came", "[I", true)
  | 10 => ("LogDiskModel", "held", "[Z", true)
  | 11 => ("LogDiskModel", "entries", "I", false)
  | 12 => ("LogDiskModel", "of", "[I", false)
  | 13 => ("LogDiskModel", "size", "[I", false)
  | 14 => ("LogDiskModel", "begin", "[I", false)
  | 15 => ("LogDiskModel", "in", "[I", false)
  | 16 => ("LogDiskModel", "at", "[I", false)
  | 17 => ("LogDiskModel", "planned", "I", false)
  | 18 => ("LogDiskModel", "planFirst", "[I", true)
  | _ => ("LogDiskModel", "planBytes", "[I", true)
def tyX2 : Nat → FieldType := fun k => match k with
  | 0 => .int
  | 1 => .int
  | 2 => .int
  | 3 => .int
  | 4 => .int
  | 5 => .boolean
  | 6 => .array (.int)
  | 7 => .array (.int)
  | 8 => .array (.int)
  | 9 => .array (.int)
  | 10 => .array (.boolean)
  | 11 => .int
  | 12 => .array (.int)
  | 13 => .array (.int)
  | 14 => .array (.int)
  | 15 => .array (.int)
  | 16 => .array (.int)
  | 17 => .int
  | 18 => .array (.int)
  | _ => .array (.int)
theorem nmX2 : ∀ a, a < 20 → ∀ b, b < 20 → a ≠ b → (TX2 a).2.1 ≠ (TX2 b).2.1 := by decide +kernel
theorem tyX2_ok : ∀ k, k < 20 → parseFieldDescriptor (TX2 k).2.2.1 = some (tyX2 k) := by decide +kernel
def RL : String := "LogDiskLaw"
abbrev vwCl : List vw_C := [(RX0, TX0, 9), (RX1, TX1, 7), (RX2, TX2, 20)]
abbrev cX1_init : ByteArray := prog_1_method_1_code
def yX1_init : MethodName := ⟨RX1, "<init>", "(II)V"⟩
abbrev cX0_init : ByteArray := prog_2_method_1_code
def yX0_init : MethodName := ⟨RX0, "<init>", "()V"⟩
abbrev cX1_recover : ByteArray := prog_1_method_9_code
def yX1_recover : MethodName := ⟨RX1, "recover", "()I"⟩
abbrev cX1_isDown : ByteArray := prog_1_method_10_code
def yX1_isDown : MethodName := ⟨RX1, "isDown", "()Z"⟩
abbrev cX1_writes : ByteArray := prog_1_method_11_code
def yX1_writes : MethodName := ⟨RX1, "writes", "()I"⟩
abbrev cL_cell : ByteArray := method_2_code
def yL_cell : MethodName := ⟨RL, "cell", "([II)I"⟩
abbrev cL_append : ByteArray := method_3_code
def yL_append : MethodName := ⟨RL, "append", "(LLogDisk;III[J)I"⟩
abbrev cX1_append : ByteArray := prog_1_method_2_code
def yX1_append : MethodName := ⟨RX1, "append", "(III)I"⟩
abbrev cX1_existingLog : ByteArray := prog_1_method_13_code
def yX1_existingLog : MethodName := ⟨RX1, "existingLog", "(I)LLogDisk$Log;"⟩
abbrev cX1_requireWithin : ByteArray := prog_1_method_15_code
def yX1_requireWithin : MethodName := ⟨RX1, "requireWithin", "(III)V"⟩
abbrev cX1_requirePower : ByteArray := prog_1_method_14_code
def yX1_requirePower : MethodName := ⟨RX1, "requirePower", "()V"⟩
abbrev cX1_segmentBytes : ByteArray := prog_1_method_16_code
def yX1_segmentBytes : MethodName := ⟨RX1, "segmentBytes", "()I"⟩
abbrev cX0_openHasRoom : ByteArray := prog_2_method_7_code
def yX0_openHasRoom : MethodName := ⟨RX0, "openHasRoom", "(II)Z"⟩
abbrev cX0_openBytes : ByteArray := prog_2_method_6_code
def yX0_openBytes : MethodName := ⟨RX0, "openBytes", "()I"⟩
abbrev cX1_at : ByteArray := prog_1_method_28_code
def yX1_at : MethodName := ⟨RX1, "at", "([II)I"⟩
abbrev cX0_openStart : ByteArray := prog_2_method_5_code
def yX0_openStart : MethodName := ⟨RX0, "openStart", "()I"⟩
abbrev cX1_startOfNewSegment : ByteArray := prog_1_method_23_code
def yX1_startOfNewSegment : MethodName := ⟨RX1, "startOfNewSegment", "(LLogDisk$Log;)I"⟩
abbrev cX0_canOpenMore : ByteArray := prog_2_method_3_code
def yX0_canOpenMore : MethodName := ⟨RX0, "canOpenMore", "()Z"⟩
abbrev cX1_markBlockUse : ByteArray := prog_1_method_25_code
def yX1_markBlockUse : MethodName := ⟨RX1, "markBlockUse", "()V"⟩
abbrev cX1_set : ByteArray := prog_1_method_29_code
def yX1_set : MethodName := ⟨RX1, "set", "([III)V"⟩
abbrev cX1_markSegmentsOf : ByteArray := prog_1_method_26_code
def yX1_markSegmentsOf : MethodName := ⟨RX1, "markSegmentsOf", "(LLogDisk$Log;)V"⟩
abbrev cX1_markSegment : ByteArray := prog_1_method_27_code
def yX1_markSegment : MethodName := ⟨RX1, "markSegment", "(I)V"⟩
abbrev cX1_firstFreeRun : ByteArray := prog_1_method_24_code
def yX1_firstFreeRun : MethodName := ⟨RX1, "firstFreeRun", "()I"⟩
abbrev cX0_canHoldMore : ByteArray := prog_2_method_4_code
def yX0_canHoldMore : MethodName := ⟨RX0, "canHoldMore", "()Z"⟩
abbrev cX1_blocksTouched : ByteArray := prog_1_method_17_code
def yX1_blocksTouched : MethodName := ⟨RX1, "blocksTouched", "(II)I"⟩
abbrev cX1_writeThroughHead : ByteArray := prog_1_method_18_code
def yX1_writeThroughHead : MethodName := ⟨RX1, "writeThroughHead", "(I)Z"⟩
abbrev cX0_openSegment : ByteArray := prog_2_method_8_code
def yX0_openSegment : MethodName := ⟨RX0, "openSegment", "(I)V"⟩
abbrev cX0_put : ByteArray := prog_2_method_9_code
def yX0_put : MethodName := ⟨RX0, "put", "(II)V"⟩
abbrev cL_retain : ByteArray := method_4_code
def yL_retain : MethodName := ⟨RL, "retain", "(LLogDisk;II[J)I"⟩
abbrev cX1_retain : ByteArray := prog_1_method_3_code
def yX1_retain : MethodName := ⟨RX1, "retain", "(II)I"⟩
abbrev cX0_segmentsPast : ByteArray := prog_2_method_14_code
def yX0_segmentsPast : MethodName := ⟨RX0, "segmentsPast", "(I)I"⟩
abbrev cX0_bytesFrom : ByteArray := prog_2_method_13_code
def yX0_bytesFrom : MethodName := ⟨RX0, "bytesFrom", "(I)I"⟩
abbrev cX0_beginAs : ByteArray := prog_2_method_2_code
def yX0_beginAs : MethodName := ⟨RX0, "beginAs", "(LLogDisk$Log;)V"⟩
abbrev cX0_takeSegments : ByteArray := prog_2_method_10_code
def yX0_takeSegments : MethodName := ⟨RX0, "takeSegments", "(LLogDisk$Log;I)V"⟩
abbrev cX1_putDraftInPlaceOf : ByteArray := prog_1_method_19_code
def yX1_putDraftInPlaceOf : MethodName := ⟨RX1, "putDraftInPlaceOf", "(I)V"⟩
abbrev cL_thin : ByteArray := method_5_code
def yL_thin : MethodName := ⟨RL, "thin", "(LLogDisk;II[J)I"⟩
abbrev cX1_thin : ByteArray := prog_1_method_4_code
def yX1_thin : MethodName := ⟨RX1, "thin", "(II)I"⟩
abbrev cX0_closedEntries : ByteArray := prog_2_method_12_code
def yX0_closedEntries : MethodName := ⟨RX0, "closedEntries", "()I"⟩
abbrev cX1_packThinned : ByteArray := prog_1_method_20_code
def yX1_packThinned : MethodName := ⟨RX1, "packThinned", "(LLogDisk$Log;II)Z"⟩
abbrev cX1_goes : ByteArray := prog_1_method_21_code
def yX1_goes : MethodName := ⟨RX1, "goes", "(II)Z"⟩
abbrev cX1_packEntry : ByteArray := prog_1_method_22_code
def yX1_packEntry : MethodName := ⟨RX1, "packEntry", "(LLogDisk$Log;I)Z"⟩
abbrev cX0_blocksFilled : ByteArray := prog_2_method_15_code
def yX0_blocksFilled : MethodName := ⟨RX0, "blocksFilled", "()I"⟩
abbrev cL_log : ByteArray := method_6_code
def yL_log : MethodName := ⟨RL, "log", "(LLogDisk;II[J)I"⟩
abbrev cX1_log : ByteArray := prog_1_method_5_code
def yX1_log : MethodName := ⟨RX1, "log", "(II)I"⟩
abbrev cL_entry : ByteArray := method_7_code
def yL_entry : MethodName := ⟨RL, "entry", "(LLogDisk;III[J)I"⟩
abbrev cX1_entry : ByteArray := prog_1_method_6_code
def yX1_entry : MethodName := ⟨RX1, "entry", "(III)I"⟩
abbrev cX0_blockOf : ByteArray := prog_2_method_11_code
def yX0_blockOf : MethodName := ⟨RX0, "blockOf", "(I)I"⟩
abbrev cL_byteAt : ByteArray := method_8_code
def yL_byteAt : MethodName := ⟨RL, "byteAt", "(LLogDisk;III[J)I"⟩
abbrev cX1_byteAt : ByteArray := prog_1_method_7_code
def yX1_byteAt : MethodName := ⟨RX1, "byteAt", "(III)I"⟩
abbrev cL_crash : ByteArray := method_9_code
def yL_crash : MethodName := ⟨RL, "crash", "(LLogDisk;I)I"⟩
abbrev cX1_crash : ByteArray := prog_1_method_8_code
def yX1_crash : MethodName := ⟨RX1, "crash", "(I)V"⟩
abbrev cL_free : ByteArray := method_10_code
def yL_free : MethodName := ⟨RL, "free", "(LLogDisk;[J)I"⟩
abbrev cX1_free : ByteArray := prog_1_method_12_code
def yX1_free : MethodName := ⟨RX1, "free", "()I"⟩
abbrev cX2_init : ByteArray := prog_4_method_1_code
def yX2_init : MethodName := ⟨RX2, "<init>", "(II)V"⟩
abbrev cX2_thrown : ByteArray := prog_4_method_2_code
def yX2_thrown : MethodName := ⟨RX2, "thrown", "()I"⟩
abbrev cX2_append : ByteArray := prog_4_method_15_code
def yX2_append : MethodName := ⟨RX2, "append", "(III)I"⟩
abbrev cX2_isLog : ByteArray := prog_4_method_3_code
def yX2_isLog : MethodName := ⟨RX2, "isLog", "(I)Z"⟩
abbrev cX2_goes : ByteArray := prog_4_method_4_code
def yX2_goes : MethodName := ⟨RX2, "goes", "(Z)Z"⟩
abbrev cX2_mark : ByteArray := prog_4_method_5_code
def yX2_mark : MethodName := ⟨RX2, "mark", "()V"⟩
abbrev cX2_hold : ByteArray := prog_4_method_6_code
def yX2_hold : MethodName := ⟨RX2, "hold", "(I)V"⟩
abbrev cX2_place : ByteArray := prog_4_method_7_code
def yX2_place : MethodName := ⟨RX2, "place", "()I"⟩
abbrev cX2_touched : ByteArray := prog_4_method_9_code
def yX2_touched : MethodName := ⟨RX2, "touched", "(II)I"⟩
abbrev cX2_spend : ByteArray := prog_4_method_8_code
def yX2_spend : MethodName := ⟨RX2, "spend", "(I)Z"⟩
abbrev cX2_add : ByteArray := prog_4_method_11_code
def yX2_add : MethodName := ⟨RX2, "add", "(IIIII)V"⟩
abbrev cX2_longer : ByteArray := prog_4_method_10_code
def yX2_longer : MethodName := ⟨RX2, "longer", "([I)[I"⟩
abbrev cX2_retain : ByteArray := prog_4_method_18_code
def yX2_retain : MethodName := ⟨RX2, "retain", "(II)I"⟩
abbrev cX2_sum : ByteArray := prog_4_method_16_code
def yX2_sum : MethodName := ⟨RX2, "sum", "(I)I"⟩
abbrev cX2_inSegment : ByteArray := prog_4_method_17_code
def yX2_inSegment : MethodName := ⟨RX2, "inSegment", "(II)I"⟩
abbrev cX2_copy : ByteArray := prog_4_method_12_code
def yX2_copy : MethodName := ⟨RX2, "copy", "(II)V"⟩
abbrev cX2_thin : ByteArray := prog_4_method_22_code
def yX2_thin : MethodName := ⟨RX2, "thin", "(II)I"⟩
abbrev cX2_closed : ByteArray := prog_4_method_19_code
def yX2_closed : MethodName := ⟨RX2, "closed", "(I)I"⟩
abbrev cX2_count : ByteArray := prog_4_method_13_code
def yX2_count : MethodName := ⟨RX2, "count", "(I)I"⟩
abbrev cX2_plan : ByteArray := prog_4_method_20_code
def yX2_plan : MethodName := ⟨RX2, "plan", "(II)Z"⟩
abbrev cX2_entryOf : ByteArray := prog_4_method_14_code
def yX2_entryOf : MethodName := ⟨RX2, "entryOf", "(II)I"⟩
abbrev cX2_happen : ByteArray := prog_4_method_21_code
def yX2_happen : MethodName := ⟨RX2, "happen", "(II)V"⟩
abbrev cX2_log : ByteArray := prog_4_method_23_code
def yX2_log : MethodName := ⟨RX2, "log", "(II)I"⟩
abbrev cX2_entry : ByteArray := prog_4_method_25_code
def yX2_entry : MethodName := ⟨RX2, "entry", "(III)I"⟩
abbrev cX2_isEntry : ByteArray := prog_4_method_24_code
def yX2_isEntry : MethodName := ⟨RX2, "isEntry", "(II)Z"⟩
abbrev cX2_byteAt : ByteArray := prog_4_method_26_code
def yX2_byteAt : MethodName := ⟨RX2, "byteAt", "(III)I"⟩
abbrev cX2_crash : ByteArray := prog_4_method_27_code
def yX2_crash : MethodName := ⟨RX2, "crash", "(I)V"⟩
abbrev cX2_recover : ByteArray := prog_4_method_28_code
def yX2_recover : MethodName := ⟨RX2, "recover", "()I"⟩
abbrev cX2_isDown : ByteArray := prog_4_method_29_code
def yX2_isDown : MethodName := ⟨RX2, "isDown", "()Z"⟩
abbrev cX2_writes : ByteArray := prog_4_method_30_code
def yX2_writes : MethodName := ⟨RX2, "writes", "()I"⟩
abbrev cX2_free : ByteArray := prog_4_method_31_code
def yX2_free : MethodName := ⟨RX2, "free", "()I"⟩
abbrev cJ_fill : ByteArray := prog_12_method_103_code
def yJ_fill : MethodName := ⟨"java/util/Arrays", "fill", "([II)V"⟩
/-- all words of the tables that hold wherever the machine has gone on: every method's list is its own code, and these -/
def tb : List Cond := lw_tbl.filter goodWord
theorem tb_good {w : Cond} (h : w ∈ tb) : (w.onTables && w.keeps) = true ∨ ∃ ty, w = .arrayClass ty := good_of_word (List.mem_filter.mp h).2
theorem tb_at {w : Cond} (i : Nat) (h : lw_tbl[i]? = some w) (g : goodWord w = true) : w ∈ tb := List.mem_filter.mpr ⟨List.mem_of_getElem? h, g⟩
theorem tb_in {w : Cond} (h : w ∈ tb) : w ∈ lw_tbl := (List.mem_filter.mp h).1
theorem inX0 : ∀ w ∈ u_ws RX0 TX0 9, w ∈ tb := by decide +kernel
theorem inX1 : ∀ w ∈ u_ws RX1 TX1 7, w ∈ tb := by decide +kernel
theorem inX2 : ∀ w ∈ u_ws RX2 TX2 20, w ∈ tb := by decide +kernel
theorem ks_X1_existingLog : Cond.selects RX1 yX1_existingLog yX1_existingLog ∈ tb := tb_at 0 (by decide +kernel) rfl
theorem ks_X1_requirePower : Cond.selects RX1 yX1_requirePower yX1_requirePower ∈ tb := tb_at 2 (by decide +kernel) rfl
theorem ks_X1_segmentBytes : Cond.selects RX1 yX1_segmentBytes yX1_segmentBytes ∈ tb := tb_at 3 (by decide +kernel) rfl
theorem ks_X1_startOfNewSegment : Cond.selects RX1 yX1_startOfNewSegment yX1_startOfNewSegment ∈ tb := tb_at 4 (by decide +kernel) rfl
theorem ks_X1_markBlockUse : Cond.selects RX1 yX1_markBlockUse yX1_markBlockUse ∈ tb := tb_at 5 (by decide +kernel) rfl
theorem ks_X1_markSegmentsOf : Cond.selects RX1 yX1_markSegmentsOf yX1_markSegmentsOf ∈ tb := tb_at 6 (by decide +kernel) rfl
theorem ks_X1_markSegment : Cond.selects RX1 yX1_markSegment yX1_markSegment ∈ tb := tb_at 7 (by decide +kernel) rfl
theorem ks_X1_firstFreeRun : Cond.selects RX1 yX1_firstFreeRun yX1_firstFreeRun ∈ tb := tb_at 8 (by decide +kernel) rfl
theorem ks_X1_writeThroughHead : Cond.selects RX1 yX1_writeThroughHead yX1_writeThroughHead ∈ tb := tb_at 9 (by decide +kernel) rfl
theorem ks_X1_putDraftInPlaceOf : Cond.selects RX1 yX1_putDraftInPlaceOf yX1_putDraftInPlaceOf ∈ tb := tb_at 10 (by decide +kernel) rfl
theorem ks_X1_packThinned : Cond.selects RX1 yX1_packThinned yX1_packThinned ∈ tb := tb_at 11 (by decide +kernel) rfl
theorem ks_X1_packEntry : Cond.selects RX1 yX1_packEntry yX1_packEntry ∈ tb := tb_at 12 (by decide +kernel) rfl
theorem ks_X2_goes : Cond.selects RX2 yX2_goes yX2_goes ∈ tb := tb_at 13 (by decide +kernel) rfl
theorem ks_X2_mark : Cond.selects RX2 yX2_mark yX2_mark ∈ tb := tb_at 14 (by decide +kernel) rfl
theorem ks_X2_hold : Cond.selects RX2 yX2_hold yX2_hold ∈ tb := tb_at 15 (by decide +kernel) rfl
theorem ks_X2_place : Cond.selects RX2 yX2_place yX2_place ∈ tb := tb_at 16 (by decide +kernel) rfl
theorem ks_X2_spend : Cond.selects RX2 yX2_spend yX2_spend ∈ tb := tb_at 17 (by decide +kernel) rfl
theorem ks_X2_add : Cond.selects RX2 yX2_add yX2_add ∈ tb := tb_at 18 (by decide +kernel) rfl
theorem ks_X2_sum : Cond.selects RX2 yX2_sum yX2_sum ∈ tb := tb_at 19 (by decide +kernel) rfl
theorem ks_X2_inSegment : Cond.selects RX2 yX2_inSegment yX2_inSegment ∈ tb := tb_at 20 (by decide +kernel) rfl
theorem ks_X2_copy : Cond.selects RX2 yX2_copy yX2_copy ∈ tb := tb_at 21 (by decide +kernel) rfl
theorem ks_X2_closed : Cond.selects RX2 yX2_closed yX2_closed ∈ tb := tb_at 22 (by decide +kernel) rfl
theorem ks_X2_count : Cond.selects RX2 yX2_count yX2_count ∈ tb := tb_at 23 (by decide +kernel) rfl
theorem ks_X2_plan : Cond.selects RX2 yX2_plan yX2_plan ∈ tb := tb_at 24 (by decide +kernel) rfl
theorem ks_X2_entryOf : Cond.selects RX2 yX2_entryOf yX2_entryOf ∈ tb := tb_at 25 (by decide +kernel) rfl
theorem ks_X2_happen : Cond.selects RX2 yX2_happen yX2_happen ∈ tb := tb_at 26 (by decide +kernel) rfl
theorem ks_X2_isEntry : Cond.selects RX2 yX2_isEntry yX2_isEntry ∈ tb := tb_at 27 (by decide +kernel) rfl
theorem kn_L : Cond.initialized RL ∈ tb := tb_at 28 (by decide +kernel) rfl
theorem kn_X1 : Cond.initialized RX1 ∈ tb := tb_at 29 (by decide +kernel) rfl
theorem kn_X0 : Cond.initialized RX0 ∈ tb := tb_at 30 (by decide +kernel) rfl
theorem kn_Ma : Cond.initialized "java/lang/Math" ∈ tb := tb_at 31 (by decide +kernel) rfl
theorem kn_X2 : Cond.initialized RX2 ∈ tb := tb_at 32 (by decide +kernel) rfl
theorem kn_java_lang_Throwable : Cond.initialized "java/lang/Throwable" ∈ tb := tb_at 33 (by decide +kernel) rfl
theorem kn_java_lang_Exception : Cond.initialized "java/lang/Exception" ∈ tb := tb_at 34 (by decide +kernel) rfl
theorem kn_java_lang_RuntimeException : Cond.initialized "java/lang/RuntimeException" ∈ tb := tb_at 35 (by decide +kernel) rfl
theorem kn_IA : Cond.initialized "java/lang/IllegalArgumentException" ∈ tb := tb_at 36 (by decide +kernel) rfl
theorem kn_IS : Cond.initialized "java/lang/IllegalStateException" ∈ tb := tb_at 37 (by decide +kernel) rfl
theorem kn_Ja : Cond.initialized "java/util/Arrays" ∈ tb := tb_at 38 (by decide +kernel) rfl
theorem kc_L_8 : Cond.classLink RL 8 RX1 ∈ tb := tb_at 39 (by decide +kernel) rfl
theorem kj_X1 : Cond.instantiable RX1 7 ∈ tb := tb_at 40 (by decide +kernel) rfl
theorem km_L_47 : Cond.methodLink RL 47 yX1_init ∈ tb := tb_at 41 (by decide +kernel) rfl
theorem ki_X1_init : Cond.instanceMethod yX1_init ∈ tb := tb_at 42 (by decide +kernel) rfl
theorem ko_X1_init : Cond.code yX1_init cX1_init 4 none ∈ tb := tb_at 43 (by decide +kernel) rfl
theorem km_X1_1 : Cond.methodLink RX1 1 objectInit ∈ tb := tb_at 44 (by decide +kernel) rfl
theorem ki_Ob_init : Cond.instanceMethod objectInit ∈ tb := tb_at 45 (by decide +kernel) rfl
theorem ko_Ob_init : Cond.code objectInit ⟨#[0xb1]⟩ 1 none ∈ tb := tb_at 46 (by decide +kernel) rfl
theorem kc_X1_9 : Cond.classLink RX1 9 RX0 ∈ tb := tb_at 47 (by decide +kernel) rfl
theorem kj_X0 : Cond.instantiable RX0 9 ∈ tb := tb_at 49 (by decide +kernel) rfl
theorem ki_X0_init : Cond.instanceMethod yX0_init ∈ tb := tb_at 51 (by decide +kernel) rfl
theorem ko_X0_init : Cond.code yX0_init cX0_init 1 none ∈ tb := tb_at 52 (by decide +kernel) rfl
theorem km_X0_3 : Cond.methodLink RX0 3 objectInit ∈ tb := tb_at 53 (by decide +kernel) rfl
theorem kf_X0_9 : Cond.fieldLink RX0 9 "LogDisk$Log" "starts" "[I" ∈ tb := tb_at 54 (by decide +kernel) rfl
theorem kf_X1_197 : Cond.fieldLink RX1 197 "LogDisk$Log" "starts" "[I" ∈ tb := tb_at 55 (by decide +kernel) rfl
theorem kf_X0_15 : Cond.fieldLink RX0 15 "LogDisk$Log" "fills" "[I" ∈ tb := tb_at 56 (by decide +kernel) rfl
theorem kf_X0_18 : Cond.fieldLink RX0 18 "LogDisk$Log" "segments" "I" ∈ tb := tb_at 57 (by decide +kernel) rfl
theorem kf_X1_129 : Cond.fieldLink RX1 129 "LogDisk$Log" "segments" "I" ∈ tb := tb_at 58 (by decide +kernel) rfl
theorem kf_X0_22 : Cond.fieldLink RX0 22 "LogDisk$Log" "sizes" "[I" ∈ tb := tb_at 59 (by decide +kernel) rfl
theorem kf_X1_135 : Cond.fieldLink RX1 135 "LogDisk$Log" "sizes" "[I" ∈ tb := tb_at 60 (by decide +kernel) rfl
theorem kf_X0_25 : Cond.fieldLink RX0 25 "LogDisk$Log" "firstBytes" "[I" ∈ tb := tb_at 61 (by decide +kernel) rfl
theorem kf_X1_148 : Cond.fieldLink RX1 148 "LogDisk$Log" "firstBytes" "[I" ∈ tb := tb_at 62 (by decide +kernel) rfl
theorem kf_X0_28 : Cond.fieldLink RX0 28 "LogDisk$Log" "homes" "[I" ∈ tb := tb_at 63 (by decide +kernel) rfl
theorem kf_X1_145 : Cond.fieldLink RX1 145 "LogDisk$Log" "homes" "[I" ∈ tb := tb_at 64 (by decide +kernel) rfl
theorem kf_X0_31 : Cond.fieldLink RX0 31 "LogDisk$Log" "offsets" "[I" ∈ tb := tb_at 65 (by decide +kernel) rfl
theorem kf_X0_34 : Cond.fieldLink RX0 34 "LogDisk$Log" "entries" "I" ∈ tb := tb_at 66 (by decide +kernel) rfl
theorem kf_X1_123 : Cond.fieldLink RX1 123 "LogDisk$Log" "entries" "I" ∈ tb := tb_at 67 (by decide +kernel) rfl
theorem kf_X0_37 : Cond.fieldLink RX0 37 "LogDisk$Log" "came" "I" ∈ tb := tb_at 68 (by decide +kernel) rfl
theorem kf_X1_95 : Cond.fieldLink RX1 95 "LogDisk$Log" "came" "I" ∈ tb := tb_at 69 (by decide +kernel) rfl
theorem ka_int : Cond.arrayClass .int ∈ tb := tb_at 89 (by decide +kernel) rfl
theorem km_X1_31 : Cond.methodLink RX1 31 Lib.Math.min.name ∈ tb := tb_at 90 (by decide +kernel) rfl
theorem kt_Ma_min : Cond.static Lib.Math.min.name ∈ tb := tb_at 91 (by decide +kernel) rfl
theorem ko_Ma_min : Cond.code Lib.Math.min.name Lib.Math.min.code 2 (some .int) ∈ tb := tb_at 92 (by decide +kernel) rfl
theorem km_X1_37 : Cond.methodLink RX1 37 Lib.Math.max.name ∈ tb := tb_at 93 (by decide +kernel) rfl
theorem kt_Ma_max : Cond.static Lib.Math.max.name ∈ tb := tb_at 94 (by decide +kernel) rfl
theorem ko_Ma_max : Cond.code Lib.Math.max.name Lib.Math.max.code 2 (some .int) ∈ tb := tb_at 95 (by decide +kernel) rfl
theorem kf_X1_40 : Cond.fieldLink RX1 40 "LogDisk" "segmentBlocks" "I" ∈ tb := tb_at 96 (by decide +kernel) rfl
theorem kf_X1_11 : Cond.fieldLink RX1 11 "LogDisk" "logs" "[LLogDisk$Log;" ∈ tb := tb_at 97 (by decide +kernel) rfl
theorem kf_X1_43 : Cond.fieldLink RX1 43 "LogDisk" "blockUse" "[I" ∈ tb := tb_at 98 (by decide +kernel) rfl
theorem kf_X1_16 : Cond.fieldLink RX1 16 "LogDisk" "draft" "LLogDisk$Log;" ∈ tb := tb_at 99 (by decide +kernel) rfl
theorem kf_X1_20 : Cond.fieldLink RX1 20 "LogDisk" "blocksToCrash" "I" ∈ tb := tb_at 100 (by decide +kernel) rfl
theorem kf_X1_24 : Cond.fieldLink RX1 24 "LogDisk" "down" "Z" ∈ tb := tb_at 101 (by decide +kernel) rfl
theorem kf_X1_28 : Cond.fieldLink RX1 28 "LogDisk" "blocksWritten" "I" ∈ tb := tb_at 102 (by decide +kernel) rfl
theorem km_L_80 : Cond.methodLink RL 80 yX1_recover ∈ tb := tb_at 118 (by decide +kernel) rfl
theorem ki_X1_recover : Cond.instanceMethod yX1_recover ∈ tb := tb_at 119 (by decide +kernel) rfl
theorem ks_X1_recover : Cond.selects RX1 yX1_recover yX1_recover ∈ tb := tb_at 120 (by decide +kernel) rfl
theorem ko_X1_recover : Cond.code yX1_recover cX1_recover 6 (some .int) ∈ tb := tb_at 121 (by decide +kernel) rfl
theorem km_L_84 : Cond.methodLink RL 84 yX1_isDown ∈ tb := tb_at 122 (by decide +kernel) rfl
theorem ki_X1_isDown : Cond.instanceMethod yX1_isDown ∈ tb := tb_at 123 (by decide +kernel) rfl
theorem ks_X1_isDown : Cond.selects RX1 yX1_isDown yX1_isDown ∈ tb := tb_at 124 (by decide +kernel) rfl
theorem ko_X1_isDown : Cond.code yX1_isDown cX1_isDown 1 (some .boolean) ∈ tb := tb_at 125 (by decide +kernel) rfl
theorem km_L_89 : Cond.methodLink RL 89 yX1_writes ∈ tb := tb_at 126 (by decide +kernel) rfl
theorem ki_X1_writes : Cond.instanceMethod yX1_writes ∈ tb := tb_at 127 (by decide +kernel) rfl
theorem ks_X1_writes : Cond.selects RX1 yX1_writes yX1_writes ∈ tb := tb_at 128 (by decide +kernel) rfl
theorem ko_X1_writes : Cond.code yX1_writes cX1_writes 1 (some .int) ∈ tb := tb_at 129 (by decide +kernel) rfl
theorem km_L_41 : Cond.methodLink RL 41 yL_cell ∈ tb := tb_at 130 (by decide +kernel) rfl
theorem kt_L_cell : Cond.static yL_cell ∈ tb := tb_at 131 (by decide +kernel) rfl
theorem ko_L_cell : Cond.code yL_cell cL_cell 2 (some .int) ∈ tb := tb_at 132 (by decide +kernel) rfl
theorem km_L_53 : Cond.methodLink RL 53 yL_append ∈ tb := tb_at 133 (by decide +kernel) rfl
theorem kt_L_append : Cond.static yL_append ∈ tb := tb_at 134 (by decide +kernel) rfl
theorem ko_L_append : Cond.codeWith yL_append cL_append 6 (some .int) [(0, 12, 15, 13), (0, 12, 19, 15)] ∈ tb := tb_at 135 (by decide +kernel) rfl
theorem kc_L_13 : Cond.classLink RL 13 "java/lang/IllegalArgumentException" ∈ tb := tb_at 136 (by decide +kernel) rfl
theorem kc_L_15 : Cond.classLink RL 15 "java/lang/IllegalStateException" ∈ tb := tb_at 137 (by decide +kernel) rfl
theorem km_L_7 : Cond.methodLink RL 7 yX1_append ∈ tb := tb_at 138 (by decide +kernel) rfl
theorem ki_X1_append : Cond.instanceMethod yX1_append ∈ tb := tb_at 139 (by decide +kernel) rfl
theorem ks_X1_append : Cond.selects RX1 yX1_append yX1_append ∈ tb := tb_at 140 (by decide +kernel) rfl
theorem ko_X1_append : Cond.code yX1_append cX1_append 10 (some .int) ∈ tb := tb_at 141 (by decide +kernel) rfl
theorem km_X1_47 : Cond.methodLink RX1 47 yX1_existingLog ∈ tb := tb_at 142 (by decide +kernel) rfl
theorem ki_X1_existingLog : Cond.instanceMethod yX1_existingLog ∈ tb := tb_at 144 (by decide +kernel) rfl
theorem ko_X1_existingLog : Cond.code yX1_existingLog cX1_existingLog 3 (some (.object "LogDisk$Log")) ∈ tb := tb_at 145 (by decide +kernel) rfl
theorem kc_X1_154 : Cond.classLink RX1 154 "java/lang/IllegalArgumentException" ∈ tb := tb_at 146 (by decide +kernel) rfl
theorem ka_byte : Cond.arrayClass .byte ∈ tb := tb_at 212 (by decide +kernel) rfl
theorem km_X1_51 : Cond.methodLink RX1 51 yX1_requireWithin ∈ tb := tb_at 213 (by decide +kernel) rfl
theorem kt_X1_requireWithin : Cond.static yX1_requireWithin ∈ tb := tb_at 214 (by decide +kernel) rfl
theorem ko_X1_requireWithin : Cond.code yX1_requireWithin cX1_requireWithin 3 none ∈ tb := tb_at 215 (by decide +kernel) rfl
theorem km_X1_55 : Cond.methodLink RX1 55 yX1_requirePower ∈ tb := tb_at 217 (by decide +kernel) rfl
theorem ki_X1_requirePower : Cond.instanceMethod yX1_requirePower ∈ tb := tb_at 219 (by decide +kernel) rfl
theorem ko_X1_requirePower : Cond.code yX1_requirePower cX1_requirePower 1 none ∈ tb := tb_at 220 (by decide +kernel) rfl
theorem kc_X1_161 : Cond.classLink RX1 161 "java/lang/IllegalStateException" ∈ tb := tb_at 221 (by decide +kernel) rfl
theorem km_X1_58 : Cond.methodLink RX1 58 yX1_segmentBytes ∈ tb := tb_at 237 (by decide +kernel) rfl
theorem ki_X1_segmentBytes : Cond.instanceMethod yX1_segmentBytes ∈ tb := tb_at 239 (by decide +kernel) rfl
theorem ko_X1_segmentBytes : Cond.code yX1_segmentBytes cX1_segmentBytes 1 (some .int) ∈ tb := tb_at 240 (by decide +kernel) rfl
theorem km_X1_62 : Cond.methodLink RX1 62 yX0_openHasRoom ∈ tb := tb_at 241 (by decide +kernel) rfl
theorem ki_X0_openHasRoom : Cond.instanceMethod yX0_openHasRoom ∈ tb := tb_at 242 (by decide +kernel) rfl
theorem ks_X0_openHasRoom : Cond.selects RX0 yX0_openHasRoom yX0_openHasRoom ∈ tb := tb_at 243 (by decide +kernel) rfl
theorem ko_X0_openHasRoom : Cond.code yX0_openHasRoom cX0_openHasRoom 3 (some .boolean) ∈ tb := tb_at 244 (by decide +kernel) rfl
theorem km_X0_44 : Cond.methodLink RX0 44 yX0_openBytes ∈ tb := tb_at 245 (by decide +kernel) rfl
theorem ki_X0_openBytes : Cond.instanceMethod yX0_openBytes ∈ tb := tb_at 246 (by decide +kernel) rfl
theorem ks_X0_openBytes : Cond.selects RX0 yX0_openBytes yX0_openBytes ∈ tb := tb_at 247 (by decide +kernel) rfl
theorem ko_X0_openBytes : Cond.code yX0_openBytes cX0_openBytes 1 (some .int) ∈ tb := tb_at 248 (by decide +kernel) rfl
theorem kt_X1_at : Cond.static yX1_at ∈ tb := tb_at 250 (by decide +kernel) rfl
theorem ko_X1_at : Cond.code yX1_at cX1_at 2 (some .int) ∈ tb := tb_at 251 (by decide +kernel) rfl
theorem km_X1_66 : Cond.methodLink RX1 66 yX0_openStart ∈ tb := tb_at 252 (by decide +kernel) rfl
theorem ki_X0_openStart : Cond.instanceMethod yX0_openStart ∈ tb := tb_at 253 (by decide +kernel) rfl
theorem ks_X0_openStart : Cond.selects RX0 yX0_openStart yX0_openStart ∈ tb := tb_at 254 (by decide +kernel) rfl
theorem ko_X0_openStart : Cond.code yX0_openStart cX0_openStart 1 (some .int) ∈ tb := tb_at 255 (by decide +kernel) rfl
theorem km_X1_69 : Cond.methodLink RX1 69 yX1_startOfNewSegment ∈ tb := tb_at 256 (by decide +kernel) rfl
theorem ki_X1_startOfNewSegment : Cond.instanceMethod yX1_startOfNewSegment ∈ tb := tb_at 258 (by decide +kernel) rfl
theorem ko_X1_startOfNewSegment : Cond.code yX1_startOfNewSegment cX1_startOfNewSegment 2 (some .int) ∈ tb := tb_at 259 (by decide +kernel) rfl
theorem km_X1_178 : Cond.methodLink RX1 178 yX0_canOpenMore ∈ tb := tb_at 260 (by decide +kernel) rfl
theorem ki_X0_canOpenMore : Cond.instanceMethod yX0_canOpenMore ∈ tb := tb_at 261 (by decide +kernel) rfl
theorem ks_X0_canOpenMore : Cond.selects RX0 yX0_canOpenMore yX0_canOpenMore ∈ tb := tb_at 262 (by decide +kernel) rfl
theorem ko_X0_canOpenMore : Cond.code yX0_canOpenMore cX0_canOpenMore 1 (some .boolean) ∈ tb := tb_at 263 (by decide +kernel) rfl
theorem km_X1_151 : Cond.methodLink RX1 151 yX1_markBlockUse ∈ tb := tb_at 264 (by decide +kernel) rfl
theorem ki_X1_markBlockUse : Cond.instanceMethod yX1_markBlockUse ∈ tb := tb_at 266 (by decide +kernel) rfl
theorem ko_X1_markBlockUse : Cond.code yX1_markBlockUse cX1_markBlockUse 5 none ∈ tb := tb_at 267 (by decide +kernel) rfl
theorem km_X1_184 : Cond.methodLink RX1 184 yJ_fill ∈ tb := tb_at 268 (by decide +kernel) rfl
theorem kt_Ja_fill : Cond.static yJ_fill ∈ tb := tb_at 269 (by decide +kernel) rfl
theorem ko_J_fill : Cond.code yJ_fill cJ_fill 4 none ∈ tb := tb_at 270 (by decide +kernel) rfl
theorem km_X1_190 : Cond.methodLink RX1 190 yX1_set ∈ tb := tb_at 271 (by decide +kernel) rfl
theorem kt_X1_set : Cond.static yX1_set ∈ tb := tb_at 272 (by decide +kernel) rfl
theorem ko_X1_set : Cond.code yX1_set cX1_set 3 none ∈ tb := tb_at 273 (by decide +kernel) rfl
theorem km_X1_194 : Cond.methodLink RX1 194 yX1_markSegmentsOf ∈ tb := tb_at 274 (by decide +kernel) rfl
theorem ki_X1_markSegmentsOf : Cond.instanceMethod yX1_markSegmentsOf ∈ tb := tb_at 276 (by decide +kernel) rfl
theorem ko_X1_markSegmentsOf : Cond.code yX1_markSegmentsOf cX1_markSegmentsOf 3 none ∈ tb := tb_at 277 (by decide +kernel) rfl
theorem km_X1_138 : Cond.methodLink RX1 138 yX1_at ∈ tb := tb_at 278 (by decide +kernel) rfl
theorem km_X1_181 : Cond.methodLink RX1 181 yX1_markSegment ∈ tb := tb_at 279 (by decide +kernel) rfl
theorem ki_X1_markSegment : Cond.instanceMethod yX1_markSegment ∈ tb := tb_at 281 (by decide +kernel) rfl
theorem ko_X1_markSegment : Cond.code yX1_markSegment cX1_markSegment 3 none ∈ tb := tb_at 282 (by decide +kernel) rfl
theorem km_X1_175 : Cond.methodLink RX1 175 yX1_firstFreeRun ∈ tb := tb_at 283 (by decide +kernel) rfl
theorem ki_X1_firstFreeRun : Cond.instanceMethod yX1_firstFreeRun ∈ tb := tb_at 285 (by decide +kernel) rfl
theorem ko_X1_firstFreeRun : Cond.code yX1_firstFreeRun cX1_firstFreeRun 3 (some .int) ∈ tb := tb_at 286 (by decide +kernel) rfl
theorem km_X1_73 : Cond.methodLink RX1 73 yX0_canHoldMore ∈ tb := tb_at 287 (by decide +kernel) rfl
theorem ki_X0_canHoldMore : Cond.instanceMethod yX0_canHoldMore ∈ tb := tb_at 288 (by decide +kernel) rfl
theorem ks_X0_canHoldMore : Cond.selects RX0 yX0_canHoldMore yX0_canHoldMore ∈ tb := tb_at 289 (by decide +kernel) rfl
theorem ko_X0_canHoldMore : Cond.code yX0_canHoldMore cX0_canHoldMore 1 (some .boolean) ∈ tb := tb_at 290 (by decide +kernel) rfl
theorem km_X1_77 : Cond.methodLink RX1 77 yX0_openBytes ∈ tb := tb_at 291 (by decide +kernel) rfl
theorem km_X1_80 : Cond.methodLink RX1 80 yX1_blocksTouched ∈ tb := tb_at 292 (by decide +kernel) rfl
theorem kt_X1_blocksTouched : Cond.static yX1_blocksTouched ∈ tb := tb_at 293 (by decide +kernel) rfl
theorem ko_X1_blocksTouched : Cond.code yX1_blocksTouched cX1_blocksTouched 2 (some .int) ∈ tb := tb_at 294 (by decide +kernel) rfl
theorem km_X1_83 : Cond.methodLink RX1 83 yX1_writeThroughHead ∈ tb := tb_at 295 (by decide +kernel) rfl
theorem ki_X1_writeThroughHead : Cond.instanceMethod yX1_writeThroughHead ∈ tb := tb_at 297 (by decide +kernel) rfl
theorem ko_X1_writeThroughHead : Cond.code yX1_writeThroughHead cX1_writeThroughHead 3 (some .boolean) ∈ tb := tb_at 298 (by decide +kernel) rfl
theorem km_X1_87 : Cond.methodLink RX1 87 yX0_openSegment ∈ tb := tb_at 299 (by decide +kernel) rfl
theorem ki_X0_openSegment : Cond.instanceMethod yX0_openSegment ∈ tb := tb_at 300 (by decide +kernel) rfl
theorem ks_X0_openSegment : Cond.selects RX0 yX0_openSegment yX0_openSegment ∈ tb := tb_at 301 (by decide +kernel) rfl
theorem ko_X0_openSegment : Cond.code yX0_openSegment cX0_openSegment 2 none ∈ tb := tb_at 302 (by decide +kernel) rfl
theorem km_X0_48 : Cond.methodLink RX0 48 yX0_canOpenMore ∈ tb := tb_at 303 (by decide +kernel) rfl
theorem km_X1_91 : Cond.methodLink RX1 91 yX0_put ∈ tb := tb_at 305 (by decide +kernel) rfl
theorem ki_X0_put : Cond.instanceMethod yX0_put ∈ tb := tb_at 306 (by decide +kernel) rfl
theorem ks_X0_put : Cond.selects RX0 yX0_put yX0_put ∈ tb := tb_at 307 (by decide +kernel) rfl
theorem ko_X0_put : Cond.code yX0_put cX0_put 3 none ∈ tb := tb_at 308 (by decide +kernel) rfl
theorem km_X0_56 : Cond.methodLink RX0 56 yX0_canHoldMore ∈ tb := tb_at 309 (by decide +kernel) rfl
theorem km_L_60 : Cond.methodLink RL 60 yL_retain ∈ tb := tb_at 310 (by decide +kernel) rfl
theorem kt_L_retain : Cond.static yL_retain ∈ tb := tb_at 311 (by decide +kernel) rfl
theorem ko_L_retain : Cond.codeWith yL_retain cL_retain 5 (some .int) [(0, 10, 13, 13), (0, 10, 17, 15)] ∈ tb := tb_at 312 (by decide +kernel) rfl
theorem km_L_17 : Cond.methodLink RL 17 yX1_retain ∈ tb := tb_at 313 (by decide +kernel) rfl
theorem ki_X1_retain : Cond.instanceMethod yX1_retain ∈ tb := tb_at 314 (by decide +kernel) rfl
theorem ks_X1_retain : Cond.selects RX1 yX1_retain yX1_retain ∈ tb := tb_at 315 (by decide +kernel) rfl
theorem ko_X1_retain : Cond.code yX1_retain cX1_retain 5 (some .int) ∈ tb := tb_at 316 (by decide +kernel) rfl
theorem kx_100 : Cond.constant RX1 100 2147483647 ∈ tb := tb_at 317 (by decide +kernel) rfl
theorem km_X1_101 : Cond.methodLink RX1 101 yX0_segmentsPast ∈ tb := tb_at 318 (by decide +kernel) rfl
theorem ki_X0_segmentsPast : Cond.instanceMethod yX0_segmentsPast ∈ tb := tb_at 319 (by decide +kernel) rfl
theorem ks_X0_segmentsPast : Cond.selects RX0 yX0_segmentsPast yX0_segmentsPast ∈ tb := tb_at 320 (by decide +kernel) rfl
theorem ko_X0_segmentsPast : Cond.code yX0_segmentsPast cX0_segmentsPast 3 (some .int) ∈ tb := tb_at 321 (by decide +kernel) rfl
theorem km_X0_67 : Cond.methodLink RX0 67 yX0_bytesFrom ∈ tb := tb_at 322 (by decide +kernel) rfl
theorem ki_X0_bytesFrom : Cond.instanceMethod yX0_bytesFrom ∈ tb := tb_at 323 (by decide +kernel) rfl
theorem ks_X0_bytesFrom : Cond.selects RX0 yX0_bytesFrom yX0_bytesFrom ∈ tb := tb_at 324 (by decide +kernel) rfl
theorem ko_X0_bytesFrom : Cond.code yX0_bytesFrom cX0_bytesFrom 4 (some .int) ∈ tb := tb_at 325 (by decide +kernel) rfl
theorem km_X1_105 : Cond.methodLink RX1 105 yX0_beginAs ∈ tb := tb_at 326 (by decide +kernel) rfl
theorem ki_X0_beginAs : Cond.instanceMethod yX0_beginAs ∈ tb := tb_at 327 (by decide +kernel) rfl
theorem ks_X0_beginAs : Cond.selects RX0 yX0_beginAs yX0_beginAs ∈ tb := tb_at 328 (by decide +kernel) rfl
theorem ko_X0_beginAs : Cond.code yX0_beginAs cX0_beginAs 2 none ∈ tb := tb_at 329 (by decide +kernel) rfl
theorem km_X1_109 : Cond.methodLink RX1 109 yX0_takeSegments ∈ tb := tb_at 330 (by decide +kernel) rfl
theorem ki_X0_takeSegments : Cond.instanceMethod yX0_takeSegments ∈ tb := tb_at 331 (by decide +kernel) rfl
theorem ks_X0_takeSegments : Cond.selects RX0 yX0_takeSegments yX0_takeSegments ∈ tb := tb_at 332 (by decide +kernel) rfl
theorem ko_X0_takeSegments : Cond.code yX0_takeSegments cX0_takeSegments 6 none ∈ tb := tb_at 333 (by decide +kernel) rfl
theorem km_X0_59 : Cond.methodLink RX0 59 yX0_openSegment ∈ tb := tb_at 334 (by decide +kernel) rfl
theorem km_X0_63 : Cond.methodLink RX0 63 yX0_put ∈ tb := tb_at 335 (by decide +kernel) rfl
theorem km_X1_113 : Cond.methodLink RX1 113 yX1_putDraftInPlaceOf ∈ tb := tb_at 336 (by decide +kernel) rfl
theorem ki_X1_putDraftInPlaceOf : Cond.instanceMethod yX1_putDraftInPlaceOf ∈ tb := tb_at 338 (by decide +kernel) rfl
theorem ko_X1_putDraftInPlaceOf : Cond.code yX1_putDraftInPlaceOf cX1_putDraftInPlaceOf 3 none ∈ tb := tb_at 339 (by decide +kernel) rfl
theorem km_L_64 : Cond.methodLink RL 64 yL_thin ∈ tb := tb_at 340 (by decide +kernel) rfl
theorem kt_L_thin : Cond.static yL_thin ∈ tb := tb_at 341 (by decide +kernel) rfl
theorem ko_L_thin : Cond.codeWith yL_thin cL_thin 5 (some .int) [(0, 10, 13, 13), (0, 10, 17, 15)] ∈ tb := tb_at 342 (by decide +kernel) rfl
theorem km_L_21 : Cond.methodLink RL 21 yX1_thin ∈ tb := tb_at 343 (by decide +kernel) rfl
theorem ki_X1_thin : Cond.instanceMethod yX1_thin ∈ tb := tb_at 344 (by decide +kernel) rfl
theorem ks_X1_thin : Cond.selects RX1 yX1_thin yX1_thin ∈ tb := tb_at 345 (by decide +kernel) rfl
theorem ko_X1_thin : Cond.code yX1_thin cX1_thin 7 (some .int) ∈ tb := tb_at 346 (by decide +kernel) rfl
theorem km_X1_116 : Cond.methodLink RX1 116 yX0_closedEntries ∈ tb := tb_at 347 (by decide +kernel) rfl
theorem ki_X0_closedEntries : Cond.instanceMethod yX0_closedEntries ∈ tb := tb_at 348 (by decide +kernel) rfl
theorem ks_X0_closedEntries : Cond.selects RX0 yX0_closedEntries yX0_closedEntries ∈ tb := tb_at 349 (by decide +kernel) rfl
theorem ko_X0_closedEntries : Cond.code yX0_closedEntries cX0_closedEntries 3 (some .int) ∈ tb := tb_at 350 (by decide +kernel) rfl
theorem km_X1_119 : Cond.methodLink RX1 119 yX1_packThinned ∈ tb := tb_at 351 (by decide +kernel) rfl
theorem ki_X1_packThinned : Cond.instanceMethod yX1_packThinned ∈ tb := tb_at 353 (by decide +kernel) rfl
theorem ko_X1_packThinned : Cond.code yX1_packThinned cX1_packThinned 5 (some .boolean) ∈ tb := tb_at 354 (by decide +kernel) rfl
theorem km_X1_168 : Cond.methodLink RX1 168 yX1_goes ∈ tb := tb_at 355 (by decide +kernel) rfl
theorem kt_X1_goes : Cond.static yX1_goes ∈ tb := tb_at 356 (by decide +kernel) rfl
theorem ko_X1_goes : Cond.code yX1_goes cX1_goes 2 (some .boolean) ∈ tb := tb_at 357 (by decide +kernel) rfl
theorem km_X1_171 : Cond.methodLink RX1 171 yX1_packEntry ∈ tb := tb_at 358 (by decide +kernel) rfl
theorem ki_X1_packEntry : Cond.instanceMethod yX1_packEntry ∈ tb := tb_at 360 (by decide +kernel) rfl
theorem ko_X1_packEntry : Cond.code yX1_packEntry cX1_packEntry 5 (some .boolean) ∈ tb := tb_at 361 (by decide +kernel) rfl
theorem km_X1_126 : Cond.methodLink RX1 126 yX0_blocksFilled ∈ tb := tb_at 362 (by decide +kernel) rfl
theorem ki_X0_blocksFilled : Cond.instanceMethod yX0_blocksFilled ∈ tb := tb_at 363 (by decide +kernel) rfl
theorem ks_X0_blocksFilled : Cond.selects RX0 yX0_blocksFilled yX0_blocksFilled ∈ tb := tb_at 364 (by decide +kernel) rfl
theorem ko_X0_blocksFilled : Cond.code yX0_blocksFilled cX0_blocksFilled 3 (some .int) ∈ tb := tb_at 365 (by decide +kernel) rfl
theorem km_L_67 : Cond.methodLink RL 67 yL_log ∈ tb := tb_at 367 (by decide +kernel) rfl
theorem kt_L_log : Cond.static yL_log ∈ tb := tb_at 368 (by decide +kernel) rfl
theorem ko_L_log : Cond.codeWith yL_log cL_log 5 (some .int) [(0, 10, 13, 13), (0, 10, 17, 15)] ∈ tb := tb_at 369 (by decide +kernel) rfl
theorem km_L_24 : Cond.methodLink RL 24 yX1_log ∈ tb := tb_at 370 (by decide +kernel) rfl
theorem ki_X1_log : Cond.instanceMethod yX1_log ∈ tb := tb_at 371 (by decide +kernel) rfl
theorem ks_X1_log : Cond.selects RX1 yX1_log yX1_log ∈ tb := tb_at 372 (by decide +kernel) rfl
theorem ko_X1_log : Cond.code yX1_log cX1_log 4 (some .int) ∈ tb := tb_at 373 (by decide +kernel) rfl
theorem km_X1_132 : Cond.methodLink RX1 132 yX0_bytesFrom ∈ tb := tb_at 374 (by decide +kernel) rfl
theorem km_L_70 : Cond.methodLink RL 70 yL_entry ∈ tb := tb_at 375 (by decide +kernel) rfl
theorem kt_L_entry : Cond.static yL_entry ∈ tb := tb_at 376 (by decide +kernel) rfl
theorem ko_L_entry : Cond.codeWith yL_entry cL_entry 6 (some .int) [(0, 12, 15, 13), (0, 12, 19, 15)] ∈ tb := tb_at 377 (by decide +kernel) rfl
theorem km_L_27 : Cond.methodLink RL 27 yX1_entry ∈ tb := tb_at 378 (by decide +kernel) rfl
theorem ki_X1_entry : Cond.instanceMethod yX1_entry ∈ tb := tb_at 379 (by decide +kernel) rfl
theorem ks_X1_entry : Cond.selects RX1 yX1_entry yX1_entry ∈ tb := tb_at 380 (by decide +kernel) rfl
theorem ko_X1_entry : Cond.code yX1_entry cX1_entry 5 (some .int) ∈ tb := tb_at 381 (by decide +kernel) rfl
theorem km_X1_142 : Cond.methodLink RX1 142 yX0_blockOf ∈ tb := tb_at 382 (by decide +kernel) rfl
theorem ki_X0_blockOf : Cond.instanceMethod yX0_blockOf ∈ tb := tb_at 383 (by decide +kernel) rfl
theorem ks_X0_blockOf : Cond.selects RX0 yX0_blockOf yX0_blockOf ∈ tb := tb_at 384 (by decide +kernel) rfl
theorem ko_X0_blockOf : Cond.code yX0_blockOf cX0_blockOf 2 (some .int) ∈ tb := tb_at 385 (by decide +kernel) rfl
theorem km_L_73 : Cond.methodLink RL 73 yL_byteAt ∈ tb := tb_at 386 (by decide +kernel) rfl
theorem kt_L_byteAt : Cond.static yL_byteAt ∈ tb := tb_at 387 (by decide +kernel) rfl
theorem ko_L_byteAt : Cond.codeWith yL_byteAt cL_byteAt 6 (some .int) [(0, 12, 15, 13), (0, 12, 19, 15)] ∈ tb := tb_at 388 (by decide +kernel) rfl
theorem km_L_30 : Cond.methodLink RL 30 yX1_byteAt ∈ tb := tb_at 389 (by decide +kernel) rfl
theorem ki_X1_byteAt : Cond.instanceMethod yX1_byteAt ∈ tb := tb_at 390 (by decide +kernel) rfl
theorem ks_X1_byteAt : Cond.selects RX1 yX1_byteAt yX1_byteAt ∈ tb := tb_at 391 (by decide +kernel) rfl
theorem ko_X1_byteAt : Cond.code yX1_byteAt cX1_byteAt 5 (some .int) ∈ tb := tb_at 392 (by decide +kernel) rfl
theorem km_L_76 : Cond.methodLink RL 76 yL_crash ∈ tb := tb_at 393 (by decide +kernel) rfl
theorem kt_L_crash : Cond.static yL_crash ∈ tb := tb_at 394 (by decide +kernel) rfl
theorem ko_L_crash : Cond.codeWith yL_crash cL_crash 3 (some .int) [(0, 5, 8, 13), (0, 5, 11, 15)] ∈ tb := tb_at 395 (by decide +kernel) rfl
theorem km_L_33 : Cond.methodLink RL 33 yX1_crash ∈ tb := tb_at 396 (by decide +kernel) rfl
theorem ki_X1_crash : Cond.instanceMethod yX1_crash ∈ tb := tb_at 397 (by decide +kernel) rfl
theorem ks_X1_crash : Cond.selects RX1 yX1_crash yX1_crash ∈ tb := tb_at 398 (by decide +kernel) rfl
theorem ko_X1_crash : Cond.code yX1_crash cX1_crash 2 none ∈ tb := tb_at 399 (by decide +kernel) rfl
theorem km_L_93 : Cond.methodLink RL 93 yL_free ∈ tb := tb_at 400 (by decide +kernel) rfl
theorem kt_L_free : Cond.static yL_free ∈ tb := tb_at 401 (by decide +kernel) rfl
theorem ko_L_free : Cond.codeWith yL_free cL_free 3 (some .int) [(0, 8, 11, 15)] ∈ tb := tb_at 402 (by decide +kernel) rfl
theorem km_L_37 : Cond.methodLink RL 37 yX1_free ∈ tb := tb_at 403 (by decide +kernel) rfl
theorem ki_X1_free : Cond.instanceMethod yX1_free ∈ tb := tb_at 404 (by decide +kernel) rfl
theorem ks_X1_free : Cond.selects RX1 yX1_free yX1_free ∈ tb := tb_at 405 (by decide +kernel) rfl
theorem ko_X1_free : Cond.code yX1_free cX1_free 6 (some .int) ∈ tb := tb_at 406 (by decide +kernel) rfl
theorem kc_L_50 : Cond.classLink RL 50 RX2 ∈ tb := tb_at 407 (by decide +kernel) rfl
theorem kj_X2 : Cond.instantiable RX2 20 ∈ tb := tb_at 408 (by decide +kernel) rfl
theorem km_L_52 : Cond.methodLink RL 52 yX2_init ∈ tb := tb_at 409 (by decide +kernel) rfl
theorem ki_X2_init : Cond.instanceMethod yX2_init ∈ tb := tb_at 410 (by decide +kernel) rfl
theorem ko_X2_init : Cond.code yX2_init cX2_init 3 none ∈ tb := tb_at 411 (by decide +kernel) rfl
theorem km_X2_1 : Cond.methodLink RX2 1 objectInit ∈ tb := tb_at 412 (by decide +kernel) rfl
theorem kf_X2_57 : Cond.fieldLink RX2 57 "LogDiskModel" "code" "I" ∈ tb := tb_at 413 (by decide +kernel) rfl
theorem kf_X2_51 : Cond.fieldLink RX2 51 "LogDiskModel" "wide" "I" ∈ tb := tb_at 414 (by decide +kernel) rfl
theorem kf_X2_54 : Cond.fieldLink RX2 54 "LogDiskModel" "blocks" "I" ∈ tb := tb_at 415 (by decide +kernel) rfl
theorem kf_X2_68 : Cond.fieldLink RX2 68 "LogDiskModel" "writes" "I" ∈ tb := tb_at 416 (by decide +kernel) rfl
theorem kf_X2_7 : Cond.fieldLink RX2 7 "LogDiskModel" "left" "I" ∈ tb := tb_at 417 (by decide +kernel) rfl
theorem kf_X2_60 : Cond.fieldLink RX2 60 "LogDiskModel" "down" "Z" ∈ tb := tb_at 418 (by decide +kernel) rfl
theorem kf_X2_13 : Cond.fieldLink RX2 13 "LogDiskModel" "segments" "[I" ∈ tb := tb_at 419 (by decide +kernel) rfl
theorem kf_X2_17 : Cond.fieldLink RX2 17 "LogDiskModel" "first" "[I" ∈ tb := tb_at 420 (by decide +kernel) rfl
theorem kf_X2_20 : Cond.fieldLink RX2 20 "LogDiskModel" "bytes" "[I" ∈ tb := tb_at 421 (by decide +kernel) rfl
theorem kf_X2_23 : Cond.fieldLink RX2 23 "LogDiskModel" "came" "[I" ∈ tb := tb_at 422 (by decide +kernel) rfl
theorem kf_X2_26 : Cond.fieldLink RX2 26 "LogDiskModel" "held" "[Z" ∈ tb := tb_at 423 (by decide +kernel) rfl
theorem kf_X2_71 : Cond.fieldLink RX2 71 "LogDiskModel" "entries" "I" ∈ tb := tb_at 424 (by decide +kernel) rfl
theorem kf_X2_30 : Cond.fieldLink RX2 30 "LogDiskModel" "of" "[I" ∈ tb := tb_at 425 (by decide +kernel) rfl
theorem kf_X2_33 : Cond.fieldLink RX2 33 "LogDiskModel" "size" "[I" ∈ tb := tb_at 426 (by decide +kernel) rfl
theorem kf_X2_36 : Cond.fieldLink RX2 36 "LogDiskModel" "begin" "[I" ∈ tb := tb_at 427 (by decide +kernel) rfl
theorem kf_X2_39 : Cond.fieldLink RX2 39 "LogDiskModel" "in" "[I" ∈ tb := tb_at 428 (by decide +kernel) rfl
theorem kf_X2_42 : Cond.fieldLink RX2 42 "LogDiskModel" "at" "[I" ∈ tb := tb_at 429 (by decide +kernel) rfl
theorem kf_X2_118 : Cond.fieldLink RX2 118 "LogDiskModel" "planned" "I" ∈ tb := tb_at 430 (by decide +kernel) rfl
theorem kf_X2_45 : Cond.fieldLink RX2 45 "LogDiskModel" "planFirst" "[I" ∈ tb := tb_at 431 (by decide +kernel) rfl
theorem kf_X2_48 : Cond.fieldLink RX2 48 "LogDiskModel" "planBytes" "[I" ∈ tb := tb_at 432 (by decide +kernel) rfl
theorem ka_boolean : Cond.arrayClass .boolean ∈ tb := tb_at 474 (by decide +kernel) rfl
theorem km_L_57 : Cond.methodLink RL 57 yX2_thrown ∈ tb := tb_at 475 (by decide +kernel) rfl
theorem ki_X2_thrown : Cond.instanceMethod yX2_thrown ∈ tb := tb_at 476 (by decide +kernel) rfl
theorem ks_X2_thrown : Cond.selects RX2 yX2_thrown yX2_thrown ∈ tb := tb_at 477 (by decide +kernel) rfl
theorem ko_X2_thrown : Cond.code yX2_thrown cX2_thrown 1 (some .int) ∈ tb := tb_at 478 (by decide +kernel) rfl
theorem km_L_56 : Cond.methodLink RL 56 yX2_append ∈ tb := tb_at 479 (by decide +kernel) rfl
theorem ki_X2_append : Cond.instanceMethod yX2_append ∈ tb := tb_at 480 (by decide +kernel) rfl
theorem ks_X2_append : Cond.selects RX2 yX2_append yX2_append ∈ tb := tb_at 481 (by decide +kernel) rfl
theorem ko_X2_append : Cond.code yX2_append cX2_append 10 (some .int) ∈ tb := tb_at 482 (by decide +kernel) rfl
theorem km_X2_78 : Cond.methodLink RX2 78 yX2_isLog ∈ tb := tb_at 483 (by decide +kernel) rfl
theorem kt_X2_isLog : Cond.static yX2_isLog ∈ tb := tb_at 484 (by decide +kernel) rfl
theorem ko_X2_isLog : Cond.code yX2_isLog cX2_isLog 1 (some .boolean) ∈ tb := tb_at 485 (by decide +kernel) rfl
theorem km_X2_82 : Cond.methodLink RX2 82 yX2_goes ∈ tb := tb_at 486 (by decide +kernel) rfl
theorem ki_X2_goes : Cond.instanceMethod yX2_goes ∈ tb := tb_at 488 (by decide +kernel) rfl
theorem ko_X2_goes : Cond.code yX2_goes cX2_goes 2 (some .boolean) ∈ tb := tb_at 489 (by decide +kernel) rfl
theorem km_X2_86 : Cond.methodLink RX2 86 yX2_mark ∈ tb := tb_at 490 (by decide +kernel) rfl
theorem ki_X2_mark : Cond.instanceMethod yX2_mark ∈ tb := tb_at 492 (by decide +kernel) rfl
theorem ko_X2_mark : Cond.code yX2_mark cX2_mark 3 none ∈ tb := tb_at 493 (by decide +kernel) rfl
theorem km_X2_64 : Cond.methodLink RX2 64 yX2_hold ∈ tb := tb_at 494 (by decide +kernel) rfl
theorem ki_X2_hold : Cond.instanceMethod yX2_hold ∈ tb := tb_at 496 (by decide +kernel) rfl
theorem ko_X2_hold : Cond.code yX2_hold cX2_hold 3 none ∈ tb := tb_at 497 (by decide +kernel) rfl
theorem km_X2_89 : Cond.methodLink RX2 89 yX2_place ∈ tb := tb_at 498 (by decide +kernel) rfl
theorem ki_X2_place : Cond.instanceMethod yX2_place ∈ tb := tb_at 500 (by decide +kernel) rfl
theorem ko_X2_place : Cond.code yX2_place cX2_place 4 (some .int) ∈ tb := tb_at 501 (by decide +kernel) rfl
theorem km_X2_93 : Cond.methodLink RX2 93 yX2_touched ∈ tb := tb_at 502 (by decide +kernel) rfl
theorem kt_X2_touched : Cond.static yX2_touched ∈ tb := tb_at 503 (by decide +kernel) rfl
theorem ko_X2_touched : Cond.code yX2_touched cX2_touched 2 (some .int) ∈ tb := tb_at 504 (by decide +kernel) rfl
theorem km_X2_97 : Cond.methodLink RX2 97 yX2_spend ∈ tb := tb_at 505 (by decide +kernel) rfl
theorem ki_X2_spend : Cond.instanceMethod yX2_spend ∈ tb := tb_at 507 (by decide +kernel) rfl
theorem ko_X2_spend : Cond.code yX2_spend cX2_spend 4 (some .boolean) ∈ tb := tb_at 508 (by decide +kernel) rfl
theorem km_X2_100 : Cond.methodLink RX2 100 yX2_add ∈ tb := tb_at 509 (by decide +kernel) rfl
theorem ki_X2_add : Cond.instanceMethod yX2_add ∈ tb := tb_at 511 (by decide +kernel) rfl
theorem ko_X2_add : Cond.code yX2_add cX2_add 6 none ∈ tb := tb_at 512 (by decide +kernel) rfl
theorem km_X2_74 : Cond.methodLink RX2 74 yX2_longer ∈ tb := tb_at 513 (by decide +kernel) rfl
theorem kt_X2_longer : Cond.static yX2_longer ∈ tb := tb_at 514 (by decide +kernel) rfl
theorem ko_X2_longer : Cond.code yX2_longer cX2_longer 3 (some (.array .int)) ∈ tb := tb_at 515 (by decide +kernel) rfl
theorem km_L_63 : Cond.methodLink RL 63 yX2_retain ∈ tb := tb_at 516 (by decide +kernel) rfl
theorem ki_X2_retain : Cond.instanceMethod yX2_retain ∈ tb := tb_at 517 (by decide +kernel) rfl
theorem ks_X2_retain : Cond.selects RX2 yX2_retain yX2_retain ∈ tb := tb_at 518 (by decide +kernel) rfl
theorem ko_X2_retain : Cond.code yX2_retain cX2_retain 11 (some .int) ∈ tb := tb_at 519 (by decide +kernel) rfl
theorem km_X2_104 : Cond.methodLink RX2 104 yX2_sum ∈ tb := tb_at 520 (by decide +kernel) rfl
theorem ki_X2_sum : Cond.instanceMethod yX2_sum ∈ tb := tb_at 522 (by decide +kernel) rfl
theorem ko_X2_sum : Cond.code yX2_sum cX2_sum 4 (some .int) ∈ tb := tb_at 523 (by decide +kernel) rfl
theorem km_X2_108 : Cond.methodLink RX2 108 yX2_inSegment ∈ tb := tb_at 524 (by decide +kernel) rfl
theorem ki_X2_inSegment : Cond.instanceMethod yX2_inSegment ∈ tb := tb_at 526 (by decide +kernel) rfl
theorem ko_X2_inSegment : Cond.code yX2_inSegment cX2_inSegment 5 (some .int) ∈ tb := tb_at 527 (by decide +kernel) rfl
theorem km_X2_111 : Cond.methodLink RX2 111 yX2_copy ∈ tb := tb_at 528 (by decide +kernel) rfl
theorem ki_X2_copy : Cond.instanceMethod yX2_copy ∈ tb := tb_at 530 (by decide +kernel) rfl
theorem ko_X2_copy : Cond.code yX2_copy cX2_copy 3 none ∈ tb := tb_at 531 (by decide +kernel) rfl
theorem km_L_66 : Cond.methodLink RL 66 yX2_thin ∈ tb := tb_at 532 (by decide +kernel) rfl
theorem ki_X2_thin : Cond.instanceMethod yX2_thin ∈ tb := tb_at 533 (by decide +kernel) rfl
theorem ks_X2_thin : Cond.selects RX2 yX2_thin yX2_thin ∈ tb := tb_at 534 (by decide +kernel) rfl
theorem ko_X2_thin : Cond.code yX2_thin cX2_thin 6 (some .int) ∈ tb := tb_at 535 (by decide +kernel) rfl
theorem km_X2_121 : Cond.methodLink RX2 121 yX2_closed ∈ tb := tb_at 536 (by decide +kernel) rfl
theorem ki_X2_closed : Cond.instanceMethod yX2_closed ∈ tb := tb_at 538 (by decide +kernel) rfl
theorem ko_X2_closed : Cond.code yX2_closed cX2_closed 2 (some .int) ∈ tb := tb_at 539 (by decide +kernel) rfl
theorem km_X2_115 : Cond.methodLink RX2 115 yX2_count ∈ tb := tb_at 540 (by decide +kernel) rfl
theorem ki_X2_count : Cond.instanceMethod yX2_count ∈ tb := tb_at 542 (by decide +kernel) rfl
theorem ko_X2_count : Cond.code yX2_count cX2_count 4 (some .int) ∈ tb := tb_at 543 (by decide +kernel) rfl
theorem km_X2_127 : Cond.methodLink RX2 127 yX2_plan ∈ tb := tb_at 544 (by decide +kernel) rfl
theorem ki_X2_plan : Cond.instanceMethod yX2_plan ∈ tb := tb_at 546 (by decide +kernel) rfl
theorem ko_X2_plan : Cond.code yX2_plan cX2_plan 7 (some .boolean) ∈ tb := tb_at 547 (by decide +kernel) rfl
theorem km_X2_124 : Cond.methodLink RX2 124 yX2_entryOf ∈ tb := tb_at 548 (by decide +kernel) rfl
theorem ki_X2_entryOf : Cond.instanceMethod yX2_entryOf ∈ tb := tb_at 550 (by decide +kernel) rfl
theorem ko_X2_entryOf : Cond.code yX2_entryOf cX2_entryOf 5 (some .int) ∈ tb := tb_at 551 (by decide +kernel) rfl
theorem km_X2_131 : Cond.methodLink RX2 131 yX2_happen ∈ tb := tb_at 552 (by decide +kernel) rfl
theorem ki_X2_happen : Cond.instanceMethod yX2_happen ∈ tb := tb_at 554 (by decide +kernel) rfl
theorem ko_X2_happen : Cond.code yX2_happen cX2_happen 14 none ∈ tb := tb_at 555 (by decide +kernel) rfl
theorem km_L_69 : Cond.methodLink RL 69 yX2_log ∈ tb := tb_at 556 (by decide +kernel) rfl
theorem ki_X2_log : Cond.instanceMethod yX2_log ∈ tb := tb_at 557 (by decide +kernel) rfl
theorem ks_X2_log : Cond.selects RX2 yX2_log yX2_log ∈ tb := tb_at 558 (by decide +kernel) rfl
theorem ko_X2_log : Cond.code yX2_log cX2_log 3 (some .int) ∈ tb := tb_at 559 (by decide +kernel) rfl
theorem km_L_72 : Cond.methodLink RL 72 yX2_entry ∈ tb := tb_at 560 (by decide +kernel) rfl
theorem ki_X2_entry : Cond.instanceMethod yX2_entry ∈ tb := tb_at 561 (by decide +kernel) rfl
theorem ks_X2_entry : Cond.selects RX2 yX2_entry yX2_entry ∈ tb := tb_at 562 (by decide +kernel) rfl
theorem ko_X2_entry : Cond.code yX2_entry cX2_entry 6 (some .int) ∈ tb := tb_at 563 (by decide +kernel) rfl
theorem km_X2_134 : Cond.methodLink RX2 134 yX2_isEntry ∈ tb := tb_at 564 (by decide +kernel) rfl
theorem ki_X2_isEntry : Cond.instanceMethod yX2_isEntry ∈ tb := tb_at 566 (by decide +kernel) rfl
theorem ko_X2_isEntry : Cond.code yX2_isEntry cX2_isEntry 3 (some .boolean) ∈ tb := tb_at 567 (by decide +kernel) rfl
theorem km_L_75 : Cond.methodLink RL 75 yX2_byteAt ∈ tb := tb_at 568 (by decide +kernel) rfl
theorem ki_X2_byteAt : Cond.instanceMethod yX2_byteAt ∈ tb := tb_at 569 (by decide +kernel) rfl
theorem ks_X2_byteAt : Cond.selects RX2 yX2_byteAt yX2_byteAt ∈ tb := tb_at 570 (by decide +kernel) rfl
theorem ko_X2_byteAt : Cond.code yX2_byteAt cX2_byteAt 4 (some .int) ∈ tb := tb_at 571 (by decide +kernel) rfl
theorem km_L_79 : Cond.methodLink RL 79 yX2_crash ∈ tb := tb_at 572 (by decide +kernel) rfl
theorem ki_X2_crash : Cond.instanceMethod yX2_crash ∈ tb := tb_at 573 (by decide +kernel) rfl
theorem ks_X2_crash : Cond.selects RX2 yX2_crash yX2_crash ∈ tb := tb_at 574 (by decide +kernel) rfl
theorem ko_X2_crash : Cond.code yX2_crash cX2_crash 2 none ∈ tb := tb_at 575 (by decide +kernel) rfl
theorem km_L_83 : Cond.methodLink RL 83 yX2_recover ∈ tb := tb_at 576 (by decide +kernel) rfl
theorem ki_X2_recover : Cond.instanceMethod yX2_recover ∈ tb := tb_at 577 (by decide +kernel) rfl
theorem ks_X2_recover : Cond.selects RX2 yX2_recover yX2_recover ∈ tb := tb_at 578 (by decide +kernel) rfl
theorem ko_X2_recover : Cond.code yX2_recover cX2_recover 1 (some .int) ∈ tb := tb_at 579 (by decide +kernel) rfl
theorem km_L_88 : Cond.methodLink RL 88 yX2_isDown ∈ tb := tb_at 580 (by decide +kernel) rfl
theorem ki_X2_isDown : Cond.instanceMethod yX2_isDown ∈ tb := tb_at 581 (by decide +kernel) rfl
theorem ks_X2_isDown : Cond.selects RX2 yX2_isDown yX2_isDown ∈ tb := tb_at 582 (by decide +kernel) rfl
theorem ko_X2_isDown : Cond.code yX2_isDown cX2_isDown 1 (some .boolean) ∈ tb := tb_at 583 (by decide +kernel) rfl
theorem km_L_92 : Cond.methodLink RL 92 yX2_writes ∈ tb := tb_at 584 (by decide +kernel) rfl
theorem ki_X2_writes : Cond.instanceMethod yX2_writes ∈ tb := tb_at 585 (by decide +kernel) rfl
theorem ks_X2_writes : Cond.selects RX2 yX2_writes yX2_writes ∈ tb := tb_at 586 (by decide +kernel) rfl
theorem ko_X2_writes : Cond.code yX2_writes cX2_writes 1 (some .int) ∈ tb := tb_at 587 (by decide +kernel) rfl
theorem km_L_96 : Cond.methodLink RL 96 yX2_free ∈ tb := tb_at 588 (by decide +kernel) rfl
theorem ki_X2_free : Cond.instanceMethod yX2_free ∈ tb := tb_at 589 (by decide +kernel) rfl
theorem ks_X2_free : Cond.selects RX2 yX2_free yX2_free ∈ tb := tb_at 590 (by decide +kernel) rfl
theorem ko_X2_free : Cond.code yX2_free cX2_free 3 (some .int) ∈ tb := tb_at 591 (by decide +kernel) rfl
theorem ka_long : Cond.arrayClass .long ∈ tb := tb_at 592 (by decide +kernel) rfl
end
section
theorem dX0_init_0 : decode cX0_init 0 = .ok (.aload_n 0, 1) := by decide +kernel
theorem dX0_init_1 : decode cX0_init 1 = .ok (.invokespecial 3, 3) := by decide +kernel
theorem dX0_init_4 : decode cX0_init 4 = .ok (.aload_n 0, 1) := by decide +kernel
theorem dX0_init_5 : decode cX0_init 5 = .ok (.bipush 60, 2) := by decide +kernel
theorem dX0_init_7 : decode cX0_init 7 = .ok (.newarray .int, 2) := by decide +kernel
theorem dX0_init_9 : decode cX0_init 9 = .ok (.putfield 9, 3) := by decide +kernel
theorem dX0_init_12 : decode cX0_init 12 = .ok (.aload_n 0, 1) := by decide +kernel
theorem dX0_init_13 : decode cX0_init 13 = .ok (.bipush 60, 2) := by decide +kernel
theorem dX0_init_15 : decode cX0_init 15 = .ok (.newarray .int, 2) := by decide +kernel
theorem dX0_init_17 : decode cX0_init 17 = .ok (.putfield 15, 3) := by decide +kernel
theorem dX0_init_20 : decode cX0_init 20 = .ok (.aload_n 0, 1) := by decide +kernel
theorem dX0_init_21 : decode cX0_init 21 = .ok (.iconst 0, 1) := by decide +kernel
theorem dX0_init_22 : decode cX0_init 22 = .ok (.putfield 18, 3) := by decide +kernel
theorem dX0_init_25 : decode cX0_init 25 = .ok (.aload_n 0, 1) := by decide +kernel
theorem dX0_init_26 : decode cX0_init 26 = .ok (.sipush 512, 3) := by decide +kernel
theorem dX0_init_29 : decode cX0_init 29 = .ok (.newarray .int, 2) := by decide +kernel
theorem dX0_init_31 : decode cX0_init 31 = .ok (.putfield 22, 3) := by decide +kernel
theorem dX0_init_34 : decode cX0_init 34 = .ok (.aload_n 0, 1) := by decide +kernel
theorem dX0_init_35 : decode cX0_init 35 = .ok (.sipush 512, 3) := by decide +kernel
theorem dX0_init_38 : decode cX0_init 38 = .ok (.newarray .int, 2) := by decide +kernel
theorem dX0_init_40 : decode cX0_init 40 = .ok (.putfield 25, 3) := by decide +kernel
theorem dX0_init_43 : decode cX0_init 43 = .ok (.aload_n 0, 1) := by decide +kernel
theorem dX0_init_44 : decode cX0_init 44 = .ok (.sipush 512, 3) := by decide +kernel
theorem dX0_init_47 : decode cX0_init 47 = .ok (.newarray .int, 2) := by decide +kernel
theorem dX0_init_49 : decode cX0_init 49 = .ok (.putfield 28, 3) := by decide +kernel
theorem dX0_init_52 : decode cX0_init 52 = .ok (.aload_n 0, 1) := by decide +kernel
theorem dX0_init_53 : decode cX0_init 53 = .ok (.sipush 512, 3) := by decide +kernel
theorem dX0_init_56 : decode cX0_init 56 = .ok (.newarray .int, 2) := by decide +kernel
theorem dX0_init_58 : decode cX0_init 58 = .ok (.putfield 31, 3) := by decide +kernel
theorem dX0_init_61 : decode cX0_init 61 = .ok (.aload_n 0, 1) := by decide +kernel
theorem dX0_init_62 : decode cX0_init 62 = .ok (.iconst 0, 1) := by decide +kernel
theorem dX0_init_63 : decode cX0_init 63 = .ok (.putfield 34, 3) := by decide +kernel
theorem dX0_init_66 : decode cX0_init 66 = .ok (.aload_n 0, 1) := by decide +kernel
theorem dX0_init_67 : decode cX0_init 67 = .ok (.iconst 0, 1) := by decide +kernel
theorem dX0_init_68 : decode cX0_init 68 = .ok (.putfield 37, 3) := by decide +kernel
theorem dX0_init_71 : decode cX0_init 71 = .ok (.return_, 1) := by decide +kernel
theorem dX0_beginAs_0 : decode cX0_beginAs 0 = .ok (.aload_n 0, 1) := by decide +kernel
theorem dX0_beginAs_1 : decode cX0_beginAs 1 = .ok (.iconst 0, 1) := by decide +kernel
theorem dX0_beginAs_2 : decode cX0_beginAs 2 = .ok (.putfield 18, 3) := by decide +kernel
theorem dX0_beginAs_5 : decode cX0_beginAs 5 = .ok (.aload_n 0, 1) := by decide +kernel
theorem dX0_beginAs_6 : decode cX0_beginAs 6 = .ok (.iconst 0, 1) := by decide +kernel
theorem dX0_beginAs_7 : decode cX0_beginAs 7 = .ok (.putfield 34, 3) := by decide +kernel
theorem dX0_beginAs_10 : decode cX0_beginAs 10 = .ok (.aload_n 0, 1) := by decide +kernel
theorem dX0_beginAs_11 : decode cX0_beginAs 11 = .ok (.aload_n 1, 1) := by decide +kernel
theorem dX0_beginAs_12 : decode cX0_beginAs 12 = .ok (.getfield 37, 3) := by decide +kernel
theorem dX0_beginAs_15 : decode cX0_beginAs 15 = .ok (.putfield 37, 3) := by decide +kernel
theorem dX0_beginAs_18 : decode cX0_beginAs 18 = .ok (.return_, 1) := by decide +kernel
theorem dX0_canOpenMore_0 : decode cX0_canOpenMore 0 = .ok (.aload_n 0, 1) := by decide +kernel
theorem dX0_canOpenMore_1 : decode cX0_canOpenMore 1 = .ok (.getfield 18, 3) := by decide +kernel
theorem dX0_canOpenMore_4 : decode cX0_canOpenMore 4 = .ok (.bipush 60, 2) := by decide +kernel
theorem dX0_canOpenMore_6 : decode cX0_canOpenMore 6 = .ok (.if_icmp .ge 7, 3) := by decide +kernel
theorem dX0_canOpenMore_9 : decode cX0_canOpenMore 9 = .ok (.iconst 1, 1) := by decide +kernel
theorem dX0_canOpenMore_10 : decode cX0_canOpenMore 10 = .ok (.goto 4, 3) := by decide +kernel
theorem dX0_canOpenMore_13 : decode cX0_canOpenMore 13 = .ok (.iconst 0, 1) := by decide +kernel
theorem dX0_canOpenMore_14 : decode cX0_canOpenMore 14 = .ok (.ireturn, 1) := by decide +kernel
theorem dX0_canHoldMore_0 : decode cX0_canHoldMore 0 = .ok (.aload_n 0, 1) := by decide +kernel
theorem dX0_canHoldMore_1 : decode cX0_canHoldMore 1 = .ok (.getfield 34, 3) := by decide +kernel
theorem dX0_canHoldMore_4 : decode cX0_canHoldMore 4 = .ok (.sipush 512, 3) := by decide +kernel
theorem dX0_canHoldMore_7 : decode cX0_canHoldMore 7 = .ok (.if_icmp .ge 7, 3) := by decide +kernel
theorem dX0_canHoldMore_10 : decode cX0_canHoldMore 10 = .ok (.iconst 1, 1) := by decide +kernel
theorem dX0_canHoldMore_11 : decode cX0_canHoldMore 11 = .ok (.goto 4, 3) := by decide +kernel
theorem dX0_canHoldMore_14 : decode cX0_canHoldMore 14 = .ok (.iconst 0, 1) := by decide +kernel
theorem dX0_canHoldMore_15 : decode cX0_canHoldMore 15 = .ok (.ireturn, 1) := by decide +kernel
theorem dX0_openStart_0 : decode cX0_openStart 0 = .ok (.aload_n 0, 1) := by decide +kernel
theorem dX0_openStart_1 : decode cX0_openStart 1 = .ok (.getfield 9, 3) := by decide +kernel
theorem dX0_openStart_4 : decode cX0_openStart 4 = .ok (.aload_n 0, 1) := by decide +kernel
theorem dX0_openStart_5 : decode cX0_openStart 5 = .ok (.getfield 18, 3) := by decide +kernel
theorem dX0_openStart_8 : decode cX0_openStart 8 = .ok (.iconst 1, 1) := by decide +kernel
theorem dX0_openStart_9 : decode cX0_openStart 9 = .ok (.isub, 1) := by decide +kernel
theorem dX0_openStart_10 : decode cX0_openStart 10 = .ok (.invokestatic 40, 3) := by decide +kernel
theorem dX0_openStart_13 : decode cX0_openStart 13 = .ok (.ireturn, 1) := by decide +kernel
theorem dX0_openBytes_0 : decode cX0_openBytes 0 = .ok (.aload_n 0, 1) := by decide +kernel
theorem dX0_openBytes_1 : decode cX0_openBytes 1 = .ok (.getfield 15, 3) := by decide +kernel
theorem dX0_openBytes_4 : decode cX0_openBytes 4 = .ok (.aload_n 0, 1) := by decide +kernel
theorem dX0_openBytes_5 : decode cX0_openBytes 5 = .ok (.getfield 18, 3) := by decide +kernel
theorem dX0_openBytes_8 : decode cX0_openBytes 8 = .ok (.iconst 1, 1) := by decide +kernel
theorem dX0_openBytes_9 : decode cX0_openBytes 9 = .ok (.isub, 1) := by decide +kernel
theorem dX0_openBytes_10 : decode cX0_openBytes 10 = .ok (.invokestatic 40, 3) := by decide +kernel
theorem dX0_openBytes_13 : decode cX0_openBytes 13 = .ok (.ireturn, 1) := by decide +kernel
theorem dX0_openHasRoom_0 : decode cX0_openHasRoom 0 = .ok (.aload_n 0, 1) := by decide +kernel
theorem dX0_openHasRoom_1 : decode cX0_openHasRoom 1 = .ok (.getfield 18, 3) := by decide +kernel
theorem dX0_openHasRoom_4 : decode cX0_openHasRoom 4 = .ok (.ifCond .le 17, 3) := by decide +kernel
theorem dX0_openHasRoom_7 : decode cX0_openHasRoom 7 = .ok (.aload_n 0, 1) := by decide +kernel
theorem dX0_openHasRoom_8 : decode cX0_openHasRoom 8 = .ok (.invokevirtual 44, 3) := by decide +kernel
theorem dX0_openHasRoom_11 : decode cX0_openHasRoom 11 = .ok (.iload_n 1, 1) := by decide +kernel
theorem dX0_openHasRoom_12 : decode cX0_openHasRoom 12 = .ok (.iadd, 1) := by decide +kernel
theorem dX0_openHasRoom_13 : decode cX0_openHasRoom 13 = .ok (.iload_n 2, 1) := by decide +kernel
theorem dX0_openHasRoom_14 : decode cX0_openHasRoom 14 = .ok (.if_icmp .gt 7, 3) := by decide +kernel
theorem dX0_openHasRoom_17 : decode cX0_openHasRoom 17 = .ok (.iconst 1, 1) := by decide +kernel
theorem dX0_openHasRoom_18 : decode cX0_openHasRoom 18 = .ok (.goto 4, 3) := by decide +kernel
theorem dX0_openHasRoom_21 : decode cX0_openHasRoom 21 = .ok (.iconst 0, 1) := by decide +kernel
theorem dX0_openHasRoom_22 : decode cX0_openHasRoom 22 = .ok (.ireturn, 1) := by decide +kernel
theorem dX0_openSegment_0 : decode cX0_openSegment 0 = .ok (.aload_n 0, 1) := by decide +kernel
theorem dX0_openSegment_1 : decode cX0_openSegment 1 = .ok (.invokevirtual 48, 3) := by decide +kernel
theorem dX0_openSegment_4 : decode cX0_openSegment 4 = .ok (.ifCond .eq 37, 3) := by decide +kernel
theorem dX0_openSegment_7 : decode cX0_openSegment 7 = .ok (.aload_n 0, 1) := by decide +kernel
theorem dX0_openSegment_8 : decode cX0_openSegment 8 = .ok (.getfield 9, 3) := by decide +kernel
theorem dX0_openSegment_11 : decode cX0_openSegment 11 = .ok (.aload_n 0, 1) := by decide +kernel
theorem dX0_openSegment_12 : decode cX0_openSegment 12 = .ok (.getfield 18, 3) := by decide +kernel
theorem dX0_openSegment_15 : decode cX0_openSegment 15 = .ok (.iload_n 1, 1) := by decide +kernel
theorem dX0_openSegment_16 : decode cX0_openSegment 16 = .ok (.invokestatic 52, 3) := by decide +kernel
theorem dX0_openSegment_19 : decode cX0_openSegment 19 = .ok (.aload_n 0, 1) := by decide +kernel
theorem dX0_openSegment_20 : decode cX0_openSegment 20 = .ok (.getfield 15, 3) := by decide +kernel
theorem dX0_openSegment_23 : decode cX0_openSegment 23 = .ok (.aload_n 0, 1) := by decide +kernel
theorem dX0_openSegment_24 : decode cX0_openSegment 24 = .ok (.getfield 18, 3) := by decide +kernel
theorem dX0_openSegment_27 : decode cX0_openSegment 27 = .ok (.iconst 0, 1) := by decide +kernel
theorem dX0_openSegment_28 : decode cX0_openSegment 28 = .ok (.invokestatic 52, 3) := by decide +kernel
theorem dX0_openSegment_31 : decode cX0_openSegment 31 = .ok (.aload_n 0, 1) := by decide +kernel
theorem dX0_openSegment_32 : decode cX0_openSegment 32 = .ok (.dup, 1) := by decide +kernel
theorem dX0_openSegment_33 : decode cX0_openSegment 33 = .ok (.getfield 18, 3) := by decide +kernel
theorem dX0_openSegment_36 : decode cX0_openSegment 36 = .ok (.iconst 1, 1) := by decide +kernel
theorem dX0_openSegment_37 : decode cX0_openSegment 37 = .ok (.iadd, 1) := by decide +kernel
theorem dX0_openSegment_38 : decode cX0_openSegment 38 = .ok (.putfield 18, 3) := by decide +kernel
theorem dX0_openSegment_41 : decode cX0_openSegment 41 = .ok (.return_, 1) := by decide +kernel
theorem dX0_put_0 : decode cX0_put 0 = .ok (.aload_n 0, 1) := by decide +kernel
theorem dX0_put_1 : decode cX0_put 1 = .ok (.getfield 18, 3) := by decide +kernel
theorem dX0_put_4 : decode cX0_put 4 = .ok (.ifCond .le 97, 3) := by decide +kernel
theorem dX0_put_7 : decode cX0_put 7 = .ok (.aload_n 0, 1) := by decide +kernel
theorem dX0_put_8 : decode cX0_put 8 = .ok (.invokevirtual 56, 3) := by decide +kernel
theorem dX0_put_11 : decode cX0_put 11 = .ok (.ifCond .eq 90, 3) := by decide +kernel
theorem dX0_put_14 : decode cX0_put 14 = .ok (.aload_n 0, 1) := by decide +kernel
theorem dX0_put_15 : decode cX0_put 15 = .ok (.getfield 22, 3) := by decide +kernel
theorem dX0_put_18 : decode cX0_put 18 = .ok (.aload_n 0, 1) := by decide +kernel
theorem dX0_put_19 : decode cX0_put 19 = .ok (.getfield 34, 3) := by decide +kernel
theorem dX0_put_22 : decode cX0_put 22 = .ok (.iload_n 1, 1) := by decide +kernel
theorem dX0_put_23 : decode cX0_put 23 = .ok (.invokestatic 52, 3) := by decide +kernel
theorem dX0_put_26 : decode cX0_put 26 = .ok (.aload_n 0, 1) := by decide +kernel
theorem dX0_put_27 : decode cX0_put 27 = .ok (.getfield 25, 3) := by decide +kernel
theorem dX0_put_30 : decode cX0_put 30 = .ok (.aload_n 0, 1) := by decide +kernel
theorem dX0_put_31 : decode cX0_put 31 = .ok (.getfield 34, 3) := by decide +kernel
theorem dX0_put_34 : decode cX0_put 34 = .ok (.iload_n 2, 1) := by decide +kernel
theorem dX0_put_35 : decode cX0_put 35 = .ok (.invokestatic 52, 3) := by decide +kernel
theorem dX0_put_38 : decode cX0_put 38 = .ok (.aload_n 0, 1) := by decide +kernel
theorem dX0_put_39 : decode cX0_put 39 = .ok (.getfield 28, 3) := by decide +kernel
theorem dX0_put_42 : decode cX0_put 42 = .ok (.aload_n 0, 1) := by decide +kernel
theorem dX0_put_43 : decode cX0_put 43 = .ok (.getfield 34, 3) := by decide +kernel
theorem dX0_put_46 : decode cX0_put 46 = .ok (.aload_n 0, 1) := by decide +kernel
theorem dX0_put_47 : decode cX0_put 47 = .ok (.getfield 18, 3) := by decide +kernel
theorem dX0_put_50 : decode cX0_put 50 = .ok (.iconst 1, 1) := by decide +kernel
theorem dX0_put_51 : decode cX0_put 51 = .ok (.isub, 1) := by decide +kernel
theorem dX0_put_52 : decode cX0_put 52 = .ok (.invokestatic 52, 3) := by decide +kernel
theorem dX0_put_55 : decode cX0_put 55 = .ok (.aload_n 0, 1) := by decide +kernel
theorem dX0_put_56 : decode cX0_put 56 = .ok (.getfield 31, 3) := by decide +kernel
theorem dX0_put_59 : decode cX0_put 59 = .ok (.aload_n 0, 1) := by decide +kernel
theorem dX0_put_60 : decode cX0_put 60 = .ok (.getfield 34, 3) := by decide +kernel
theorem dX0_put_63 : decode cX0_put 63 = .ok (.aload_n 0, 1) := by decide +kernel
theorem dX0_put_64 : decode cX0_put 64 = .ok (.invokevirtual 44, 3) := by decide +kernel
theorem dX0_put_67 : decode cX0_put 67 = .ok (.invokestatic 52, 3) := by decide +kernel
theorem dX0_put_70 : decode cX0_put 70 = .ok (.aload_n 0, 1) := by decide +kernel
theorem dX0_put_71 : decode cX0_put 71 = .ok (.dup, 1) := by decide +kernel
theorem dX0_put_72 : decode cX0_put 72 = .ok (.getfield 34, 3) := by decide +kernel
theorem dX0_put_75 : decode cX0_put 75 = .ok (.iconst 1, 1) := by decide +kernel
theorem dX0_put_76 : decode cX0_put 76 = .ok (.iadd, 1) := by decide +kernel
theorem dX0_put_77 : decode cX0_put 77 = .ok (.putfield 34, 3) := by decide +kernel
theorem dX0_put_80 : decode cX0_put 80 = .ok (.aload_n 0, 1) := by decide +kernel
theorem dX0_put_81 : decode cX0_put 81 = .ok (.getfield 15, 3) := by decide +kernel
theorem dX0_put_84 : decode cX0_put 84 = .ok (.aload_n 0, 1) := by decide +kernel
theorem dX0_put_85 : decode cX0_put 85 = .ok (.getfield 18, 3) := by decide +kernel
theorem dX0_put_88 : decode cX0_put 88 = .ok (.iconst 1, 1) := by decide +kernel
theorem dX0_put_89 : decode cX0_put 89 = .ok (.isub, 1) := by decide +kernel
theorem dX0_put_90 : decode cX0_put 90 = .ok (.aload_n 0, 1) := by decide +kernel
theorem dX0_put_91 : decode cX0_put 91 = .ok (.invokevirtual 44, 3) := by decide +kernel
theorem dX0_put_94 : decode cX0_put 94 = .ok (.iload_n 1, 1) := by decide +kernel
theorem dX0_put_95 : decode cX0_put 95 = .ok (.iadd, 1) := by decide +kernel
theorem dX0_put_96 : decode cX0_put 96 = .ok (.iconst 4, 1) := by decide +kernel
theorem dX0_put_97 : decode cX0_put 97 = .ok (.iadd, 1) := by decide +kernel
theorem dX0_put_98 : decode cX0_put 98 = .ok (.invokestatic 52, 3) := by decide +kernel
theorem dX0_put_101 : decode cX0_put 101 = .ok (.return_, 1) := by decide +kernel
theorem dX0_takeSegments_0 : decode cX0_takeSegments 0 = .ok (.iconst (-1), 1) := by decide +kernel
theorem dX0_takeSegments_1 : decode cX0_takeSegments 1 = .ok (.istore_n 3, 1) := by decide +kernel
theorem dX0_takeSegments_2 : decode cX0_takeSegments 2 = .ok (.iconst 0, 1) := by decide +kernel
theorem dX0_takeSegments_3 : decode cX0_takeSegments 3 = .ok (.istore 4, 2) := by decide +kernel
theorem dX0_takeSegments_5 : decode cX0_takeSegments 5 = .ok (.iload 4, 2) := by decide +kernel
theorem dX0_takeSegments_7 : decode cX0_takeSegments 7 = .ok (.aload_n 1, 1) := by decide +kernel
theorem dX0_takeSegments_8 : decode cX0_takeSegments 8 = .ok (.getfield 34, 3) := by decide +kernel
theorem dX0_takeSegments_11 : decode cX0_takeSegments 11 = .ok (.if_icmp .ge 70, 3) := by decide +kernel
theorem dX0_takeSegments_14 : decode cX0_takeSegments 14 = .ok (.aload_n 1, 1) := by decide +kernel
theorem dX0_takeSegments_15 : decode cX0_takeSegments 15 = .ok (.getfield 28, 3) := by decide +kernel
theorem dX0_takeSegments_18 : decode cX0_takeSegments 18 = .ok (.iload 4, 2) := by decide +kernel
theorem dX0_takeSegments_20 : decode cX0_takeSegments 20 = .ok (.invokestatic 40, 3) := by decide +kernel
theorem dX0_takeSegments_23 : decode cX0_takeSegments 23 = .ok (.istore 5, 2) := by decide +kernel
theorem dX0_takeSegments_25 : decode cX0_takeSegments 25 = .ok (.iload 5, 2) := by decide +kernel
theorem dX0_takeSegments_27 : decode cX0_takeSegments 27 = .ok (.iload_n 2, 1) := by decide +kernel
theorem dX0_takeSegments_28 : decode cX0_takeSegments 28 = .ok (.if_icmp .lt 47, 3) := by decide +kernel
theorem dX0_takeSegments_31 : decode cX0_takeSegments 31 = .ok (.iload 5, 2) := by decide +kernel
theorem dX0_takeSegments_33 : decode cX0_takeSegments 33 = .ok (.iload_n 3, 1) := by decide +kernel
theorem dX0_takeSegments_34 : decode cX0_takeSegments 34 = .ok (.if_icmp .eq 19, 3) := by decide +kernel
theorem dX0_takeSegments_37 : decode cX0_takeSegments 37 = .ok (.aload_n 0, 1) := by decide +kernel
theorem dX0_takeSegments_38 : decode cX0_takeSegments 38 = .ok (.aload_n 1, 1) := by decide +kernel
theorem dX0_takeSegments_39 : decode cX0_takeSegments 39 = .ok (.getfield 9, 3) := by decide +kernel
theorem dX0_takeSegments_42 : decode cX0_takeSegments 42 = .ok (.iload 5, 2) := by decide +kernel
theorem dX0_takeSegments_44 : decode cX0_takeSegments 44 = .ok (.invokestatic 40, 3) := by decide +kernel
theorem dX0_takeSegments_47 : decode cX0_takeSegments 47 = .ok (.invokevirtual 59, 3) := by decide +kernel
theorem dX0_takeSegments_50 : decode cX0_takeSegments 50 = .ok (.iload 5, 2) := by decide +kernel
theorem dX0_takeSegments_52 : decode cX0_takeSegments 52 = .ok (.istore_n 3, 1) := by decide +kernel
theorem dX0_takeSegments_53 : decode cX0_takeSegments 53 = .ok (.aload_n 0, 1) := by decide +kernel
theorem dX0_takeSegments_54 : decode cX0_takeSegments 54 = .ok (.aload_n 1, 1) := by decide +kernel
theorem dX0_takeSegments_55 : decode cX0_takeSegments 55 = .ok (.getfield 22, 3) := by decide +kernel
theorem dX0_takeSegments_58 : decode cX0_takeSegments 58 = .ok (.iload 4, 2) := by decide +kernel
theorem dX0_takeSegments_60 : decode cX0_takeSegments 60 = .ok (.invokestatic 40, 3) := by decide +kernel
theorem dX0_takeSegments_63 : decode cX0_takeSegments 63 = .ok (.aload_n 1, 1) := by decide +kernel
theorem dX0_takeSegments_64 : decode cX0_takeSegments 64 = .ok (.getfield 25, 3) := by decide +kernel
theorem dX0_takeSegments_67 : decode cX0_takeSegments 67 = .ok (.iload 4, 2) := by decide +kernel
theorem dX0_takeSegments_69 : decode cX0_takeSegments 69 = .ok (.invokestatic 40, 3) := by decide +kernel
theorem dX0_takeSegments_72 : decode cX0_takeSegments 72 = .ok (.invokevirtual 63, 3) := by decide +kernel
theorem dX0_takeSegments_75 : decode cX0_takeSegments 75 = .ok (.iinc 4 1, 3) := by decide +kernel
theorem dX0_takeSegments_78 : decode cX0_takeSegments 78 = .ok (.goto (-73), 3) := by decide +kernel
theorem dX0_takeSegments_81 : decode cX0_takeSegments 81 = .ok (.return_, 1) := by decide +kernel
theorem dX0_blockOf_0 : decode cX0_blockOf 0 = .ok (.aload_n 0, 1) := by decide +kernel
theorem dX0_blockOf_1 : decode cX0_blockOf 1 = .ok (.getfield 9, 3) := by decide +kernel
theorem dX0_blockOf_4 : decode cX0_blockOf 4 = .ok (.aload_n 0, 1) := by decide +kernel
theorem dX0_blockOf_5 : decode cX0_blockOf 5 = .ok (.getfield 28, 3) := by decide +kernel
theorem dX0_blockOf_8 : decode cX0_blockOf 8 = .ok (.iload_n 1, 1) := by decide +kernel
theorem dX0_blockOf_9 : decode cX0_blockOf 9 = .ok (.invokestatic 40, 3) := by decide +kernel
theorem dX0_blockOf_12 : decode cX0_blockOf 12 = .ok (.invokestatic 40, 3) := by decide +kernel
theorem dX0_blockOf_15 : decode cX0_blockOf 15 = .ok (.aload_n 0, 1) := by decide +kernel
theorem dX0_blockOf_16 : decode cX0_blockOf 16 = .ok (.getfield 31, 3) := by decide +kernel
theorem dX0_blockOf_19 : decode cX0_blockOf 19 = .ok (.iload_n 1, 1) := by decide +kernel
theorem dX0_blockOf_20 : decode cX0_blockOf 20 = .ok (.invokestatic 40, 3) := by decide +kernel
theorem dX0_blockOf_23 : decode cX0_blockOf 23 = .ok (.sipush 1024, 3) := by decide +kernel
theorem dX0_blockOf_26 : decode cX0_blockOf 26 = .ok (.idiv, 1) := by decide +kernel
theorem dX0_blockOf_27 : decode cX0_blockOf 27 = .ok (.iadd, 1) := by decide +kernel
theorem dX0_blockOf_28 : decode cX0_blockOf 28 = .ok (.ireturn, 1) := by decide +kernel
theorem dX0_closedEntries_0 : decode cX0_closedEntries 0 = .ok (.iconst 0, 1) := by decide +kernel
theorem dX0_closedEntries_1 : decode cX0_closedEntries 1 = .ok (.istore_n 1, 1) := by decide +kernel
theorem dX0_closedEntries_2 : decode cX0_closedEntries 2 = .ok (.iconst 0, 1) := by decide +kernel
theorem dX0_closedEntries_3 : decode cX0_closedEntries 3 = .ok (.istore_n 2, 1) := by decide +kernel
theorem dX0_closedEntries_4 : decode cX0_closedEntries 4 = .ok (.iload_n 2, 1) := by decide +kernel
theorem dX0_closedEntries_5 : decode cX0_closedEntries 5 = .ok (.aload_n 0, 1) := by decide +kernel
theorem dX0_closedEntries_6 : decode cX0_closedEntries 6 = .ok (.getfield 34, 3) := by decide +kernel
theorem dX0_closedEntries_9 : decode cX0_closedEntries 9 = .ok (.if_icmp .ge 29, 3) := by decide +kernel
theorem dX0_closedEntries_12 : decode cX0_closedEntries 12 = .ok (.aload_n 0, 1) := by decide +kernel
theorem dX0_closedEntries_13 : decode cX0_closedEntries 13 = .ok (.getfield 28, 3) := by decide +kernel
theorem dX0_closedEntries_16 : decode cX0_closedEntries 16 = .ok (.iload_n 2, 1) := by decide +kernel
theorem dX0_closedEntries_17 : decode cX0_closedEntries 17 = .ok (.invokestatic 40, 3) := by decide +kernel
theorem dX0_closedEntries_20 : decode cX0_closedEntries 20 = .ok (.aload_n 0, 1) := by decide +kernel
theorem dX0_closedEntries_21 : decode cX0_closedEntries 21 = .ok (.getfield 18, 3) := by decide +kernel
theorem dX0_closedEntries_24 : decode cX0_closedEntries 24 = .ok (.iconst 1, 1) := by decide +kernel
theorem dX0_closedEntries_25 : decode cX0_closedEntries 25 = .ok (.isub, 1) := by decide +kernel
theorem dX0_closedEntries_26 : decode cX0_closedEntries 26 = .ok (.if_icmp .ge 6, 3) := by decide +kernel
theorem dX0_closedEntries_29 : decode cX0_closedEntries 29 = .ok (.iinc 1 1, 3) := by decide +kernel
theorem dX0_closedEntries_32 : decode cX0_closedEntries 32 = .ok (.iinc 2 1, 3) := by decide +kernel
theorem dX0_closedEntries_35 : decode cX0_closedEntries 35 = .ok (.goto (-31), 3) := by decide +kernel
theorem dX0_closedEntries_38 : decode cX0_closedEntries 38 = .ok (.iload_n 1, 1) := by decide +kernel
theorem dX0_closedEntries_39 : decode cX0_closedEntries 39 = .ok (.ireturn, 1) := by decide +kernel
theorem dX0_bytesFrom_0 : decode cX0_bytesFrom 0 = .ok (.iconst 0, 1) := by decide +kernel
theorem dX0_bytesFrom_1 : decode cX0_bytesFrom 1 = .ok (.istore_n 2, 1) := by decide +kernel
theorem dX0_bytesFrom_2 : decode cX0_bytesFrom 2 = .ok (.iload_n 1, 1) := by decide +kernel
theorem dX0_bytesFrom_3 : decode cX0_bytesFrom 3 = .ok (.istore_n 3, 1) := by decide +kernel
theorem dX0_bytesFrom_4 : decode cX0_bytesFrom 4 = .ok (.iload_n 3, 1) := by decide +kernel
theorem dX0_bytesFrom_5 : decode cX0_bytesFrom 5 = .ok (.aload_n 0, 1) := by decide +kernel
theorem dX0_bytesFrom_6 : decode cX0_bytesFrom 6 = .ok (.getfield 18, 3) := by decide +kernel
theorem dX0_bytesFrom_9 : decode cX0_bytesFrom 9 = .ok (.if_icmp .ge 20, 3) := by decide +kernel
theorem dX0_bytesFrom_12 : decode cX0_bytesFrom 12 = .ok (.iload_n 2, 1) := by decide +kernel
theorem dX0_bytesFrom_13 : decode cX0_bytesFrom 13 = .ok (.aload_n 0, 1) := by decide +kernel
theorem dX0_bytesFrom_14 : decode cX0_bytesFrom 14 = .ok (.getfield 15, 3) := by decide +kernel
theorem dX0_bytesFrom_17 : decode cX0_bytesFrom 17 = .ok (.iload_n 3, 1) := by decide +kernel
theorem dX0_bytesFrom_18 : decode cX0_bytesFrom 18 = .ok (.invokestatic 40, 3) := by decide +kernel
theorem dX0_bytesFrom_21 : decode cX0_bytesFrom 21 = .ok (.iadd, 1) := by decide +kernel
theorem dX0_bytesFrom_22 : decode cX0_bytesFrom 22 = .ok (.istore_n 2, 1) := by decide +kernel
theorem dX0_bytesFrom_23 : decode cX0_bytesFrom 23 = .ok (.iinc 3 1, 3) := by decide +kernel
theorem dX0_bytesFrom_26 : decode cX0_bytesFrom 26 = .ok (.goto (-22), 3) := by decide +kernel
theorem dX0_bytesFrom_29 : decode cX0_bytesFrom 29 = .ok (.iload_n 2, 1) := by decide +kernel
theorem dX0_bytesFrom_30 : decode cX0_bytesFrom 30 = .ok (.ireturn, 1) := by decide +kernel
theorem dX0_segmentsPast_0 : decode cX0_segmentsPast 0 = .ok (.iconst 0, 1) := by decide +kernel
theorem dX0_segmentsPast_1 : decode cX0_segmentsPast 1 = .ok (.istore_n 2, 1) := by decide +kernel
theorem dX0_segmentsPast_2 : decode cX0_segmentsPast 2 = .ok (.iload_n 2, 1) := by decide +kernel
theorem dX0_segmentsPast_3 : decode cX0_segmentsPast 3 = .ok (.aload_n 0, 1) := by decide +kernel
theorem dX0_segmentsPast_4 : decode cX0_segmentsPast 4 = .ok (.getfield 18, 3) := by decide +kernel
theorem dX0_segmentsPast_7 : decode cX0_segmentsPast 7 = .ok (.iconst 1, 1) := by decide +kernel
theorem dX0_segmentsPast_8 : decode cX0_segmentsPast 8 = .ok (.isub, 1) := by decide +kernel
theorem dX0_segmentsPast_9 : decode cX0_segmentsPast 9 = .ok (.if_icmp .ge 20, 3) := by decide +kernel
theorem dX0_segmentsPast_12 : decode cX0_segmentsPast 12 = .ok (.aload_n 0, 1) := by decide +kernel
theorem dX0_segmentsPast_13 : decode cX0_segmentsPast 13 = .ok (.iload_n 2, 1) := by decide +kernel
theorem dX0_segmentsPast_14 : decode cX0_segmentsPast 14 = .ok (.iconst 1, 1) := by decide +kernel
theorem dX0_segmentsPast_15 : decode cX0_segmentsPast 15 = .ok (.iadd, 1) := by decide +kernel
theorem dX0_segmentsPast_16 : decode cX0_segmentsPast 16 = .ok (.invokevirtual 67, 3) := by decide +kernel
theorem dX0_segmentsPast_19 : decode cX0_segmentsPast 19 = .ok (.iload_n 1, 1) := by decide +kernel
theorem dX0_segmentsPast_20 : decode cX0_segmentsPast 20 = .ok (.if_icmp .lt 9, 3) := by decide +kernel
theorem dX0_segmentsPast_23 : decode cX0_segmentsPast 23 = .ok (.iinc 2 1, 3) := by decide +kernel
theorem dX0_segmentsPast_26 : decode cX0_segmentsPast 26 = .ok (.goto (-24), 3) := by decide +kernel
theorem dX0_segmentsPast_29 : decode cX0_segmentsPast 29 = .ok (.iload_n 2, 1) := by decide +kernel
theorem dX0_segmentsPast_30 : decode cX0_segmentsPast 30 = .ok (.ireturn, 1) := by decide +kernel
theorem dX0_blocksFilled_0 : decode cX0_blocksFilled 0 = .ok (.iconst 0, 1) := by decide +kernel
theorem dX0_blocksFilled_1 : decode cX0_blocksFilled 1 = .ok (.istore_n 1, 1) := by decide +kernel
theorem dX0_blocksFilled_2 : decode cX0_blocksFilled 2 = .ok (.iconst 0, 1) := by decide +kernel
theorem dX0_blocksFilled_3 : decode cX0_blocksFilled 3 = .ok (.istore_n 2, 1) := by decide +kernel
theorem dX0_blocksFilled_4 : decode cX0_blocksFilled 4 = .ok (.iload_n 2, 1) := by decide +kernel
theorem dX0_blocksFilled_5 : decode cX0_blocksFilled 5 = .ok (.aload_n 0, 1) := by decide +kernel
theorem dX0_blocksFilled_6 : decode cX0_blocksFilled 6 = .ok (.getfield 18, 3) := by decide +kernel
theorem dX0_blocksFilled_9 : decode cX0_blocksFilled 9 = .ok (.if_icmp .ge 24, 3) := by decide +kernel
theorem dX0_blocksFilled_12 : decode cX0_blocksFilled 12 = .ok (.iload_n 1, 1) := by decide +kernel
theorem dX0_blocksFilled_13 : decode cX0_blocksFilled 13 = .ok (.iconst 0, 1) := by decide +kernel
theorem dX0_blocksFilled_14 : decode cX0_blocksFilled 14 = .ok (.aload_n 0, 1) := by decide +kernel
theorem dX0_blocksFilled_15 : decode cX0_blocksFilled 15 = .ok (.getfield 15, 3) := by decide +kernel
theorem dX0_blocksFilled_18 : decode cX0_blocksFilled 18 = .ok (.iload_n 2, 1) := by decide +kernel
theorem dX0_blocksFilled_19 : decode cX0_blocksFilled 19 = .ok (.invokestatic 40, 3) := by decide +kernel
theorem dX0_blocksFilled_22 : decode cX0_blocksFilled 22 = .ok (.invokestatic 71, 3) := by decide +kernel
theorem dX0_blocksFilled_25 : decode cX0_blocksFilled 25 = .ok (.iadd, 1) := by decide +kernel
theorem dX0_blocksFilled_26 : decode cX0_blocksFilled 26 = .ok (.istore_n 1, 1) := by decide +kernel
theorem dX0_blocksFilled_27 : decode cX0_blocksFilled 27 = .ok (.iinc 2 1, 3) := by decide +kernel
theorem dX0_blocksFilled_30 : decode cX0_blocksFilled 30 = .ok (.goto (-26), 3) := by decide +kernel
theorem dX0_blocksFilled_33 : decode cX0_blocksFilled 33 = .ok (.iload_n 1, 1) := by decide +kernel
theorem dX0_blocksFilled_34 : decode cX0_blocksFilled 34 = .ok (.ireturn, 1) := by decide +kernel
theorem dJ_fill_0 : decode cJ_fill 0 = .ok (.iconst 0, 1) := by decide +kernel
theorem dJ_fill_1 : decode cJ_fill 1 = .ok (.istore_n 2, 1) := by decide +kernel
theorem dJ_fill_2 : decode cJ_fill 2 = .ok (.aload_n 0, 1) := by decide +kernel
theorem dJ_fill_3 : decode cJ_fill 3 = .ok (.arraylength, 1) := by decide +kernel
theorem dJ_fill_4 : decode cJ_fill 4 = .ok (.istore_n 3, 1) := by decide +kernel
theorem dJ_fill_5 : decode cJ_fill 5 = .ok (.iload_n 2, 1) := by decide +kernel
theorem dJ_fill_6 : decode cJ_fill 6 = .ok (.iload_n 3, 1) := by decide +kernel
theorem dJ_fill_7 : decode cJ_fill 7 = .ok (.if_icmp .ge 13, 3) := by decide +kernel
theorem dJ_fill_10 : decode cJ_fill 10 = .ok (.aload_n 0, 1) := by decide +kernel
theorem dJ_fill_11 : decode cJ_fill 11 = .ok (.iload_n 2, 1) := by decide +kernel
theorem dJ_fill_12 : decode cJ_fill 12 = .ok (.iload_n 1, 1) := by decide +kernel
theorem dJ_fill_13 : decode cJ_fill 13 = .ok (.iastore, 1) := by decide +kernel
theorem dJ_fill_14 : decode cJ_fill 14 = .ok (.iinc 2 1, 3) := by decide +kernel
theorem dJ_fill_17 : decode cJ_fill 17 = .ok (.goto (-12), 3) := by decide +kernel
theorem dJ_fill_20 : decode cJ_fill 20 = .ok (.return_, 1) := by decide +kernel
end
section
theorem dX1_init_0 : decode cX1_init 0 = .ok (.aload_n 0, 1) := by decide +kernel
theorem dX1_init_1 : decode cX1_init 1 = .ok (.invokespecial 1, 3) := by decide +kernel
theorem dX1_init_4 : decode cX1_init 4 = .ok (.aload_n 0, 1) := by decide +kernel
theorem dX1_init_5 : decode cX1_init 5 = .ok (.iconst 4, 1) := by decide +kernel
theorem dX1_init_6 : decode cX1_init 6 = .ok (.anewarray 9, 3) := by decide +kernel
theorem dX1_init_9 : decode cX1_init 9 = .ok (.putfield 11, 3) := by decide +kernel
theorem dX1_init_12 : decode cX1_init 12 = .ok (.aload_n 0, 1) := by decide +kernel
theorem dX1_init_13 : decode cX1_init 13 = .ok (.new 9, 3) := by decide +kernel
theorem dX1_init_16 : decode cX1_init 16 = .ok (.dup, 1) := by decide +kernel
theorem dX1_init_17 : decode cX1_init 17 = .ok (.invokespecial 15, 3) := by decide +kernel
theorem dX1_init_20 : decode cX1_init 20 = .ok (.putfield 16, 3) := by decide +kernel
theorem dX1_init_23 : decode cX1_init 23 = .ok (.aload_n 0, 1) := by decide +kernel
theorem dX1_init_24 : decode cX1_init 24 = .ok (.iconst (-1), 1) := by decide +kernel
theorem dX1_init_25 : decode cX1_init 25 = .ok (.putfield 20, 3) := by decide +kernel
theorem dX1_init_28 : decode cX1_init 28 = .ok (.aload_n 0, 1) := by decide +kernel
theorem dX1_init_29 : decode cX1_init 29 = .ok (.iconst 0, 1) := by decide +kernel
theorem dX1_init_30 : decode cX1_init 30 = .ok (.putfield 24, 3) := by decide +kernel
theorem dX1_init_33 : decode cX1_init 33 = .ok (.aload_n 0, 1) := by decide +kernel
theorem dX1_init_34 : decode cX1_init 34 = .ok (.iconst 0, 1) := by decide +kernel
theorem dX1_init_35 : decode cX1_init 35 = .ok (.putfield 28, 3) := by decide +kernel
theorem dX1_init_38 : decode cX1_init 38 = .ok (.aload_n 0, 1) := by decide +kernel
theorem dX1_init_39 : decode cX1_init 39 = .ok (.iconst 1, 1) := by decide +kernel
theorem dX1_init_40 : decode cX1_init 40 = .ok (.bipush 16, 2) := by decide +kernel
theorem dX1_init_42 : decode cX1_init 42 = .ok (.iload_n 1, 1) := by decide +kernel
theorem dX1_init_43 : decode cX1_init 43 = .ok (.invokestatic 31, 3) := by decide +kernel
theorem dX1_init_46 : decode cX1_init 46 = .ok (.invokestatic 37, 3) := by decide +kernel
theorem dX1_init_49 : decode cX1_init 49 = .ok (.putfield 40, 3) := by decide +kernel
theorem dX1_init_52 : decode cX1_init 52 = .ok (.aload_n 0, 1) := by decide +kernel
theorem dX1_init_53 : decode cX1_init 53 = .ok (.bipush 16, 2) := by decide +kernel
theorem dX1_init_55 : decode cX1_init 55 = .ok (.sipush 256, 3) := by decide +kernel
theorem dX1_init_58 : decode cX1_init 58 = .ok (.iload_n 2, 1) := by decide +kernel
theorem dX1_init_59 : decode cX1_init 59 = .ok (.invokestatic 31, 3) := by decide +kernel
theorem dX1_init_62 : decode cX1_init 62 = .ok (.invokestatic 37, 3) := by decide +kernel
theorem dX1_init_65 : decode cX1_init 65 = .ok (.newarray .int, 2) := by decide +kernel
theorem dX1_init_67 : decode cX1_init 67 = .ok (.putfield 43, 3) := by decide +kernel
theorem dX1_init_70 : decode cX1_init 70 = .ok (.iconst 0, 1) := by decide +kernel
theorem dX1_init_71 : decode cX1_init 71 = .ok (.istore_n 3, 1) := by decide +kernel
theorem dX1_init_72 : decode cX1_init 72 = .ok (.iload_n 3, 1) := by decide +kernel
theorem dX1_init_73 : decode cX1_init 73 = .ok (.aload_n 0, 1) := by decide +kernel
theorem dX1_init_74 : decode cX1_init 74 = .ok (.getfield 11, 3) := by decide +kernel
theorem dX1_init_77 : decode cX1_init 77 = .ok (.arraylength, 1) := by decide +kernel
theorem dX1_init_78 : decode cX1_init 78 = .ok (.if_icmp .ge 22, 3) := by decide +kernel
theorem dX1_init_81 : decode cX1_init 81 = .ok (.aload_n 0, 1) := by decide +kernel
theorem dX1_init_82 : decode cX1_init 82 = .ok (.getfield 11, 3) := by decide +kernel
theorem dX1_init_85 : decode cX1_init 85 = .ok (.iload_n 3, 1) := by decide +kernel
theorem dX1_init_86 : decode cX1_init 86 = .ok (.new 9, 3) := by decide +kernel
theorem dX1_init_89 : decode cX1_init 89 = .ok (.dup, 1) := by decide +kernel
theorem dX1_init_90 : decode cX1_init 90 = .ok (.invokespecial 15, 3) := by decide +kernel
theorem dX1_init_93 : decode cX1_init 93 = .ok (.aastore, 1) := by decide +kernel
theorem dX1_init_94 : decode cX1_init 94 = .ok (.iinc 3 1, 3) := by decide +kernel
theorem dX1_init_97 : decode cX1_init 97 = .ok (.goto (-25), 3) := by decide +kernel
theorem dX1_init_100 : decode cX1_init 100 = .ok (.return_, 1) := by decide +kernel
theorem dX1_append_0 : decode cX1_append 0 = .ok (.aload_n 0, 1) := by decide +kernel
theorem dX1_append_1 : decode cX1_append 1 = .ok (.iload_n 1, 1) := by decide +kernel
theorem dX1_append_2 : decode cX1_append 2 = .ok (.invokevirtual 47, 3) := by decide +kernel
theorem dX1_append_5 : decode cX1_append 5 = .ok (.astore 4, 2) := by decide +kernel
theorem dX1_append_7 : decode cX1_append 7 = .ok (.iload_n 2, 1) := by decide +kernel
theorem dX1_append_8 : decode cX1_append 8 = .ok (.iconst 1, 1) := by decide +kernel
theorem dX1_append_9 : decode cX1_append 9 = .ok (.sipush 20000, 3) := by decide +kernel
theorem dX1_append_12 : decode cX1_append 12 = .ok (.invokestatic 51, 3) := by decide +kernel
theorem dX1_append_15 : decode cX1_append 15 = .ok (.aload_n 0, 1) := by decide +kernel
theorem dX1_append_16 : decode cX1_append 16 = .ok (.invokevirtual 55, 3) := by decide +kernel
theorem dX1_append_19 : decode cX1_append 19 = .ok (.iload_n 2, 1) := by decide +kernel
theorem dX1_append_20 : decode cX1_append 20 = .ok (.iconst 4, 1) := by decide +kernel
theorem dX1_append_21 : decode cX1_append 21 = .ok (.iadd, 1) := by decide +kernel
theorem dX1_append_22 : decode cX1_append 22 = .ok (.istore 5, 2) := by decide +kernel
theorem dX1_append_24 : decode cX1_append 24 = .ok (.iload 5, 2) := by decide +kernel
theorem dX1_append_26 : decode cX1_append 26 = .ok (.aload_n 0, 1) := by decide +kernel
theorem dX1_append_27 : decode cX1_append 27 = .ok (.invokevirtual 58, 3) := by decide +kernel
theorem dX1_append_30 : decode cX1_append 30 = .ok (.if_icmp .le 6, 3) := by decide +kernel
theorem dX1_append_33 : decode cX1_append 33 = .ok (.bipush (-5), 2) := by decide +kernel
theorem dX1_append_35 : decode cX1_append 35 = .ok (.ireturn, 1) := by decide +kernel
theorem dX1_append_36 : decode cX1_append 36 = .ok (.aload 4, 2) := by decide +kernel
theorem dX1_append_38 : decode cX1_append 38 = .ok (.iload 5, 2) := by decide +kernel
theorem dX1_append_40 : decode cX1_append 40 = .ok (.aload_n 0, 1) := by decide +kernel
theorem dX1_append_41 : decode cX1_append 41 = .ok (.invokevirtual 58, 3) := by decide +kernel
theorem dX1_append_44 : decode cX1_append 44 = .ok (.invokevirtual 62, 3) := by decide +kernel
theorem dX1_append_47 : decode cX1_append 47 = .ok (.istore 6, 2) := by decide +kernel
theorem dX1_append_49 : decode cX1_append 49 = .ok (.iload 6, 2) := by decide +kernel
theorem dX1_append_51 : decode cX1_append 51 = .ok (.ifCond .eq 11, 3) := by decide +kernel
theorem dX1_append_54 : decode cX1_append 54 = .ok (.aload 4, 2) := by decide +kernel
theorem dX1_append_56 : decode cX1_append 56 = .ok (.invokevirtual 66, 3) := by decide +kernel
theorem dX1_append_59 : decode cX1_append 59 = .ok (.goto 9, 3) := by decide +kernel
theorem dX1_append_62 : decode cX1_append 62 = .ok (.aload_n 0, 1) := by decide +kernel
theorem dX1_append_63 : decode cX1_append 63 = .ok (.aload 4, 2) := by decide +kernel
theorem dX1_append_65 : decode cX1_append 65 = .ok (.invokevirtual 69, 3) := by decide +kernel
theorem dX1_append_68 : decode cX1_append 68 = .ok (.istore 7, 2) := by decide +kernel
theorem dX1_append_70 : decode cX1_append 70 = .ok (.iload 7, 2) := by decide +kernel
theorem dX1_append_72 : decode cX1_append 72 = .ok (.iconst (-1), 1) := by decide +kernel
theorem dX1_append_73 : decode cX1_append 73 = .ok (.if_icmp .eq 11, 3) := by decide +kernel
theorem dX1_append_76 : decode cX1_append 76 = .ok (.aload 4, 2) := by decide +kernel
theorem dX1_append_78 : decode cX1_append 78 = .ok (.invokevirtual 73, 3) := by decide +kernel
theorem dX1_append_81 : decode cX1_append 81 = .ok (.ifCond .ne 6, 3) := by decide +kernel
theorem dX1_append_84 : decode cX1_append 84 = .ok (.bipush (-2), 2) := by decide +kernel
theorem dX1_append_86 : decode cX1_append 86 = .ok (.ireturn, 1) := by decide +kernel
theorem dX1_append_87 : decode cX1_append 87 = .ok (.iload 6, 2) := by decide +kernel
theorem dX1_append_89 : decode cX1_append 89 = .ok (.ifCond .eq 11, 3) := by decide +kernel
theorem dX1_append_92 : decode cX1_append 92 = .ok (.aload 4, 2) := by decide +kernel
theorem dX1_append_94 : decode cX1_append 94 = .ok (.invokevirtual 77, 3) := by decide +kernel
theorem dX1_append_97 : decode cX1_append 97 = .ok (.goto 4, 3) := by decide +kernel
theorem dX1_append_100 : decode cX1_append 100 = .ok (.iconst 0, 1) := by decide +kernel
theorem dX1_append_101 : decode cX1_append 101 = .ok (.istore 8, 2) := by decide +kernel
theorem dX1_append_103 : decode cX1_append 103 = .ok (.iload 8, 2) := by decide +kernel
theorem dX1_append_105 : decode cX1_append 105 = .ok (.iload 5, 2) := by decide +kernel
theorem dX1_append_107 : decode cX1_append 107 = .ok (.invokestatic 80, 3) := by decide +kernel
theorem dX1_append_110 : decode cX1_append 110 = .ok (.iconst 1, 1) := by decide +kernel
theorem dX1_append_111 : decode cX1_append 111 = .ok (.iadd, 1) := by decide +kernel
theorem dX1_append_112 : decode cX1_append 112 = .ok (.istore 9, 2) := by decide +kernel
theorem dX1_append_114 : decode cX1_append 114 = .ok (.aload_n 0, 1) := by decide +kernel
theorem dX1_append_115 : decode cX1_append 115 = .ok (.iload 9, 2) := by decide +kernel
theorem dX1_append_117 : decode cX1_append 117 = .ok (.invokevirtual 83, 3) := by decide +kernel
theorem dX1_append_120 : decode cX1_append 120 = .ok (.ifCond .eq 33, 3) := by decide +kernel
theorem dX1_append_123 : decode cX1_append 123 = .ok (.iload 6, 2) := by decide +kernel
theorem dX1_append_125 : decode cX1_append 125 = .ok (.ifCond .ne 10, 3) := by decide +kernel
theorem dX1_append_128 : decode cX1_append 128 = .ok (.aload 4, 2) := by decide +kernel
theorem dX1_append_130 : decode cX1_append 130 = .ok (.iload 7, 2) := by decide +kernel
theorem dX1_append_132 : decode cX1_append 132 = .ok (.invokevirtual 87, 3) := by decide +kernel
theorem dX1_append_135 : decode cX1_append 135 = .ok (.aload 4, 2) := by decide +kernel
theorem dX1_append_137 : decode cX1_append 137 = .ok (.iload_n 2, 1) := by decide +kernel
theorem dX1_append_138 : decode cX1_append 138 = .ok (.iload_n 3, 1) := by decide +kernel
theorem dX1_append_139 : decode cX1_append 139 = .ok (.invokevirtual 91, 3) := by decide +kernel
theorem dX1_append_142 : decode cX1_append 142 = .ok (.aload 4, 2) := by decide +kernel
theorem dX1_append_144 : decode cX1_append 144 = .ok (.dup, 1) := by decide +kernel
theorem dX1_append_145 : decode cX1_append 145 = .ok (.getfield 95, 3) := by decide +kernel
theorem dX1_append_148 : decode cX1_append 148 = .ok (.iconst 1, 1) := by decide +kernel
theorem dX1_append_149 : decode cX1_append 149 = .ok (.iadd, 1) := by decide +kernel
theorem dX1_append_150 : decode cX1_append 150 = .ok (.putfield 95, 3) := by decide +kernel
theorem dX1_append_153 : decode cX1_append 153 = .ok (.aload_n 0, 1) := by decide +kernel
theorem dX1_append_154 : decode cX1_append 154 = .ok (.getfield 24, 3) := by decide +kernel
theorem dX1_append_157 : decode cX1_append 157 = .ok (.ifCond .eq 8, 3) := by decide +kernel
theorem dX1_append_160 : decode cX1_append 160 = .ok (.bipush (-3), 2) := by decide +kernel
theorem dX1_append_162 : decode cX1_append 162 = .ok (.goto 5, 3) := by decide +kernel
theorem dX1_append_165 : decode cX1_append 165 = .ok (.iload 9, 2) := by decide +kernel
theorem dX1_append_167 : decode cX1_append 167 = .ok (.ireturn, 1) := by decide +kernel
theorem dX1_retain_0 : decode cX1_retain 0 = .ok (.aload_n 0, 1) := by decide +kernel
theorem dX1_retain_1 : decode cX1_retain 1 = .ok (.iload_n 1, 1) := by decide +kernel
theorem dX1_retain_2 : decode cX1_retain 2 = .ok (.invokevirtual 47, 3) := by decide +kernel
theorem dX1_retain_5 : decode cX1_retain 5 = .ok (.astore_n 3, 1) := by decide +kernel
theorem dX1_retain_6 : decode cX1_retain 6 = .ok (.iload_n 2, 1) := by decide +kernel
theorem dX1_retain_7 : decode cX1_retain 7 = .ok (.iconst 0, 1) := by decide +kernel
theorem dX1_retain_8 : decode cX1_retain 8 = .ok (.ldc 100, 2) := by decide +kernel
theorem dX1_retain_10 : decode cX1_retain 10 = .ok (.invokestatic 51, 3) := by decide +kernel
theorem dX1_retain_13 : decode cX1_retain 13 = .ok (.aload_n 0, 1) := by decide +kernel
theorem dX1_retain_14 : decode cX1_retain 14 = .ok (.invokevirtual 55, 3) := by decide +kernel
theorem dX1_retain_17 : decode cX1_retain 17 = .ok (.aload_n 3, 1) := by decide +kernel
theorem dX1_retain_18 : decode cX1_retain 18 = .ok (.iload_n 2, 1) := by decide +kernel
theorem dX1_retain_19 : decode cX1_retain 19 = .ok (.invokevirtual 101, 3) := by decide +kernel
theorem dX1_retain_22 : decode cX1_retain 22 = .ok (.istore 4, 2) := by decide +kernel
theorem dX1_retain_24 : decode cX1_retain 24 = .ok (.iload 4, 2) := by decide +kernel
theorem dX1_retain_26 : decode cX1_retain 26 = .ok (.ifCond .ne 5, 3) := by decide +kernel
theorem dX1_retain_29 : decode cX1_retain 29 = .ok (.iconst 0, 1) := by decide +kernel
theorem dX1_retain_30 : decode cX1_retain 30 = .ok (.ireturn, 1) := by decide +kernel
theorem dX1_retain_31 : decode cX1_retain 31 = .ok (.aload_n 0, 1) := by decide +kernel
theorem dX1_retain_32 : decode cX1_retain 32 = .ok (.getfield 16, 3) := by decide +kernel
theorem dX1_retain_35 : decode cX1_retain 35 = .ok (.aload_n 3, 1) := by decide +kernel
theorem dX1_retain_36 : decode cX1_retain 36 = .ok (.invokevirtual 105, 3) := by decide +kernel
theorem dX1_retain_39 : decode cX1_retain 39 = .ok (.aload_n 0, 1) := by decide +kernel
theorem dX1_retain_40 : decode cX1_retain 40 = .ok (.getfield 16, 3) := by decide +kernel
theorem dX1_retain_43 : decode cX1_retain 43 = .ok (.aload_n 3, 1) := by decide +kernel
theorem dX1_retain_44 : decode cX1_retain 44 = .ok (.iload 4, 2) := by decide +kernel
theorem dX1_retain_46 : decode cX1_retain 46 = .ok (.invokevirtual 109, 3) := by decide +kernel
theorem dX1_retain_49 : decode cX1_retain 49 = .ok (.aload_n 0, 1) := by decide +kernel
theorem dX1_retain_50 : decode cX1_retain 50 = .ok (.iconst 1, 1) := by decide +kernel
theorem dX1_retain_51 : decode cX1_retain 51 = .ok (.invokevirtual 83, 3) := by decide +kernel
theorem dX1_retain_54 : decode cX1_retain 54 = .ok (.ifCond .eq 8, 3) := by decide +kernel
theorem dX1_retain_57 : decode cX1_retain 57 = .ok (.aload_n 0, 1) := by decide +kernel
theorem dX1_retain_58 : decode cX1_retain 58 = .ok (.iload_n 1, 1) := by decide +kernel
theorem dX1_retain_59 : decode cX1_retain 59 = .ok (.invokevirtual 113, 3) := by decide +kernel
theorem dX1_retain_62 : decode cX1_retain 62 = .ok (.aload_n 0, 1) := by decide +kernel
theorem dX1_retain_63 : decode cX1_retain 63 = .ok (.getfield 24, 3) := by decide +kernel
theorem dX1_retain_66 : decode cX1_retain 66 = .ok (.ifCond .eq 8, 3) := by decide +kernel
theorem dX1_retain_69 : decode cX1_retain 69 = .ok (.bipush (-3), 2) := by decide +kernel
theorem dX1_retain_71 : decode cX1_retain 71 = .ok (.goto 5, 3) := by decide +kernel
theorem dX1_retain_74 : decode cX1_retain 74 = .ok (.iload 4, 2) := by decide +kernel
theorem dX1_retain_76 : decode cX1_retain 76 = .ok (.ireturn, 1) := by decide +kernel
theorem dX1_thin_0 : decode cX1_thin 0 = .ok (.aload_n 0, 1) := by decide +kernel
theorem dX1_thin_1 : decode cX1_thin 1 = .ok (.iload_n 1, 1) := by decide +kernel
theorem dX1_thin_2 : decode cX1_thin 2 = .ok (.invokevirtual 47, 3) := by decide +kernel
theorem dX1_thin_5 : decode cX1_thin 5 = .ok (.astore_n 3, 1) := by decide +kernel
theorem dX1_thin_6 : decode cX1_thin 6 = .ok (.iload_n 2, 1) := by decide +kernel
theorem dX1_thin_7 : decode cX1_thin 7 = .ok (.iconst 1, 1) := by decide +kernel
theorem dX1_thin_8 : decode cX1_thin 8 = .ok (.sipush 1000, 3) := by decide +kernel
theorem dX1_thin_11 : decode cX1_thin 11 = .ok (.invokestatic 51, 3) := by decide +kernel
theorem dX1_thin_14 : decode cX1_thin 14 = .ok (.aload_n 0, 1) := by decide +kernel
theorem dX1_thin_15 : decode cX1_thin 15 = .ok (.invokevirtual 55, 3) := by decide +kernel
theorem dX1_thin_18 : decode cX1_thin 18 = .ok (.aload_n 3, 1) := by decide +kernel
theorem dX1_thin_19 : decode cX1_thin 19 = .ok (.invokevirtual 116, 3) := by decide +kernel
theorem dX1_thin_22 : decode cX1_thin 22 = .ok (.istore 4, 2) := by decide +kernel
theorem dX1_thin_24 : decode cX1_thin 24 = .ok (.iload 4, 2) := by decide +kernel
theorem dX1_thin_26 : decode cX1_thin 26 = .ok (.ifCond .ne 5, 3) := by decide +kernel
theorem dX1_thin_29 : decode cX1_thin 29 = .ok (.iconst 0, 1) := by decide +kernel
theorem dX1_thin_30 : decode cX1_thin 30 = .ok (.ireturn, 1) := by decide +kernel
theorem dX1_thin_31 : decode cX1_thin 31 = .ok (.aload_n 0, 1) := by decide +kernel
theorem dX1_thin_32 : decode cX1_thin 32 = .ok (.aload_n 3, 1) := by decide +kernel
theorem dX1_thin_33 : decode cX1_thin 33 = .ok (.iload 4, 2) := by decide +kernel
theorem dX1_thin_35 : decode cX1_thin 35 = .ok (.iload_n 2, 1) := by decide +kernel
theorem dX1_thin_36 : decode cX1_thin 36 = .ok (.invokevirtual 119, 3) := by decide +kernel
theorem dX1_thin_39 : decode cX1_thin 39 = .ok (.ifCond .ne 6, 3) := by decide +kernel
theorem dX1_thin_42 : decode cX1_thin 42 = .ok (.bipush (-2), 2) := by decide +kernel
theorem dX1_thin_44 : decode cX1_thin 44 = .ok (.ireturn, 1) := by decide +kernel
theorem dX1_thin_45 : decode cX1_thin 45 = .ok (.iload 4, 2) := by decide +kernel
theorem dX1_thin_47 : decode cX1_thin 47 = .ok (.aload_n 0, 1) := by decide +kernel
theorem dX1_thin_48 : decode cX1_thin 48 = .ok (.getfield 16, 3) := by decide +kernel
theorem dX1_thin_51 : decode cX1_thin 51 = .ok (.getfield 123, 3) := by decide +kernel
theorem dX1_thin_54 : decode cX1_thin 54 = .ok (.isub, 1) := by decide +kernel
theorem dX1_thin_55 : decode cX1_thin 55 = .ok (.istore 5, 2) := by decide +kernel
theorem dX1_thin_57 : decode cX1_thin 57 = .ok (.aload_n 0, 1) := by decide +kernel
theorem dX1_thin_58 : decode cX1_thin 58 = .ok (.getfield 16, 3) := by decide +kernel
theorem dX1_thin_61 : decode cX1_thin 61 = .ok (.invokevirtual 126, 3) := by decide +kernel
theorem dX1_thin_64 : decode cX1_thin 64 = .ok (.iconst 1, 1) := by decide +kernel
theorem dX1_thin_65 : decode cX1_thin 65 = .ok (.iadd, 1) := by decide +kernel
theorem dX1_thin_66 : decode cX1_thin 66 = .ok (.istore 6, 2) := by decide +kernel
theorem dX1_thin_68 : decode cX1_thin 68 = .ok (.aload_n 0, 1) := by decide +kernel
theorem dX1_thin_69 : decode cX1_thin 69 = .ok (.getfield 16, 3) := by decide +kernel
theorem dX1_thin_72 : decode cX1_thin 72 = .ok (.aload_n 3, 1) := by decide +kernel
theorem dX1_thin_73 : decode cX1_thin 73 = .ok (.aload_n 3, 1) := by decide +kernel
theorem dX1_thin_74 : decode cX1_thin 74 = .ok (.getfield 129, 3) := by decide +kernel
theorem dX1_thin_77 : decode cX1_thin 77 = .ok (.iconst 1, 1) := by decide +kernel
theorem dX1_thin_78 : decode cX1_thin 78 = .ok (.isub, 1) := by decide +kernel
theorem dX1_thin_79 : decode cX1_thin 79 = .ok (.invokevirtual 109, 3) := by decide +kernel
theorem dX1_thin_82 : decode cX1_thin 82 = .ok (.aload_n 0, 1) := by decide +kernel
theorem dX1_thin_83 : decode cX1_thin 83 = .ok (.iload 6, 2) := by decide +kernel
theorem dX1_thin_85 : decode cX1_thin 85 = .ok (.invokevirtual 83, 3) := by decide +kernel
theorem dX1_thin_88 : decode cX1_thin 88 = .ok (.ifCond .eq 8, 3) := by decide +kernel
theorem dX1_thin_91 : decode cX1_thin 91 = .ok (.aload_n 0, 1) := by decide +kernel
theorem dX1_thin_92 : decode cX1_thin 92 = .ok (.iload_n 1, 1) := by decide +kernel
theorem dX1_thin_93 : decode cX1_thin 93 = .ok (.invokevirtual 113, 3) := by decide +kernel
theorem dX1_thin_96 : decode cX1_thin 96 = .ok (.aload_n 0, 1) := by decide +kernel
theorem dX1_thin_97 : decode cX1_thin 97 = .ok (.getfield 24, 3) := by decide +kernel
theorem dX1_thin_100 : decode cX1_thin 100 = .ok (.ifCond .eq 8, 3) := by decide +kernel
theorem dX1_thin_103 : decode cX1_thin 103 = .ok (.bipush (-3), 2) := by decide +kernel
theorem dX1_thin_105 : decode cX1_thin 105 = .ok (.goto 5, 3) := by decide +kernel
theorem dX1_thin_108 : decode cX1_thin 108 = .ok (.iload 5, 2) := by decide +kernel
theorem dX1_thin_110 : decode cX1_thin 110 = .ok (.ireturn, 1) := by decide +kernel
theorem dX1_log_0 : decode cX1_log 0 = .ok (.aload_n 0, 1) := by decide +kernel
theorem dX1_log_1 : decode cX1_log 1 = .ok (.iload_n 1, 1) := by decide +kernel
theorem dX1_log_2 : decode cX1_log 2 = .ok (.invokevirtual 47, 3) := by decide +kernel
theorem dX1_log_5 : decode cX1_log 5 = .ok (.astore_n 3, 1) := by decide +kernel
theorem dX1_log_6 : decode cX1_log 6 = .ok (.iload_n 2, 1) := by decide +kernel
theorem dX1_log_7 : decode cX1_log 7 = .ok (.iconst 0, 1) := by decide +kernel
theorem dX1_log_8 : decode cX1_log 8 = .ok (.iconst 3, 1) := by decide +kernel
theorem dX1_log_9 : decode cX1_log 9 = .ok (.invokestatic 51, 3) := by decide +kernel
theorem dX1_log_12 : decode cX1_log 12 = .ok (.aload_n 0, 1) := by decide +kernel
theorem dX1_log_13 : decode cX1_log 13 = .ok (.invokevirtual 55, 3) := by decide +kernel
theorem dX1_log_16 : decode cX1_log 16 = .ok (.iload_n 2, 1) := by decide +kernel
theorem dX1_log_17 : decode cX1_log 17 = .ok (.tableswitch 43 0 2 #[27, 32, 37], 27) := by decide +kernel
theorem dX1_log_44 : decode cX1_log 44 = .ok (.aload_n 3, 1) := by decide +kernel
theorem dX1_log_45 : decode cX1_log 45 = .ok (.getfield 123, 3) := by decide +kernel
theorem dX1_log_48 : decode cX1_log 48 = .ok (.ireturn, 1) := by decide +kernel
theorem dX1_log_49 : decode cX1_log 49 = .ok (.aload_n 3, 1) := by decide +kernel
theorem dX1_log_50 : decode cX1_log 50 = .ok (.getfield 129, 3) := by decide +kernel
theorem dX1_log_53 : decode cX1_log 53 = .ok (.ireturn, 1) := by decide +kernel
theorem dX1_log_54 : decode cX1_log 54 = .ok (.aload_n 3, 1) := by decide +kernel
theorem dX1_log_55 : decode cX1_log 55 = .ok (.iconst 0, 1) := by decide +kernel
theorem dX1_log_56 : decode cX1_log 56 = .ok (.invokevirtual 132, 3) := by decide +kernel
theorem dX1_log_59 : decode cX1_log 59 = .ok (.ireturn, 1) := by decide +kernel
theorem dX1_log_60 : decode cX1_log 60 = .ok (.aload_n 3, 1) := by decide +kernel
theorem dX1_log_61 : decode cX1_log 61 = .ok (.getfield 95, 3) := by decide +kernel
theorem dX1_log_64 : decode cX1_log 64 = .ok (.ireturn, 1) := by decide +kernel
theorem dX1_entry_0 : decode cX1_entry 0 = .ok (.aload_n 0, 1) := by decide +kernel
theorem dX1_entry_1 : decode cX1_entry 1 = .ok (.iload_n 1, 1) := by decide +kernel
theorem dX1_entry_2 : decode cX1_entry 2 = .ok (.invokevirtual 47, 3) := by decide +kernel
theorem dX1_entry_5 : decode cX1_entry 5 = .ok (.astore 4, 2) := by decide +kernel
theorem dX1_entry_7 : decode cX1_entry 7 = .ok (.iload_n 3, 1) := by decide +kernel
theorem dX1_entry_8 : decode cX1_entry 8 = .ok (.iconst 0, 1) := by decide +kernel
theorem dX1_entry_9 : decode cX1_entry 9 = .ok (.iconst 2, 1) := by decide +kernel
theorem dX1_entry_10 : decode cX1_entry 10 = .ok (.invokestatic 51, 3) := by decide +kernel
theorem dX1_entry_13 : decode cX1_entry 13 = .ok (.aload_n 0, 1) := by decide +kernel
theorem dX1_entry_14 : decode cX1_entry 14 = .ok (.invokevirtual 55, 3) := by decide +kernel
theorem dX1_entry_17 : decode cX1_entry 17 = .ok (.iload_n 2, 1) := by decide +kernel
theorem dX1_entry_18 : decode cX1_entry 18 = .ok (.iconst 0, 1) := by decide +kernel
theorem dX1_entry_19 : decode cX1_entry 19 = .ok (.aload 4, 2) := by decide +kernel
theorem dX1_entry_21 : decode cX1_entry 21 = .ok (.getfield 123, 3) := by decide +kernel
theorem dX1_entry_24 : decode cX1_entry 24 = .ok (.iconst 1, 1) := by decide +kernel
theorem dX1_entry_25 : decode cX1_entry 25 = .ok (.isub, 1) := by decide +kernel
theorem dX1_entry_26 : decode cX1_entry 26 = .ok (.invokestatic 51, 3) := by decide +kernel
theorem dX1_entry_29 : decode cX1_entry 29 = .ok (.iload_n 3, 1) := by decide +kernel
theorem dX1_entry_30 : decode cX1_entry 30 = .ok (.lookupswitch 43 #[(0, 26), (1, 36)], 26) := by decide +kernel
theorem dX1_entry_56 : decode cX1_entry 56 = .ok (.aload 4, 2) := by decide +kernel
theorem dX1_entry_58 : decode cX1_entry 58 = .ok (.getfield 135, 3) := by decide +kernel
theorem dX1_entry_61 : decode cX1_entry 61 = .ok (.iload_n 2, 1) := by decide +kernel
theorem dX1_entry_62 : decode cX1_entry 62 = .ok (.invokestatic 138, 3) := by decide +kernel
theorem dX1_entry_65 : decode cX1_entry 65 = .ok (.ireturn, 1) := by decide +kernel
theorem dX1_entry_66 : decode cX1_entry 66 = .ok (.aload 4, 2) := by decide +kernel
theorem dX1_entry_68 : decode cX1_entry 68 = .ok (.iload_n 2, 1) := by decide +kernel
theorem dX1_entry_69 : decode cX1_entry 69 = .ok (.invokevirtual 142, 3) := by decide +kernel
theorem dX1_entry_72 : decode cX1_entry 72 = .ok (.ireturn, 1) := by decide +kernel
theorem dX1_entry_73 : decode cX1_entry 73 = .ok (.aload 4, 2) := by decide +kernel
theorem dX1_entry_75 : decode cX1_entry 75 = .ok (.getfield 145, 3) := by decide +kernel
theorem dX1_entry_78 : decode cX1_entry 78 = .ok (.iload_n 2, 1) := by decide +kernel
theorem dX1_entry_79 : decode cX1_entry 79 = .ok (.invokestatic 138, 3) := by decide +kernel
theorem dX1_entry_82 : decode cX1_entry 82 = .ok (.ireturn, 1) := by decide +kernel
theorem dX1_byteAt_0 : decode cX1_byteAt 0 = .ok (.aload_n 0, 1) := by decide +kernel
theorem dX1_byteAt_1 : decode cX1_byteAt 1 = .ok (.iload_n 1, 1) := by decide +kernel
theorem dX1_byteAt_2 : decode cX1_byteAt 2 = .ok (.invokevirtual 47, 3) := by decide +kernel
theorem dX1_byteAt_5 : decode cX1_byteAt 5 = .ok (.astore 4, 2) := by decide +kernel
theorem dX1_byteAt_7 : decode cX1_byteAt 7 = .ok (.aload_n 0, 1) := by decide +kernel
theorem dX1_byteAt_8 : decode cX1_byteAt 8 = .ok (.invokevirtual 55, 3) := by decide +kernel
theorem dX1_byteAt_11 : decode cX1_byteAt 11 = .ok (.iload_n 2, 1) := by decide +kernel
theorem dX1_byteAt_12 : decode cX1_byteAt 12 = .ok (.iconst 0, 1) := by decide +kernel
theorem dX1_byteAt_13 : decode cX1_byteAt 13 = .ok (.aload 4, 2) := by decide +kernel
theorem dX1_byteAt_15 : decode cX1_byteAt 15 = .ok (.getfield 123, 3) := by decide +kernel
theorem dX1_byteAt_18 : decode cX1_byteAt 18 = .ok (.iconst 1, 1) := by decide +kernel
theorem dX1_byteAt_19 : decode cX1_byteAt 19 = .ok (.isub, 1) := by decide +kernel
theorem dX1_byteAt_20 : decode cX1_byteAt 20 = .ok (.invokestatic 51, 3) := by decide +kernel
theorem dX1_byteAt_23 : decode cX1_byteAt 23 = .ok (.iload_n 3, 1) := by decide +kernel
theorem dX1_byteAt_24 : decode cX1_byteAt 24 = .ok (.iconst 0, 1) := by decide +kernel
theorem dX1_byteAt_25 : decode cX1_byteAt 25 = .ok (.aload 4, 2) := by decide +kernel
theorem dX1_byteAt_27 : decode cX1_byteAt 27 = .ok (.getfield 135, 3) := by decide +kernel
theorem dX1_byteAt_30 : decode cX1_byteAt 30 = .ok (.iload_n 2, 1) := by decide +kernel
theorem dX1_byteAt_31 : decode cX1_byteAt 31 = .ok (.invokestatic 138, 3) := by decide +kernel
theorem dX1_byteAt_34 : decode cX1_byteAt 34 = .ok (.iconst 1, 1) := by decide +kernel
theorem dX1_byteAt_35 : decode cX1_byteAt 35 = .ok (.isub, 1) := by decide +kernel
theorem dX1_byteAt_36 : decode cX1_byteAt 36 = .ok (.invokestatic 51, 3) := by decide +kernel
theorem dX1_byteAt_39 : decode cX1_byteAt 39 = .ok (.aload 4, 2) := by decide +kernel
theorem dX1_byteAt_41 : decode cX1_byteAt 41 = .ok (.getfield 148, 3) := by decide +kernel
theorem dX1_byteAt_44 : decode cX1_byteAt 44 = .ok (.iload_n 2, 1) := by decide +kernel
theorem dX1_byteAt_45 : decode cX1_byteAt 45 = .ok (.invokestatic 138, 3) := by decide +kernel
theorem dX1_byteAt_48 : decode cX1_byteAt 48 = .ok (.iload_n 3, 1) := by decide +kernel
theorem dX1_byteAt_49 : decode cX1_byteAt 49 = .ok (.iadd, 1) := by decide +kernel
theorem dX1_byteAt_50 : decode cX1_byteAt 50 = .ok (.sipush 255, 3) := by decide +kernel
theorem dX1_byteAt_53 : decode cX1_byteAt 53 = .ok (.iand, 1) := by decide +kernel
theorem dX1_byteAt_54 : decode cX1_byteAt 54 = .ok (.ireturn, 1) := by decide +kernel
theorem dX1_crash_0 : decode cX1_crash 0 = .ok (.iload_n 1, 1) := by decide +kernel
theorem dX1_crash_1 : decode cX1_crash 1 = .ok (.iconst (-1), 1) := by decide +kernel
theorem dX1_crash_2 : decode cX1_crash 2 = .ok (.sipush 1000, 3) := by decide +kernel
theorem dX1_crash_5 : decode cX1_crash 5 = .ok (.invokestatic 51, 3) := by decide +kernel
theorem dX1_crash_8 : decode cX1_crash 8 = .ok (.aload_n 0, 1) := by decide +kernel
theorem dX1_crash_9 : decode cX1_crash 9 = .ok (.invokevirtual 55, 3) := by decide +kernel
theorem dX1_crash_12 : decode cX1_crash 12 = .ok (.aload_n 0, 1) := by decide +kernel
theorem dX1_crash_13 : decode cX1_crash 13 = .ok (.iload_n 1, 1) := by decide +kernel
theorem dX1_crash_14 : decode cX1_crash 14 = .ok (.putfield 20, 3) := by decide +kernel
theorem dX1_crash_17 : decode cX1_crash 17 = .ok (.aload_n 0, 1) := by decide +kernel
theorem dX1_crash_18 : decode cX1_crash 18 = .ok (.iload_n 1, 1) := by decide +kernel
theorem dX1_crash_19 : decode cX1_crash 19 = .ok (.ifCond .ne 7, 3) := by decide +kernel
theorem dX1_crash_22 : decode cX1_crash 22 = .ok (.iconst 1, 1) := by decide +kernel
theorem dX1_crash_23 : decode cX1_crash 23 = .ok (.goto 4, 3) := by decide +kernel
theorem dX1_crash_26 : decode cX1_crash 26 = .ok (.iconst 0, 1) := by decide +kernel
theorem dX1_crash_27 : decode cX1_crash 27 = .ok (.putfield 24, 3) := by decide +kernel
theorem dX1_crash_30 : decode cX1_crash 30 = .ok (.return_, 1) := by decide +kernel
theorem dX1_recover_0 : decode cX1_recover 0 = .ok (.aload_n 0, 1) := by decide +kernel
theorem dX1_recover_1 : decode cX1_recover 1 = .ok (.iconst (-1), 1) := by decide +kernel
theorem dX1_recover_2 : decode cX1_recover 2 = .ok (.putfield 20, 3) := by decide +kernel
theorem dX1_recover_5 : decode cX1_recover 5 = .ok (.aload_n 0, 1) := by decide +kernel
theorem dX1_recover_6 : decode cX1_recover 6 = .ok (.iconst 0, 1) := by decide +kernel
theorem dX1_recover_7 : decode cX1_recover 7 = .ok (.putfield 24, 3) := by decide +kernel
theorem dX1_recover_10 : decode cX1_recover 10 = .ok (.iconst 0, 1) := by decide +kernel
theorem dX1_recover_11 : decode cX1_recover 11 = .ok (.istore_n 1, 1) := by decide +kernel
theorem dX1_recover_12 : decode cX1_recover 12 = .ok (.aload_n 0, 1) := by decide +kernel
theorem dX1_recover_13 : decode cX1_recover 13 = .ok (.getfield 11, 3) := by decide +kernel
theorem dX1_recover_16 : decode cX1_recover 16 = .ok (.astore_n 2, 1) := by decide +kernel
theorem dX1_recover_17 : decode cX1_recover 17 = .ok (.aload_n 2, 1) := by decide +kernel
theorem dX1_recover_18 : decode cX1_recover 18 = .ok (.arraylength, 1) := by decide +kernel
theorem dX1_recover_19 : decode cX1_recover 19 = .ok (.istore_n 3, 1) := by decide +kernel
theorem dX1_recover_20 : decode cX1_recover 20 = .ok (.iconst 0, 1) := by decide +kernel
theorem dX1_recover_21 : decode cX1_recover 21 = .ok (.istore 4, 2) := by decide +kernel
theorem dX1_recover_23 : decode cX1_recover 23 = .ok (.iload 4, 2) := by decide +kernel
theorem dX1_recover_25 : decode cX1_recover 25 = .ok (.iload_n 3, 1) := by decide +kernel
theorem dX1_recover_26 : decode cX1_recover 26 = .ok (.if_icmp .ge 28, 3) := by decide +kernel
theorem dX1_recover_29 : decode cX1_recover 29 = .ok (.aload_n 2, 1) := by decide +kernel
theorem dX1_recover_30 : decode cX1_recover 30 = .ok (.iload 4, 2) := by decide +kernel
theorem dX1_recover_32 : decode cX1_recover 32 = .ok (.aaload, 1) := by decide +kernel
theorem dX1_recover_33 : decode cX1_recover 33 = .ok (.astore 5, 2) := by decide +kernel
theorem dX1_recover_35 : decode cX1_recover 35 = .ok (.aload 5, 2) := by decide +kernel
theorem dX1_recover_37 : decode cX1_recover 37 = .ok (.ifnull 11, 3) := by decide +kernel
theorem dX1_recover_40 : decode cX1_recover 40 = .ok (.iload_n 1, 1) := by decide +kernel
theorem dX1_recover_41 : decode cX1_recover 41 = .ok (.aload 5, 2) := by decide +kernel
theorem dX1_recover_43 : decode cX1_recover 43 = .ok (.getfield 123, 3) := by decide +kernel
theorem dX1_recover_46 : decode cX1_recover 46 = .ok (.iadd, 1) := by decide +kernel
theorem dX1_recover_47 : decode cX1_recover 47 = .ok (.istore_n 1, 1) := by decide +kernel
theorem dX1_recover_48 : decode cX1_recover 48 = .ok (.iinc 4 1, 3) := by decide +kernel
theorem dX1_recover_51 : decode cX1_recover 51 = .ok (.goto (-28), 3) := by decide +kernel
theorem dX1_recover_54 : decode cX1_recover 54 = .ok (.iload_n 1, 1) := by decide +kernel
theorem dX1_recover_55 : decode cX1_recover 55 = .ok (.ireturn, 1) := by decide +kernel
theorem dX1_isDown_0 : decode cX1_isDown 0 = .ok (.aload_n 0, 1) := by decide +kernel
theorem dX1_isDown_1 : decode cX1_isDown 1 = .ok (.getfield 24, 3) := by decide +kernel
theorem dX1_isDown_4 : decode cX1_isDown 4 = .ok (.ireturn, 1) := by decide +kernel
theorem dX1_writes_0 : decode cX1_writes 0 = .ok (.aload_n 0, 1) := by decide +kernel
theorem dX1_writes_1 : decode cX1_writes 1 = .ok (.getfield 28, 3) := by decide +kernel
theorem dX1_writes_4 : decode cX1_writes 4 = .ok (.ireturn, 1) := by decide +kernel
theorem dX1_free_0 : decode cX1_free 0 = .ok (.aload_n 0, 1) := by decide +kernel
theorem dX1_free_1 : decode cX1_free 1 = .ok (.invokevirtual 55, 3) := by decide +kernel
theorem dX1_free_4 : decode cX1_free 4 = .ok (.aload_n 0, 1) := by decide +kernel
theorem dX1_free_5 : decode cX1_free 5 = .ok (.invokevirtual 151, 3) := by decide +kernel
theorem dX1_free_8 : decode cX1_free 8 = .ok (.iconst 0, 1) := by decide +kernel
theorem dX1_free_9 : decode cX1_free 9 = .ok (.istore_n 1, 1) := by decide +kernel
theorem dX1_free_10 : decode cX1_free 10 = .ok (.aload_n 0, 1) := by decide +kernel
theorem dX1_free_11 : decode cX1_free 11 = .ok (.getfield 43, 3) := by decide +kernel
theorem dX1_free_14 : decode cX1_free 14 = .ok (.astore_n 2, 1) := by decide +kernel
theorem dX1_free_15 : decode cX1_free 15 = .ok (.aload_n 2, 1) := by decide +kernel
theorem dX1_free_16 : decode cX1_free 16 = .ok (.arraylength, 1) := by decide +kernel
theorem dX1_free_17 : decode cX1_free 17 = .ok (.istore_n 3, 1) := by decide +kernel
theorem dX1_free_18 : decode cX1_free 18 = .ok (.iconst 0, 1) := by decide +kernel
theorem dX1_free_19 : decode cX1_free 19 = .ok (.istore 4, 2) := by decide +kernel
theorem dX1_free_21 : decode cX1_free 21 = .ok (.iload 4, 2) := by decide +kernel
theorem dX1_free_23 : decode cX1_free 23 = .ok (.iload_n 3, 1) := by decide +kernel
theorem dX1_free_24 : decode cX1_free 24 = .ok (.if_icmp .ge 23, 3) := by decide +kernel
theorem dX1_free_27 : decode cX1_free 27 = .ok (.aload_n 2, 1) := by decide +kernel
theorem dX1_free_28 : decode cX1_free 28 = .ok (.iload 4, 2) := by decide +kernel
theorem dX1_free_30 : decode cX1_free 30 = .ok (.iaload, 1) := by decide +kernel
theorem dX1_free_31 : decode cX1_free 31 = .ok (.istore 5, 2) := by decide +kernel
theorem dX1_free_33 : decode cX1_free 33 = .ok (.iload 5, 2) := by decide +kernel
theorem dX1_free_35 : decode cX1_free 35 = .ok (.ifCond .ne 6, 3) := by decide +kernel
theorem dX1_free_38 : decode cX1_free 38 = .ok (.iinc 1 1, 3) := by decide +kernel
theorem dX1_free_41 : decode cX1_free 41 = .ok (.iinc 4 1, 3) := by decide +kernel
theorem dX1_free_44 : decode cX1_free 44 = .ok (.goto (-23), 3) := by decide +kernel
theorem dX1_free_47 : decode cX1_free 47 = .ok (.iload_n 1, 1) := by decide +kernel
theorem dX1_free_48 : decode cX1_free 48 = .ok (.ireturn, 1) := by decide +kernel
theorem dX1_existingLog_0 : decode cX1_existingLog 0 = .ok (.iload_n 1, 1) := by decide +kernel
theorem dX1_existingLog_1 : decode cX1_existingLog 1 = .ok (.ifCond .lt 21, 3) := by decide +kernel
theorem dX1_existingLog_4 : decode cX1_existingLog 4 = .ok (.iload_n 1, 1) := by decide +kernel
theorem dX1_existingLog_5 : decode cX1_existingLog 5 = .ok (.aload_n 0, 1) := by decide +kernel
theorem dX1_existingLog_6 : decode cX1_existingLog 6 = .ok (.getfield 11, 3) := by decide +kernel
theorem dX1_existingLog_9 : decode cX1_existingLog 9 = .ok (.arraylength, 1) := by decide +kernel
theorem dX1_existingLog_10 : decode cX1_existingLog 10 = .ok (.if_icmp .ge 12, 3) := by decide +kernel
theorem dX1_existingLog_13 : decode cX1_existingLog 13 = .ok (.aload_n 0, 1) := by decide +kernel
theorem dX1_existingLog_14 : decode cX1_existingLog 14 = .ok (.getfield 11, 3) := by decide +kernel
theorem dX1_existingLog_17 : decode cX1_existingLog 17 = .ok (.iload_n 1, 1) := by decide +kernel
theorem dX1_existingLog_18 : decode cX1_existingLog 18 = .ok (.aaload, 1) := by decide +kernel
theorem dX1_existingLog_19 : decode cX1_existingLog 19 = .ok (.goto 4, 3) := by decide +kernel
theorem dX1_existingLog_22 : decode cX1_existingLog 22 = .ok (.aconst_null, 1) := by decide +kernel
theorem dX1_existingLog_23 : decode cX1_existingLog 23 = .ok (.astore_n 2, 1) := by decide +kernel
theorem dX1_existingLog_24 : decode cX1_existingLog 24 = .ok (.aload_n 2, 1) := by decide +kernel
theorem dX1_existingLog_25 : decode cX1_existingLog 25 = .ok (.ifnonnull 13, 3) := by decide +kernel
theorem dX1_existingLog_28 : decode cX1_existingLog 28 = .ok (.new 154, 3) := by decide +kernel
theorem dX1_existingLog_31 : decode cX1_existingLog 31 = .ok (.dup, 1) := by decide +kernel
theorem dX1_existingLog_32 : decode cX1_existingLog 32 = .ok (.ldc 156, 2) := by decide +kernel
theorem dX1_existingLog_34 : decode cX1_existingLog 34 = .ok (.invokespecial 158, 3) := by decide +kernel
theorem dX1_existingLog_37 : decode cX1_existingLog 37 = .ok (.athrow, 1) := by decide +kernel
theorem dX1_existingLog_38 : decode cX1_existingLog 38 = .ok (.aload_n 2, 1) := by decide +kernel
theorem dX1_existingLog_39 : decode cX1_existingLog 39 = .ok (.areturn, 1) := by decide +kernel
theorem dX1_requirePower_0 : decode cX1_requirePower 0 = .ok (.aload_n 0, 1) := by decide +kernel
theorem dX1_requirePower_1 : decode cX1_requirePower 1 = .ok (.getfield 24, 3) := by decide +kernel
theorem dX1_requirePower_4 : decode cX1_requirePower 4 = .ok (.ifCond .eq 13, 3) := by decide +kernel
theorem dX1_requirePower_7 : decode cX1_requirePower 7 = .ok (.new 161, 3) := by decide +kernel
theorem dX1_requirePower_10 : decode cX1_requirePower 10 = .ok (.dup, 1) := by decide +kernel
theorem dX1_requirePower_11 : decode cX1_requirePower 11 = .ok (.ldc 163, 2) := by decide +kernel
theorem dX1_requirePower_13 : decode cX1_requirePower 13 = .ok (.invokespecial 165, 3) := by decide +kernel
theorem dX1_requirePower_16 : decode cX1_requirePower 16 = .ok (.athrow, 1) := by decide +kernel
theorem dX1_requirePower_17 : decode cX1_requirePower 17 = .ok (.return_, 1) := by decide +kernel
theorem dX1_requireWithin_0 : decode cX1_requireWithin 0 = .ok (.iload_n 0, 1) := by decide +kernel
theorem dX1_requireWithin_1 : decode cX1_requireWithin 1 = .ok (.iload_n 1, 1) := by decide +kernel
theorem dX1_requireWithin_2 : decode cX1_requireWithin 2 = .ok (.if_icmp .lt 8, 3) := by decide +kernel
theorem dX1_requireWithin_5 : decode cX1_requireWithin 5 = .ok (.iload_n 0, 1) := by decide +kernel
theorem dX1_requireWithin_6 : decode cX1_requireWithin 6 = .ok (.iload_n 2, 1) := by decide +kernel
theorem dX1_requireWithin_7 : decode cX1_requireWithin 7 = .ok (.if_icmp .le 13, 3) := by decide +kernel
theorem dX1_requireWithin_10 : decode cX1_requireWithin 10 = .ok (.new 154, 3) := by decide +kernel
theorem dX1_requireWithin_13 : decode cX1_requireWithin 13 = .ok (.dup, 1) := by decide +kernel
theorem dX1_requireWithin_14 : decode cX1_requireWithin 14 = .ok (.ldc 166, 2) := by decide +kernel
theorem dX1_requireWithin_16 : decode cX1_requireWithin 16 = .ok (.invokespecial 158, 3) := by decide +kernel
theorem dX1_requireWithin_19 : decode cX1_requireWithin 19 = .ok (.athrow, 1) := by decide +kernel
theorem dX1_requireWithin_20 : decode cX1_requireWithin 20 = .ok (.return_, 1) := by decide +kernel
theorem dX1_segmentBytes_0 : decode cX1_segmentBytes 0 = .ok (.aload_n 0, 1) := by decide +kernel
theorem dX1_segmentBytes_1 : decode cX1_segmentBytes 1 = .ok (.getfield 40, 3) := by decide +kernel
theorem dX1_segmentBytes_4 : decode cX1_segmentBytes 4 = .ok (.sipush 1024, 3) := by decide +kernel
theorem dX1_segmentBytes_7 : decode cX1_segmentBytes 7 = .ok (.imul, 1) := by decide +kernel
theorem dX1_segmentBytes_8 : decode cX1_segmentBytes 8 = .ok (.ireturn, 1) := by decide +kernel
theorem dX1_blocksTouched_0 : decode cX1_blocksTouched 0 = .ok (.iload_n 0, 1) := by decide +kernel
theorem dX1_blocksTouched_1 : decode cX1_blocksTouched 1 = .ok (.iload_n 1, 1) := by decide +kernel
theorem dX1_blocksTouched_2 : decode cX1_blocksTouched 2 = .ok (.iadd, 1) := by decide +kernel
theorem dX1_blocksTouched_3 : decode cX1_blocksTouched 3 = .ok (.iconst 1, 1) := by decide +kernel
theorem dX1_blocksTouched_4 : decode cX1_blocksTouched 4 = .ok (.isub, 1) := by decide +kernel
theorem dX1_blocksTouched_5 : decode cX1_blocksTouched 5 = .ok (.sipush 1024, 3) := by decide +kernel
theorem dX1_blocksTouched_8 : decode cX1_blocksTouched 8 = .ok (.idiv, 1) := by decide +kernel
theorem dX1_blocksTouched_9 : decode cX1_blocksTouched 9 = .ok (.iload_n 0, 1) := by decide +kernel
theorem dX1_blocksTouched_10 : decode cX1_blocksTouched 10 = .ok (.sipush 1024, 3) := by decide +kernel
theorem dX1_blocksTouched_13 : decode cX1_blocksTouched 13 = .ok (.idiv, 1) := by decide +kernel
theorem dX1_blocksTouched_14 : decode cX1_blocksTouched 14 = .ok (.isub, 1) := by decide +kernel
theorem dX1_blocksTouched_15 : decode cX1_blocksTouched 15 = .ok (.iconst 1, 1) := by decide +kernel
theorem dX1_blocksTouched_16 : decode cX1_blocksTouched 16 = .ok (.iadd, 1) := by decide +kernel
theorem dX1_blocksTouched_17 : decode cX1_blocksTouched 17 = .ok (.ireturn, 1) := by decide +kernel
theorem dX1_writeThroughHead_0 : decode cX1_writeThroughHead 0 = .ok (.aload_n 0, 1) := by decide +kernel
theorem dX1_writeThroughHead_1 : decode cX1_writeThroughHead 1 = .ok (.getfield 20, 3) := by decide +kernel
theorem dX1_writeThroughHead_4 : decode cX1_writeThroughHead 4 = .ok (.iconst (-1), 1) := by decide +kernel
theorem dX1_writeThroughHead_5 : decode cX1_writeThroughHead 5 = .ok (.if_icmp .ne 15, 3) := by decide +kernel
theorem dX1_writeThroughHead_8 : decode cX1_writeThroughHead 8 = .ok (.aload_n 0, 1) := by decide +kernel
theorem dX1_writeThroughHead_9 : decode cX1_writeThroughHead 9 = .ok (.dup, 1) := by decide +kernel
theorem dX1_writeThroughHead_10 : decode cX1_writeThroughHead 10 = .ok (.getfield 28, 3) := by decide +kernel
theorem dX1_writeThroughHead_13 : decode cX1_writeThroughHead 13 = .ok (.iload_n 1, 1) := by decide +kernel
theorem dX1_writeThroughHead_14 : decode cX1_writeThroughHead 14 = .ok (.iadd, 1) := by decide +kernel
theorem dX1_writeThroughHead_15 : decode cX1_writeThroughHead 15 = .ok (.putfield 28, 3) := by decide +kernel
theorem dX1_writeThroughHead_18 : decode cX1_writeThroughHead 18 = .ok (.iconst 1, 1) := by decide +kernel
theorem dX1_writeThroughHead_19 : decode cX1_writeThroughHead 19 = .ok (.ireturn, 1) := by decide +kernel
theorem dX1_writeThroughHead_20 : decode cX1_writeThroughHead 20 = .ok (.iload_n 1, 1) := by decide +kernel
theorem dX1_writeThroughHead_21 : decode cX1_writeThroughHead 21 = .ok (.aload_n 0, 1) := by decide +kernel
theorem dX1_writeThroughHead_22 : decode cX1_writeThroughHead 22 = .ok (.getfield 20, 3) := by decide +kernel
theorem dX1_writeThroughHead_25 : decode cX1_writeThroughHead 25 = .ok (.invokestatic 31, 3) := by decide +kernel
theorem dX1_writeThroughHead_28 : decode cX1_writeThroughHead 28 = .ok (.istore_n 2, 1) := by decide +kernel
theorem dX1_writeThroughHead_29 : decode cX1_writeThroughHead 29 = .ok (.aload_n 0, 1) := by decide +kernel
theorem dX1_writeThroughHead_30 : decode cX1_writeThroughHead 30 = .ok (.dup, 1) := by decide +kernel
theorem dX1_writeThroughHead_31 : decode cX1_writeThroughHead 31 = .ok (.getfield 28, 3) := by decide +kernel
theorem dX1_writeThroughHead_34 : decode cX1_writeThroughHead 34 = .ok (.iload_n 2, 1) := by decide +kernel
theorem dX1_writeThroughHead_35 : decode cX1_writeThroughHead 35 = .ok (.iadd, 1) := by decide +kernel
theorem dX1_writeThroughHead_36 : decode cX1_writeThroughHead 36 = .ok (.putfield 28, 3) := by decide +kernel
theorem dX1_writeThroughHead_39 : decode cX1_writeThroughHead 39 = .ok (.aload_n 0, 1) := by decide +kernel
theorem dX1_writeThroughHead_40 : decode cX1_writeThroughHead 40 = .ok (.dup, 1) := by decide +kernel
theorem dX1_writeThroughHead_41 : decode cX1_writeThroughHead 41 = .ok (.getfield 20, 3) := by decide +kernel
theorem dX1_writeThroughHead_44 : decode cX1_writeThroughHead 44 = .ok (.iload_n 2, 1) := by decide +kernel
theorem dX1_writeThroughHead_45 : decode cX1_writeThroughHead 45 = .ok (.isub, 1) := by decide +kernel
theorem dX1_writeThroughHead_46 : decode cX1_writeThroughHead 46 = .ok (.putfield 20, 3) := by decide +kernel
theorem dX1_writeThroughHead_49 : decode cX1_writeThroughHead 49 = .ok (.aload_n 0, 1) := by decide +kernel
theorem dX1_writeThroughHead_50 : decode cX1_writeThroughHead 50 = .ok (.aload_n 0, 1) := by decide +kernel
theorem dX1_writeThroughHead_51 : decode cX1_writeThroughHead 51 = .ok (.getfield 20, 3) := by decide +kernel
theorem dX1_writeThroughHead_54 : decode cX1_writeThroughHead 54 = .ok (.ifCond .ne 7, 3) := by decide +kernel
theorem dX1_writeThroughHead_57 : decode cX1_writeThroughHead 57 = .ok (.iconst 1, 1) := by decide +kernel
theorem dX1_writeThroughHead_58 : decode cX1_writeThroughHead 58 = .ok (.goto 4, 3) := by decide +kernel
theorem dX1_writeThroughHead_61 : decode cX1_writeThroughHead 61 = .ok (.iconst 0, 1) := by decide +kernel
theorem dX1_writeThroughHead_62 : decode cX1_writeThroughHead 62 = .ok (.putfield 24, 3) := by decide +kernel
theorem dX1_writeThroughHead_65 : decode cX1_writeThroughHead 65 = .ok (.iload_n 2, 1) := by decide +kernel
theorem dX1_writeThroughHead_66 : decode cX1_writeThroughHead 66 = .ok (.iload_n 1, 1) := by decide +kernel
theorem dX1_writeThroughHead_67 : decode cX1_writeThroughHead 67 = .ok (.if_icmp .ne 7, 3) := by decide +kernel
theorem dX1_writeThroughHead_70 : decode cX1_writeThroughHead 70 = .ok (.iconst 1, 1) := by decide +kernel
theorem dX1_writeThroughHead_71 : decode cX1_writeThroughHead 71 = .ok (.goto 4, 3) := by decide +kernel
theorem dX1_writeThroughHead_74 : decode cX1_writeThroughHead 74 = .ok (.iconst 0, 1) := by decide +kernel
theorem dX1_writeThroughHead_75 : decode cX1_writeThroughHead 75 = .ok (.ireturn, 1) := by decide +kernel
theorem dX1_putDraftInPlaceOf_0 : decode cX1_putDraftInPlaceOf 0 = .ok (.iload_n 1, 1) := by decide +kernel
theorem dX1_putDraftInPlaceOf_1 : decode cX1_putDraftInPlaceOf 1 = .ok (.ifCond .lt 43, 3) := by decide +kernel
theorem dX1_putDraftInPlaceOf_4 : decode cX1_putDraftInPlaceOf 4 = .ok (.iload_n 1, 1) := by decide +kernel
theorem dX1_putDraftInPlaceOf_5 : decode cX1_putDraftInPlaceOf 5 = .ok (.aload_n 0, 1) := by decide +kernel
theorem dX1_putDraftInPlaceOf_6 : decode cX1_putDraftInPlaceOf 6 = .ok (.getfield 11, 3) := by decide +kernel
theorem dX1_putDraftInPlaceOf_9 : decode cX1_putDraftInPlaceOf 9 = .ok (.arraylength, 1) := by decide +kernel
theorem dX1_putDraftInPlaceOf_10 : decode cX1_putDraftInPlaceOf 10 = .ok (.if_icmp .ge 34, 3) := by decide +kernel
theorem dX1_putDraftInPlaceOf_13 : decode cX1_putDraftInPlaceOf 13 = .ok (.aload_n 0, 1) := by decide +kernel
theorem dX1_putDraftInPlaceOf_14 : decode cX1_putDraftInPlaceOf 14 = .ok (.getfield 11, 3) := by decide +kernel
theorem dX1_putDraftInPlaceOf_17 : decode cX1_putDraftInPlaceOf 17 = .ok (.iload_n 1, 1) := by decide +kernel
theorem dX1_putDraftInPlaceOf_18 : decode cX1_putDraftInPlaceOf 18 = .ok (.aaload, 1) := by decide +kernel
theorem dX1_putDraftInPlaceOf_19 : decode cX1_putDraftInPlaceOf 19 = .ok (.ifnull 25, 3) := by decide +kernel
theorem dX1_putDraftInPlaceOf_22 : decode cX1_putDraftInPlaceOf 22 = .ok (.aload_n 0, 1) := by decide +kernel
theorem dX1_putDraftInPlaceOf_23 : decode cX1_putDraftInPlaceOf 23 = .ok (.getfield 11, 3) := by decide +kernel
theorem dX1_putDraftInPlaceOf_26 : decode cX1_putDraftInPlaceOf 26 = .ok (.iload_n 1, 1) := by decide +kernel
theorem dX1_putDraftInPlaceOf_27 : decode cX1_putDraftInPlaceOf 27 = .ok (.aaload, 1) := by decide +kernel
theorem dX1_putDraftInPlaceOf_28 : decode cX1_putDraftInPlaceOf 28 = .ok (.astore_n 2, 1) := by decide +kernel
theorem dX1_putDraftInPlaceOf_29 : decode cX1_putDraftInPlaceOf 29 = .ok (.aload_n 0, 1) := by decide +kernel
theorem dX1_putDraftInPlaceOf_30 : decode cX1_putDraftInPlaceOf 30 = .ok (.getfield 11, 3) := by decide +kernel
theorem dX1_putDraftInPlaceOf_33 : decode cX1_putDraftInPlaceOf 33 = .ok (.iload_n 1, 1) := by decide +kernel
theorem dX1_putDraftInPlaceOf_34 : decode cX1_putDraftInPlaceOf 34 = .ok (.aload_n 0, 1) := by decide +kernel
theorem dX1_putDraftInPlaceOf_35 : decode cX1_putDraftInPlaceOf 35 = .ok (.getfield 16, 3) := by decide +kernel
theorem dX1_putDraftInPlaceOf_38 : decode cX1_putDraftInPlaceOf 38 = .ok (.aastore, 1) := by decide +kernel
theorem dX1_putDraftInPlaceOf_39 : decode cX1_putDraftInPlaceOf 39 = .ok (.aload_n 0, 1) := by decide +kernel
theorem dX1_putDraftInPlaceOf_40 : decode cX1_putDraftInPlaceOf 40 = .ok (.aload_n 2, 1) := by decide +kernel
theorem dX1_putDraftInPlaceOf_41 : decode cX1_putDraftInPlaceOf 41 = .ok (.putfield 16, 3) := by decide +kernel
theorem dX1_putDraftInPlaceOf_44 : decode cX1_putDraftInPlaceOf 44 = .ok (.return_, 1) := by decide +kernel
theorem dX1_packThinned_0 : decode cX1_packThinned 0 = .ok (.aload_n 0, 1) := by decide +kernel
theorem dX1_packThinned_1 : decode cX1_packThinned 1 = .ok (.getfield 16, 3) := by decide +kernel
theorem dX1_packThinned_4 : decode cX1_packThinned 4 = .ok (.aload_n 1, 1) := by decide +kernel
theorem dX1_packThinned_5 : decode cX1_packThinned 5 = .ok (.invokevirtual 105, 3) := by decide +kernel
theorem dX1_packThinned_8 : decode cX1_packThinned 8 = .ok (.aload_n 0, 1) := by decide +kernel
theorem dX1_packThinned_9 : decode cX1_packThinned 9 = .ok (.invokevirtual 151, 3) := by decide +kernel
theorem dX1_packThinned_12 : decode cX1_packThinned 12 = .ok (.iconst 0, 1) := by decide +kernel
theorem dX1_packThinned_13 : decode cX1_packThinned 13 = .ok (.istore 4, 2) := by decide +kernel
theorem dX1_packThinned_15 : decode cX1_packThinned 15 = .ok (.iload 4, 2) := by decide +kernel
theorem dX1_packThinned_17 : decode cX1_packThinned 17 = .ok (.iload_n 2, 1) := by decide +kernel
theorem dX1_packThinned_18 : decode cX1_packThinned 18 = .ok (.if_icmp .ge 30, 3) := by decide +kernel
theorem dX1_packThinned_21 : decode cX1_packThinned 21 = .ok (.iload 4, 2) := by decide +kernel
theorem dX1_packThinned_23 : decode cX1_packThinned 23 = .ok (.iload_n 3, 1) := by decide +kernel
theorem dX1_packThinned_24 : decode cX1_packThinned 24 = .ok (.invokestatic 168, 3) := by decide +kernel
theorem dX1_packThinned_27 : decode cX1_packThinned 27 = .ok (.ifCond .ne 15, 3) := by decide +kernel
theorem dX1_packThinned_30 : decode cX1_packThinned 30 = .ok (.aload_n 0, 1) := by decide +kernel
theorem dX1_packThinned_31 : decode cX1_packThinned 31 = .ok (.aload_n 1, 1) := by decide +kernel
theorem dX1_packThinned_32 : decode cX1_packThinned 32 = .ok (.iload 4, 2) := by decide +kernel
theorem dX1_packThinned_34 : decode cX1_packThinned 34 = .ok (.invokevirtual 171, 3) := by decide +kernel
theorem dX1_packThinned_37 : decode cX1_packThinned 37 = .ok (.ifCond .ne 5, 3) := by decide +kernel
theorem dX1_packThinned_40 : decode cX1_packThinned 40 = .ok (.iconst 0, 1) := by decide +kernel
theorem dX1_packThinned_41 : decode cX1_packThinned 41 = .ok (.ireturn, 1) := by decide +kernel
theorem dX1_packThinned_42 : decode cX1_packThinned 42 = .ok (.iinc 4 1, 3) := by decide +kernel
theorem dX1_packThinned_45 : decode cX1_packThinned 45 = .ok (.goto (-30), 3) := by decide +kernel
theorem dX1_packThinned_48 : decode cX1_packThinned 48 = .ok (.iconst 1, 1) := by decide +kernel
theorem dX1_packThinned_49 : decode cX1_packThinned 49 = .ok (.ireturn, 1) := by decide +kernel
theorem dX1_goes_0 : decode cX1_goes 0 = .ok (.iload_n 1, 1) := by decide +kernel
theorem dX1_goes_1 : decode cX1_goes 1 = .ok (.ifCond .le 13, 3) := by decide +kernel
theorem dX1_goes_4 : decode cX1_goes 4 = .ok (.iload_n 0, 1) := by decide +kernel
theorem dX1_goes_5 : decode cX1_goes 5 = .ok (.iload_n 1, 1) := by decide +kernel
theorem dX1_goes_6 : decode cX1_goes 6 = .ok (.irem, 1) := by decide +kernel
theorem dX1_goes_7 : decode cX1_goes 7 = .ok (.ifCond .ne 7, 3) := by decide +kernel
theorem dX1_goes_10 : decode cX1_goes 10 = .ok (.iconst 1, 1) := by decide +kernel
theorem dX1_goes_11 : decode cX1_goes 11 = .ok (.goto 4, 3) := by decide +kernel
theorem dX1_goes_14 : decode cX1_goes 14 = .ok (.iconst 0, 1) := by decide +kernel
theorem dX1_goes_15 : decode cX1_goes 15 = .ok (.ireturn, 1) := by decide +kernel
theorem dX1_packEntry_0 : decode cX1_packEntry 0 = .ok (.aload_n 1, 1) := by decide +kernel
theorem dX1_packEntry_1 : decode cX1_packEntry 1 = .ok (.getfield 135, 3) := by decide +kernel
theorem dX1_packEntry_4 : decode cX1_packEntry 4 = .ok (.iload_n 2, 1) := by decide +kernel
theorem dX1_packEntry_5 : decode cX1_packEntry 5 = .ok (.invokestatic 138, 3) := by decide +kernel
theorem dX1_packEntry_8 : decode cX1_packEntry 8 = .ok (.istore_n 3, 1) := by decide +kernel
theorem dX1_packEntry_9 : decode cX1_packEntry 9 = .ok (.aload_n 0, 1) := by decide +kernel
theorem dX1_packEntry_10 : decode cX1_packEntry 10 = .ok (.getfield 16, 3) := by decide +kernel
theorem dX1_packEntry_13 : decode cX1_packEntry 13 = .ok (.iload_n 3, 1) := by decide +kernel
theorem dX1_packEntry_14 : decode cX1_packEntry 14 = .ok (.iconst 4, 1) := by decide +kernel
theorem dX1_packEntry_15 : decode cX1_packEntry 15 = .ok (.iadd, 1) := by decide +kernel
theorem dX1_packEntry_16 : decode cX1_packEntry 16 = .ok (.aload_n 0, 1) := by decide +kernel
theorem dX1_packEntry_17 : decode cX1_packEntry 17 = .ok (.invokevirtual 58, 3) := by decide +kernel
theorem dX1_packEntry_20 : decode cX1_packEntry 20 = .ok (.invokevirtual 62, 3) := by decide +kernel
theorem dX1_packEntry_23 : decode cX1_packEntry 23 = .ok (.ifCond .ne 42, 3) := by decide +kernel
theorem dX1_packEntry_26 : decode cX1_packEntry 26 = .ok (.aload_n 0, 1) := by decide +kernel
theorem dX1_packEntry_27 : decode cX1_packEntry 27 = .ok (.invokevirtual 175, 3) := by decide +kernel
theorem dX1_packEntry_30 : decode cX1_packEntry 30 = .ok (.istore 4, 2) := by decide +kernel
theorem dX1_packEntry_32 : decode cX1_packEntry 32 = .ok (.iload 4, 2) := by decide +kernel
theorem dX1_packEntry_34 : decode cX1_packEntry 34 = .ok (.iconst (-1), 1) := by decide +kernel
theorem dX1_packEntry_35 : decode cX1_packEntry 35 = .ok (.if_icmp .eq 13, 3) := by decide +kernel
theorem dX1_packEntry_38 : decode cX1_packEntry 38 = .ok (.aload_n 0, 1) := by decide +kernel
theorem dX1_packEntry_39 : decode cX1_packEntry 39 = .ok (.getfield 16, 3) := by decide +kernel
theorem dX1_packEntry_42 : decode cX1_packEntry 42 = .ok (.invokevirtual 178, 3) := by decide +kernel
theorem dX1_packEntry_45 : decode cX1_packEntry 45 = .ok (.ifCond .ne 5, 3) := by decide +kernel
theorem dX1_packEntry_48 : decode cX1_packEntry 48 = .ok (.iconst 0, 1) := by decide +kernel
theorem dX1_packEntry_49 : decode cX1_packEntry 49 = .ok (.ireturn, 1) := by decide +kernel
theorem dX1_packEntry_50 : decode cX1_packEntry 50 = .ok (.aload_n 0, 1) := by decide +kernel
theorem dX1_packEntry_51 : decode cX1_packEntry 51 = .ok (.getfield 16, 3) := by decide +kernel
theorem dX1_packEntry_54 : decode cX1_packEntry 54 = .ok (.iload 4, 2) := by decide +kernel
theorem dX1_packEntry_56 : decode cX1_packEntry 56 = .ok (.invokevirtual 87, 3) := by decide +kernel
theorem dX1_packEntry_59 : decode cX1_packEntry 59 = .ok (.aload_n 0, 1) := by decide +kernel
theorem dX1_packEntry_60 : decode cX1_packEntry 60 = .ok (.iload 4, 2) := by decide +kernel
theorem dX1_packEntry_62 : decode cX1_packEntry 62 = .ok (.invokevirtual 181, 3) := by decide +kernel
theorem dX1_packEntry_65 : decode cX1_packEntry 65 = .ok (.aload_n 0, 1) := by decide +kernel
theorem dX1_packEntry_66 : decode cX1_packEntry 66 = .ok (.getfield 16, 3) := by decide +kernel
theorem dX1_packEntry_69 : decode cX1_packEntry 69 = .ok (.iload_n 3, 1) := by decide +kernel
theorem dX1_packEntry_70 : decode cX1_packEntry 70 = .ok (.aload_n 1, 1) := by decide +kernel
theorem dX1_packEntry_71 : decode cX1_packEntry 71 = .ok (.getfield 148, 3) := by decide +kernel
theorem dX1_packEntry_74 : decode cX1_packEntry 74 = .ok (.iload_n 2, 1) := by decide +kernel
theorem dX1_packEntry_75 : decode cX1_packEntry 75 = .ok (.invokestatic 138, 3) := by decide +kernel
theorem dX1_packEntry_78 : decode cX1_packEntry 78 = .ok (.invokevirtual 91, 3) := by decide +kernel
theorem dX1_packEntry_81 : decode cX1_packEntry 81 = .ok (.iconst 1, 1) := by decide +kernel
theorem dX1_packEntry_82 : decode cX1_packEntry 82 = .ok (.ireturn, 1) := by decide +kernel
theorem dX1_startOfNewSegment_0 : decode cX1_startOfNewSegment 0 = .ok (.aload_n 1, 1) := by decide +kernel
theorem dX1_startOfNewSegment_1 : decode cX1_startOfNewSegment 1 = .ok (.invokevirtual 178, 3) := by decide +kernel
theorem dX1_startOfNewSegment_4 : decode cX1_startOfNewSegment 4 = .ok (.ifCond .ne 5, 3) := by decide +kernel
theorem dX1_startOfNewSegment_7 : decode cX1_startOfNewSegment 7 = .ok (.iconst (-1), 1) := by decide +kernel
theorem dX1_startOfNewSegment_8 : decode cX1_startOfNewSegment 8 = .ok (.ireturn, 1) := by decide +kernel
theorem dX1_startOfNewSegment_9 : decode cX1_startOfNewSegment 9 = .ok (.aload_n 0, 1) := by decide +kernel
theorem dX1_startOfNewSegment_10 : decode cX1_startOfNewSegment 10 = .ok (.invokevirtual 151, 3) := by decide +kernel
theorem dX1_startOfNewSegment_13 : decode cX1_startOfNewSegment 13 = .ok (.aload_n 0, 1) := by decide +kernel
theorem dX1_startOfNewSegment_14 : decode cX1_startOfNewSegment 14 = .ok (.invokevirtual 175, 3) := by decide +kernel
theorem dX1_startOfNewSegment_17 : decode cX1_startOfNewSegment 17 = .ok (.ireturn, 1) := by decide +kernel
theorem dX1_firstFreeRun_0 : decode cX1_firstFreeRun 0 = .ok (.iconst 0, 1) := by decide +kernel
theorem dX1_firstFreeRun_1 : decode cX1_firstFreeRun 1 = .ok (.istore_n 1, 1) := by decide +kernel
theorem dX1_firstFreeRun_2 : decode cX1_firstFreeRun 2 = .ok (.iconst 0, 1) := by decide +kernel
theorem dX1_firstFreeRun_3 : decode cX1_firstFreeRun 3 = .ok (.istore_n 2, 1) := by decide +kernel
theorem dX1_firstFreeRun_4 : decode cX1_firstFreeRun 4 = .ok (.iload_n 2, 1) := by decide +kernel
theorem dX1_firstFreeRun_5 : decode cX1_firstFreeRun 5 = .ok (.aload_n 0, 1) := by decide +kernel
theorem dX1_firstFreeRun_6 : decode cX1_firstFreeRun 6 = .ok (.getfield 43, 3) := by decide +kernel
theorem dX1_firstFreeRun_9 : decode cX1_firstFreeRun 9 = .ok (.arraylength, 1) := by decide +kernel
theorem dX1_firstFreeRun_10 : decode cX1_firstFreeRun 10 = .ok (.if_icmp .ge 43, 3) := by decide +kernel
theorem dX1_firstFreeRun_13 : decode cX1_firstFreeRun 13 = .ok (.aload_n 0, 1) := by decide +kernel
theorem dX1_firstFreeRun_14 : decode cX1_firstFreeRun 14 = .ok (.getfield 43, 3) := by decide +kernel
theorem dX1_firstFreeRun_17 : decode cX1_firstFreeRun 17 = .ok (.iload_n 2, 1) := by decide +kernel
theorem dX1_firstFreeRun_18 : decode cX1_firstFreeRun 18 = .ok (.iaload, 1) := by decide +kernel
theorem dX1_firstFreeRun_19 : decode cX1_firstFreeRun 19 = .ok (.ifCond .ne 9, 3) := by decide +kernel
theorem dX1_firstFreeRun_22 : decode cX1_firstFreeRun 22 = .ok (.iload_n 1, 1) := by decide +kernel
theorem dX1_firstFreeRun_23 : decode cX1_firstFreeRun 23 = .ok (.iconst 1, 1) := by decide +kernel
theorem dX1_firstFreeRun_24 : decode cX1_firstFreeRun 24 = .ok (.iadd, 1) := by decide +kernel
theorem dX1_firstFreeRun_25 : decode cX1_firstFreeRun 25 = .ok (.goto 4, 3) := by decide +kernel
theorem dX1_firstFreeRun_28 : decode cX1_firstFreeRun 28 = .ok (.iconst 0, 1) := by decide +kernel
theorem dX1_firstFreeRun_29 : decode cX1_firstFreeRun 29 = .ok (.istore_n 1, 1) := by decide +kernel
theorem dX1_firstFreeRun_30 : decode cX1_firstFreeRun 30 = .ok (.iload_n 1, 1) := by decide +kernel
theorem dX1_firstFreeRun_31 : decode cX1_firstFreeRun 31 = .ok (.aload_n 0, 1) := by decide +kernel
theorem dX1_firstFreeRun_32 : decode cX1_firstFreeRun 32 = .ok (.getfield 40, 3) := by decide +kernel
theorem dX1_firstFreeRun_35 : decode cX1_firstFreeRun 35 = .ok (.if_icmp .ne 12, 3) := by decide +kernel
theorem dX1_firstFreeRun_38 : decode cX1_firstFreeRun 38 = .ok (.iload_n 2, 1) := by decide +kernel
theorem dX1_firstFreeRun_39 : decode cX1_firstFreeRun 39 = .ok (.aload_n 0, 1) := by decide +kernel
theorem dX1_firstFreeRun_40 : decode cX1_firstFreeRun 40 = .ok (.getfield 40, 3) := by decide +kernel
theorem dX1_firstFreeRun_43 : decode cX1_firstFreeRun 43 = .ok (.isub, 1) := by decide +kernel
theorem dX1_firstFreeRun_44 : decode cX1_firstFreeRun 44 = .ok (.iconst 1, 1) := by decide +kernel
theorem dX1_firstFreeRun_45 : decode cX1_firstFreeRun 45 = .ok (.iadd, 1) := by decide +kernel
theorem dX1_firstFreeRun_46 : decode cX1_firstFreeRun 46 = .ok (.ireturn, 1) := by decide +kernel
theorem dX1_firstFreeRun_47 : decode cX1_firstFreeRun 47 = .ok (.iinc 2 1, 3) := by decide +kernel
theorem dX1_firstFreeRun_50 : decode cX1_firstFreeRun 50 = .ok (.goto (-46), 3) := by decide +kernel
theorem dX1_firstFreeRun_53 : decode cX1_firstFreeRun 53 = .ok (.iconst (-1), 1) := by decide +kernel
theorem dX1_firstFreeRun_54 : decode cX1_firstFreeRun 54 = .ok (.ireturn, 1) := by decide +kernel
theorem dX1_markBlockUse_0 : decode cX1_markBlockUse 0 = .ok (.aload_n 0, 1) := by decide +kernel
theorem dX1_markBlockUse_1 : decode cX1_markBlockUse 1 = .ok (.getfield 43, 3) := by decide +kernel
theorem dX1_markBlockUse_4 : decode cX1_markBlockUse 4 = .ok (.iconst 0, 1) := by decide +kernel
theorem dX1_markBlockUse_5 : decode cX1_markBlockUse 5 = .ok (.invokestatic 184, 3) := by decide +kernel
theorem dX1_markBlockUse_8 : decode cX1_markBlockUse 8 = .ok (.iconst 0, 1) := by decide +kernel
theorem dX1_markBlockUse_9 : decode cX1_markBlockUse 9 = .ok (.istore_n 1, 1) := by decide +kernel
theorem dX1_markBlockUse_10 : decode cX1_markBlockUse 10 = .ok (.iload_n 1, 1) := by decide +kernel
theorem dX1_markBlockUse_11 : decode cX1_markBlockUse 11 = .ok (.iconst 4, 1) := by decide +kernel
theorem dX1_markBlockUse_12 : decode cX1_markBlockUse 12 = .ok (.if_icmp .ge 18, 3) := by decide +kernel
theorem dX1_markBlockUse_15 : decode cX1_markBlockUse 15 = .ok (.aload_n 0, 1) := by decide +kernel
theorem dX1_markBlockUse_16 : decode cX1_markBlockUse 16 = .ok (.getfield 43, 3) := by decide +kernel
theorem dX1_markBlockUse_19 : decode cX1_markBlockUse 19 = .ok (.iload_n 1, 1) := by decide +kernel
theorem dX1_markBlockUse_20 : decode cX1_markBlockUse 20 = .ok (.iconst 1, 1) := by decide +kernel
theorem dX1_markBlockUse_21 : decode cX1_markBlockUse 21 = .ok (.invokestatic 190, 3) := by decide +kernel
theorem dX1_markBlockUse_24 : decode cX1_markBlockUse 24 = .ok (.iinc 1 1, 3) := by decide +kernel
theorem dX1_markBlockUse_27 : decode cX1_markBlockUse 27 = .ok (.goto (-17), 3) := by decide +kernel
theorem dX1_markBlockUse_30 : decode cX1_markBlockUse 30 = .ok (.aload_n 0, 1) := by decide +kernel
theorem dX1_markBlockUse_31 : decode cX1_markBlockUse 31 = .ok (.getfield 11, 3) := by decide +kernel
theorem dX1_markBlockUse_34 : decode cX1_markBlockUse 34 = .ok (.astore_n 1, 1) := by decide +kernel
theorem dX1_markBlockUse_35 : decode cX1_markBlockUse 35 = .ok (.aload_n 1, 1) := by decide +kernel
theorem dX1_markBlockUse_36 : decode cX1_markBlockUse 36 = .ok (.arraylength, 1) := by decide +kernel
theorem dX1_markBlockUse_37 : decode cX1_markBlockUse 37 = .ok (.istore_n 2, 1) := by decide +kernel
theorem dX1_markBlockUse_38 : decode cX1_markBlockUse 38 = .ok (.iconst 0, 1) := by decide +kernel
theorem dX1_markBlockUse_39 : decode cX1_markBlockUse 39 = .ok (.istore_n 3, 1) := by decide +kernel
theorem dX1_markBlockUse_40 : decode cX1_markBlockUse 40 = .ok (.iload_n 3, 1) := by decide +kernel
theorem dX1_markBlockUse_41 : decode cX1_markBlockUse 41 = .ok (.iload_n 2, 1) := by decide +kernel
theorem dX1_markBlockUse_42 : decode cX1_markBlockUse 42 = .ok (.if_icmp .ge 25, 3) := by decide +kernel
theorem dX1_markBlockUse_45 : decode cX1_markBlockUse 45 = .ok (.aload_n 1, 1) := by decide +kernel
theorem dX1_markBlockUse_46 : decode cX1_markBlockUse 46 = .ok (.iload_n 3, 1) := by decide +kernel
theorem dX1_markBlockUse_47 : decode cX1_markBlockUse 47 = .ok (.aaload, 1) := by decide +kernel
theorem dX1_markBlockUse_48 : decode cX1_markBlockUse 48 = .ok (.astore 4, 2) := by decide +kernel
theorem dX1_markBlockUse_50 : decode cX1_markBlockUse 50 = .ok (.aload 4, 2) := by decide +kernel
theorem dX1_markBlockUse_52 : decode cX1_markBlockUse 52 = .ok (.ifnull 9, 3) := by decide +kernel
theorem dX1_markBlockUse_55 : decode cX1_markBlockUse 55 = .ok (.aload_n 0, 1) := by decide +kernel
theorem dX1_markBlockUse_56 : decode cX1_markBlockUse 56 = .ok (.aload 4, 2) := by decide +kernel
theorem dX1_markBlockUse_58 : decode cX1_markBlockUse 58 = .ok (.invokevirtual 194, 3) := by decide +kernel
theorem dX1_markBlockUse_61 : decode cX1_markBlockUse 61 = .ok (.iinc 3 1, 3) := by decide +kernel
theorem dX1_markBlockUse_64 : decode cX1_markBlockUse 64 = .ok (.goto (-24), 3) := by decide +kernel
theorem dX1_markBlockUse_67 : decode cX1_markBlockUse 67 = .ok (.return_, 1) := by decide +kernel
theorem dX1_markSegmentsOf_0 : decode cX1_markSegmentsOf 0 = .ok (.iconst 0, 1) := by decide +kernel
theorem dX1_markSegmentsOf_1 : decode cX1_markSegmentsOf 1 = .ok (.istore_n 2, 1) := by decide +kernel
theorem dX1_markSegmentsOf_2 : decode cX1_markSegmentsOf 2 = .ok (.iload_n 2, 1) := by decide +kernel
theorem dX1_markSegmentsOf_3 : decode cX1_markSegmentsOf 3 = .ok (.aload_n 1, 1) := by decide +kernel
theorem dX1_markSegmentsOf_4 : decode cX1_markSegmentsOf 4 = .ok (.getfield 129, 3) := by decide +kernel
theorem dX1_markSegmentsOf_7 : decode cX1_markSegmentsOf 7 = .ok (.if_icmp .ge 21, 3) := by decide +kernel
theorem dX1_markSegmentsOf_10 : decode cX1_markSegmentsOf 10 = .ok (.aload_n 0, 1) := by decide +kernel
theorem dX1_markSegmentsOf_11 : decode cX1_markSegmentsOf 11 = .ok (.aload_n 1, 1) := by decide +kernel
theorem dX1_markSegmentsOf_12 : decode cX1_markSegmentsOf 12 = .ok (.getfield 197, 3) := by decide +kernel
theorem dX1_markSegmentsOf_15 : decode cX1_markSegmentsOf 15 = .ok (.iload_n 2, 1) := by decide +kernel
theorem dX1_markSegmentsOf_16 : decode cX1_markSegmentsOf 16 = .ok (.invokestatic 138, 3) := by decide +kernel
theorem dX1_markSegmentsOf_19 : decode cX1_markSegmentsOf 19 = .ok (.invokevirtual 181, 3) := by decide +kernel
theorem dX1_markSegmentsOf_22 : decode cX1_markSegmentsOf 22 = .ok (.iinc 2 1, 3) := by decide +kernel
theorem dX1_markSegmentsOf_25 : decode cX1_markSegmentsOf 25 = .ok (.goto (-23), 3) := by decide +kernel
theorem dX1_markSegmentsOf_28 : decode cX1_markSegmentsOf 28 = .ok (.return_, 1) := by decide +kernel
theorem dX1_markSegment_0 : decode cX1_markSegment 0 = .ok (.iconst 0, 1) := by decide +kernel
theorem dX1_markSegment_1 : decode cX1_markSegment 1 = .ok (.istore_n 2, 1) := by decide +kernel
theorem dX1_markSegment_2 : decode cX1_markSegment 2 = .ok (.iload_n 2, 1) := by decide +kernel
theorem dX1_markSegment_3 : decode cX1_markSegment 3 = .ok (.aload_n 0, 1) := by decide +kernel
theorem dX1_markSegment_4 : decode cX1_markSegment 4 = .ok (.getfield 40, 3) := by decide +kernel
theorem dX1_markSegment_7 : decode cX1_markSegment 7 = .ok (.if_icmp .ge 20, 3) := by decide +kernel
theorem dX1_markSegment_10 : decode cX1_markSegment 10 = .ok (.aload_n 0, 1) := by decide +kernel
theorem dX1_markSegment_11 : decode cX1_markSegment 11 = .ok (.getfield 43, 3) := by decide +kernel
theorem dX1_markSegment_14 : decode cX1_markSegment 14 = .ok (.iload_n 1, 1) := by decide +kernel
theorem dX1_markSegment_15 : decode cX1_markSegment 15 = .ok (.iload_n 2, 1) := by decide +kernel
theorem dX1_markSegment_16 : decode cX1_markSegment 16 = .ok (.iadd, 1) := by decide +kernel
theorem dX1_markSegment_17 : decode cX1_markSegment 17 = .ok (.iconst 1, 1) := by decide +kernel
theorem dX1_markSegment_18 : decode cX1_markSegment 18 = .ok (.invokestatic 190, 3) := by decide +kernel
theorem dX1_markSegment_21 : decode cX1_markSegment 21 = .ok (.iinc 2 1, 3) := by decide +kernel
theorem dX1_markSegment_24 : decode cX1_markSegment 24 = .ok (.goto (-22), 3) := by decide +kernel
theorem dX1_markSegment_27 : decode cX1_markSegment 27 = .ok (.return_, 1) := by decide +kernel
theorem dX1_at_0 : decode cX1_at 0 = .ok (.iload_n 1, 1) := by decide +kernel
theorem dX1_at_1 : decode cX1_at 1 = .ok (.ifCond .lt 15, 3) := by decide +kernel
theorem dX1_at_4 : decode cX1_at 4 = .ok (.iload_n 1, 1) := by decide +kernel
theorem dX1_at_5 : decode cX1_at 5 = .ok (.aload_n 0, 1) := by decide +kernel
theorem dX1_at_6 : decode cX1_at 6 = .ok (.arraylength, 1) := by decide +kernel
theorem dX1_at_7 : decode cX1_at 7 = .ok (.if_icmp .ge 9, 3) := by decide +kernel
theorem dX1_at_10 : decode cX1_at 10 = .ok (.aload_n 0, 1) := by decide +kernel
theorem dX1_at_11 : decode cX1_at 11 = .ok (.iload_n 1, 1) := by decide +kernel
theorem dX1_at_12 : decode cX1_at 12 = .ok (.iaload, 1) := by decide +kernel
theorem dX1_at_13 : decode cX1_at 13 = .ok (.goto 4, 3) := by decide +kernel
theorem dX1_at_16 : decode cX1_at 16 = .ok (.iconst 0, 1) := by decide +kernel
theorem dX1_at_17 : decode cX1_at 17 = .ok (.ireturn, 1) := by decide +kernel
theorem dX1_set_0 : decode cX1_set 0 = .ok (.iload_n 1, 1) := by decide +kernel
theorem dX1_set_1 : decode cX1_set 1 = .ok (.ifCond .lt 13, 3) := by decide +kernel
theorem dX1_set_4 : decode cX1_set 4 = .ok (.iload_n 1, 1) := by decide +kernel
theorem dX1_set_5 : decode cX1_set 5 = .ok (.aload_n 0, 1) := by decide +kernel
theorem dX1_set_6 : decode cX1_set 6 = .ok (.arraylength, 1) := by decide +kernel
theorem dX1_set_7 : decode cX1_set 7 = .ok (.if_icmp .ge 7, 3) := by decide +kernel
theorem dX1_set_10 : decode cX1_set 10 = .ok (.aload_n 0, 1) := by decide +kernel
theorem dX1_set_11 : decode cX1_set 11 = .ok (.iload_n 1, 1) := by decide +kernel
theorem dX1_set_12 : decode cX1_set 12 = .ok (.iload_n 2, 1) := by decide +kernel
theorem dX1_set_13 : decode cX1_set 13 = .ok (.iastore, 1) := by decide +kernel
theorem dX1_set_14 : decode cX1_set 14 = .ok (.return_, 1) := by decide +kernel
end
section
theorem dX2_init_0 : decode cX2_init 0 = .ok (.aload_n 0, 1) := by decide +kernel
theorem dX2_init_1 : decode cX2_init 1 = .ok (.invokespecial 1, 3) := by decide +kernel
theorem dX2_init_4 : decode cX2_init 4 = .ok (.aload_n 0, 1) := by decide +kernel
theorem dX2_init_5 : decode cX2_init 5 = .ok (.iconst (-1), 1) := by decide +kernel
theorem dX2_init_6 : decode cX2_init 6 = .ok (.putfield 7, 3) := by decide +kernel
theorem dX2_init_9 : decode cX2_init 9 = .ok (.aload_n 0, 1) := by decide +kernel
theorem dX2_init_10 : decode cX2_init 10 = .ok (.iconst 4, 1) := by decide +kernel
theorem dX2_init_11 : decode cX2_init 11 = .ok (.newarray .int, 2) := by decide +kernel
theorem dX2_init_13 : decode cX2_init 13 = .ok (.putfield 13, 3) := by decide +kernel
theorem dX2_init_16 : decode cX2_init 16 = .ok (.aload_n 0, 1) := by decide +kernel
theorem dX2_init_17 : decode cX2_init 17 = .ok (.sipush 240, 3) := by decide +kernel
theorem dX2_init_20 : decode cX2_init 20 = .ok (.newarray .int, 2) := by decide +kernel
theorem dX2_init_22 : decode cX2_init 22 = .ok (.putfield 17, 3) := by decide +kernel
theorem dX2_init_25 : decode cX2_init 25 = .ok (.aload_n 0, 1) := by decide +kernel
theorem dX2_init_26 : decode cX2_init 26 = .ok (.sipush 240, 3) := by decide +kernel
theorem dX2_init_29 : decode cX2_init 29 = .ok (.newarray .int, 2) := by decide +kernel
theorem dX2_init_31 : decode cX2_init 31 = .ok (.putfield 20, 3) := by decide +kernel
theorem dX2_init_34 : decode cX2_init 34 = .ok (.aload_n 0, 1) := by decide +kernel
theorem dX2_init_35 : decode cX2_init 35 = .ok (.iconst 4, 1) := by decide +kernel
theorem dX2_init_36 : decode cX2_init 36 = .ok (.newarray .int, 2) := by decide +kernel
theorem dX2_init_38 : decode cX2_init 38 = .ok (.putfield 23, 3) := by decide +kernel
theorem dX2_init_41 : decode cX2_init 41 = .ok (.aload_n 0, 1) := by decide +kernel
theorem dX2_init_42 : decode cX2_init 42 = .ok (.sipush 256, 3) := by decide +kernel
theorem dX2_init_45 : decode cX2_init 45 = .ok (.newarray .boolean, 2) := by decide +kernel
theorem dX2_init_47 : decode cX2_init 47 = .ok (.putfield 26, 3) := by decide +kernel
theorem dX2_init_50 : decode cX2_init 50 = .ok (.aload_n 0, 1) := by decide +kernel
theorem dX2_init_51 : decode cX2_init 51 = .ok (.bipush 64, 2) := by decide +kernel
theorem dX2_init_53 : decode cX2_init 53 = .ok (.newarray .int, 2) := by decide +kernel
theorem dX2_init_55 : decode cX2_init 55 = .ok (.putfield 30, 3) := by decide +kernel
theorem dX2_init_58 : decode cX2_init 58 = .ok (.aload_n 0, 1) := by decide +kernel
theorem dX2_init_59 : decode cX2_init 59 = .ok (.bipush 64, 2) := by decide +kernel
theorem dX2_init_61 : decode cX2_init 61 = .ok (.newarray .int, 2) := by decide +kernel
theorem dX2_init_63 : decode cX2_init 63 = .ok (.putfield 33, 3) := by decide +kernel
theorem dX2_init_66 : decode cX2_init 66 = .ok (.aload_n 0, 1) := by decide +kernel
theorem dX2_init_67 : decode cX2_init 67 = .ok (.bipush 64, 2) := by decide +kernel
theorem dX2_init_69 : decode cX2_init 69 = .ok (.newarray .int, 2) := by decide +kernel
theorem dX2_init_71 : decode cX2_init 71 = .ok (.putfield 36, 3) := by decide +kernel
theorem dX2_init_74 : decode cX2_init 74 = .ok (.aload_n 0, 1) := by decide +kernel
theorem dX2_init_75 : decode cX2_init 75 = .ok (.bipush 64, 2) := by decide +kernel
theorem dX2_init_77 : decode cX2_init 77 = .ok (.newarray .int, 2) := by decide +kernel
theorem dX2_init_79 : decode cX2_init 79 = .ok (.putfield 39, 3) := by decide +kernel
theorem dX2_init_82 : decode cX2_init 82 = .ok (.aload_n 0, 1) := by decide +kernel
theorem dX2_init_83 : decode cX2_init 83 = .ok (.bipush 64, 2) := by decide +kernel
theorem dX2_init_85 : decode cX2_init 85 = .ok (.newarray .int, 2) := by decide +kernel
theorem dX2_init_87 : decode cX2_init 87 = .ok (.putfield 42, 3) := by decide +kernel
theorem dX2_init_90 : decode cX2_init 90 = .ok (.aload_n 0, 1) := by decide +kernel
theorem dX2_init_91 : decode cX2_init 91 = .ok (.bipush 60, 2) := by decide +kernel
theorem dX2_init_93 : decode cX2_init 93 = .ok (.newarray .int, 2) := by decide +kernel
theorem dX2_init_95 : decode cX2_init 95 = .ok (.putfield 45, 3) := by decide +kernel
theorem dX2_init_98 : decode cX2_init 98 = .ok (.aload_n 0, 1) := by decide +kernel
theorem dX2_init_99 : decode cX2_init 99 = .ok (.bipush 60, 2) := by decide +kernel
theorem dX2_init_101 : decode cX2_init 101 = .ok (.newarray .int, 2) := by decide +kernel
theorem dX2_init_103 : decode cX2_init 103 = .ok (.putfield 48, 3) := by decide +kernel
theorem dX2_init_106 : decode cX2_init 106 = .ok (.aload_n 0, 1) := by decide +kernel
theorem dX2_init_107 : decode cX2_init 107 = .ok (.iload_n 1, 1) := by decide +kernel
theorem dX2_init_108 : decode cX2_init 108 = .ok (.iconst 1, 1) := by decide +kernel
theorem dX2_init_109 : decode cX2_init 109 = .ok (.if_icmp .ge 7, 3) := by decide +kernel
theorem dX2_init_112 : decode cX2_init 112 = .ok (.iconst 1, 1) := by decide +kernel
theorem dX2_init_113 : decode cX2_init 113 = .ok (.goto 15, 3) := by decide +kernel
theorem dX2_init_116 : decode cX2_init 116 = .ok (.iload_n 1, 1) := by decide +kernel
theorem dX2_init_117 : decode cX2_init 117 = .ok (.bipush 16, 2) := by decide +kernel
theorem dX2_init_119 : decode cX2_init 119 = .ok (.if_icmp .le 8, 3) := by decide +kernel
theorem dX2_init_122 : decode cX2_init 122 = .ok (.bipush 16, 2) := by decide +kernel
theorem dX2_init_124 : decode cX2_init 124 = .ok (.goto 4, 3) := by decide +kernel
theorem dX2_init_127 : decode cX2_init 127 = .ok (.iload_n 1, 1) := by decide +kernel
theorem dX2_init_128 : decode cX2_init 128 = .ok (.putfield 51, 3) := by decide +kernel
theorem dX2_init_131 : decode cX2_init 131 = .ok (.aload_n 0, 1) := by decide +kernel
theorem dX2_init_132 : decode cX2_init 132 = .ok (.iload_n 2, 1) := by decide +kernel
theorem dX2_init_133 : decode cX2_init 133 = .ok (.bipush 16, 2) := by decide +kernel
theorem dX2_init_135 : decode cX2_init 135 = .ok (.if_icmp .ge 8, 3) := by decide +kernel
theorem dX2_init_138 : decode cX2_init 138 = .ok (.bipush 16, 2) := by decide +kernel
theorem dX2_init_140 : decode cX2_init 140 = .ok (.goto 17, 3) := by decide +kernel
theorem dX2_init_143 : decode cX2_init 143 = .ok (.iload_n 2, 1) := by decide +kernel
theorem dX2_init_144 : decode cX2_init 144 = .ok (.sipush 256, 3) := by decide +kernel
theorem dX2_init_147 : decode cX2_init 147 = .ok (.if_icmp .le 9, 3) := by decide +kernel
theorem dX2_init_150 : decode cX2_init 150 = .ok (.sipush 256, 3) := by decide +kernel
theorem dX2_init_153 : decode cX2_init 153 = .ok (.goto 4, 3) := by decide +kernel
theorem dX2_init_156 : decode cX2_init 156 = .ok (.iload_n 2, 1) := by decide +kernel
theorem dX2_init_157 : decode cX2_init 157 = .ok (.putfield 54, 3) := by decide +kernel
theorem dX2_init_160 : decode cX2_init 160 = .ok (.return_, 1) := by decide +kernel
theorem dX2_thrown_0 : decode cX2_thrown 0 = .ok (.aload_n 0, 1) := by decide +kernel
theorem dX2_thrown_1 : decode cX2_thrown 1 = .ok (.getfield 57, 3) := by decide +kernel
theorem dX2_thrown_4 : decode cX2_thrown 4 = .ok (.ireturn, 1) := by decide +kernel
theorem dX2_isLog_0 : decode cX2_isLog 0 = .ok (.iload_n 0, 1) := by decide +kernel
theorem dX2_isLog_1 : decode cX2_isLog 1 = .ok (.ifCond .lt 12, 3) := by decide +kernel
theorem dX2_isLog_4 : decode cX2_isLog 4 = .ok (.iload_n 0, 1) := by decide +kernel
theorem dX2_isLog_5 : decode cX2_isLog 5 = .ok (.iconst 4, 1) := by decide +kernel
theorem dX2_isLog_6 : decode cX2_isLog 6 = .ok (.if_icmp .ge 7, 3) := by decide +kernel
theorem dX2_isLog_9 : decode cX2_isLog 9 = .ok (.iconst 1, 1) := by decide +kernel
theorem dX2_isLog_10 : decode cX2_isLog 10 = .ok (.goto 4, 3) := by decide +kernel
theorem dX2_isLog_13 : decode cX2_isLog 13 = .ok (.iconst 0, 1) := by decide +kernel
theorem dX2_isLog_14 : decode cX2_isLog 14 = .ok (.ireturn, 1) := by decide +kernel
theorem dX2_goes_0 : decode cX2_goes 0 = .ok (.aload_n 0, 1) := by decide +kernel
theorem dX2_goes_1 : decode cX2_goes 1 = .ok (.iload_n 1, 1) := by decide +kernel
theorem dX2_goes_2 : decode cX2_goes 2 = .ok (.ifCond .ne 7, 3) := by decide +kernel
theorem dX2_goes_5 : decode cX2_goes 5 = .ok (.iconst 1, 1) := by decide +kernel
theorem dX2_goes_6 : decode cX2_goes 6 = .ok (.goto 15, 3) := by decide +kernel
theorem dX2_goes_9 : decode cX2_goes 9 = .ok (.aload_n 0, 1) := by decide +kernel
theorem dX2_goes_10 : decode cX2_goes 10 = .ok (.getfield 60, 3) := by decide +kernel
theorem dX2_goes_13 : decode cX2_goes 13 = .ok (.ifCond .eq 7, 3) := by decide +kernel
theorem dX2_goes_16 : decode cX2_goes 16 = .ok (.iconst 2, 1) := by decide +kernel
theorem dX2_goes_17 : decode cX2_goes 17 = .ok (.goto 4, 3) := by decide +kernel
theorem dX2_goes_20 : decode cX2_goes 20 = .ok (.iconst 0, 1) := by decide +kernel
theorem dX2_goes_21 : decode cX2_goes 21 = .ok (.putfield 57, 3) := by decide +kernel
theorem dX2_goes_24 : decode cX2_goes 24 = .ok (.aload_n 0, 1) := by decide +kernel
theorem dX2_goes_25 : decode cX2_goes 25 = .ok (.getfield 57, 3) := by decide +kernel
theorem dX2_goes_28 : decode cX2_goes 28 = .ok (.ifCond .ne 7, 3) := by decide +kernel
theorem dX2_goes_31 : decode cX2_goes 31 = .ok (.iconst 1, 1) := by decide +kernel
theorem dX2_goes_32 : decode cX2_goes 32 = .ok (.goto 4, 3) := by decide +kernel
theorem dX2_goes_35 : decode cX2_goes 35 = .ok (.iconst 0, 1) := by decide +kernel
theorem dX2_goes_36 : decode cX2_goes 36 = .ok (.ireturn, 1) := by decide +kernel
theorem dX2_mark_0 : decode cX2_mark 0 = .ok (.iconst 0, 1) := by decide +kernel
theorem dX2_mark_1 : decode cX2_mark 1 = .ok (.istore_n 1, 1) := by decide +kernel
theorem dX2_mark_2 : decode cX2_mark 2 = .ok (.iload_n 1, 1) := by decide +kernel
theorem dX2_mark_3 : decode cX2_mark 3 = .ok (.aload_n 0, 1) := by decide +kernel
theorem dX2_mark_4 : decode cX2_mark 4 = .ok (.getfield 54, 3) := by decide +kernel
theorem dX2_mark_7 : decode cX2_mark 7 = .ok (.if_icmp .ge 25, 3) := by decide +kernel
theorem dX2_mark_10 : decode cX2_mark 10 = .ok (.aload_n 0, 1) := by decide +kernel
theorem dX2_mark_11 : decode cX2_mark 11 = .ok (.getfield 26, 3) := by decide +kernel
theorem dX2_mark_14 : decode cX2_mark 14 = .ok (.iload_n 1, 1) := by decide +kernel
theorem dX2_mark_15 : decode cX2_mark 15 = .ok (.iload_n 1, 1) := by decide +kernel
theorem dX2_mark_16 : decode cX2_mark 16 = .ok (.iconst 4, 1) := by decide +kernel
theorem dX2_mark_17 : decode cX2_mark 17 = .ok (.if_icmp .ge 7, 3) := by decide +kernel
theorem dX2_mark_20 : decode cX2_mark 20 = .ok (.iconst 1, 1) := by decide +kernel
theorem dX2_mark_21 : decode cX2_mark 21 = .ok (.goto 4, 3) := by decide +kernel
theorem dX2_mark_24 : decode cX2_mark 24 = .ok (.iconst 0, 1) := by decide +kernel
theorem dX2_mark_25 : decode cX2_mark 25 = .ok (.bastore, 1) := by decide +kernel
theorem dX2_mark_26 : decode cX2_mark 26 = .ok (.iinc 1 1, 3) := by decide +kernel
theorem dX2_mark_29 : decode cX2_mark 29 = .ok (.goto (-27), 3) := by decide +kernel
theorem dX2_mark_32 : decode cX2_mark 32 = .ok (.iconst 0, 1) := by decide +kernel
theorem dX2_mark_33 : decode cX2_mark 33 = .ok (.istore_n 1, 1) := by decide +kernel
theorem dX2_mark_34 : decode cX2_mark 34 = .ok (.iload_n 1, 1) := by decide +kernel
theorem dX2_mark_35 : decode cX2_mark 35 = .ok (.iconst 4, 1) := by decide +kernel
theorem dX2_mark_36 : decode cX2_mark 36 = .ok (.if_icmp .ge 42, 3) := by decide +kernel
theorem dX2_mark_39 : decode cX2_mark 39 = .ok (.iconst 0, 1) := by decide +kernel
theorem dX2_mark_40 : decode cX2_mark 40 = .ok (.istore_n 2, 1) := by decide +kernel
theorem dX2_mark_41 : decode cX2_mark 41 = .ok (.iload_n 2, 1) := by decide +kernel
theorem dX2_mark_42 : decode cX2_mark 42 = .ok (.aload_n 0, 1) := by decide +kernel
theorem dX2_mark_43 : decode cX2_mark 43 = .ok (.getfield 13, 3) := by decide +kernel
theorem dX2_mark_46 : decode cX2_mark 46 = .ok (.iload_n 1, 1) := by decide +kernel
theorem dX2_mark_47 : decode cX2_mark 47 = .ok (.iaload, 1) := by decide +kernel
theorem dX2_mark_48 : decode cX2_mark 48 = .ok (.if_icmp .ge 24, 3) := by decide +kernel
theorem dX2_mark_51 : decode cX2_mark 51 = .ok (.aload_n 0, 1) := by decide +kernel
theorem dX2_mark_52 : decode cX2_mark 52 = .ok (.aload_n 0, 1) := by decide +kernel
theorem dX2_mark_53 : decode cX2_mark 53 = .ok (.getfield 17, 3) := by decide +kernel
theorem dX2_mark_56 : decode cX2_mark 56 = .ok (.bipush 60, 2) := by decide +kernel
theorem dX2_mark_58 : decode cX2_mark 58 = .ok (.iload_n 1, 1) := by decide +kernel
theorem dX2_mark_59 : decode cX2_mark 59 = .ok (.imul, 1) := by decide +kernel
theorem dX2_mark_60 : decode cX2_mark 60 = .ok (.iload_n 2, 1) := by decide +kernel
theorem dX2_mark_61 : decode cX2_mark 61 = .ok (.iadd, 1) := by decide +kernel
theorem dX2_mark_62 : decode cX2_mark 62 = .ok (.iaload, 1) := by decide +kernel
theorem dX2_mark_63 : decode cX2_mark 63 = .ok (.invokevirtual 64, 3) := by decide +kernel
theorem dX2_mark_66 : decode cX2_mark 66 = .ok (.iinc 2 1, 3) := by decide +kernel
theorem dX2_mark_69 : decode cX2_mark 69 = .ok (.goto (-28), 3) := by decide +kernel
theorem dX2_mark_72 : decode cX2_mark 72 = .ok (.iinc 1 1, 3) := by decide +kernel
theorem dX2_mark_75 : decode cX2_mark 75 = .ok (.goto (-41), 3) := by decide +kernel
theorem dX2_mark_78 : decode cX2_mark 78 = .ok (.return_, 1) := by decide +kernel
theorem dX2_hold_0 : decode cX2_hold 0 = .ok (.iconst 0, 1) := by decide +kernel
theorem dX2_hold_1 : decode cX2_hold 1 = .ok (.istore_n 2, 1) := by decide +kernel
theorem dX2_hold_2 : decode cX2_hold 2 = .ok (.iload_n 2, 1) := by decide +kernel
theorem dX2_hold_3 : decode cX2_hold 3 = .ok (.aload_n 0, 1) := by decide +kernel
theorem dX2_hold_4 : decode cX2_hold 4 = .ok (.getfield 51, 3) := by decide +kernel
theorem dX2_hold_7 : decode cX2_hold 7 = .ok (.if_icmp .ge 18, 3) := by decide +kernel
theorem dX2_hold_10 : decode cX2_hold 10 = .ok (.aload_n 0, 1) := by decide +kernel
theorem dX2_hold_11 : decode cX2_hold 11 = .ok (.getfield 26, 3) := by decide +kernel
theorem dX2_hold_14 : decode cX2_hold 14 = .ok (.iload_n 1, 1) := by decide +kernel
theorem dX2_hold_15 : decode cX2_hold 15 = .ok (.iload_n 2, 1) := by decide +kernel
theorem dX2_hold_16 : decode cX2_hold 16 = .ok (.iadd, 1) := by decide +kernel
theorem dX2_hold_17 : decode cX2_hold 17 = .ok (.iconst 1, 1) := by decide +kernel
theorem dX2_hold_18 : decode cX2_hold 18 = .ok (.bastore, 1) := by decide +kernel
theorem dX2_hold_19 : decode cX2_hold 19 = .ok (.iinc 2 1, 3) := by decide +kernel
theorem dX2_hold_22 : decode cX2_hold 22 = .ok (.goto (-20), 3) := by decide +kernel
theorem dX2_hold_25 : decode cX2_hold 25 = .ok (.return_, 1) := by decide +kernel
theorem dX2_place_0 : decode cX2_place 0 = .ok (.iconst 4, 1) := by decide +kernel
theorem dX2_place_1 : decode cX2_place 1 = .ok (.istore_n 1, 1) := by decide +kernel
theorem dX2_place_2 : decode cX2_place 2 = .ok (.iload_n 1, 1) := by decide +kernel
theorem dX2_place_3 : decode cX2_place 3 = .ok (.aload_n 0, 1) := by decide +kernel
theorem dX2_place_4 : decode cX2_place 4 = .ok (.getfield 51, 3) := by decide +kernel
theorem dX2_place_7 : decode cX2_place 7 = .ok (.iadd, 1) := by decide +kernel
theorem dX2_place_8 : decode cX2_place 8 = .ok (.aload_n 0, 1) := by decide +kernel
theorem dX2_place_9 : decode cX2_place 9 = .ok (.getfield 54, 3) := by decide +kernel
theorem dX2_place_12 : decode cX2_place 12 = .ok (.if_icmp .gt 54, 3) := by decide +kernel
theorem dX2_place_15 : decode cX2_place 15 = .ok (.iconst 1, 1) := by decide +kernel
theorem dX2_place_16 : decode cX2_place 16 = .ok (.istore_n 2, 1) := by decide +kernel
theorem dX2_place_17 : decode cX2_place 17 = .ok (.iload_n 1, 1) := by decide +kernel
theorem dX2_place_18 : decode cX2_place 18 = .ok (.istore_n 3, 1) := by decide +kernel
theorem dX2_place_19 : decode cX2_place 19 = .ok (.iload_n 3, 1) := by decide +kernel
theorem dX2_place_20 : decode cX2_place 20 = .ok (.iload_n 1, 1) := by decide +kernel
theorem dX2_place_21 : decode cX2_place 21 = .ok (.aload_n 0, 1) := by decide +kernel
theorem dX2_place_22 : decode cX2_place 22 = .ok (.getfield 51, 3) := by decide +kernel
theorem dX2_place_25 : decode cX2_place 25 = .ok (.iadd, 1) := by decide +kernel
theorem dX2_place_26 : decode cX2_place 26 = .ok (.if_icmp .ge 28, 3) := by decide +kernel
theorem dX2_place_29 : decode cX2_place 29 = .ok (.iload_n 2, 1) := by decide +kernel
theorem dX2_place_30 : decode cX2_place 30 = .ok (.ifCond .eq 16, 3) := by decide +kernel
theorem dX2_place_33 : decode cX2_place 33 = .ok (.aload_n 0, 1) := by decide +kernel
theorem dX2_place_34 : decode cX2_place 34 = .ok (.getfield 26, 3) := by decide +kernel
theorem dX2_place_37 : decode cX2_place 37 = .ok (.iload_n 3, 1) := by decide +kernel
theorem dX2_place_38 : decode cX2_place 38 = .ok (.baload, 1) := by decide +kernel
theorem dX2_place_39 : decode cX2_place 39 = .ok (.ifCond .ne 7, 3) := by decide +kernel
theorem dX2_place_42 : decode cX2_place 42 = .ok (.iconst 1, 1) := by decide +kernel
theorem dX2_place_43 : decode cX2_place 43 = .ok (.goto 4, 3) := by decide +kernel
theorem dX2_place_46 : decode cX2_place 46 = .ok (.iconst 0, 1) := by decide +kernel
theorem dX2_place_47 : decode cX2_place 47 = .ok (.istore_n 2, 1) := by decide +kernel
theorem dX2_place_48 : decode cX2_place 48 = .ok (.iinc 3 1, 3) := by decide +kernel
theorem dX2_place_51 : decode cX2_place 51 = .ok (.goto (-32), 3) := by decide +kernel
theorem dX2_place_54 : decode cX2_place 54 = .ok (.iload_n 2, 1) := by decide +kernel
theorem dX2_place_55 : decode cX2_place 55 = .ok (.ifCond .eq 5, 3) := by decide +kernel
theorem dX2_place_58 : decode cX2_place 58 = .ok (.iload_n 1, 1) := by decide +kernel
theorem dX2_place_59 : decode cX2_place 59 = .ok (.ireturn, 1) := by decide +kernel
theorem dX2_place_60 : decode cX2_place 60 = .ok (.iinc 1 1, 3) := by decide +kernel
theorem dX2_place_63 : decode cX2_place 63 = .ok (.goto (-61), 3) := by decide +kernel
theorem dX2_place_66 : decode cX2_place 66 = .ok (.iconst (-1), 1) := by decide +kernel
theorem dX2_place_67 : decode cX2_place 67 = .ok (.ireturn, 1) := by decide +kernel
theorem dX2_spend_0 : decode cX2_spend 0 = .ok (.aload_n 0, 1) := by decide +kernel
theorem dX2_spend_1 : decode cX2_spend 1 = .ok (.getfield 7, 3) := by decide +kernel
theorem dX2_spend_4 : decode cX2_spend 4 = .ok (.ifCond .lt 15, 3) := by decide +kernel
theorem dX2_spend_7 : decode cX2_spend 7 = .ok (.aload_n 0, 1) := by decide +kernel
theorem dX2_spend_8 : decode cX2_spend 8 = .ok (.getfield 7, 3) := by decide +kernel
theorem dX2_spend_11 : decode cX2_spend 11 = .ok (.iload_n 1, 1) := by decide +kernel
theorem dX2_spend_12 : decode cX2_spend 12 = .ok (.if_icmp .gt 7, 3) := by decide +kernel
theorem dX2_spend_15 : decode cX2_spend 15 = .ok (.iconst 1, 1) := by decide +kernel
theorem dX2_spend_16 : decode cX2_spend 16 = .ok (.goto 4, 3) := by decide +kernel
theorem dX2_spend_19 : decode cX2_spend 19 = .ok (.iconst 0, 1) := by decide +kernel
theorem dX2_spend_20 : decode cX2_spend 20 = .ok (.istore_n 2, 1) := by decide +kernel
theorem dX2_spend_21 : decode cX2_spend 21 = .ok (.iload_n 2, 1) := by decide +kernel
theorem dX2_spend_22 : decode cX2_spend 22 = .ok (.ifCond .eq 10, 3) := by decide +kernel
theorem dX2_spend_25 : decode cX2_spend 25 = .ok (.aload_n 0, 1) := by decide +kernel
theorem dX2_spend_26 : decode cX2_spend 26 = .ok (.getfield 7, 3) := by decide +kernel
theorem dX2_spend_29 : decode cX2_spend 29 = .ok (.goto 4, 3) := by decide +kernel
theorem dX2_spend_32 : decode cX2_spend 32 = .ok (.iload_n 1, 1) := by decide +kernel
theorem dX2_spend_33 : decode cX2_spend 33 = .ok (.istore_n 3, 1) := by decide +kernel
theorem dX2_spend_34 : decode cX2_spend 34 = .ok (.aload_n 0, 1) := by decide +kernel
theorem dX2_spend_35 : decode cX2_spend 35 = .ok (.dup, 1) := by decide +kernel
theorem dX2_spend_36 : decode cX2_spend 36 = .ok (.getfield 68, 3) := by decide +kernel
theorem dX2_spend_39 : decode cX2_spend 39 = .ok (.iload_n 3, 1) := by decide +kernel
theorem dX2_spend_40 : decode cX2_spend 40 = .ok (.iadd, 1) := by decide +kernel
theorem dX2_spend_41 : decode cX2_spend 41 = .ok (.putfield 68, 3) := by decide +kernel
theorem dX2_spend_44 : decode cX2_spend 44 = .ok (.aload_n 0, 1) := by decide +kernel
theorem dX2_spend_45 : decode cX2_spend 45 = .ok (.dup, 1) := by decide +kernel
theorem dX2_spend_46 : decode cX2_spend 46 = .ok (.getfield 7, 3) := by decide +kernel
theorem dX2_spend_49 : decode cX2_spend 49 = .ok (.aload_n 0, 1) := by decide +kernel
theorem dX2_spend_50 : decode cX2_spend 50 = .ok (.getfield 7, 3) := by decide +kernel
theorem dX2_spend_53 : decode cX2_spend 53 = .ok (.ifCond .ge 7, 3) := by decide +kernel
theorem dX2_spend_56 : decode cX2_spend 56 = .ok (.iconst 0, 1) := by decide +kernel
theorem dX2_spend_57 : decode cX2_spend 57 = .ok (.goto 4, 3) := by decide +kernel
theorem dX2_spend_60 : decode cX2_spend 60 = .ok (.iload_n 3, 1) := by decide +kernel
theorem dX2_spend_61 : decode cX2_spend 61 = .ok (.isub, 1) := by decide +kernel
theorem dX2_spend_62 : decode cX2_spend 62 = .ok (.putfield 7, 3) := by decide +kernel
theorem dX2_spend_65 : decode cX2_spend 65 = .ok (.aload_n 0, 1) := by decide +kernel
theorem dX2_spend_66 : decode cX2_spend 66 = .ok (.iload_n 2, 1) := by decide +kernel
theorem dX2_spend_67 : decode cX2_spend 67 = .ok (.putfield 60, 3) := by decide +kernel
theorem dX2_spend_70 : decode cX2_spend 70 = .ok (.iload_n 3, 1) := by decide +kernel
theorem dX2_spend_71 : decode cX2_spend 71 = .ok (.iload_n 1, 1) := by decide +kernel
theorem dX2_spend_72 : decode cX2_spend 72 = .ok (.if_icmp .ne 7, 3) := by decide +kernel
theorem dX2_spend_75 : decode cX2_spend 75 = .ok (.iconst 1, 1) := by decide +kernel
theorem dX2_spend_76 : decode cX2_spend 76 = .ok (.goto 4, 3) := by decide +kernel
theorem dX2_spend_79 : decode cX2_spend 79 = .ok (.iconst 0, 1) := by decide +kernel
theorem dX2_spend_80 : decode cX2_spend 80 = .ok (.ireturn, 1) := by decide +kernel
theorem dX2_touched_0 : decode cX2_touched 0 = .ok (.iload_n 1, 1) := by decide +kernel
theorem dX2_touched_1 : decode cX2_touched 1 = .ok (.ifCond .ne 7, 3) := by decide +kernel
theorem dX2_touched_4 : decode cX2_touched 4 = .ok (.iconst 0, 1) := by decide +kernel
theorem dX2_touched_5 : decode cX2_touched 5 = .ok (.goto 20, 3) := by decide +kernel
theorem dX2_touched_8 : decode cX2_touched 8 = .ok (.iload_n 0, 1) := by decide +kernel
theorem dX2_touched_9 : decode cX2_touched 9 = .ok (.iload_n 1, 1) := by decide +kernel
theorem dX2_touched_10 : decode cX2_touched 10 = .ok (.iadd, 1) := by decide +kernel
theorem dX2_touched_11 : decode cX2_touched 11 = .ok (.iconst 1, 1) := by decide +kernel
theorem dX2_touched_12 : decode cX2_touched 12 = .ok (.isub, 1) := by decide +kernel
theorem dX2_touched_13 : decode cX2_touched 13 = .ok (.sipush 1024, 3) := by decide +kernel
theorem dX2_touched_16 : decode cX2_touched 16 = .ok (.idiv, 1) := by decide +kernel
theorem dX2_touched_17 : decode cX2_touched 17 = .ok (.iload_n 0, 1) := by decide +kernel
theorem dX2_touched_18 : decode cX2_touched 18 = .ok (.sipush 1024, 3) := by decide +kernel
theorem dX2_touched_21 : decode cX2_touched 21 = .ok (.idiv, 1) := by decide +kernel
theorem dX2_touched_22 : decode cX2_touched 22 = .ok (.isub, 1) := by decide +kernel
theorem dX2_touched_23 : decode cX2_touched 23 = .ok (.iconst 1, 1) := by decide +kernel
theorem dX2_touched_24 : decode cX2_touched 24 = .ok (.iadd, 1) := by decide +kernel
theorem dX2_touched_25 : decode cX2_touched 25 = .ok (.ireturn, 1) := by decide +kernel
theorem dX2_longer_0 : decode cX2_longer 0 = .ok (.iconst 2, 1) := by decide +kernel
theorem dX2_longer_1 : decode cX2_longer 1 = .ok (.aload_n 0, 1) := by decide +kernel
theorem dX2_longer_2 : decode cX2_longer 2 = .ok (.arraylength, 1) := by decide +kernel
theorem dX2_longer_3 : decode cX2_longer 3 = .ok (.imul, 1) := by decide +kernel
theorem dX2_longer_4 : decode cX2_longer 4 = .ok (.newarray .int, 2) := by decide +kernel
theorem dX2_longer_6 : decode cX2_longer 6 = .ok (.astore_n 1, 1) := by decide +kernel
theorem dX2_longer_7 : decode cX2_longer 7 = .ok (.iconst 0, 1) := by decide +kernel
theorem dX2_longer_8 : decode cX2_longer 8 = .ok (.istore_n 2, 1) := by decide +kernel
theorem dX2_longer_9 : decode cX2_longer 9 = .ok (.iload_n 2, 1) := by decide +kernel
theorem dX2_longer_10 : decode cX2_longer 10 = .ok (.aload_n 0, 1) := by decide +kernel
theorem dX2_longer_11 : decode cX2_longer 11 = .ok (.arraylength, 1) := by decide +kernel
theorem dX2_longer_12 : decode cX2_longer 12 = .ok (.if_icmp .ge 15, 3) := by decide +kernel
theorem dX2_longer_15 : decode cX2_longer 15 = .ok (.aload_n 1, 1) := by decide +kernel
theorem dX2_longer_16 : decode cX2_longer 16 = .ok (.iload_n 2, 1) := by decide +kernel
theorem dX2_longer_17 : decode cX2_longer 17 = .ok (.aload_n 0, 1) := by decide +kernel
theorem dX2_longer_18 : decode cX2_longer 18 = .ok (.iload_n 2, 1) := by decide +kernel
theorem dX2_longer_19 : decode cX2_longer 19 = .ok (.iaload, 1) := by decide +kernel
theorem dX2_longer_20 : decode cX2_longer 20 = .ok (.iastore, 1) := by decide +kernel
theorem dX2_longer_21 : decode cX2_longer 21 = .ok (.iinc 2 1, 3) := by decide +kernel
theorem dX2_longer_24 : decode cX2_longer 24 = .ok (.goto (-15), 3) := by decide +kernel
theorem dX2_longer_27 : decode cX2_longer 27 = .ok (.aload_n 1, 1) := by decide +kernel
theorem dX2_longer_28 : decode cX2_longer 28 = .ok (.areturn, 1) := by decide +kernel
theorem dX2_add_0 : decode cX2_add 0 = .ok (.aload_n 0, 1) := by decide +kernel
theorem dX2_add_1 : decode cX2_add 1 = .ok (.getfield 71, 3) := by decide +kernel
theorem dX2_add_4 : decode cX2_add 4 = .ok (.aload_n 0, 1) := by decide +kernel
theorem dX2_add_5 : decode cX2_add 5 = .ok (.getfield 33, 3) := by decide +kernel
theorem dX2_add_8 : decode cX2_add 8 = .ok (.arraylength, 1) := by decide +kernel
theorem dX2_add_9 : decode cX2_add 9 = .ok (.if_icmp .ne 58, 3) := by decide +kernel
theorem dX2_add_12 : decode cX2_add 12 = .ok (.aload_n 0, 1) := by decide +kernel
theorem dX2_add_13 : decode cX2_add 13 = .ok (.aload_n 0, 1) := by decide +kernel
theorem dX2_add_14 : decode cX2_add 14 = .ok (.getfield 30, 3) := by decide +kernel
theorem dX2_add_17 : decode cX2_add 17 = .ok (.invokestatic 74, 3) := by decide +kernel
theorem dX2_add_20 : decode cX2_add 20 = .ok (.putfield 30, 3) := by decide +kernel
theorem dX2_add_23 : decode cX2_add 23 = .ok (.aload_n 0, 1) := by decide +kernel
theorem dX2_add_24 : decode cX2_add 24 = .ok (.aload_n 0, 1) := by decide +kernel
theorem dX2_add_25 : decode cX2_add 25 = .ok (.getfield 33, 3) := by decide +kernel
theorem dX2_add_28 : decode cX2_add 28 = .ok (.invokestatic 74, 3) := by decide +kernel
theorem dX2_add_31 : decode cX2_add 31 = .ok (.putfield 33, 3) := by decide +kernel
theorem dX2_add_34 : decode cX2_add 34 = .ok (.aload_n 0, 1) := by decide +kernel
theorem dX2_add_35 : decode cX2_add 35 = .ok (.aload_n 0, 1) := by decide +kernel
theorem dX2_add_36 : decode cX2_add 36 = .ok (.getfield 36, 3) := by decide +kernel
theorem dX2_add_39 : decode cX2_add 39 = .ok (.invokestatic 74, 3) := by decide +kernel
theorem dX2_add_42 : decode cX2_add 42 = .ok (.putfield 36, 3) := by decide +kernel
theorem dX2_add_45 : decode cX2_add 45 = .ok (.aload_n 0, 1) := by decide +kernel
theorem dX2_add_46 : decode cX2_add 46 = .ok (.aload_n 0, 1) := by decide +kernel
theorem dX2_add_47 : decode cX2_add 47 = .ok (.getfield 39, 3) := by decide +kernel
theorem dX2_add_50 : decode cX2_add 50 = .ok (.invokestatic 74, 3) := by decide +kernel
theorem dX2_add_53 : decode cX2_add 53 = .ok (.putfield 39, 3) := by decide +kernel
theorem dX2_add_56 : decode cX2_add 56 = .ok (.aload_n 0, 1) := by decide +kernel
theorem dX2_add_57 : decode cX2_add 57 = .ok (.aload_n 0, 1) := by decide +kernel
theorem dX2_add_58 : decode cX2_add 58 = .ok (.getfield 42, 3) := by decide +kernel
theorem dX2_add_61 : decode cX2_add 61 = .ok (.invokestatic 74, 3) := by decide +kernel
theorem dX2_add_64 : decode cX2_add 64 = .ok (.putfield 42, 3) := by decide +kernel
theorem dX2_add_67 : decode cX2_add 67 = .ok (.aload_n 0, 1) := by decide +kernel
theorem dX2_add_68 : decode cX2_add 68 = .ok (.getfield 30, 3) := by decide +kernel
theorem dX2_add_71 : decode cX2_add 71 = .ok (.aload_n 0, 1) := by decide +kernel
theorem dX2_add_72 : decode cX2_add 72 = .ok (.getfield 71, 3) := by decide +kernel
theorem dX2_add_75 : decode cX2_add 75 = .ok (.iload_n 1, 1) := by decide +kernel
theorem dX2_add_76 : decode cX2_add 76 = .ok (.iastore, 1) := by decide +kernel
theorem dX2_add_77 : decode cX2_add 77 = .ok (.aload_n 0, 1) := by decide +kernel
theorem dX2_add_78 : decode cX2_add 78 = .ok (.getfield 33, 3) := by decide +kernel
theorem dX2_add_81 : decode cX2_add 81 = .ok (.aload_n 0, 1) := by decide +kernel
theorem dX2_add_82 : decode cX2_add 82 = .ok (.getfield 71, 3) := by decide +kernel
theorem dX2_add_85 : decode cX2_add 85 = .ok (.iload_n 2, 1) := by decide +kernel
theorem dX2_add_86 : decode cX2_add 86 = .ok (.iastore, 1) := by decide +kernel
theorem dX2_add_87 : decode cX2_add 87 = .ok (.aload_n 0, 1) := by decide +kernel
theorem dX2_add_88 : decode cX2_add 88 = .ok (.getfield 36, 3) := by decide +kernel
theorem dX2_add_91 : decode cX2_add 91 = .ok (.aload_n 0, 1) := by decide +kernel
theorem dX2_add_92 : decode cX2_add 92 = .ok (.getfield 71, 3) := by decide +kernel
theorem dX2_add_95 : decode cX2_add 95 = .ok (.iload_n 3, 1) := by decide +kernel
theorem dX2_add_96 : decode cX2_add 96 = .ok (.iastore, 1) := by decide +kernel
theorem dX2_add_97 : decode cX2_add 97 = .ok (.aload_n 0, 1) := by decide +kernel
theorem dX2_add_98 : decode cX2_add 98 = .ok (.getfield 39, 3) := by decide +kernel
theorem dX2_add_101 : decode cX2_add 101 = .ok (.aload_n 0, 1) := by decide +kernel
theorem dX2_add_102 : decode cX2_add 102 = .ok (.getfield 71, 3) := by decide +kernel
theorem dX2_add_105 : decode cX2_add 105 = .ok (.iload 4, 2) := by decide +kernel
theorem dX2_add_107 : decode cX2_add 107 = .ok (.iastore, 1) := by decide +kernel
theorem dX2_add_108 : decode cX2_add 108 = .ok (.aload_n 0, 1) := by decide +kernel
theorem dX2_add_109 : decode cX2_add 109 = .ok (.getfield 42, 3) := by decide +kernel
theorem dX2_add_112 : decode cX2_add 112 = .ok (.aload_n 0, 1) := by decide +kernel
theorem dX2_add_113 : decode cX2_add 113 = .ok (.getfield 71, 3) := by decide +kernel
theorem dX2_add_116 : decode cX2_add 116 = .ok (.iload 5, 2) := by decide +kernel
theorem dX2_add_118 : decode cX2_add 118 = .ok (.iastore, 1) := by decide +kernel
theorem dX2_add_119 : decode cX2_add 119 = .ok (.aload_n 0, 1) := by decide +kernel
theorem dX2_add_120 : decode cX2_add 120 = .ok (.dup, 1) := by decide +kernel
theorem dX2_add_121 : decode cX2_add 121 = .ok (.getfield 71, 3) := by decide +kernel
theorem dX2_add_124 : decode cX2_add 124 = .ok (.iconst 1, 1) := by decide +kernel
theorem dX2_add_125 : decode cX2_add 125 = .ok (.iadd, 1) := by decide +kernel
theorem dX2_add_126 : decode cX2_add 126 = .ok (.putfield 71, 3) := by decide +kernel
theorem dX2_add_129 : decode cX2_add 129 = .ok (.return_, 1) := by decide +kernel
theorem dX2_copy_0 : decode cX2_copy 0 = .ok (.aload_n 0, 1) := by decide +kernel
theorem dX2_copy_1 : decode cX2_copy 1 = .ok (.getfield 30, 3) := by decide +kernel
theorem dX2_copy_4 : decode cX2_copy 4 = .ok (.iload_n 2, 1) := by decide +kernel
theorem dX2_copy_5 : decode cX2_copy 5 = .ok (.aload_n 0, 1) := by decide +kernel
theorem dX2_copy_6 : decode cX2_copy 6 = .ok (.getfield 30, 3) := by decide +kernel
theorem dX2_copy_9 : decode cX2_copy 9 = .ok (.iload_n 1, 1) := by decide +kernel
theorem dX2_copy_10 : decode cX2_copy 10 = .ok (.iaload, 1) := by decide +kernel
theorem dX2_copy_11 : decode cX2_copy 11 = .ok (.iastore, 1) := by decide +kernel
theorem dX2_copy_12 : decode cX2_copy 12 = .ok (.aload_n 0, 1) := by decide +kernel
theorem dX2_copy_13 : decode cX2_copy 13 = .ok (.getfield 33, 3) := by decide +kernel
theorem dX2_copy_16 : decode cX2_copy 16 = .ok (.iload_n 2, 1) := by decide +kernel
theorem dX2_copy_17 : decode cX2_copy 17 = .ok (.aload_n 0, 1) := by decide +kernel
theorem dX2_copy_18 : decode cX2_copy 18 = .ok (.getfield 33, 3) := by decide +kernel
theorem dX2_copy_21 : decode cX2_copy 21 = .ok (.iload_n 1, 1) := by decide +kernel
theorem dX2_copy_22 : decode cX2_copy 22 = .ok (.iaload, 1) := by decide +kernel
theorem dX2_copy_23 : decode cX2_copy 23 = .ok (.iastore, 1) := by decide +kernel
theorem dX2_copy_24 : decode cX2_copy 24 = .ok (.aload_n 0, 1) := by decide +kernel
theorem dX2_copy_25 : decode cX2_copy 25 = .ok (.getfield 36, 3) := by decide +kernel
theorem dX2_copy_28 : decode cX2_copy 28 = .ok (.iload_n 2, 1) := by decide +kernel
theorem dX2_copy_29 : decode cX2_copy 29 = .ok (.aload_n 0, 1) := by decide +kernel
theorem dX2_copy_30 : decode cX2_copy 30 = .ok (.getfield 36, 3) := by decide +kernel
theorem dX2_copy_33 : decode cX2_copy 33 = .ok (.iload_n 1, 1) := by decide +kernel
theorem dX2_copy_34 : decode cX2_copy 34 = .ok (.iaload, 1) := by decide +kernel
theorem dX2_copy_35 : decode cX2_copy 35 = .ok (.iastore, 1) := by decide +kernel
theorem dX2_copy_36 : decode cX2_copy 36 = .ok (.aload_n 0, 1) := by decide +kernel
theorem dX2_copy_37 : decode cX2_copy 37 = .ok (.getfield 39, 3) := by decide +kernel
theorem dX2_copy_40 : decode cX2_copy 40 = .ok (.iload_n 2, 1) := by decide +kernel
theorem dX2_copy_41 : decode cX2_copy 41 = .ok (.aload_n 0, 1) := by decide +kernel
theorem dX2_copy_42 : decode cX2_copy 42 = .ok (.getfield 39, 3) := by decide +kernel
theorem dX2_copy_45 : decode cX2_copy 45 = .ok (.iload_n 1, 1) := by decide +kernel
theorem dX2_copy_46 : decode cX2_copy 46 = .ok (.iaload, 1) := by decide +kernel
theorem dX2_copy_47 : decode cX2_copy 47 = .ok (.iastore, 1) := by decide +kernel
theorem dX2_copy_48 : decode cX2_copy 48 = .ok (.aload_n 0, 1) := by decide +kernel
theorem dX2_copy_49 : decode cX2_copy 49 = .ok (.getfield 42, 3) := by decide +kernel
theorem dX2_copy_52 : decode cX2_copy 52 = .ok (.iload_n 2, 1) := by decide +kernel
theorem dX2_copy_53 : decode cX2_copy 53 = .ok (.aload_n 0, 1) := by decide +kernel
theorem dX2_copy_54 : decode cX2_copy 54 = .ok (.getfield 42, 3) := by decide +kernel
theorem dX2_copy_57 : decode cX2_copy 57 = .ok (.iload_n 1, 1) := by decide +kernel
theorem dX2_copy_58 : decode cX2_copy 58 = .ok (.iaload, 1) := by decide +kernel
theorem dX2_copy_59 : decode cX2_copy 59 = .ok (.iastore, 1) := by decide +kernel
theorem dX2_copy_60 : decode cX2_copy 60 = .ok (.return_, 1) := by decide +kernel
theorem dX2_count_0 : decode cX2_count 0 = .ok (.iconst 0, 1) := by decide +kernel
theorem dX2_count_1 : decode cX2_count 1 = .ok (.istore_n 2, 1) := by decide +kernel
theorem dX2_count_2 : decode cX2_count 2 = .ok (.iconst 0, 1) := by decide +kernel
theorem dX2_count_3 : decode cX2_count 3 = .ok (.istore_n 3, 1) := by decide +kernel
theorem dX2_count_4 : decode cX2_count 4 = .ok (.iload_n 3, 1) := by decide +kernel
theorem dX2_count_5 : decode cX2_count 5 = .ok (.aload_n 0, 1) := by decide +kernel
theorem dX2_count_6 : decode cX2_count 6 = .ok (.getfield 71, 3) := by decide +kernel
theorem dX2_count_9 : decode cX2_count 9 = .ok (.if_icmp .ge 27, 3) := by decide +kernel
theorem dX2_count_12 : decode cX2_count 12 = .ok (.iload_n 2, 1) := by decide +kernel
theorem dX2_count_13 : decode cX2_count 13 = .ok (.aload_n 0, 1) := by decide +kernel
theorem dX2_count_14 : decode cX2_count 14 = .ok (.getfield 30, 3) := by decide +kernel
theorem dX2_count_17 : decode cX2_count 17 = .ok (.iload_n 3, 1) := by decide +kernel
theorem dX2_count_18 : decode cX2_count 18 = .ok (.iaload, 1) := by decide +kernel
theorem dX2_count_19 : decode cX2_count 19 = .ok (.iload_n 1, 1) := by decide +kernel
theorem dX2_count_20 : decode cX2_count 20 = .ok (.if_icmp .ne 7, 3) := by decide +kernel
theorem dX2_count_23 : decode cX2_count 23 = .ok (.iconst 1, 1) := by decide +kernel
theorem dX2_count_24 : decode cX2_count 24 = .ok (.goto 4, 3) := by decide +kernel
theorem dX2_count_27 : decode cX2_count 27 = .ok (.iconst 0, 1) := by decide +kernel
theorem dX2_count_28 : decode cX2_count 28 = .ok (.iadd, 1) := by decide +kernel
theorem dX2_count_29 : decode cX2_count 29 = .ok (.istore_n 2, 1) := by decide +kernel
theorem dX2_count_30 : decode cX2_count 30 = .ok (.iinc 3 1, 3) := by decide +kernel
theorem dX2_count_33 : decode cX2_count 33 = .ok (.goto (-29), 3) := by decide +kernel
theorem dX2_count_36 : decode cX2_count 36 = .ok (.iload_n 2, 1) := by decide +kernel
theorem dX2_count_37 : decode cX2_count 37 = .ok (.ireturn, 1) := by decide +kernel
theorem dX2_entryOf_0 : decode cX2_entryOf 0 = .ok (.iload_n 2, 1) := by decide +kernel
theorem dX2_entryOf_1 : decode cX2_entryOf 1 = .ok (.istore_n 3, 1) := by decide +kernel
theorem dX2_entryOf_2 : decode cX2_entryOf 2 = .ok (.iconst 0, 1) := by decide +kernel
theorem dX2_entryOf_3 : decode cX2_entryOf 3 = .ok (.istore 4, 2) := by decide +kernel
theorem dX2_entryOf_5 : decode cX2_entryOf 5 = .ok (.aload_n 0, 1) := by decide +kernel
theorem dX2_entryOf_6 : decode cX2_entryOf 6 = .ok (.getfield 30, 3) := by decide +kernel
theorem dX2_entryOf_9 : decode cX2_entryOf 9 = .ok (.iload 4, 2) := by decide +kernel
theorem dX2_entryOf_11 : decode cX2_entryOf 11 = .ok (.iaload, 1) := by decide +kernel
theorem dX2_entryOf_12 : decode cX2_entryOf 12 = .ok (.iload_n 1, 1) := by decide +kernel
theorem dX2_entryOf_13 : decode cX2_entryOf 13 = .ok (.if_icmp .ne 7, 3) := by decide +kernel
theorem dX2_entryOf_16 : decode cX2_entryOf 16 = .ok (.iload_n 3, 1) := by decide +kernel
theorem dX2_entryOf_17 : decode cX2_entryOf 17 = .ok (.ifCond .le 28, 3) := by decide +kernel
theorem dX2_entryOf_20 : decode cX2_entryOf 20 = .ok (.iload_n 3, 1) := by decide +kernel
theorem dX2_entryOf_21 : decode cX2_entryOf 21 = .ok (.aload_n 0, 1) := by decide +kernel
theorem dX2_entryOf_22 : decode cX2_entryOf 22 = .ok (.getfield 30, 3) := by decide +kernel
theorem dX2_entryOf_25 : decode cX2_entryOf 25 = .ok (.iload 4, 2) := by decide +kernel
theorem dX2_entryOf_27 : decode cX2_entryOf 27 = .ok (.iaload, 1) := by decide +kernel
theorem dX2_entryOf_28 : decode cX2_entryOf 28 = .ok (.iload_n 1, 1) := by decide +kernel
theorem dX2_entryOf_29 : decode cX2_entryOf 29 = .ok (.if_icmp .ne 7, 3) := by decide +kernel
theorem dX2_entryOf_32 : decode cX2_entryOf 32 = .ok (.iconst 1, 1) := by decide +kernel
theorem dX2_entryOf_33 : decode cX2_entryOf 33 = .ok (.goto 4, 3) := by decide +kernel
theorem dX2_entryOf_36 : decode cX2_entryOf 36 = .ok (.iconst 0, 1) := by decide +kernel
theorem dX2_entryOf_37 : decode cX2_entryOf 37 = .ok (.isub, 1) := by decide +kernel
theorem dX2_entryOf_38 : decode cX2_entryOf 38 = .ok (.istore_n 3, 1) := by decide +kernel
theorem dX2_entryOf_39 : decode cX2_entryOf 39 = .ok (.iinc 4 1, 3) := by decide +kernel
theorem dX2_entryOf_42 : decode cX2_entryOf 42 = .ok (.goto (-37), 3) := by decide +kernel
theorem dX2_entryOf_45 : decode cX2_entryOf 45 = .ok (.iload 4, 2) := by decide +kernel
theorem dX2_entryOf_47 : decode cX2_entryOf 47 = .ok (.ireturn, 1) := by decide +kernel
theorem dX2_append_0 : decode cX2_append 0 = .ok (.aload_n 0, 1) := by decide +kernel
theorem dX2_append_1 : decode cX2_append 1 = .ok (.iload_n 1, 1) := by decide +kernel
theorem dX2_append_2 : decode cX2_append 2 = .ok (.invokestatic 78, 3) := by decide +kernel
theorem dX2_append_5 : decode cX2_append 5 = .ok (.ifCond .eq 19, 3) := by decide +kernel
theorem dX2_append_8 : decode cX2_append 8 = .ok (.iload_n 2, 1) := by decide +kernel
theorem dX2_append_9 : decode cX2_append 9 = .ok (.iconst 1, 1) := by decide +kernel
theorem dX2_append_10 : decode cX2_append 10 = .ok (.if_icmp .lt 14, 3) := by decide +kernel
theorem dX2_append_13 : decode cX2_append 13 = .ok (.iload_n 2, 1) := by decide +kernel
theorem dX2_append_14 : decode cX2_append 14 = .ok (.sipush 20000, 3) := by decide +kernel
theorem dX2_append_17 : decode cX2_append 17 = .ok (.if_icmp .gt 7, 3) := by decide +kernel
theorem dX2_append_20 : decode cX2_append 20 = .ok (.iconst 1, 1) := by decide +kernel
theorem dX2_append_21 : decode cX2_append 21 = .ok (.goto 4, 3) := by decide +kernel
theorem dX2_append_24 : decode cX2_append 24 = .ok (.iconst 0, 1) := by decide +kernel
theorem dX2_append_25 : decode cX2_append 25 = .ok (.invokevirtual 82, 3) := by decide +kernel
theorem dX2_append_28 : decode cX2_append 28 = .ok (.ifCond .ne 5, 3) := by decide +kernel
theorem dX2_append_31 : decode cX2_append 31 = .ok (.iconst 0, 1) := by decide +kernel
theorem dX2_append_32 : decode cX2_append 32 = .ok (.ireturn, 1) := by decide +kernel
theorem dX2_append_33 : decode cX2_append 33 = .ok (.iload_n 2, 1) := by decide +kernel
theorem dX2_append_34 : decode cX2_append 34 = .ok (.iconst 4, 1) := by decide +kernel
theorem dX2_append_35 : decode cX2_append 35 = .ok (.iadd, 1) := by decide +kernel
theorem dX2_append_36 : decode cX2_append 36 = .ok (.istore 4, 2) := by decide +kernel
theorem dX2_append_38 : decode cX2_append 38 = .ok (.iload 4, 2) := by decide +kernel
theorem dX2_append_40 : decode cX2_append 40 = .ok (.sipush 1024, 3) := by decide +kernel
theorem dX2_append_43 : decode cX2_append 43 = .ok (.aload_n 0, 1) := by decide +kernel
theorem dX2_append_44 : decode cX2_append 44 = .ok (.getfield 51, 3) := by decide +kernel
theorem dX2_append_47 : decode cX2_append 47 = .ok (.imul, 1) := by decide +kernel
theorem dX2_append_48 : decode cX2_append 48 = .ok (.if_icmp .le 6, 3) := by decide +kernel
theorem dX2_append_51 : decode cX2_append 51 = .ok (.bipush (-5), 2) := by decide +kernel
theorem dX2_append_53 : decode cX2_append 53 = .ok (.ireturn, 1) := by decide +kernel
theorem dX2_append_54 : decode cX2_append 54 = .ok (.bipush 60, 2) := by decide +kernel
theorem dX2_append_56 : decode cX2_append 56 = .ok (.iload_n 1, 1) := by decide +kernel
theorem dX2_append_57 : decode cX2_append 57 = .ok (.imul, 1) := by decide +kernel
theorem dX2_append_58 : decode cX2_append 58 = .ok (.aload_n 0, 1) := by decide +kernel
theorem dX2_append_59 : decode cX2_append 59 = .ok (.getfield 13, 3) := by decide +kernel
theorem dX2_append_62 : decode cX2_append 62 = .ok (.iload_n 1, 1) := by decide +kernel
theorem dX2_append_63 : decode cX2_append 63 = .ok (.iaload, 1) := by decide +kernel
theorem dX2_append_64 : decode cX2_append 64 = .ok (.iadd, 1) := by decide +kernel
theorem dX2_append_65 : decode cX2_append 65 = .ok (.iconst 1, 1) := by decide +kernel
theorem dX2_append_66 : decode cX2_append 66 = .ok (.isub, 1) := by decide +kernel
theorem dX2_append_67 : decode cX2_append 67 = .ok (.istore 5, 2) := by decide +kernel
theorem dX2_append_69 : decode cX2_append 69 = .ok (.aload_n 0, 1) := by decide +kernel
theorem dX2_append_70 : decode cX2_append 70 = .ok (.getfield 13, 3) := by decide +kernel
theorem dX2_append_73 : decode cX2_append 73 = .ok (.iload_n 1, 1) := by decide +kernel
theorem dX2_append_74 : decode cX2_append 74 = .ok (.iaload, 1) := by decide +kernel
theorem dX2_append_75 : decode cX2_append 75 = .ok (.ifCond .le 28, 3) := by decide +kernel
theorem dX2_append_78 : decode cX2_append 78 = .ok (.aload_n 0, 1) := by decide +kernel
theorem dX2_append_79 : decode cX2_append 79 = .ok (.getfield 20, 3) := by decide +kernel
theorem dX2_append_82 : decode cX2_append 82 = .ok (.iload 5, 2) := by decide +kernel
theorem dX2_append_84 : decode cX2_append 84 = .ok (.iaload, 1) := by decide +kernel
theorem dX2_append_85 : decode cX2_append 85 = .ok (.iload 4, 2) := by decide +kernel
theorem dX2_append_87 : decode cX2_append 87 = .ok (.iadd, 1) := by decide +kernel
theorem dX2_append_88 : decode cX2_append 88 = .ok (.sipush 1024, 3) := by decide +kernel
theorem dX2_append_91 : decode cX2_append 91 = .ok (.aload_n 0, 1) := by decide +kernel
theorem dX2_append_92 : decode cX2_append 92 = .ok (.getfield 51, 3) := by decide +kernel
theorem dX2_append_95 : decode cX2_append 95 = .ok (.imul, 1) := by decide +kernel
theorem dX2_append_96 : decode cX2_append 96 = .ok (.if_icmp .gt 7, 3) := by decide +kernel
theorem dX2_append_99 : decode cX2_append 99 = .ok (.iconst 1, 1) := by decide +kernel
theorem dX2_append_100 : decode cX2_append 100 = .ok (.goto 4, 3) := by decide +kernel
theorem dX2_append_103 : decode cX2_append 103 = .ok (.iconst 0, 1) := by decide +kernel
theorem dX2_append_104 : decode cX2_append 104 = .ok (.istore 6, 2) := by decide +kernel
theorem dX2_append_106 : decode cX2_append 106 = .ok (.aload_n 0, 1) := by decide +kernel
theorem dX2_append_107 : decode cX2_append 107 = .ok (.invokevirtual 86, 3) := by decide +kernel
theorem dX2_append_110 : decode cX2_append 110 = .ok (.iload 6, 2) := by decide +kernel
theorem dX2_append_112 : decode cX2_append 112 = .ok (.ifCond .eq 13, 3) := by decide +kernel
theorem dX2_append_115 : decode cX2_append 115 = .ok (.aload_n 0, 1) := by decide +kernel
theorem dX2_append_116 : decode cX2_append 116 = .ok (.getfield 17, 3) := by decide +kernel
theorem dX2_append_119 : decode cX2_append 119 = .ok (.iload 5, 2) := by decide +kernel
theorem dX2_append_121 : decode cX2_append 121 = .ok (.iaload, 1) := by decide +kernel
theorem dX2_append_122 : decode cX2_append 122 = .ok (.goto 22, 3) := by decide +kernel
theorem dX2_append_125 : decode cX2_append 125 = .ok (.aload_n 0, 1) := by decide +kernel
theorem dX2_append_126 : decode cX2_append 126 = .ok (.getfield 13, 3) := by decide +kernel
theorem dX2_append_129 : decode cX2_append 129 = .ok (.iload_n 1, 1) := by decide +kernel
theorem dX2_append_130 : decode cX2_append 130 = .ok (.iaload, 1) := by decide +kernel
theorem dX2_append_131 : decode cX2_append 131 = .ok (.bipush 60, 2) := by decide +kernel
theorem dX2_append_133 : decode cX2_append 133 = .ok (.if_icmp .ne 7, 3) := by decide +kernel
theorem dX2_append_136 : decode cX2_append 136 = .ok (.iconst (-1), 1) := by decide +kernel
theorem dX2_append_137 : decode cX2_append 137 = .ok (.goto 7, 3) := by decide +kernel
theorem dX2_append_140 : decode cX2_append 140 = .ok (.aload_n 0, 1) := by decide +kernel
theorem dX2_append_141 : decode cX2_append 141 = .ok (.invokevirtual 89, 3) := by decide +kernel
theorem dX2_append_144 : decode cX2_append 144 = .ok (.istore 7, 2) := by decide +kernel
theorem dX2_append_146 : decode cX2_append 146 = .ok (.iload 7, 2) := by decide +kernel
theorem dX2_append_148 : decode cX2_append 148 = .ok (.ifCond .ge 6, 3) := by decide +kernel
theorem dX2_append_151 : decode cX2_append 151 = .ok (.bipush (-2), 2) := by decide +kernel
theorem dX2_append_153 : decode cX2_append 153 = .ok (.ireturn, 1) := by decide +kernel
theorem dX2_append_154 : decode cX2_append 154 = .ok (.iload 6, 2) := by decide +kernel
theorem dX2_append_156 : decode cX2_append 156 = .ok (.ifCond .eq 13, 3) := by decide +kernel
theorem dX2_append_159 : decode cX2_append 159 = .ok (.aload_n 0, 1) := by decide +kernel
theorem dX2_append_160 : decode cX2_append 160 = .ok (.getfield 20, 3) := by decide +kernel
theorem dX2_append_163 : decode cX2_append 163 = .ok (.iload 5, 2) := by decide +kernel
theorem dX2_append_165 : decode cX2_append 165 = .ok (.iaload, 1) := by decide +kernel
theorem dX2_append_166 : decode cX2_append 166 = .ok (.goto 4, 3) := by decide +kernel
theorem dX2_append_169 : decode cX2_append 169 = .ok (.iconst 0, 1) := by decide +kernel
theorem dX2_append_170 : decode cX2_append 170 = .ok (.istore 8, 2) := by decide +kernel
theorem dX2_append_172 : decode cX2_append 172 = .ok (.iload 8, 2) := by decide +kernel
theorem dX2_append_174 : decode cX2_append 174 = .ok (.iload 4, 2) := by decide +kernel
theorem dX2_append_176 : decode cX2_append 176 = .ok (.invokestatic 93, 3) := by decide +kernel
theorem dX2_append_179 : decode cX2_append 179 = .ok (.iconst 1, 1) := by decide +kernel
theorem dX2_append_180 : decode cX2_append 180 = .ok (.iadd, 1) := by decide +kernel
theorem dX2_append_181 : decode cX2_append 181 = .ok (.istore 9, 2) := by decide +kernel
theorem dX2_append_183 : decode cX2_append 183 = .ok (.aload_n 0, 1) := by decide +kernel
theorem dX2_append_184 : decode cX2_append 184 = .ok (.iload 9, 2) := by decide +kernel
theorem dX2_append_186 : decode cX2_append 186 = .ok (.invokevirtual 97, 3) := by decide +kernel
theorem dX2_append_189 : decode cX2_append 189 = .ok (.ifCond .eq 81, 3) := by decide +kernel
theorem dX2_append_192 : decode cX2_append 192 = .ok (.iload 6, 2) := by decide +kernel
theorem dX2_append_194 : decode cX2_append 194 = .ok (.ifCond .ne 43, 3) := by decide +kernel
theorem dX2_append_197 : decode cX2_append 197 = .ok (.bipush 60, 2) := by decide +kernel
theorem dX2_append_199 : decode cX2_append 199 = .ok (.iload_n 1, 1) := by decide +kernel
theorem dX2_append_200 : decode cX2_append 200 = .ok (.imul, 1) := by decide +kernel
theorem dX2_append_201 : decode cX2_append 201 = .ok (.aload_n 0, 1) := by decide +kernel
theorem dX2_append_202 : decode cX2_append 202 = .ok (.getfield 13, 3) := by decide +kernel
theorem dX2_append_205 : decode cX2_append 205 = .ok (.iload_n 1, 1) := by decide +kernel
theorem dX2_append_206 : decode cX2_append 206 = .ok (.iaload, 1) := by decide +kernel
theorem dX2_append_207 : decode cX2_append 207 = .ok (.iadd, 1) := by decide +kernel
theorem dX2_append_208 : decode cX2_append 208 = .ok (.istore 5, 2) := by decide +kernel
theorem dX2_append_210 : decode cX2_append 210 = .ok (.aload_n 0, 1) := by decide +kernel
theorem dX2_append_211 : decode cX2_append 211 = .ok (.getfield 17, 3) := by decide +kernel
theorem dX2_append_214 : decode cX2_append 214 = .ok (.iload 5, 2) := by decide +kernel
theorem dX2_append_216 : decode cX2_append 216 = .ok (.iload 7, 2) := by decide +kernel
theorem dX2_append_218 : decode cX2_append 218 = .ok (.iastore, 1) := by decide +kernel
theorem dX2_append_219 : decode cX2_append 219 = .ok (.aload_n 0, 1) := by decide +kernel
theorem dX2_append_220 : decode cX2_append 220 = .ok (.getfield 20, 3) := by decide +kernel
theorem dX2_append_223 : decode cX2_append 223 = .ok (.iload 5, 2) := by decide +kernel
theorem dX2_append_225 : decode cX2_append 225 = .ok (.iconst 0, 1) := by decide +kernel
theorem dX2_append_226 : decode cX2_append 226 = .ok (.iastore, 1) := by decide +kernel
theorem dX2_append_227 : decode cX2_append 227 = .ok (.aload_n 0, 1) := by decide +kernel
theorem dX2_append_228 : decode cX2_append 228 = .ok (.getfield 13, 3) := by decide +kernel
theorem dX2_append_231 : decode cX2_append 231 = .ok (.iload_n 1, 1) := by decide +kernel
theorem dX2_append_232 : decode cX2_append 232 = .ok (.dup2, 1) := by decide +kernel
theorem dX2_append_233 : decode cX2_append 233 = .ok (.iaload, 1) := by decide +kernel
theorem dX2_append_234 : decode cX2_append 234 = .ok (.iconst 1, 1) := by decide +kernel
theorem dX2_append_235 : decode cX2_append 235 = .ok (.iadd, 1) := by decide +kernel
theorem dX2_append_236 : decode cX2_append 236 = .ok (.iastore, 1) := by decide +kernel
theorem dX2_append_237 : decode cX2_append 237 = .ok (.aload_n 0, 1) := by decide +kernel
theorem dX2_append_238 : decode cX2_append 238 = .ok (.getfield 20, 3) := by decide +kernel
theorem dX2_append_241 : decode cX2_append 241 = .ok (.iload 5, 2) := by decide +kernel
theorem dX2_append_243 : decode cX2_append 243 = .ok (.dup2, 1) := by decide +kernel
theorem dX2_append_244 : decode cX2_append 244 = .ok (.iaload, 1) := by decide +kernel
theorem dX2_append_245 : decode cX2_append 245 = .ok (.iload 4, 2) := by decide +kernel
theorem dX2_append_247 : decode cX2_append 247 = .ok (.iadd, 1) := by decide +kernel
theorem dX2_append_248 : decode cX2_append 248 = .ok (.iastore, 1) := by decide +kernel
theorem dX2_append_249 : decode cX2_append 249 = .ok (.aload_n 0, 1) := by decide +kernel
theorem dX2_append_250 : decode cX2_append 250 = .ok (.getfield 23, 3) := by decide +kernel
theorem dX2_append_253 : decode cX2_append 253 = .ok (.iload_n 1, 1) := by decide +kernel
theorem dX2_append_254 : decode cX2_append 254 = .ok (.dup2, 1) := by decide +kernel
theorem dX2_append_255 : decode cX2_append 255 = .ok (.iaload, 1) := by decide +kernel
theorem dX2_append_256 : decode cX2_append 256 = .ok (.iconst 1, 1) := by decide +kernel
theorem dX2_append_257 : decode cX2_append 257 = .ok (.iadd, 1) := by decide +kernel
theorem dX2_append_258 : decode cX2_append 258 = .ok (.iastore, 1) := by decide +kernel
theorem dX2_append_259 : decode cX2_append 259 = .ok (.aload_n 0, 1) := by decide +kernel
theorem dX2_append_260 : decode cX2_append 260 = .ok (.iload_n 1, 1) := by decide +kernel
theorem dX2_append_261 : decode cX2_append 261 = .ok (.iload_n 2, 1) := by decide +kernel
theorem dX2_append_262 : decode cX2_append 262 = .ok (.iload_n 3, 1) := by decide +kernel
theorem dX2_append_263 : decode cX2_append 263 = .ok (.iload 7, 2) := by decide +kernel
theorem dX2_append_265 : decode cX2_append 265 = .ok (.iload 8, 2) := by decide +kernel
theorem dX2_append_267 : decode cX2_append 267 = .ok (.invokevirtual 100, 3) := by decide +kernel
theorem dX2_append_270 : decode cX2_append 270 = .ok (.aload_n 0, 1) := by decide +kernel
theorem dX2_append_271 : decode cX2_append 271 = .ok (.getfield 60, 3) := by decide +kernel
theorem dX2_append_274 : decode cX2_append 274 = .ok (.ifCond .eq 8, 3) := by decide +kernel
theorem dX2_append_277 : decode cX2_append 277 = .ok (.bipush (-3), 2) := by decide +kernel
theorem dX2_append_279 : decode cX2_append 279 = .ok (.goto 5, 3) := by decide +kernel
theorem dX2_append_282 : decode cX2_append 282 = .ok (.iload 9, 2) := by decide +kernel
theorem dX2_append_284 : decode cX2_append 284 = .ok (.ireturn, 1) := by decide +kernel
theorem dX2_sum_0 : decode cX2_sum 0 = .ok (.iconst 0, 1) := by decide +kernel
theorem dX2_sum_1 : decode cX2_sum 1 = .ok (.istore_n 2, 1) := by decide +kernel
theorem dX2_sum_2 : decode cX2_sum 2 = .ok (.iconst 0, 1) := by decide +kernel
theorem dX2_sum_3 : decode cX2_sum 3 = .ok (.istore_n 3, 1) := by decide +kernel
theorem dX2_sum_4 : decode cX2_sum 4 = .ok (.iload_n 3, 1) := by decide +kernel
theorem dX2_sum_5 : decode cX2_sum 5 = .ok (.aload_n 0, 1) := by decide +kernel
theorem dX2_sum_6 : decode cX2_sum 6 = .ok (.getfield 13, 3) := by decide +kernel
theorem dX2_sum_9 : decode cX2_sum 9 = .ok (.iload_n 1, 1) := by decide +kernel
theorem dX2_sum_10 : decode cX2_sum 10 = .ok (.iaload, 1) := by decide +kernel
theorem dX2_sum_11 : decode cX2_sum 11 = .ok (.if_icmp .ge 23, 3) := by decide +kernel
theorem dX2_sum_14 : decode cX2_sum 14 = .ok (.iload_n 2, 1) := by decide +kernel
theorem dX2_sum_15 : decode cX2_sum 15 = .ok (.aload_n 0, 1) := by decide +kernel
theorem dX2_sum_16 : decode cX2_sum 16 = .ok (.getfield 20, 3) := by decide +kernel
theorem dX2_sum_19 : decode cX2_sum 19 = .ok (.bipush 60, 2) := by decide +kernel
theorem dX2_sum_21 : decode cX2_sum 21 = .ok (.iload_n 1, 1) := by decide +kernel
theorem dX2_sum_22 : decode cX2_sum 22 = .ok (.imul, 1) := by decide +kernel
theorem dX2_sum_23 : decode cX2_sum 23 = .ok (.iload_n 3, 1) := by decide +kernel
theorem dX2_sum_24 : decode cX2_sum 24 = .ok (.iadd, 1) := by decide +kernel
theorem dX2_sum_25 : decode cX2_sum 25 = .ok (.iaload, 1) := by decide +kernel
theorem dX2_sum_26 : decode cX2_sum 26 = .ok (.iadd, 1) := by decide +kernel
theorem dX2_sum_27 : decode cX2_sum 27 = .ok (.istore_n 2, 1) := by decide +kernel
theorem dX2_sum_28 : decode cX2_sum 28 = .ok (.iinc 3 1, 3) := by decide +kernel
theorem dX2_sum_31 : decode cX2_sum 31 = .ok (.goto (-27), 3) := by decide +kernel
theorem dX2_sum_34 : decode cX2_sum 34 = .ok (.iload_n 2, 1) := by decide +kernel
theorem dX2_sum_35 : decode cX2_sum 35 = .ok (.ireturn, 1) := by decide +kernel
theorem dX2_inSegment_0 : decode cX2_inSegment 0 = .ok (.iconst 0, 1) := by decide +kernel
theorem dX2_inSegment_1 : decode cX2_inSegment 1 = .ok (.istore_n 3, 1) := by decide +kernel
theorem dX2_inSegment_2 : decode cX2_inSegment 2 = .ok (.iconst 0, 1) := by decide +kernel
theorem dX2_inSegment_3 : decode cX2_inSegment 3 = .ok (.istore 4, 2) := by decide +kernel
theorem dX2_inSegment_5 : decode cX2_inSegment 5 = .ok (.iload 4, 2) := by decide +kernel
theorem dX2_inSegment_7 : decode cX2_inSegment 7 = .ok (.aload_n 0, 1) := by decide +kernel
theorem dX2_inSegment_8 : decode cX2_inSegment 8 = .ok (.getfield 71, 3) := by decide +kernel
theorem dX2_inSegment_11 : decode cX2_inSegment 11 = .ok (.if_icmp .ge 49, 3) := by decide +kernel
theorem dX2_inSegment_14 : decode cX2_inSegment 14 = .ok (.iload_n 3, 1) := by decide +kernel
theorem dX2_inSegment_15 : decode cX2_inSegment 15 = .ok (.aload_n 0, 1) := by decide +kernel
theorem dX2_inSegment_16 : decode cX2_inSegment 16 = .ok (.getfield 30, 3) := by decide +kernel
theorem dX2_inSegment_19 : decode cX2_inSegment 19 = .ok (.iload 4, 2) := by decide +kernel
theorem dX2_inSegment_21 : decode cX2_inSegment 21 = .ok (.iaload, 1) := by decide +kernel
theorem dX2_inSegment_22 : decode cX2_inSegment 22 = .ok (.iload_n 1, 1) := by decide +kernel
theorem dX2_inSegment_23 : decode cX2_inSegment 23 = .ok (.if_icmp .ne 28, 3) := by decide +kernel
theorem dX2_inSegment_26 : decode cX2_inSegment 26 = .ok (.aload_n 0, 1) := by decide +kernel
theorem dX2_inSegment_27 : decode cX2_inSegment 27 = .ok (.getfield 39, 3) := by decide +kernel
theorem dX2_inSegment_30 : decode cX2_inSegment 30 = .ok (.iload 4, 2) := by decide +kernel
theorem dX2_inSegment_32 : decode cX2_inSegment 32 = .ok (.iaload, 1) := by decide +kernel
theorem dX2_inSegment_33 : decode cX2_inSegment 33 = .ok (.aload_n 0, 1) := by decide +kernel
theorem dX2_inSegment_34 : decode cX2_inSegment 34 = .ok (.getfield 17, 3) := by decide +kernel
theorem dX2_inSegment_37 : decode cX2_inSegment 37 = .ok (.bipush 60, 2) := by decide +kernel
theorem dX2_inSegment_39 : decode cX2_inSegment 39 = .ok (.iload_n 1, 1) := by decide +kernel
theorem dX2_inSegment_40 : decode cX2_inSegment 40 = .ok (.imul, 1) := by decide +kernel
theorem dX2_inSegment_41 : decode cX2_inSegment 41 = .ok (.iload_n 2, 1) := by decide +kernel
theorem dX2_inSegment_42 : decode cX2_inSegment 42 = .ok (.iadd, 1) := by decide +kernel
theorem dX2_inSegment_43 : decode cX2_inSegment 43 = .ok (.iaload, 1) := by decide +kernel
theorem dX2_inSegment_44 : decode cX2_inSegment 44 = .ok (.if_icmp .ne 7, 3) := by decide +kernel
theorem dX2_inSegment_47 : decode cX2_inSegment 47 = .ok (.iconst 1, 1) := by decide +kernel
theorem dX2_inSegment_48 : decode cX2_inSegment 48 = .ok (.goto 4, 3) := by decide +kernel
theorem dX2_inSegment_51 : decode cX2_inSegment 51 = .ok (.iconst 0, 1) := by decide +kernel
theorem dX2_inSegment_52 : decode cX2_inSegment 52 = .ok (.iadd, 1) := by decide +kernel
theorem dX2_inSegment_53 : decode cX2_inSegment 53 = .ok (.istore_n 3, 1) := by decide +kernel
theorem dX2_inSegment_54 : decode cX2_inSegment 54 = .ok (.iinc 4 1, 3) := by decide +kernel
theorem dX2_inSegment_57 : decode cX2_inSegment 57 = .ok (.goto (-52), 3) := by decide +kernel
theorem dX2_inSegment_60 : decode cX2_inSegment 60 = .ok (.iload_n 3, 1) := by decide +kernel
theorem dX2_inSegment_61 : decode cX2_inSegment 61 = .ok (.ireturn, 1) := by decide +kernel
theorem dX2_retain_0 : decode cX2_retain 0 = .ok (.aload_n 0, 1) := by decide +kernel
theorem dX2_retain_1 : decode cX2_retain 1 = .ok (.iload_n 1, 1) := by decide +kernel
theorem dX2_retain_2 : decode cX2_retain 2 = .ok (.invokestatic 78, 3) := by decide +kernel
theorem dX2_retain_5 : decode cX2_retain 5 = .ok (.ifCond .eq 11, 3) := by decide +kernel
theorem dX2_retain_8 : decode cX2_retain 8 = .ok (.iload_n 2, 1) := by decide +kernel
theorem dX2_retain_9 : decode cX2_retain 9 = .ok (.ifCond .lt 7, 3) := by decide +kernel
theorem dX2_retain_12 : decode cX2_retain 12 = .ok (.iconst 1, 1) := by decide +kernel
theorem dX2_retain_13 : decode cX2_retain 13 = .ok (.goto 4, 3) := by decide +kernel
theorem dX2_retain_16 : decode cX2_retain 16 = .ok (.iconst 0, 1) := by decide +kernel
theorem dX2_retain_17 : decode cX2_retain 17 = .ok (.invokevirtual 82, 3) := by decide +kernel
theorem dX2_retain_20 : decode cX2_retain 20 = .ok (.ifCond .ne 5, 3) := by decide +kernel
theorem dX2_retain_23 : decode cX2_retain 23 = .ok (.iconst 0, 1) := by decide +kernel
theorem dX2_retain_24 : decode cX2_retain 24 = .ok (.ireturn, 1) := by decide +kernel
theorem dX2_retain_25 : decode cX2_retain 25 = .ok (.iconst 0, 1) := by decide +kernel
theorem dX2_retain_26 : decode cX2_retain 26 = .ok (.istore_n 3, 1) := by decide +kernel
theorem dX2_retain_27 : decode cX2_retain 27 = .ok (.iconst 0, 1) := by decide +kernel
theorem dX2_retain_28 : decode cX2_retain 28 = .ok (.istore 4, 2) := by decide +kernel
theorem dX2_retain_30 : decode cX2_retain 30 = .ok (.aload_n 0, 1) := by decide +kernel
theorem dX2_retain_31 : decode cX2_retain 31 = .ok (.iload_n 1, 1) := by decide +kernel
theorem dX2_retain_32 : decode cX2_retain 32 = .ok (.invokevirtual 104, 3) := by decide +kernel
theorem dX2_retain_35 : decode cX2_retain 35 = .ok (.istore 5, 2) := by decide +kernel
theorem dX2_retain_37 : decode cX2_retain 37 = .ok (.iconst 1, 1) := by decide +kernel
theorem dX2_retain_38 : decode cX2_retain 38 = .ok (.istore 6, 2) := by decide +kernel
theorem dX2_retain_40 : decode cX2_retain 40 = .ok (.iload 6, 2) := by decide +kernel
theorem dX2_retain_42 : decode cX2_retain 42 = .ok (.ifCond .eq 78, 3) := by decide +kernel
theorem dX2_retain_45 : decode cX2_retain 45 = .ok (.iload_n 3, 1) := by decide +kernel
theorem dX2_retain_46 : decode cX2_retain 46 = .ok (.iconst 1, 1) := by decide +kernel
theorem dX2_retain_47 : decode cX2_retain 47 = .ok (.iadd, 1) := by decide +kernel
theorem dX2_retain_48 : decode cX2_retain 48 = .ok (.aload_n 0, 1) := by decide +kernel
theorem dX2_retain_49 : decode cX2_retain 49 = .ok (.getfield 13, 3) := by decide +kernel
theorem dX2_retain_52 : decode cX2_retain 52 = .ok (.iload_n 1, 1) := by decide +kernel
theorem dX2_retain_53 : decode cX2_retain 53 = .ok (.iaload, 1) := by decide +kernel
theorem dX2_retain_54 : decode cX2_retain 54 = .ok (.if_icmp .ge 25, 3) := by decide +kernel
theorem dX2_retain_57 : decode cX2_retain 57 = .ok (.iload 5, 2) := by decide +kernel
theorem dX2_retain_59 : decode cX2_retain 59 = .ok (.aload_n 0, 1) := by decide +kernel
theorem dX2_retain_60 : decode cX2_retain 60 = .ok (.getfield 20, 3) := by decide +kernel
theorem dX2_retain_63 : decode cX2_retain 63 = .ok (.bipush 60, 2) := by decide +kernel
theorem dX2_retain_65 : decode cX2_retain 65 = .ok (.iload_n 1, 1) := by decide +kernel
theorem dX2_retain_66 : decode cX2_retain 66 = .ok (.imul, 1) := by decide +kernel
theorem dX2_retain_67 : decode cX2_retain 67 = .ok (.iload_n 3, 1) := by decide +kernel
theorem dX2_retain_68 : decode cX2_retain 68 = .ok (.iadd, 1) := by decide +kernel
theorem dX2_retain_69 : decode cX2_retain 69 = .ok (.iaload, 1) := by decide +kernel
theorem dX2_retain_70 : decode cX2_retain 70 = .ok (.isub, 1) := by decide +kernel
theorem dX2_retain_71 : decode cX2_retain 71 = .ok (.iload_n 2, 1) := by decide +kernel
theorem dX2_retain_72 : decode cX2_retain 72 = .ok (.if_icmp .lt 7, 3) := by decide +kernel
theorem dX2_retain_75 : decode cX2_retain 75 = .ok (.iconst 1, 1) := by decide +kernel
theorem dX2_retain_76 : decode cX2_retain 76 = .ok (.goto 4, 3) := by decide +kernel
theorem dX2_retain_79 : decode cX2_retain 79 = .ok (.iconst 0, 1) := by decide +kernel
theorem dX2_retain_80 : decode cX2_retain 80 = .ok (.istore 6, 2) := by decide +kernel
theorem dX2_retain_82 : decode cX2_retain 82 = .ok (.iload 6, 2) := by decide +kernel
theorem dX2_retain_84 : decode cX2_retain 84 = .ok (.ifCond .eq (-44), 3) := by decide +kernel
theorem dX2_retain_87 : decode cX2_retain 87 = .ok (.iload 5, 2) := by decide +kernel
theorem dX2_retain_89 : decode cX2_retain 89 = .ok (.aload_n 0, 1) := by decide +kernel
theorem dX2_retain_90 : decode cX2_retain 90 = .ok (.getfield 20, 3) := by decide +kernel
theorem dX2_retain_93 : decode cX2_retain 93 = .ok (.bipush 60, 2) := by decide +kernel
theorem dX2_retain_95 : decode cX2_retain 95 = .ok (.iload_n 1, 1) := by decide +kernel
theorem dX2_retain_96 : decode cX2_retain 96 = .ok (.imul, 1) := by decide +kernel
theorem dX2_retain_97 : decode cX2_retain 97 = .ok (.iload_n 3, 1) := by decide +kernel
theorem dX2_retain_98 : decode cX2_retain 98 = .ok (.iadd, 1) := by decide +kernel
theorem dX2_retain_99 : decode cX2_retain 99 = .ok (.iaload, 1) := by decide +kernel
theorem dX2_retain_100 : decode cX2_retain 100 = .ok (.isub, 1) := by decide +kernel
theorem dX2_retain_101 : decode cX2_retain 101 = .ok (.istore 5, 2) := by decide +kernel
theorem dX2_retain_103 : decode cX2_retain 103 = .ok (.iload 4, 2) := by decide +kernel
theorem dX2_retain_105 : decode cX2_retain 105 = .ok (.aload_n 0, 1) := by decide +kernel
theorem dX2_retain_106 : decode cX2_retain 106 = .ok (.iload_n 1, 1) := by decide +kernel
theorem dX2_retain_107 : decode cX2_retain 107 = .ok (.iload_n 3, 1) := by decide +kernel
theorem dX2_retain_108 : decode cX2_retain 108 = .ok (.invokevirtual 108, 3) := by decide +kernel
theorem dX2_retain_111 : decode cX2_retain 111 = .ok (.iadd, 1) := by decide +kernel
theorem dX2_retain_112 : decode cX2_retain 112 = .ok (.istore 4, 2) := by decide +kernel
theorem dX2_retain_114 : decode cX2_retain 114 = .ok (.iinc 3 1, 3) := by decide +kernel
theorem dX2_retain_117 : decode cX2_retain 117 = .ok (.goto (-77), 3) := by decide +kernel
theorem dX2_retain_120 : decode cX2_retain 120 = .ok (.iload_n 3, 1) := by decide +kernel
theorem dX2_retain_121 : decode cX2_retain 121 = .ok (.ifCond .ne 5, 3) := by decide +kernel
theorem dX2_retain_124 : decode cX2_retain 124 = .ok (.iconst 0, 1) := by decide +kernel
theorem dX2_retain_125 : decode cX2_retain 125 = .ok (.ireturn, 1) := by decide +kernel
theorem dX2_retain_126 : decode cX2_retain 126 = .ok (.aload_n 0, 1) := by decide +kernel
theorem dX2_retain_127 : decode cX2_retain 127 = .ok (.iconst 1, 1) := by decide +kernel
theorem dX2_retain_128 : decode cX2_retain 128 = .ok (.invokevirtual 97, 3) := by decide +kernel
theorem dX2_retain_131 : decode cX2_retain 131 = .ok (.ifCond .eq 177, 3) := by decide +kernel
theorem dX2_retain_134 : decode cX2_retain 134 = .ok (.iload_n 3, 1) := by decide +kernel
theorem dX2_retain_135 : decode cX2_retain 135 = .ok (.istore 7, 2) := by decide +kernel
theorem dX2_retain_137 : decode cX2_retain 137 = .ok (.iload 7, 2) := by decide +kernel
theorem dX2_retain_139 : decode cX2_retain 139 = .ok (.aload_n 0, 1) := by decide +kernel
theorem dX2_retain_140 : decode cX2_retain 140 = .ok (.getfield 13, 3) := by decide +kernel
theorem dX2_retain_143 : decode cX2_retain 143 = .ok (.iload_n 1, 1) := by decide +kernel
theorem dX2_retain_144 : decode cX2_retain 144 = .ok (.iaload, 1) := by decide +kernel
theorem dX2_retain_145 : decode cX2_retain 145 = .ok (.if_icmp .ge 61, 3) := by decide +kernel
theorem dX2_retain_148 : decode cX2_retain 148 = .ok (.aload_n 0, 1) := by decide +kernel
theorem dX2_retain_149 : decode cX2_retain 149 = .ok (.getfield 17, 3) := by decide +kernel
theorem dX2_retain_152 : decode cX2_retain 152 = .ok (.bipush 60, 2) := by decide +kernel
theorem dX2_retain_154 : decode cX2_retain 154 = .ok (.iload_n 1, 1) := by decide +kernel
theorem dX2_retain_155 : decode cX2_retain 155 = .ok (.imul, 1) := by decide +kernel
theorem dX2_retain_156 : decode cX2_retain 156 = .ok (.iload 7, 2) := by decide +kernel
theorem dX2_retain_158 : decode cX2_retain 158 = .ok (.iadd, 1) := by decide +kernel
theorem dX2_retain_159 : decode cX2_retain 159 = .ok (.iload_n 3, 1) := by decide +kernel
theorem dX2_retain_160 : decode cX2_retain 160 = .ok (.isub, 1) := by decide +kernel
theorem dX2_retain_161 : decode cX2_retain 161 = .ok (.aload_n 0, 1) := by decide +kernel
theorem dX2_retain_162 : decode cX2_retain 162 = .ok (.getfield 17, 3) := by decide +kernel
theorem dX2_retain_165 : decode cX2_retain 165 = .ok (.bipush 60, 2) := by decide +kernel
theorem dX2_retain_167 : decode cX2_retain 167 = .ok (.iload_n 1, 1) := by decide +kernel
theorem dX2_retain_168 : decode cX2_retain 168 = .ok (.imul, 1) := by decide +kernel
theorem dX2_retain_169 : decode cX2_retain 169 = .ok (.iload 7, 2) := by decide +kernel
theorem dX2_retain_171 : decode cX2_retain 171 = .ok (.iadd, 1) := by decide +kernel
theorem dX2_retain_172 : decode cX2_retain 172 = .ok (.iaload, 1) := by decide +kernel
theorem dX2_retain_173 : decode cX2_retain 173 = .ok (.iastore, 1) := by decide +kernel
theorem dX2_retain_174 : decode cX2_retain 174 = .ok (.aload_n 0, 1) := by decide +kernel
theorem dX2_retain_175 : decode cX2_retain 175 = .ok (.getfield 20, 3) := by decide +kernel
theorem dX2_retain_178 : decode cX2_retain 178 = .ok (.bipush 60, 2) := by decide +kernel
theorem dX2_retain_180 : decode cX2_retain 180 = .ok (.iload_n 1, 1) := by decide +kernel
theorem dX2_retain_181 : decode cX2_retain 181 = .ok (.imul, 1) := by decide +kernel
theorem dX2_retain_182 : decode cX2_retain 182 = .ok (.iload 7, 2) := by decide +kernel
theorem dX2_retain_184 : decode cX2_retain 184 = .ok (.iadd, 1) := by decide +kernel
theorem dX2_retain_185 : decode cX2_retain 185 = .ok (.iload_n 3, 1) := by decide +kernel
theorem dX2_retain_186 : decode cX2_retain 186 = .ok (.isub, 1) := by decide +kernel
theorem dX2_retain_187 : decode cX2_retain 187 = .ok (.aload_n 0, 1) := by decide +kernel
theorem dX2_retain_188 : decode cX2_retain 188 = .ok (.getfield 20, 3) := by decide +kernel
theorem dX2_retain_191 : decode cX2_retain 191 = .ok (.bipush 60, 2) := by decide +kernel
theorem dX2_retain_193 : decode cX2_retain 193 = .ok (.iload_n 1, 1) := by decide +kernel
theorem dX2_retain_194 : decode cX2_retain 194 = .ok (.imul, 1) := by decide +kernel
theorem dX2_retain_195 : decode cX2_retain 195 = .ok (.iload 7, 2) := by decide +kernel
theorem dX2_retain_197 : decode cX2_retain 197 = .ok (.iadd, 1) := by decide +kernel
theorem dX2_retain_198 : decode cX2_retain 198 = .ok (.iaload, 1) := by decide +kernel
theorem dX2_retain_199 : decode cX2_retain 199 = .ok (.iastore, 1) := by decide +kernel
theorem dX2_retain_200 : decode cX2_retain 200 = .ok (.iinc 7 1, 3) := by decide +kernel
theorem dX2_retain_203 : decode cX2_retain 203 = .ok (.goto (-66), 3) := by decide +kernel
theorem dX2_retain_206 : decode cX2_retain 206 = .ok (.aload_n 0, 1) := by decide +kernel
theorem dX2_retain_207 : decode cX2_retain 207 = .ok (.getfield 13, 3) := by decide +kernel
theorem dX2_retain_210 : decode cX2_retain 210 = .ok (.iload_n 1, 1) := by decide +kernel
theorem dX2_retain_211 : decode cX2_retain 211 = .ok (.dup2, 1) := by decide +kernel
theorem dX2_retain_212 : decode cX2_retain 212 = .ok (.iaload, 1) := by decide +kernel
theorem dX2_retain_213 : decode cX2_retain 213 = .ok (.iload_n 3, 1) := by decide +kernel
theorem dX2_retain_214 : decode cX2_retain 214 = .ok (.isub, 1) := by decide +kernel
theorem dX2_retain_215 : decode cX2_retain 215 = .ok (.iastore, 1) := by decide +kernel
theorem dX2_retain_216 : decode cX2_retain 216 = .ok (.iconst 0, 1) := by decide +kernel
theorem dX2_retain_217 : decode cX2_retain 217 = .ok (.istore 7, 2) := by decide +kernel
theorem dX2_retain_219 : decode cX2_retain 219 = .ok (.iconst 0, 1) := by decide +kernel
theorem dX2_retain_220 : decode cX2_retain 220 = .ok (.istore 8, 2) := by decide +kernel
theorem dX2_retain_222 : decode cX2_retain 222 = .ok (.iconst 0, 1) := by decide +kernel
theorem dX2_retain_223 : decode cX2_retain 223 = .ok (.istore 9, 2) := by decide +kernel
theorem dX2_retain_225 : decode cX2_retain 225 = .ok (.iload 9, 2) := by decide +kernel
theorem dX2_retain_227 : decode cX2_retain 227 = .ok (.aload_n 0, 1) := by decide +kernel
theorem dX2_retain_228 : decode cX2_retain 228 = .ok (.getfield 71, 3) := by decide +kernel
theorem dX2_retain_231 : decode cX2_retain 231 = .ok (.if_icmp .ge 71, 3) := by decide +kernel
theorem dX2_retain_234 : decode cX2_retain 234 = .ok (.aload_n 0, 1) := by decide +kernel
theorem dX2_retain_235 : decode cX2_retain 235 = .ok (.getfield 30, 3) := by decide +kernel
theorem dX2_retain_238 : decode cX2_retain 238 = .ok (.iload 9, 2) := by decide +kernel
theorem dX2_retain_240 : decode cX2_retain 240 = .ok (.iaload, 1) := by decide +kernel
theorem dX2_retain_241 : decode cX2_retain 241 = .ok (.iload_n 1, 1) := by decide +kernel
theorem dX2_retain_242 : decode cX2_retain 242 = .ok (.if_icmp .ne 14, 3) := by decide +kernel
theorem dX2_retain_245 : decode cX2_retain 245 = .ok (.iload 7, 2) := by decide +kernel
theorem dX2_retain_247 : decode cX2_retain 247 = .ok (.iload 4, 2) := by decide +kernel
theorem dX2_retain_249 : decode cX2_retain 249 = .ok (.if_icmp .ge 7, 3) := by decide +kernel
theorem dX2_retain_252 : decode cX2_retain 252 = .ok (.iconst 1, 1) := by decide +kernel
theorem dX2_retain_253 : decode cX2_retain 253 = .ok (.goto 4, 3) := by decide +kernel
theorem dX2_retain_256 : decode cX2_retain 256 = .ok (.iconst 0, 1) := by decide +kernel
theorem dX2_retain_257 : decode cX2_retain 257 = .ok (.istore 10, 2) := by decide +kernel
theorem dX2_retain_259 : decode cX2_retain 259 = .ok (.iload 7, 2) := by decide +kernel
theorem dX2_retain_261 : decode cX2_retain 261 = .ok (.aload_n 0, 1) := by decide +kernel
theorem dX2_retain_262 : decode cX2_retain 262 = .ok (.getfield 30, 3) := by decide +kernel
theorem dX2_retain_265 : decode cX2_retain 265 = .ok (.iload 9, 2) := by decide +kernel
theorem dX2_retain_267 : decode cX2_retain 267 = .ok (.iaload, 1) := by decide +kernel
theorem dX2_retain_268 : decode cX2_retain 268 = .ok (.iload_n 1, 1) := by decide +kernel
theorem dX2_retain_269 : decode cX2_retain 269 = .ok (.if_icmp .ne 7, 3) := by decide +kernel
theorem dX2_retain_272 : decode cX2_retain 272 = .ok (.iconst 1, 1) := by decide +kernel
theorem dX2_retain_273 : decode cX2_retain 273 = .ok (.goto 4, 3) := by decide +kernel
theorem dX2_retain_276 : decode cX2_retain 276 = .ok (.iconst 0, 1) := by decide +kernel
theorem dX2_retain_277 : decode cX2_retain 277 = .ok (.iadd, 1) := by decide +kernel
theorem dX2_retain_278 : decode cX2_retain 278 = .ok (.istore 7, 2) := by decide +kernel
theorem dX2_retain_280 : decode cX2_retain 280 = .ok (.iload 10, 2) := by decide +kernel
theorem dX2_retain_282 : decode cX2_retain 282 = .ok (.ifCond .ne 14, 3) := by decide +kernel
theorem dX2_retain_285 : decode cX2_retain 285 = .ok (.aload_n 0, 1) := by decide +kernel
theorem dX2_retain_286 : decode cX2_retain 286 = .ok (.iload 9, 2) := by decide +kernel
theorem dX2_retain_288 : decode cX2_retain 288 = .ok (.iload 8, 2) := by decide +kernel
theorem dX2_retain_290 : decode cX2_retain 290 = .ok (.invokevirtual 111, 3) := by decide +kernel
theorem dX2_retain_293 : decode cX2_retain 293 = .ok (.iinc 8 1, 3) := by decide +kernel
theorem dX2_retain_296 : decode cX2_retain 296 = .ok (.iinc 9 1, 3) := by decide +kernel
theorem dX2_retain_299 : decode cX2_retain 299 = .ok (.goto (-74), 3) := by decide +kernel
theorem dX2_retain_302 : decode cX2_retain 302 = .ok (.aload_n 0, 1) := by decide +kernel
theorem dX2_retain_303 : decode cX2_retain 303 = .ok (.iload 8, 2) := by decide +kernel
theorem dX2_retain_305 : decode cX2_retain 305 = .ok (.putfield 71, 3) := by decide +kernel
theorem dX2_retain_308 : decode cX2_retain 308 = .ok (.aload_n 0, 1) := by decide +kernel
theorem dX2_retain_309 : decode cX2_retain 309 = .ok (.getfield 60, 3) := by decide +kernel
theorem dX2_retain_312 : decode cX2_retain 312 = .ok (.ifCond .eq 8, 3) := by decide +kernel
theorem dX2_retain_315 : decode cX2_retain 315 = .ok (.bipush (-3), 2) := by decide +kernel
theorem dX2_retain_317 : decode cX2_retain 317 = .ok (.goto 4, 3) := by decide +kernel
theorem dX2_retain_320 : decode cX2_retain 320 = .ok (.iload_n 3, 1) := by decide +kernel
theorem dX2_retain_321 : decode cX2_retain 321 = .ok (.ireturn, 1) := by decide +kernel
theorem dX2_closed_0 : decode cX2_closed 0 = .ok (.aload_n 0, 1) := by decide +kernel
theorem dX2_closed_1 : decode cX2_closed 1 = .ok (.getfield 13, 3) := by decide +kernel
theorem dX2_closed_4 : decode cX2_closed 4 = .ok (.iload_n 1, 1) := by decide +kernel
theorem dX2_closed_5 : decode cX2_closed 5 = .ok (.iaload, 1) := by decide +kernel
theorem dX2_closed_6 : decode cX2_closed 6 = .ok (.ifCond .ne 7, 3) := by decide +kernel
theorem dX2_closed_9 : decode cX2_closed 9 = .ok (.iconst 0, 1) := by decide +kernel
theorem dX2_closed_10 : decode cX2_closed 10 = .ok (.goto 22, 3) := by decide +kernel
theorem dX2_closed_13 : decode cX2_closed 13 = .ok (.aload_n 0, 1) := by decide +kernel
theorem dX2_closed_14 : decode cX2_closed 14 = .ok (.iload_n 1, 1) := by decide +kernel
theorem dX2_closed_15 : decode cX2_closed 15 = .ok (.invokevirtual 115, 3) := by decide +kernel
theorem dX2_closed_18 : decode cX2_closed 18 = .ok (.aload_n 0, 1) := by decide +kernel
theorem dX2_closed_19 : decode cX2_closed 19 = .ok (.iload_n 1, 1) := by decide +kernel
theorem dX2_closed_20 : decode cX2_closed 20 = .ok (.aload_n 0, 1) := by decide +kernel
theorem dX2_closed_21 : decode cX2_closed 21 = .ok (.getfield 13, 3) := by decide +kernel
theorem dX2_closed_24 : decode cX2_closed 24 = .ok (.iload_n 1, 1) := by decide +kernel
theorem dX2_closed_25 : decode cX2_closed 25 = .ok (.iaload, 1) := by decide +kernel
theorem dX2_closed_26 : decode cX2_closed 26 = .ok (.iconst 1, 1) := by decide +kernel
theorem dX2_closed_27 : decode cX2_closed 27 = .ok (.isub, 1) := by decide +kernel
theorem dX2_closed_28 : decode cX2_closed 28 = .ok (.invokevirtual 108, 3) := by decide +kernel
theorem dX2_closed_31 : decode cX2_closed 31 = .ok (.isub, 1) := by decide +kernel
theorem dX2_closed_32 : decode cX2_closed 32 = .ok (.ireturn, 1) := by decide +kernel
theorem dX2_plan_0 : decode cX2_plan 0 = .ok (.aload_n 0, 1) := by decide +kernel
theorem dX2_plan_1 : decode cX2_plan 1 = .ok (.invokevirtual 86, 3) := by decide +kernel
theorem dX2_plan_4 : decode cX2_plan 4 = .ok (.aload_n 0, 1) := by decide +kernel
theorem dX2_plan_5 : decode cX2_plan 5 = .ok (.iconst 0, 1) := by decide +kernel
theorem dX2_plan_6 : decode cX2_plan 6 = .ok (.putfield 118, 3) := by decide +kernel
theorem dX2_plan_9 : decode cX2_plan 9 = .ok (.aload_n 0, 1) := by decide +kernel
theorem dX2_plan_10 : decode cX2_plan 10 = .ok (.iload_n 1, 1) := by decide +kernel
theorem dX2_plan_11 : decode cX2_plan 11 = .ok (.invokevirtual 121, 3) := by decide +kernel
theorem dX2_plan_14 : decode cX2_plan 14 = .ok (.istore_n 3, 1) := by decide +kernel
theorem dX2_plan_15 : decode cX2_plan 15 = .ok (.iconst 0, 1) := by decide +kernel
theorem dX2_plan_16 : decode cX2_plan 16 = .ok (.istore 4, 2) := by decide +kernel
theorem dX2_plan_18 : decode cX2_plan 18 = .ok (.iload 4, 2) := by decide +kernel
theorem dX2_plan_20 : decode cX2_plan 20 = .ok (.iload_n 3, 1) := by decide +kernel
theorem dX2_plan_21 : decode cX2_plan 21 = .ok (.if_icmp .ge 130, 3) := by decide +kernel
theorem dX2_plan_24 : decode cX2_plan 24 = .ok (.aload_n 0, 1) := by decide +kernel
theorem dX2_plan_25 : decode cX2_plan 25 = .ok (.getfield 33, 3) := by decide +kernel
theorem dX2_plan_28 : decode cX2_plan 28 = .ok (.aload_n 0, 1) := by decide +kernel
theorem dX2_plan_29 : decode cX2_plan 29 = .ok (.iload_n 1, 1) := by decide +kernel
theorem dX2_plan_30 : decode cX2_plan 30 = .ok (.iload 4, 2) := by decide +kernel
theorem dX2_plan_32 : decode cX2_plan 32 = .ok (.invokevirtual 124, 3) := by decide +kernel
theorem dX2_plan_35 : decode cX2_plan 35 = .ok (.iaload, 1) := by decide +kernel
theorem dX2_plan_36 : decode cX2_plan 36 = .ok (.iconst 4, 1) := by decide +kernel
theorem dX2_plan_37 : decode cX2_plan 37 = .ok (.iadd, 1) := by decide +kernel
theorem dX2_plan_38 : decode cX2_plan 38 = .ok (.istore 5, 2) := by decide +kernel
theorem dX2_plan_40 : decode cX2_plan 40 = .ok (.iload 4, 2) := by decide +kernel
theorem dX2_plan_42 : decode cX2_plan 42 = .ok (.iload_n 2, 1) := by decide +kernel
theorem dX2_plan_43 : decode cX2_plan 43 = .ok (.irem, 1) := by decide +kernel
theorem dX2_plan_44 : decode cX2_plan 44 = .ok (.ifCond .eq 101, 3) := by decide +kernel
theorem dX2_plan_47 : decode cX2_plan 47 = .ok (.aload_n 0, 1) := by decide +kernel
theorem dX2_plan_48 : decode cX2_plan 48 = .ok (.getfield 118, 3) := by decide +kernel
theorem dX2_plan_51 : decode cX2_plan 51 = .ok (.ifCond .eq 28, 3) := by decide +kernel
theorem dX2_plan_54 : decode cX2_plan 54 = .ok (.aload_n 0, 1) := by decide +kernel
theorem dX2_plan_55 : decode cX2_plan 55 = .ok (.getfield 48, 3) := by decide +kernel
theorem dX2_plan_58 : decode cX2_plan 58 = .ok (.aload_n 0, 1) := by decide +kernel
theorem dX2_plan_59 : decode cX2_plan 59 = .ok (.getfield 118, 3) := by decide +kernel
theorem dX2_plan_62 : decode cX2_plan 62 = .ok (.iconst 1, 1) := by decide +kernel
theorem dX2_plan_63 : decode cX2_plan 63 = .ok (.isub, 1) := by decide +kernel
theorem dX2_plan_64 : decode cX2_plan 64 = .ok (.iaload, 1) := by decide +kernel
theorem dX2_plan_65 : decode cX2_plan 65 = .ok (.iload 5, 2) := by decide +kernel
theorem dX2_plan_67 : decode cX2_plan 67 = .ok (.iadd, 1) := by decide +kernel
theorem dX2_plan_68 : decode cX2_plan 68 = .ok (.sipush 1024, 3) := by decide +kernel
theorem dX2_plan_71 : decode cX2_plan 71 = .ok (.aload_n 0, 1) := by decide +kernel
theorem dX2_plan_72 : decode cX2_plan 72 = .ok (.getfield 51, 3) := by decide +kernel
theorem dX2_plan_75 : decode cX2_plan 75 = .ok (.imul, 1) := by decide +kernel
theorem dX2_plan_76 : decode cX2_plan 76 = .ok (.if_icmp .le 53, 3) := by decide +kernel
theorem dX2_plan_79 : decode cX2_plan 79 = .ok (.aload_n 0, 1) := by decide +kernel
theorem dX2_plan_80 : decode cX2_plan 80 = .ok (.invokevirtual 89, 3) := by decide +kernel
theorem dX2_plan_83 : decode cX2_plan 83 = .ok (.istore 6, 2) := by decide +kernel
theorem dX2_plan_85 : decode cX2_plan 85 = .ok (.iload 6, 2) := by decide +kernel
theorem dX2_plan_87 : decode cX2_plan 87 = .ok (.ifCond .ge 5, 3) := by decide +kernel
theorem dX2_plan_90 : decode cX2_plan 90 = .ok (.iconst 0, 1) := by decide +kernel
theorem dX2_plan_91 : decode cX2_plan 91 = .ok (.ireturn, 1) := by decide +kernel
theorem dX2_plan_92 : decode cX2_plan 92 = .ok (.aload_n 0, 1) := by decide +kernel
theorem dX2_plan_93 : decode cX2_plan 93 = .ok (.iload 6, 2) := by decide +kernel
theorem dX2_plan_95 : decode cX2_plan 95 = .ok (.invokevirtual 64, 3) := by decide +kernel
theorem dX2_plan_98 : decode cX2_plan 98 = .ok (.aload_n 0, 1) := by decide +kernel
theorem dX2_plan_99 : decode cX2_plan 99 = .ok (.getfield 45, 3) := by decide +kernel
theorem dX2_plan_102 : decode cX2_plan 102 = .ok (.aload_n 0, 1) := by decide +kernel
theorem dX2_plan_103 : decode cX2_plan 103 = .ok (.getfield 118, 3) := by decide +kernel
theorem dX2_plan_106 : decode cX2_plan 106 = .ok (.iload 6, 2) := by decide +kernel
theorem dX2_plan_108 : decode cX2_plan 108 = .ok (.iastore, 1) := by decide +kernel
theorem dX2_plan_109 : decode cX2_plan 109 = .ok (.aload_n 0, 1) := by decide +kernel
theorem dX2_plan_110 : decode cX2_plan 110 = .ok (.getfield 48, 3) := by decide +kernel
theorem dX2_plan_113 : decode cX2_plan 113 = .ok (.aload_n 0, 1) := by decide +kernel
theorem dX2_plan_114 : decode cX2_plan 114 = .ok (.getfield 118, 3) := by decide +kernel
theorem dX2_plan_117 : decode cX2_plan 117 = .ok (.iconst 0, 1) := by decide +kernel
theorem dX2_plan_118 : decode cX2_plan 118 = .ok (.iastore, 1) := by decide +kernel
theorem dX2_plan_119 : decode cX2_plan 119 = .ok (.aload_n 0, 1) := by decide +kernel
theorem dX2_plan_120 : decode cX2_plan 120 = .ok (.dup, 1) := by decide +kernel
theorem dX2_plan_121 : decode cX2_plan 121 = .ok (.getfield 118, 3) := by decide +kernel
theorem dX2_plan_124 : decode cX2_plan 124 = .ok (.iconst 1, 1) := by decide +kernel
theorem dX2_plan_125 : decode cX2_plan 125 = .ok (.iadd, 1) := by decide +kernel
theorem dX2_plan_126 : decode cX2_plan 126 = .ok (.putfield 118, 3) := by decide +kernel
theorem dX2_plan_129 : decode cX2_plan 129 = .ok (.aload_n 0, 1) := by decide +kernel
theorem dX2_plan_130 : decode cX2_plan 130 = .ok (.getfield 48, 3) := by decide +kernel
theorem dX2_plan_133 : decode cX2_plan 133 = .ok (.aload_n 0, 1) := by decide +kernel
theorem dX2_plan_134 : decode cX2_plan 134 = .ok (.getfield 118, 3) := by decide +kernel
theorem dX2_plan_137 : decode cX2_plan 137 = .ok (.iconst 1, 1) := by decide +kernel
theorem dX2_plan_138 : decode cX2_plan 138 = .ok (.isub, 1) := by decide +kernel
theorem dX2_plan_139 : decode cX2_plan 139 = .ok (.dup2, 1) := by decide +kernel
theorem dX2_plan_140 : decode cX2_plan 140 = .ok (.iaload, 1) := by decide +kernel
theorem dX2_plan_141 : decode cX2_plan 141 = .ok (.iload 5, 2) := by decide +kernel
theorem dX2_plan_143 : decode cX2_plan 143 = .ok (.iadd, 1) := by decide +kernel
theorem dX2_plan_144 : decode cX2_plan 144 = .ok (.iastore, 1) := by decide +kernel
theorem dX2_plan_145 : decode cX2_plan 145 = .ok (.iinc 4 1, 3) := by decide +kernel
theorem dX2_plan_148 : decode cX2_plan 148 = .ok (.goto (-130), 3) := by decide +kernel
theorem dX2_plan_151 : decode cX2_plan 151 = .ok (.iconst 1, 1) := by decide +kernel
theorem dX2_plan_152 : decode cX2_plan 152 = .ok (.ireturn, 1) := by decide +kernel
theorem dX2_happen_0 : decode cX2_happen 0 = .ok (.aload_n 0, 1) := by decide +kernel
theorem dX2_happen_1 : decode cX2_happen 1 = .ok (.iload_n 1, 1) := by decide +kernel
theorem dX2_happen_2 : decode cX2_happen 2 = .ok (.invokevirtual 121, 3) := by decide +kernel
theorem dX2_happen_5 : decode cX2_happen 5 = .ok (.istore_n 3, 1) := by decide +kernel
theorem dX2_happen_6 : decode cX2_happen 6 = .ok (.bipush 60, 2) := by decide +kernel
theorem dX2_happen_8 : decode cX2_happen 8 = .ok (.iload_n 1, 1) := by decide +kernel
theorem dX2_happen_9 : decode cX2_happen 9 = .ok (.imul, 1) := by decide +kernel
theorem dX2_happen_10 : decode cX2_happen 10 = .ok (.aload_n 0, 1) := by decide +kernel
theorem dX2_happen_11 : decode cX2_happen 11 = .ok (.getfield 13, 3) := by decide +kernel
theorem dX2_happen_14 : decode cX2_happen 14 = .ok (.iload_n 1, 1) := by decide +kernel
theorem dX2_happen_15 : decode cX2_happen 15 = .ok (.iaload, 1) := by decide +kernel
theorem dX2_happen_16 : decode cX2_happen 16 = .ok (.iadd, 1) := by decide +kernel
theorem dX2_happen_17 : decode cX2_happen 17 = .ok (.iconst 1, 1) := by decide +kernel
theorem dX2_happen_18 : decode cX2_happen 18 = .ok (.isub, 1) := by decide +kernel
theorem dX2_happen_19 : decode cX2_happen 19 = .ok (.istore 4, 2) := by decide +kernel
theorem dX2_happen_21 : decode cX2_happen 21 = .ok (.aload_n 0, 1) := by decide +kernel
theorem dX2_happen_22 : decode cX2_happen 22 = .ok (.getfield 17, 3) := by decide +kernel
theorem dX2_happen_25 : decode cX2_happen 25 = .ok (.iload 4, 2) := by decide +kernel
theorem dX2_happen_27 : decode cX2_happen 27 = .ok (.iaload, 1) := by decide +kernel
theorem dX2_happen_28 : decode cX2_happen 28 = .ok (.istore 5, 2) := by decide +kernel
theorem dX2_happen_30 : decode cX2_happen 30 = .ok (.aload_n 0, 1) := by decide +kernel
theorem dX2_happen_31 : decode cX2_happen 31 = .ok (.getfield 20, 3) := by decide +kernel
theorem dX2_happen_34 : decode cX2_happen 34 = .ok (.iload 4, 2) := by decide +kernel
theorem dX2_happen_36 : decode cX2_happen 36 = .ok (.iaload, 1) := by decide +kernel
theorem dX2_happen_37 : decode cX2_happen 37 = .ok (.istore 6, 2) := by decide +kernel
theorem dX2_happen_39 : decode cX2_happen 39 = .ok (.iconst 0, 1) := by decide +kernel
theorem dX2_happen_40 : decode cX2_happen 40 = .ok (.istore 7, 2) := by decide +kernel
theorem dX2_happen_42 : decode cX2_happen 42 = .ok (.iconst 0, 1) := by decide +kernel
theorem dX2_happen_43 : decode cX2_happen 43 = .ok (.istore 8, 2) := by decide +kernel
theorem dX2_happen_45 : decode cX2_happen 45 = .ok (.iconst 0, 1) := by decide +kernel
theorem dX2_happen_46 : decode cX2_happen 46 = .ok (.istore 9, 2) := by decide +kernel
theorem dX2_happen_48 : decode cX2_happen 48 = .ok (.iconst 0, 1) := by decide +kernel
theorem dX2_happen_49 : decode cX2_happen 49 = .ok (.istore 10, 2) := by decide +kernel
theorem dX2_happen_51 : decode cX2_happen 51 = .ok (.iconst 0, 1) := by decide +kernel
theorem dX2_happen_52 : decode cX2_happen 52 = .ok (.istore 11, 2) := by decide +kernel
theorem dX2_happen_54 : decode cX2_happen 54 = .ok (.iload 11, 2) := by decide +kernel
theorem dX2_happen_56 : decode cX2_happen 56 = .ok (.aload_n 0, 1) := by decide +kernel
theorem dX2_happen_57 : decode cX2_happen 57 = .ok (.getfield 71, 3) := by decide +kernel
theorem dX2_happen_60 : decode cX2_happen 60 = .ok (.if_icmp .ge 149, 3) := by decide +kernel
theorem dX2_happen_63 : decode cX2_happen 63 = .ok (.aload_n 0, 1) := by decide +kernel
theorem dX2_happen_64 : decode cX2_happen 64 = .ok (.getfield 30, 3) := by decide +kernel
theorem dX2_happen_67 : decode cX2_happen 67 = .ok (.iload 11, 2) := by decide +kernel
theorem dX2_happen_69 : decode cX2_happen 69 = .ok (.iaload, 1) := by decide +kernel
theorem dX2_happen_70 : decode cX2_happen 70 = .ok (.iload_n 1, 1) := by decide +kernel
theorem dX2_happen_71 : decode cX2_happen 71 = .ok (.if_icmp .ne 13, 3) := by decide +kernel
theorem dX2_happen_74 : decode cX2_happen 74 = .ok (.iload 8, 2) := by decide +kernel
theorem dX2_happen_76 : decode cX2_happen 76 = .ok (.iload_n 3, 1) := by decide +kernel
theorem dX2_happen_77 : decode cX2_happen 77 = .ok (.if_icmp .ge 7, 3) := by decide +kernel
theorem dX2_happen_80 : decode cX2_happen 80 = .ok (.iconst 1, 1) := by decide +kernel
theorem dX2_happen_81 : decode cX2_happen 81 = .ok (.goto 4, 3) := by decide +kernel
theorem dX2_happen_84 : decode cX2_happen 84 = .ok (.iconst 0, 1) := by decide +kernel
theorem dX2_happen_85 : decode cX2_happen 85 = .ok (.istore 12, 2) := by decide +kernel
theorem dX2_happen_87 : decode cX2_happen 87 = .ok (.iload 12, 2) := by decide +kernel
theorem dX2_happen_89 : decode cX2_happen 89 = .ok (.ifCond .eq 14, 3) := by decide +kernel
theorem dX2_happen_92 : decode cX2_happen 92 = .ok (.iload 8, 2) := by decide +kernel
theorem dX2_happen_94 : decode cX2_happen 94 = .ok (.iload_n 2, 1) := by decide +kernel
theorem dX2_happen_95 : decode cX2_happen 95 = .ok (.irem, 1) := by decide +kernel
theorem dX2_happen_96 : decode cX2_happen 96 = .ok (.ifCond .ne 7, 3) := by decide +kernel
theorem dX2_happen_99 : decode cX2_happen 99 = .ok (.iconst 1, 1) := by decide +kernel
theorem dX2_happen_100 : decode cX2_happen 100 = .ok (.goto 4, 3) := by decide +kernel
theorem dX2_happen_103 : decode cX2_happen 103 = .ok (.iconst 0, 1) := by decide +kernel
theorem dX2_happen_104 : decode cX2_happen 104 = .ok (.istore 13, 2) := by decide +kernel
theorem dX2_happen_106 : decode cX2_happen 106 = .ok (.iload 8, 2) := by decide +kernel
theorem dX2_happen_108 : decode cX2_happen 108 = .ok (.aload_n 0, 1) := by decide +kernel
theorem dX2_happen_109 : decode cX2_happen 109 = .ok (.getfield 30, 3) := by decide +kernel
theorem dX2_happen_112 : decode cX2_happen 112 = .ok (.iload 11, 2) := by decide +kernel
theorem dX2_happen_114 : decode cX2_happen 114 = .ok (.iaload, 1) := by decide +kernel
theorem dX2_happen_115 : decode cX2_happen 115 = .ok (.iload_n 1, 1) := by decide +kernel
theorem dX2_happen_116 : decode cX2_happen 116 = .ok (.if_icmp .ne 7, 3) := by decide +kernel
theorem dX2_happen_119 : decode cX2_happen 119 = .ok (.iconst 1, 1) := by decide +kernel
theorem dX2_happen_120 : decode cX2_happen 120 = .ok (.goto 4, 3) := by decide +kernel
theorem dX2_happen_123 : decode cX2_happen 123 = .ok (.iconst 0, 1) := by decide +kernel
theorem dX2_happen_124 : decode cX2_happen 124 = .ok (.iadd, 1) := by decide +kernel
theorem dX2_happen_125 : decode cX2_happen 125 = .ok (.istore 8, 2) := by decide +kernel
theorem dX2_happen_127 : decode cX2_happen 127 = .ok (.iload 13, 2) := by decide +kernel
theorem dX2_happen_129 : decode cX2_happen 129 = .ok (.ifCond .ne 74, 3) := by decide +kernel
theorem dX2_happen_132 : decode cX2_happen 132 = .ok (.aload_n 0, 1) := by decide +kernel
theorem dX2_happen_133 : decode cX2_happen 133 = .ok (.iload 11, 2) := by decide +kernel
theorem dX2_happen_135 : decode cX2_happen 135 = .ok (.iload 7, 2) := by decide +kernel
theorem dX2_happen_137 : decode cX2_happen 137 = .ok (.invokevirtual 111, 3) := by decide +kernel
theorem dX2_happen_140 : decode cX2_happen 140 = .ok (.iload 12, 2) := by decide +kernel
theorem dX2_happen_142 : decode cX2_happen 142 = .ok (.ifCond .eq 58, 3) := by decide +kernel
theorem dX2_happen_145 : decode cX2_happen 145 = .ok (.iload 10, 2) := by decide +kernel
theorem dX2_happen_147 : decode cX2_happen 147 = .ok (.aload_n 0, 1) := by decide +kernel
theorem dX2_happen_148 : decode cX2_happen 148 = .ok (.getfield 48, 3) := by decide +kernel
theorem dX2_happen_151 : decode cX2_happen 151 = .ok (.iload 9, 2) := by decide +kernel
theorem dX2_happen_153 : decode cX2_happen 153 = .ok (.iaload, 1) := by decide +kernel
theorem dX2_happen_154 : decode cX2_happen 154 = .ok (.if_icmp .ne 9, 3) := by decide +kernel
theorem dX2_happen_157 : decode cX2_happen 157 = .ok (.iinc 9 1, 3) := by decide +kernel
theorem dX2_happen_160 : decode cX2_happen 160 = .ok (.iconst 0, 1) := by decide +kernel
theorem dX2_happen_161 : decode cX2_happen 161 = .ok (.istore 10, 2) := by decide +kernel
theorem dX2_happen_163 : decode cX2_happen 163 = .ok (.aload_n 0, 1) := by decide +kernel
theorem dX2_happen_164 : decode cX2_happen 164 = .ok (.getfield 39, 3) := by decide +kernel
theorem dX2_happen_167 : decode cX2_happen 167 = .ok (.iload 7, 2) := by decide +kernel
theorem dX2_happen_169 : decode cX2_happen 169 = .ok (.aload_n 0, 1) := by decide +kernel
theorem dX2_happen_170 : decode cX2_happen 170 = .ok (.getfield 45, 3) := by decide +kernel
theorem dX2_happen_173 : decode cX2_happen 173 = .ok (.iload 9, 2) := by decide +kernel
theorem dX2_happen_175 : decode cX2_happen 175 = .ok (.iaload, 1) := by decide +kernel
theorem dX2_happen_176 : decode cX2_happen 176 = .ok (.iastore, 1) := by decide +kernel
theorem dX2_happen_177 : decode cX2_happen 177 = .ok (.aload_n 0, 1) := by decide +kernel
theorem dX2_happen_178 : decode cX2_happen 178 = .ok (.getfield 42, 3) := by decide +kernel
theorem dX2_happen_181 : decode cX2_happen 181 = .ok (.iload 7, 2) := by decide +kernel
theorem dX2_happen_183 : decode cX2_happen 183 = .ok (.iload 10, 2) := by decide +kernel
theorem dX2_happen_185 : decode cX2_happen 185 = .ok (.iastore, 1) := by decide +kernel
theorem dX2_happen_186 : decode cX2_happen 186 = .ok (.iload 10, 2) := by decide +kernel
theorem dX2_happen_188 : decode cX2_happen 188 = .ok (.aload_n 0, 1) := by decide +kernel
theorem dX2_happen_189 : decode cX2_happen 189 = .ok (.getfield 33, 3) := by decide +kernel
theorem dX2_happen_192 : decode cX2_happen 192 = .ok (.iload 7, 2) := by decide +kernel
theorem dX2_happen_194 : decode cX2_happen 194 = .ok (.iaload, 1) := by decide +kernel
theorem dX2_happen_195 : decode cX2_happen 195 = .ok (.iconst 4, 1) := by decide +kernel
theorem dX2_happen_196 : decode cX2_happen 196 = .ok (.iadd, 1) := by decide +kernel
theorem dX2_happen_197 : decode cX2_happen 197 = .ok (.iadd, 1) := by decide +kernel
theorem dX2_happen_198 : decode cX2_happen 198 = .ok (.istore 10, 2) := by decide +kernel
theorem dX2_happen_200 : decode cX2_happen 200 = .ok (.iinc 7 1, 3) := by decide +kernel
theorem dX2_happen_203 : decode cX2_happen 203 = .ok (.iinc 11 1, 3) := by decide +kernel
theorem dX2_happen_206 : decode cX2_happen 206 = .ok (.goto (-152), 3) := by decide +kernel
theorem dX2_happen_209 : decode cX2_happen 209 = .ok (.aload_n 0, 1) := by decide +kernel
theorem dX2_happen_210 : decode cX2_happen 210 = .ok (.iload 7, 2) := by decide +kernel
theorem dX2_happen_212 : decode cX2_happen 212 = .ok (.putfield 71, 3) := by decide +kernel
theorem dX2_happen_215 : decode cX2_happen 215 = .ok (.iconst 0, 1) := by decide +kernel
theorem dX2_happen_216 : decode cX2_happen 216 = .ok (.istore 11, 2) := by decide +kernel
theorem dX2_happen_218 : decode cX2_happen 218 = .ok (.iload 11, 2) := by decide +kernel
theorem dX2_happen_220 : decode cX2_happen 220 = .ok (.aload_n 0, 1) := by decide +kernel
theorem dX2_happen_221 : decode cX2_happen 221 = .ok (.getfield 118, 3) := by decide +kernel
theorem dX2_happen_224 : decode cX2_happen 224 = .ok (.if_icmp .ge 47, 3) := by decide +kernel
theorem dX2_happen_227 : decode cX2_happen 227 = .ok (.aload_n 0, 1) := by decide +kernel
theorem dX2_happen_228 : decode cX2_happen 228 = .ok (.getfield 17, 3) := by decide +kernel
theorem dX2_happen_231 : decode cX2_happen 231 = .ok (.bipush 60, 2) := by decide +kernel
theorem dX2_happen_233 : decode cX2_happen 233 = .ok (.iload_n 1, 1) := by decide +kernel
theorem dX2_happen_234 : decode cX2_happen 234 = .ok (.imul, 1) := by decide +kernel
theorem dX2_happen_235 : decode cX2_happen 235 = .ok (.iload 11, 2) := by decide +kernel
theorem dX2_happen_237 : decode cX2_happen 237 = .ok (.iadd, 1) := by decide +kernel
theorem dX2_happen_238 : decode cX2_happen 238 = .ok (.aload_n 0, 1) := by decide +kernel
theorem dX2_happen_239 : decode cX2_happen 239 = .ok (.getfield 45, 3) := by decide +kernel
theorem dX2_happen_242 : decode cX2_happen 242 = .ok (.iload 11, 2) := by decide +kernel
theorem dX2_happen_244 : decode cX2_happen 244 = .ok (.iaload, 1) := by decide +kernel
theorem dX2_happen_245 : decode cX2_happen 245 = .ok (.iastore, 1) := by decide +kernel
theorem dX2_happen_246 : decode cX2_happen 246 = .ok (.aload_n 0, 1) := by decide +kernel
theorem dX2_happen_247 : decode cX2_happen 247 = .ok (.getfield 20, 3) := by decide +kernel
theorem dX2_happen_250 : decode cX2_happen 250 = .ok (.bipush 60, 2) := by decide +kernel
theorem dX2_happen_252 : decode cX2_happen 252 = .ok (.iload_n 1, 1) := by decide +kernel
theorem dX2_happen_253 : decode cX2_happen 253 = .ok (.imul, 1) := by decide +kernel
theorem dX2_happen_254 : decode cX2_happen 254 = .ok (.iload 11, 2) := by decide +kernel
theorem dX2_happen_256 : decode cX2_happen 256 = .ok (.iadd, 1) := by decide +kernel
theorem dX2_happen_257 : decode cX2_happen 257 = .ok (.aload_n 0, 1) := by decide +kernel
theorem dX2_happen_258 : decode cX2_happen 258 = .ok (.getfield 48, 3) := by decide +kernel
theorem dX2_happen_261 : decode cX2_happen 261 = .ok (.iload 11, 2) := by decide +kernel
theorem dX2_happen_263 : decode cX2_happen 263 = .ok (.iaload, 1) := by decide +kernel
theorem dX2_happen_264 : decode cX2_happen 264 = .ok (.iastore, 1) := by decide +kernel
theorem dX2_happen_265 : decode cX2_happen 265 = .ok (.iinc 11 1, 3) := by decide +kernel
theorem dX2_happen_268 : decode cX2_happen 268 = .ok (.goto (-50), 3) := by decide +kernel
theorem dX2_happen_271 : decode cX2_happen 271 = .ok (.aload_n 0, 1) := by decide +kernel
theorem dX2_happen_272 : decode cX2_happen 272 = .ok (.getfield 17, 3) := by decide +kernel
theorem dX2_happen_275 : decode cX2_happen 275 = .ok (.bipush 60, 2) := by decide +kernel
theorem dX2_happen_277 : decode cX2_happen 277 = .ok (.iload_n 1, 1) := by decide +kernel
theorem dX2_happen_278 : decode cX2_happen 278 = .ok (.imul, 1) := by decide +kernel
theorem dX2_happen_279 : decode cX2_happen 279 = .ok (.aload_n 0, 1) := by decide +kernel
theorem dX2_happen_280 : decode cX2_happen 280 = .ok (.getfield 118, 3) := by decide +kernel
theorem dX2_happen_283 : decode cX2_happen 283 = .ok (.iadd, 1) := by decide +kernel
theorem dX2_happen_284 : decode cX2_happen 284 = .ok (.iload 5, 2) := by decide +kernel
theorem dX2_happen_286 : decode cX2_happen 286 = .ok (.iastore, 1) := by decide +kernel
theorem dX2_happen_287 : decode cX2_happen 287 = .ok (.aload_n 0, 1) := by decide +kernel
theorem dX2_happen_288 : decode cX2_happen 288 = .ok (.getfield 20, 3) := by decide +kernel
theorem dX2_happen_291 : decode cX2_happen 291 = .ok (.bipush 60, 2) := by decide +kernel
theorem dX2_happen_293 : decode cX2_happen 293 = .ok (.iload_n 1, 1) := by decide +kernel
theorem dX2_happen_294 : decode cX2_happen 294 = .ok (.imul, 1) := by decide +kernel
theorem dX2_happen_295 : decode cX2_happen 295 = .ok (.aload_n 0, 1) := by decide +kernel
theorem dX2_happen_296 : decode cX2_happen 296 = .ok (.getfield 118, 3) := by decide +kernel
theorem dX2_happen_299 : decode cX2_happen 299 = .ok (.iadd, 1) := by decide +kernel
theorem dX2_happen_300 : decode cX2_happen 300 = .ok (.iload 6, 2) := by decide +kernel
theorem dX2_happen_302 : decode cX2_happen 302 = .ok (.iastore, 1) := by decide +kernel
theorem dX2_happen_303 : decode cX2_happen 303 = .ok (.aload_n 0, 1) := by decide +kernel
theorem dX2_happen_304 : decode cX2_happen 304 = .ok (.getfield 13, 3) := by decide +kernel
theorem dX2_happen_307 : decode cX2_happen 307 = .ok (.iload_n 1, 1) := by decide +kernel
theorem dX2_happen_308 : decode cX2_happen 308 = .ok (.aload_n 0, 1) := by decide +kernel
theorem dX2_happen_309 : decode cX2_happen 309 = .ok (.getfield 118, 3) := by decide +kernel
theorem dX2_happen_312 : decode cX2_happen 312 = .ok (.iconst 1, 1) := by decide +kernel
theorem dX2_happen_313 : decode cX2_happen 313 = .ok (.iadd, 1) := by decide +kernel
theorem dX2_happen_314 : decode cX2_happen 314 = .ok (.iastore, 1) := by decide +kernel
theorem dX2_happen_315 : decode cX2_happen 315 = .ok (.return_, 1) := by decide +kernel
theorem dX2_thin_0 : decode cX2_thin 0 = .ok (.aload_n 0, 1) := by decide +kernel
theorem dX2_thin_1 : decode cX2_thin 1 = .ok (.iload_n 1, 1) := by decide +kernel
theorem dX2_thin_2 : decode cX2_thin 2 = .ok (.invokestatic 78, 3) := by decide +kernel
theorem dX2_thin_5 : decode cX2_thin 5 = .ok (.ifCond .eq 19, 3) := by decide +kernel
theorem dX2_thin_8 : decode cX2_thin 8 = .ok (.iload_n 2, 1) := by decide +kernel
theorem dX2_thin_9 : decode cX2_thin 9 = .ok (.iconst 1, 1) := by decide +kernel
theorem dX2_thin_10 : decode cX2_thin 10 = .ok (.if_icmp .lt 14, 3) := by decide +kernel
theorem dX2_thin_13 : decode cX2_thin 13 = .ok (.iload_n 2, 1) := by decide +kernel
theorem dX2_thin_14 : decode cX2_thin 14 = .ok (.sipush 1000, 3) := by decide +kernel
theorem dX2_thin_17 : decode cX2_thin 17 = .ok (.if_icmp .gt 7, 3) := by decide +kernel
theorem dX2_thin_20 : decode cX2_thin 20 = .ok (.iconst 1, 1) := by decide +kernel
theorem dX2_thin_21 : decode cX2_thin 21 = .ok (.goto 4, 3) := by decide +kernel
theorem dX2_thin_24 : decode cX2_thin 24 = .ok (.iconst 0, 1) := by decide +kernel
theorem dX2_thin_25 : decode cX2_thin 25 = .ok (.invokevirtual 82, 3) := by decide +kernel
theorem dX2_thin_28 : decode cX2_thin 28 = .ok (.ifCond .ne 5, 3) := by decide +kernel
theorem dX2_thin_31 : decode cX2_thin 31 = .ok (.iconst 0, 1) := by decide +kernel
theorem dX2_thin_32 : decode cX2_thin 32 = .ok (.ireturn, 1) := by decide +kernel
theorem dX2_thin_33 : decode cX2_thin 33 = .ok (.aload_n 0, 1) := by decide +kernel
theorem dX2_thin_34 : decode cX2_thin 34 = .ok (.iload_n 1, 1) := by decide +kernel
theorem dX2_thin_35 : decode cX2_thin 35 = .ok (.invokevirtual 121, 3) := by decide +kernel
theorem dX2_thin_38 : decode cX2_thin 38 = .ok (.iload_n 2, 1) := by decide +kernel
theorem dX2_thin_39 : decode cX2_thin 39 = .ok (.iadd, 1) := by decide +kernel
theorem dX2_thin_40 : decode cX2_thin 40 = .ok (.iconst 1, 1) := by decide +kernel
theorem dX2_thin_41 : decode cX2_thin 41 = .ok (.isub, 1) := by decide +kernel
theorem dX2_thin_42 : decode cX2_thin 42 = .ok (.iload_n 2, 1) := by decide +kernel
theorem dX2_thin_43 : decode cX2_thin 43 = .ok (.idiv, 1) := by decide +kernel
theorem dX2_thin_44 : decode cX2_thin 44 = .ok (.istore_n 3, 1) := by decide +kernel
theorem dX2_thin_45 : decode cX2_thin 45 = .ok (.iload_n 3, 1) := by decide +kernel
theorem dX2_thin_46 : decode cX2_thin 46 = .ok (.ifCond .ne 5, 3) := by decide +kernel
theorem dX2_thin_49 : decode cX2_thin 49 = .ok (.iconst 0, 1) := by decide +kernel
theorem dX2_thin_50 : decode cX2_thin 50 = .ok (.ireturn, 1) := by decide +kernel
theorem dX2_thin_51 : decode cX2_thin 51 = .ok (.aload_n 0, 1) := by decide +kernel
theorem dX2_thin_52 : decode cX2_thin 52 = .ok (.iload_n 1, 1) := by decide +kernel
theorem dX2_thin_53 : decode cX2_thin 53 = .ok (.iload_n 2, 1) := by decide +kernel
theorem dX2_thin_54 : decode cX2_thin 54 = .ok (.invokevirtual 127, 3) := by decide +kernel
theorem dX2_thin_57 : decode cX2_thin 57 = .ok (.ifCond .ne 6, 3) := by decide +kernel
theorem dX2_thin_60 : decode cX2_thin 60 = .ok (.bipush (-2), 2) := by decide +kernel
theorem dX2_thin_62 : decode cX2_thin 62 = .ok (.ireturn, 1) := by decide +kernel
theorem dX2_thin_63 : decode cX2_thin 63 = .ok (.iconst 1, 1) := by decide +kernel
theorem dX2_thin_64 : decode cX2_thin 64 = .ok (.istore 4, 2) := by decide +kernel
theorem dX2_thin_66 : decode cX2_thin 66 = .ok (.iconst 0, 1) := by decide +kernel
theorem dX2_thin_67 : decode cX2_thin 67 = .ok (.istore 5, 2) := by decide +kernel
theorem dX2_thin_69 : decode cX2_thin 69 = .ok (.iload 5, 2) := by decide +kernel
theorem dX2_thin_71 : decode cX2_thin 71 = .ok (.aload_n 0, 1) := by decide +kernel
theorem dX2_thin_72 : decode cX2_thin 72 = .ok (.getfield 118, 3) := by decide +kernel
theorem dX2_thin_75 : decode cX2_thin 75 = .ok (.if_icmp .ge 25, 3) := by decide +kernel
theorem dX2_thin_78 : decode cX2_thin 78 = .ok (.iload 4, 2) := by decide +kernel
theorem dX2_thin_80 : decode cX2_thin 80 = .ok (.iconst 0, 1) := by decide +kernel
theorem dX2_thin_81 : decode cX2_thin 81 = .ok (.aload_n 0, 1) := by decide +kernel
theorem dX2_thin_82 : decode cX2_thin 82 = .ok (.getfield 48, 3) := by decide +kernel
theorem dX2_thin_85 : decode cX2_thin 85 = .ok (.iload 5, 2) := by decide +kernel
theorem dX2_thin_87 : decode cX2_thin 87 = .ok (.iaload, 1) := by decide +kernel
theorem dX2_thin_88 : decode cX2_thin 88 = .ok (.invokestatic 93, 3) := by decide +kernel
theorem dX2_thin_91 : decode cX2_thin 91 = .ok (.iadd, 1) := by decide +kernel
theorem dX2_thin_92 : decode cX2_thin 92 = .ok (.istore 4, 2) := by decide +kernel
theorem dX2_thin_94 : decode cX2_thin 94 = .ok (.iinc 5 1, 3) := by decide +kernel
theorem dX2_thin_97 : decode cX2_thin 97 = .ok (.goto (-28), 3) := by decide +kernel
theorem dX2_thin_100 : decode cX2_thin 100 = .ok (.aload_n 0, 1) := by decide +kernel
theorem dX2_thin_101 : decode cX2_thin 101 = .ok (.iload 4, 2) := by decide +kernel
theorem dX2_thin_103 : decode cX2_thin 103 = .ok (.invokevirtual 97, 3) := by decide +kernel
theorem dX2_thin_106 : decode cX2_thin 106 = .ok (.ifCond .eq 9, 3) := by decide +kernel
theorem dX2_thin_109 : decode cX2_thin 109 = .ok (.aload_n 0, 1) := by decide +kernel
theorem dX2_thin_110 : decode cX2_thin 110 = .ok (.iload_n 1, 1) := by decide +kernel
theorem dX2_thin_111 : decode cX2_thin 111 = .ok (.iload_n 2, 1) := by decide +kernel
theorem dX2_thin_112 : decode cX2_thin 112 = .ok (.invokevirtual 131, 3) := by decide +kernel
theorem dX2_thin_115 : decode cX2_thin 115 = .ok (.aload_n 0, 1) := by decide +kernel
theorem dX2_thin_116 : decode cX2_thin 116 = .ok (.getfield 60, 3) := by decide +kernel
theorem dX2_thin_119 : decode cX2_thin 119 = .ok (.ifCond .eq 8, 3) := by decide +kernel
theorem dX2_thin_122 : decode cX2_thin 122 = .ok (.bipush (-3), 2) := by decide +kernel
theorem dX2_thin_124 : decode cX2_thin 124 = .ok (.goto 4, 3) := by decide +kernel
theorem dX2_thin_127 : decode cX2_thin 127 = .ok (.iload_n 3, 1) := by decide +kernel
theorem dX2_thin_128 : decode cX2_thin 128 = .ok (.ireturn, 1) := by decide +kernel
theorem dX2_log_0 : decode cX2_log 0 = .ok (.aload_n 0, 1) := by decide +kernel
theorem dX2_log_1 : decode cX2_log 1 = .ok (.iload_n 1, 1) := by decide +kernel
theorem dX2_log_2 : decode cX2_log 2 = .ok (.invokestatic 78, 3) := by decide +kernel
theorem dX2_log_5 : decode cX2_log 5 = .ok (.ifCond .eq 16, 3) := by decide +kernel
theorem dX2_log_8 : decode cX2_log 8 = .ok (.iload_n 2, 1) := by decide +kernel
theorem dX2_log_9 : decode cX2_log 9 = .ok (.ifCond .lt 12, 3) := by decide +kernel
theorem dX2_log_12 : decode cX2_log 12 = .ok (.iload_n 2, 1) := by decide +kernel
theorem dX2_log_13 : decode cX2_log 13 = .ok (.iconst 3, 1) := by decide +kernel
theorem dX2_log_14 : decode cX2_log 14 = .ok (.if_icmp .gt 7, 3) := by decide +kernel
theorem dX2_log_17 : decode cX2_log 17 = .ok (.iconst 1, 1) := by decide +kernel
theorem dX2_log_18 : decode cX2_log 18 = .ok (.goto 4, 3) := by decide +kernel
theorem dX2_log_21 : decode cX2_log 21 = .ok (.iconst 0, 1) := by decide +kernel
theorem dX2_log_22 : decode cX2_log 22 = .ok (.invokevirtual 82, 3) := by decide +kernel
theorem dX2_log_25 : decode cX2_log 25 = .ok (.ifCond .ne 5, 3) := by decide +kernel
theorem dX2_log_28 : decode cX2_log 28 = .ok (.iconst 0, 1) := by decide +kernel
theorem dX2_log_29 : decode cX2_log 29 = .ok (.ireturn, 1) := by decide +kernel
theorem dX2_log_30 : decode cX2_log 30 = .ok (.iload_n 2, 1) := by decide +kernel
theorem dX2_log_31 : decode cX2_log 31 = .ok (.ifCond .ne 11, 3) := by decide +kernel
theorem dX2_log_34 : decode cX2_log 34 = .ok (.aload_n 0, 1) := by decide +kernel
theorem dX2_log_35 : decode cX2_log 35 = .ok (.iload_n 1, 1) := by decide +kernel
theorem dX2_log_36 : decode cX2_log 36 = .ok (.invokevirtual 115, 3) := by decide +kernel
theorem dX2_log_39 : decode cX2_log 39 = .ok (.goto 36, 3) := by decide +kernel
theorem dX2_log_42 : decode cX2_log 42 = .ok (.iload_n 2, 1) := by decide +kernel
theorem dX2_log_43 : decode cX2_log 43 = .ok (.iconst 1, 1) := by decide +kernel
theorem dX2_log_44 : decode cX2_log 44 = .ok (.if_icmp .ne 12, 3) := by decide +kernel
theorem dX2_log_47 : decode cX2_log 47 = .ok (.aload_n 0, 1) := by decide +kernel
theorem dX2_log_48 : decode cX2_log 48 = .ok (.getfield 13, 3) := by decide +kernel
theorem dX2_log_51 : decode cX2_log 51 = .ok (.iload_n 1, 1) := by decide +kernel
theorem dX2_log_52 : decode cX2_log 52 = .ok (.iaload, 1) := by decide +kernel
theorem dX2_log_53 : decode cX2_log 53 = .ok (.goto 22, 3) := by decide +kernel
theorem dX2_log_56 : decode cX2_log 56 = .ok (.iload_n 2, 1) := by decide +kernel
theorem dX2_log_57 : decode cX2_log 57 = .ok (.iconst 2, 1) := by decide +kernel
theorem dX2_log_58 : decode cX2_log 58 = .ok (.if_icmp .ne 11, 3) := by decide +kernel
theorem dX2_log_61 : decode cX2_log 61 = .ok (.aload_n 0, 1) := by decide +kernel
theorem dX2_log_62 : decode cX2_log 62 = .ok (.iload_n 1, 1) := by decide +kernel
theorem dX2_log_63 : decode cX2_log 63 = .ok (.invokevirtual 104, 3) := by decide +kernel
theorem dX2_log_66 : decode cX2_log 66 = .ok (.goto 9, 3) := by decide +kernel
theorem dX2_log_69 : decode cX2_log 69 = .ok (.aload_n 0, 1) := by decide +kernel
theorem dX2_log_70 : decode cX2_log 70 = .ok (.getfield 23, 3) := by decide +kernel
theorem dX2_log_73 : decode cX2_log 73 = .ok (.iload_n 1, 1) := by decide +kernel
theorem dX2_log_74 : decode cX2_log 74 = .ok (.iaload, 1) := by decide +kernel
theorem dX2_log_75 : decode cX2_log 75 = .ok (.ireturn, 1) := by decide +kernel
theorem dX2_isEntry_0 : decode cX2_isEntry 0 = .ok (.iload_n 1, 1) := by decide +kernel
theorem dX2_isEntry_1 : decode cX2_isEntry 1 = .ok (.invokestatic 78, 3) := by decide +kernel
theorem dX2_isEntry_4 : decode cX2_isEntry 4 = .ok (.ifCond .eq 27, 3) := by decide +kernel
theorem dX2_isEntry_7 : decode cX2_isEntry 7 = .ok (.aload_n 0, 1) := by decide +kernel
theorem dX2_isEntry_8 : decode cX2_isEntry 8 = .ok (.getfield 60, 3) := by decide +kernel
theorem dX2_isEntry_11 : decode cX2_isEntry 11 = .ok (.ifCond .ne 16, 3) := by decide +kernel
theorem dX2_isEntry_14 : decode cX2_isEntry 14 = .ok (.iload_n 2, 1) := by decide +kernel
theorem dX2_isEntry_15 : decode cX2_isEntry 15 = .ok (.ifCond .lt 16, 3) := by decide +kernel
theorem dX2_isEntry_18 : decode cX2_isEntry 18 = .ok (.iload_n 2, 1) := by decide +kernel
theorem dX2_isEntry_19 : decode cX2_isEntry 19 = .ok (.aload_n 0, 1) := by decide +kernel
theorem dX2_isEntry_20 : decode cX2_isEntry 20 = .ok (.iload_n 1, 1) := by decide +kernel
theorem dX2_isEntry_21 : decode cX2_isEntry 21 = .ok (.invokevirtual 115, 3) := by decide +kernel
theorem dX2_isEntry_24 : decode cX2_isEntry 24 = .ok (.if_icmp .ge 7, 3) := by decide +kernel
theorem dX2_isEntry_27 : decode cX2_isEntry 27 = .ok (.iconst 1, 1) := by decide +kernel
theorem dX2_isEntry_28 : decode cX2_isEntry 28 = .ok (.goto 4, 3) := by decide +kernel
theorem dX2_isEntry_31 : decode cX2_isEntry 31 = .ok (.iconst 0, 1) := by decide +kernel
theorem dX2_isEntry_32 : decode cX2_isEntry 32 = .ok (.ireturn, 1) := by decide +kernel
theorem dX2_entry_0 : decode cX2_entry 0 = .ok (.aload_n 0, 1) := by decide +kernel
theorem dX2_entry_1 : decode cX2_entry 1 = .ok (.aload_n 0, 1) := by decide +kernel
theorem dX2_entry_2 : decode cX2_entry 2 = .ok (.iload_n 1, 1) := by decide +kernel
theorem dX2_entry_3 : decode cX2_entry 3 = .ok (.iload_n 2, 1) := by decide +kernel
theorem dX2_entry_4 : decode cX2_entry 4 = .ok (.invokevirtual 134, 3) := by decide +kernel
theorem dX2_entry_7 : decode cX2_entry 7 = .ok (.ifCond .eq 16, 3) := by decide +kernel
theorem dX2_entry_10 : decode cX2_entry 10 = .ok (.iload_n 3, 1) := by decide +kernel
theorem dX2_entry_11 : decode cX2_entry 11 = .ok (.ifCond .lt 12, 3) := by decide +kernel
theorem dX2_entry_14 : decode cX2_entry 14 = .ok (.iload_n 3, 1) := by decide +kernel
theorem dX2_entry_15 : decode cX2_entry 15 = .ok (.iconst 2, 1) := by decide +kernel
theorem dX2_entry_16 : decode cX2_entry 16 = .ok (.if_icmp .gt 7, 3) := by decide +kernel
theorem dX2_entry_19 : decode cX2_entry 19 = .ok (.iconst 1, 1) := by decide +kernel
theorem dX2_entry_20 : decode cX2_entry 20 = .ok (.goto 4, 3) := by decide +kernel
theorem dX2_entry_23 : decode cX2_entry 23 = .ok (.iconst 0, 1) := by decide +kernel
theorem dX2_entry_24 : decode cX2_entry 24 = .ok (.invokevirtual 82, 3) := by decide +kernel
theorem dX2_entry_27 : decode cX2_entry 27 = .ok (.ifCond .ne 5, 3) := by decide +kernel
theorem dX2_entry_30 : decode cX2_entry 30 = .ok (.iconst 0, 1) := by decide +kernel
theorem dX2_entry_31 : decode cX2_entry 31 = .ok (.ireturn, 1) := by decide +kernel
theorem dX2_entry_32 : decode cX2_entry 32 = .ok (.aload_n 0, 1) := by decide +kernel
theorem dX2_entry_33 : decode cX2_entry 33 = .ok (.iload_n 1, 1) := by decide +kernel
theorem dX2_entry_34 : decode cX2_entry 34 = .ok (.iload_n 2, 1) := by decide +kernel
theorem dX2_entry_35 : decode cX2_entry 35 = .ok (.invokevirtual 124, 3) := by decide +kernel
theorem dX2_entry_38 : decode cX2_entry 38 = .ok (.istore 4, 2) := by decide +kernel
theorem dX2_entry_40 : decode cX2_entry 40 = .ok (.iload_n 3, 1) := by decide +kernel
theorem dX2_entry_41 : decode cX2_entry 41 = .ok (.iconst 2, 1) := by decide +kernel
theorem dX2_entry_42 : decode cX2_entry 42 = .ok (.if_icmp .ge 37, 3) := by decide +kernel
theorem dX2_entry_45 : decode cX2_entry 45 = .ok (.iload_n 3, 1) := by decide +kernel
theorem dX2_entry_46 : decode cX2_entry 46 = .ok (.ifCond .ne 13, 3) := by decide +kernel
theorem dX2_entry_49 : decode cX2_entry 49 = .ok (.aload_n 0, 1) := by decide +kernel
theorem dX2_entry_50 : decode cX2_entry 50 = .ok (.getfield 33, 3) := by decide +kernel
theorem dX2_entry_53 : decode cX2_entry 53 = .ok (.iload 4, 2) := by decide +kernel
theorem dX2_entry_55 : decode cX2_entry 55 = .ok (.iaload, 1) := by decide +kernel
theorem dX2_entry_56 : decode cX2_entry 56 = .ok (.goto 22, 3) := by decide +kernel
theorem dX2_entry_59 : decode cX2_entry 59 = .ok (.aload_n 0, 1) := by decide +kernel
theorem dX2_entry_60 : decode cX2_entry 60 = .ok (.getfield 39, 3) := by decide +kernel
theorem dX2_entry_63 : decode cX2_entry 63 = .ok (.iload 4, 2) := by decide +kernel
theorem dX2_entry_65 : decode cX2_entry 65 = .ok (.iaload, 1) := by decide +kernel
theorem dX2_entry_66 : decode cX2_entry 66 = .ok (.aload_n 0, 1) := by decide +kernel
theorem dX2_entry_67 : decode cX2_entry 67 = .ok (.getfield 42, 3) := by decide +kernel
theorem dX2_entry_70 : decode cX2_entry 70 = .ok (.iload 4, 2) := by decide +kernel
theorem dX2_entry_72 : decode cX2_entry 72 = .ok (.iaload, 1) := by decide +kernel
theorem dX2_entry_73 : decode cX2_entry 73 = .ok (.sipush 1024, 3) := by decide +kernel
theorem dX2_entry_76 : decode cX2_entry 76 = .ok (.idiv, 1) := by decide +kernel
theorem dX2_entry_77 : decode cX2_entry 77 = .ok (.iadd, 1) := by decide +kernel
theorem dX2_entry_78 : decode cX2_entry 78 = .ok (.ireturn, 1) := by decide +kernel
theorem dX2_entry_79 : decode cX2_entry 79 = .ok (.iconst 0, 1) := by decide +kernel
theorem dX2_entry_80 : decode cX2_entry 80 = .ok (.istore 5, 2) := by decide +kernel
theorem dX2_entry_82 : decode cX2_entry 82 = .ok (.aload_n 0, 1) := by decide +kernel
theorem dX2_entry_83 : decode cX2_entry 83 = .ok (.getfield 17, 3) := by decide +kernel
theorem dX2_entry_86 : decode cX2_entry 86 = .ok (.bipush 60, 2) := by decide +kernel
theorem dX2_entry_88 : decode cX2_entry 88 = .ok (.iload_n 1, 1) := by decide +kernel
theorem dX2_entry_89 : decode cX2_entry 89 = .ok (.imul, 1) := by decide +kernel
theorem dX2_entry_90 : decode cX2_entry 90 = .ok (.iload 5, 2) := by decide +kernel
theorem dX2_entry_92 : decode cX2_entry 92 = .ok (.iadd, 1) := by decide +kernel
theorem dX2_entry_93 : decode cX2_entry 93 = .ok (.iaload, 1) := by decide +kernel
theorem dX2_entry_94 : decode cX2_entry 94 = .ok (.aload_n 0, 1) := by decide +kernel
theorem dX2_entry_95 : decode cX2_entry 95 = .ok (.getfield 39, 3) := by decide +kernel
theorem dX2_entry_98 : decode cX2_entry 98 = .ok (.iload 4, 2) := by decide +kernel
theorem dX2_entry_100 : decode cX2_entry 100 = .ok (.iaload, 1) := by decide +kernel
theorem dX2_entry_101 : decode cX2_entry 101 = .ok (.if_icmp .eq 9, 3) := by decide +kernel
theorem dX2_entry_104 : decode cX2_entry 104 = .ok (.iinc 5 1, 3) := by decide +kernel
theorem dX2_entry_107 : decode cX2_entry 107 = .ok (.goto (-25), 3) := by decide +kernel
theorem dX2_entry_110 : decode cX2_entry 110 = .ok (.iload 5, 2) := by decide +kernel
theorem dX2_entry_112 : decode cX2_entry 112 = .ok (.ireturn, 1) := by decide +kernel
theorem dX2_byteAt_0 : decode cX2_byteAt 0 = .ok (.aload_n 0, 1) := by decide +kernel
theorem dX2_byteAt_1 : decode cX2_byteAt 1 = .ok (.aload_n 0, 1) := by decide +kernel
theorem dX2_byteAt_2 : decode cX2_byteAt 2 = .ok (.iload_n 1, 1) := by decide +kernel
theorem dX2_byteAt_3 : decode cX2_byteAt 3 = .ok (.iload_n 2, 1) := by decide +kernel
theorem dX2_byteAt_4 : decode cX2_byteAt 4 = .ok (.invokevirtual 134, 3) := by decide +kernel
theorem dX2_byteAt_7 : decode cX2_byteAt 7 = .ok (.ifCond .eq 33, 3) := by decide +kernel
theorem dX2_byteAt_10 : decode cX2_byteAt 10 = .ok (.aload_n 0, 1) := by decide +kernel
theorem dX2_byteAt_11 : decode cX2_byteAt 11 = .ok (.getfield 60, 3) := by decide +kernel
theorem dX2_byteAt_14 : decode cX2_byteAt 14 = .ok (.ifCond .ne 22, 3) := by decide +kernel
theorem dX2_byteAt_17 : decode cX2_byteAt 17 = .ok (.iload_n 3, 1) := by decide +kernel
theorem dX2_byteAt_18 : decode cX2_byteAt 18 = .ok (.ifCond .lt 22, 3) := by decide +kernel
theorem dX2_byteAt_21 : decode cX2_byteAt 21 = .ok (.iload_n 3, 1) := by decide +kernel
theorem dX2_byteAt_22 : decode cX2_byteAt 22 = .ok (.aload_n 0, 1) := by decide +kernel
theorem dX2_byteAt_23 : decode cX2_byteAt 23 = .ok (.getfield 33, 3) := by decide +kernel
theorem dX2_byteAt_26 : decode cX2_byteAt 26 = .ok (.aload_n 0, 1) := by decide +kernel
theorem dX2_byteAt_27 : decode cX2_byteAt 27 = .ok (.iload_n 1, 1) := by decide +kernel
theorem dX2_byteAt_28 : decode cX2_byteAt 28 = .ok (.iload_n 2, 1) := by decide +kernel
theorem dX2_byteAt_29 : decode cX2_byteAt 29 = .ok (.invokevirtual 124, 3) := by decide +kernel
theorem dX2_byteAt_32 : decode cX2_byteAt 32 = .ok (.iaload, 1) := by decide +kernel
theorem dX2_byteAt_33 : decode cX2_byteAt 33 = .ok (.if_icmp .ge 7, 3) := by decide +kernel
theorem dX2_byteAt_36 : decode cX2_byteAt 36 = .ok (.iconst 1, 1) := by decide +kernel
theorem dX2_byteAt_37 : decode cX2_byteAt 37 = .ok (.goto 4, 3) := by decide +kernel
theorem dX2_byteAt_40 : decode cX2_byteAt 40 = .ok (.iconst 0, 1) := by decide +kernel
theorem dX2_byteAt_41 : decode cX2_byteAt 41 = .ok (.invokevirtual 82, 3) := by decide +kernel
theorem dX2_byteAt_44 : decode cX2_byteAt 44 = .ok (.ifCond .ne 5, 3) := by decide +kernel
theorem dX2_byteAt_47 : decode cX2_byteAt 47 = .ok (.iconst 0, 1) := by decide +kernel
theorem dX2_byteAt_48 : decode cX2_byteAt 48 = .ok (.ireturn, 1) := by decide +kernel
theorem dX2_byteAt_49 : decode cX2_byteAt 49 = .ok (.aload_n 0, 1) := by decide +kernel
theorem dX2_byteAt_50 : decode cX2_byteAt 50 = .ok (.getfield 36, 3) := by decide +kernel
theorem dX2_byteAt_53 : decode cX2_byteAt 53 = .ok (.aload_n 0, 1) := by decide +kernel
theorem dX2_byteAt_54 : decode cX2_byteAt 54 = .ok (.iload_n 1, 1) := by decide +kernel
theorem dX2_byteAt_55 : decode cX2_byteAt 55 = .ok (.iload_n 2, 1) := by decide +kernel
theorem dX2_byteAt_56 : decode cX2_byteAt 56 = .ok (.invokevirtual 124, 3) := by decide +kernel
theorem dX2_byteAt_59 : decode cX2_byteAt 59 = .ok (.iaload, 1) := by decide +kernel
theorem dX2_byteAt_60 : decode cX2_byteAt 60 = .ok (.iload_n 3, 1) := by decide +kernel
theorem dX2_byteAt_61 : decode cX2_byteAt 61 = .ok (.iadd, 1) := by decide +kernel
theorem dX2_byteAt_62 : decode cX2_byteAt 62 = .ok (.sipush 255, 3) := by decide +kernel
theorem dX2_byteAt_65 : decode cX2_byteAt 65 = .ok (.iand, 1) := by decide +kernel
theorem dX2_byteAt_66 : decode cX2_byteAt 66 = .ok (.ireturn, 1) := by decide +kernel
theorem dX2_crash_0 : decode cX2_crash 0 = .ok (.aload_n 0, 1) := by decide +kernel
theorem dX2_crash_1 : decode cX2_crash 1 = .ok (.iload_n 1, 1) := by decide +kernel
theorem dX2_crash_2 : decode cX2_crash 2 = .ok (.iconst (-1), 1) := by decide +kernel
theorem dX2_crash_3 : decode cX2_crash 3 = .ok (.if_icmp .lt 14, 3) := by decide +kernel
theorem dX2_crash_6 : decode cX2_crash 6 = .ok (.iload_n 1, 1) := by decide +kernel
theorem dX2_crash_7 : decode cX2_crash 7 = .ok (.sipush 1000, 3) := by decide +kernel
theorem dX2_crash_10 : decode cX2_crash 10 = .ok (.if_icmp .gt 7, 3) := by decide +kernel
theorem dX2_crash_13 : decode cX2_crash 13 = .ok (.iconst 1, 1) := by decide +kernel
theorem dX2_crash_14 : decode cX2_crash 14 = .ok (.goto 4, 3) := by decide +kernel
theorem dX2_crash_17 : decode cX2_crash 17 = .ok (.iconst 0, 1) := by decide +kernel
theorem dX2_crash_18 : decode cX2_crash 18 = .ok (.invokevirtual 82, 3) := by decide +kernel
theorem dX2_crash_21 : decode cX2_crash 21 = .ok (.ifCond .eq 21, 3) := by decide +kernel
theorem dX2_crash_24 : decode cX2_crash 24 = .ok (.aload_n 0, 1) := by decide +kernel
theorem dX2_crash_25 : decode cX2_crash 25 = .ok (.iload_n 1, 1) := by decide +kernel
theorem dX2_crash_26 : decode cX2_crash 26 = .ok (.putfield 7, 3) := by decide +kernel
theorem dX2_crash_29 : decode cX2_crash 29 = .ok (.aload_n 0, 1) := by decide +kernel
theorem dX2_crash_30 : decode cX2_crash 30 = .ok (.iload_n 1, 1) := by decide +kernel
theorem dX2_crash_31 : decode cX2_crash 31 = .ok (.ifCond .ne 7, 3) := by decide +kernel
theorem dX2_crash_34 : decode cX2_crash 34 = .ok (.iconst 1, 1) := by decide +kernel
theorem dX2_crash_35 : decode cX2_crash 35 = .ok (.goto 4, 3) := by decide +kernel
theorem dX2_crash_38 : decode cX2_crash 38 = .ok (.iconst 0, 1) := by decide +kernel
theorem dX2_crash_39 : decode cX2_crash 39 = .ok (.putfield 60, 3) := by decide +kernel
theorem dX2_crash_42 : decode cX2_crash 42 = .ok (.return_, 1) := by decide +kernel
theorem dX2_recover_0 : decode cX2_recover 0 = .ok (.aload_n 0, 1) := by decide +kernel
theorem dX2_recover_1 : decode cX2_recover 1 = .ok (.iconst 0, 1) := by decide +kernel
theorem dX2_recover_2 : decode cX2_recover 2 = .ok (.putfield 57, 3) := by decide +kernel
theorem dX2_recover_5 : decode cX2_recover 5 = .ok (.aload_n 0, 1) := by decide +kernel
theorem dX2_recover_6 : decode cX2_recover 6 = .ok (.iconst 0, 1) := by decide +kernel
theorem dX2_recover_7 : decode cX2_recover 7 = .ok (.putfield 60, 3) := by decide +kernel
theorem dX2_recover_10 : decode cX2_recover 10 = .ok (.aload_n 0, 1) := by decide +kernel
theorem dX2_recover_11 : decode cX2_recover 11 = .ok (.iconst (-1), 1) := by decide +kernel
theorem dX2_recover_12 : decode cX2_recover 12 = .ok (.putfield 7, 3) := by decide +kernel
theorem dX2_recover_15 : decode cX2_recover 15 = .ok (.aload_n 0, 1) := by decide +kernel
theorem dX2_recover_16 : decode cX2_recover 16 = .ok (.getfield 71, 3) := by decide +kernel
theorem dX2_recover_19 : decode cX2_recover 19 = .ok (.ireturn, 1) := by decide +kernel
theorem dX2_isDown_0 : decode cX2_isDown 0 = .ok (.aload_n 0, 1) := by decide +kernel
theorem dX2_isDown_1 : decode cX2_isDown 1 = .ok (.iconst 0, 1) := by decide +kernel
theorem dX2_isDown_2 : decode cX2_isDown 2 = .ok (.putfield 57, 3) := by decide +kernel
theorem dX2_isDown_5 : decode cX2_isDown 5 = .ok (.aload_n 0, 1) := by decide +kernel
theorem dX2_isDown_6 : decode cX2_isDown 6 = .ok (.getfield 60, 3) := by decide +kernel
theorem dX2_isDown_9 : decode cX2_isDown 9 = .ok (.ireturn, 1) := by decide +kernel
theorem dX2_writes_0 : decode cX2_writes 0 = .ok (.aload_n 0, 1) := by decide +kernel
theorem dX2_writes_1 : decode cX2_writes 1 = .ok (.iconst 0, 1) := by decide +kernel
theorem dX2_writes_2 : decode cX2_writes 2 = .ok (.putfield 57, 3) := by decide +kernel
theorem dX2_writes_5 : decode cX2_writes 5 = .ok (.aload_n 0, 1) := by decide +kernel
theorem dX2_writes_6 : decode cX2_writes 6 = .ok (.getfield 68, 3) := by decide +kernel
theorem dX2_writes_9 : decode cX2_writes 9 = .ok (.ireturn, 1) := by decide +kernel
theorem dX2_free_0 : decode cX2_free 0 = .ok (.aload_n 0, 1) := by decide +kernel
theorem dX2_free_1 : decode cX2_free 1 = .ok (.aload_n 0, 1) := by decide +kernel
theorem dX2_free_2 : decode cX2_free 2 = .ok (.getfield 60, 3) := by decide +kernel
theorem dX2_free_5 : decode cX2_free 5 = .ok (.ifCond .eq 7, 3) := by decide +kernel
theorem dX2_free_8 : decode cX2_free 8 = .ok (.iconst 1, 1) := by decide +kernel
theorem dX2_free_9 : decode cX2_free 9 = .ok (.goto 4, 3) := by decide +kernel
theorem dX2_free_12 : decode cX2_free 12 = .ok (.iconst 0, 1) := by decide +kernel
theorem dX2_free_13 : decode cX2_free 13 = .ok (.putfield 57, 3) := by decide +kernel
theorem dX2_free_16 : decode cX2_free 16 = .ok (.aload_n 0, 1) := by decide +kernel
theorem dX2_free_17 : decode cX2_free 17 = .ok (.getfield 57, 3) := by decide +kernel
theorem dX2_free_20 : decode cX2_free 20 = .ok (.ifCond .le 5, 3) := by decide +kernel
theorem dX2_free_23 : decode cX2_free 23 = .ok (.iconst 0, 1) := by decide +kernel
theorem dX2_free_24 : decode cX2_free 24 = .ok (.ireturn, 1) := by decide +kernel
theorem dX2_free_25 : decode cX2_free 25 = .ok (.aload_n 0, 1) := by decide +kernel
theorem dX2_free_26 : decode cX2_free 26 = .ok (.invokevirtual 86, 3) := by decide +kernel
theorem dX2_free_29 : decode cX2_free 29 = .ok (.iconst 0, 1) := by decide +kernel
theorem dX2_free_30 : decode cX2_free 30 = .ok (.istore_n 1, 1) := by decide +kernel
theorem dX2_free_31 : decode cX2_free 31 = .ok (.iconst 0, 1) := by decide +kernel
theorem dX2_free_32 : decode cX2_free 32 = .ok (.istore_n 2, 1) := by decide +kernel
theorem dX2_free_33 : decode cX2_free 33 = .ok (.iload_n 2, 1) := by decide +kernel
theorem dX2_free_34 : decode cX2_free 34 = .ok (.aload_n 0, 1) := by decide +kernel
theorem dX2_free_35 : decode cX2_free 35 = .ok (.getfield 54, 3) := by decide +kernel
theorem dX2_free_38 : decode cX2_free 38 = .ok (.if_icmp .ge 26, 3) := by decide +kernel
theorem dX2_free_41 : decode cX2_free 41 = .ok (.iload_n 1, 1) := by decide +kernel
theorem dX2_free_42 : decode cX2_free 42 = .ok (.aload_n 0, 1) := by decide +kernel
theorem dX2_free_43 : decode cX2_free 43 = .ok (.getfield 26, 3) := by decide +kernel
theorem dX2_free_46 : decode cX2_free 46 = .ok (.iload_n 2, 1) := by decide +kernel
theorem dX2_free_47 : decode cX2_free 47 = .ok (.baload, 1) := by decide +kernel
theorem dX2_free_48 : decode cX2_free 48 = .ok (.ifCond .eq 7, 3) := by decide +kernel
theorem dX2_free_51 : decode cX2_free 51 = .ok (.iconst 0, 1) := by decide +kernel
theorem dX2_free_52 : decode cX2_free 52 = .ok (.goto 4, 3) := by decide +kernel
theorem dX2_free_55 : decode cX2_free 55 = .ok (.iconst 1, 1) := by decide +kernel
theorem dX2_free_56 : decode cX2_free 56 = .ok (.iadd, 1) := by decide +kernel
theorem dX2_free_57 : decode cX2_free 57 = .ok (.istore_n 1, 1) := by decide +kernel
theorem dX2_free_58 : decode cX2_free 58 = .ok (.iinc 2 1, 3) := by decide +kernel
theorem dX2_free_61 : decode cX2_free 61 = .ok (.goto (-28), 3) := by decide +kernel
theorem dX2_free_64 : decode cX2_free 64 = .ok (.iload_n 1, 1) := by decide +kernel
theorem dX2_free_65 : decode cX2_free 65 = .ok (.ireturn, 1) := by decide +kernel
end
section
theorem dL_cell_0 : decode cL_cell 0 = .ok (.iload_n 1, 1) := by decide +kernel
theorem dL_cell_1 : decode cL_cell 1 = .ok (.aload_n 0, 1) := by decide +kernel
theorem dL_cell_2 : decode cL_cell 2 = .ok (.arraylength, 1) := by decide +kernel
theorem dL_cell_3 : decode cL_cell 3 = .ok (.if_icmp .ge 9, 3) := by decide +kernel
theorem dL_cell_6 : decode cL_cell 6 = .ok (.aload_n 0, 1) := by decide +kernel
theorem dL_cell_7 : decode cL_cell 7 = .ok (.iload_n 1, 1) := by decide +kernel
theorem dL_cell_8 : decode cL_cell 8 = .ok (.iaload, 1) := by decide +kernel
theorem dL_cell_9 : decode cL_cell 9 = .ok (.goto 4, 3) := by decide +kernel
theorem dL_cell_12 : decode cL_cell 12 = .ok (.iconst 0, 1) := by decide +kernel
theorem dL_cell_13 : decode cL_cell 13 = .ok (.ireturn, 1) := by decide +kernel
theorem dL_append_0 : decode cL_append 0 = .ok (.aload 4, 2) := by decide +kernel
theorem dL_append_2 : decode cL_append 2 = .ok (.iconst 0, 1) := by decide +kernel
theorem dL_append_3 : decode cL_append 3 = .ok (.aload_n 0, 1) := by decide +kernel
theorem dL_append_4 : decode cL_append 4 = .ok (.iload_n 1, 1) := by decide +kernel
theorem dL_append_5 : decode cL_append 5 = .ok (.iload_n 2, 1) := by decide +kernel
theorem dL_append_6 : decode cL_append 6 = .ok (.iload_n 3, 1) := by decide +kernel
theorem dL_append_7 : decode cL_append 7 = .ok (.invokevirtual 7, 3) := by decide +kernel
theorem dL_append_10 : decode cL_append 10 = .ok (.i2l, 1) := by decide +kernel
theorem dL_append_11 : decode cL_append 11 = .ok (.lastore, 1) := by decide +kernel
theorem dL_append_12 : decode cL_append 12 = .ok (.goto 11, 3) := by decide +kernel
theorem dL_append_15 : decode cL_append 15 = .ok (.astore 5, 2) := by decide +kernel
theorem dL_append_17 : decode cL_append 17 = .ok (.iconst 1, 1) := by decide +kernel
theorem dL_append_18 : decode cL_append 18 = .ok (.ireturn, 1) := by decide +kernel
theorem dL_append_19 : decode cL_append 19 = .ok (.astore 5, 2) := by decide +kernel
theorem dL_append_21 : decode cL_append 21 = .ok (.iconst 2, 1) := by decide +kernel
theorem dL_append_22 : decode cL_append 22 = .ok (.ireturn, 1) := by decide +kernel
theorem dL_append_23 : decode cL_append 23 = .ok (.iconst 0, 1) := by decide +kernel
theorem dL_append_24 : decode cL_append 24 = .ok (.ireturn, 1) := by decide +kernel
theorem dL_retain_0 : decode cL_retain 0 = .ok (.aload_n 3, 1) := by decide +kernel
theorem dL_retain_1 : decode cL_retain 1 = .ok (.iconst 0, 1) := by decide +kernel
theorem dL_retain_2 : decode cL_retain 2 = .ok (.aload_n 0, 1) := by decide +kernel
theorem dL_retain_3 : decode cL_retain 3 = .ok (.iload_n 1, 1) := by decide +kernel
theorem dL_retain_4 : decode cL_retain 4 = .ok (.iload_n 2, 1) := by decide +kernel
theorem dL_retain_5 : decode cL_retain 5 = .ok (.invokevirtual 17, 3) := by decide +kernel
theorem dL_retain_8 : decode cL_retain 8 = .ok (.i2l, 1) := by decide +kernel
theorem dL_retain_9 : decode cL_retain 9 = .ok (.lastore, 1) := by decide +kernel
theorem dL_retain_10 : decode cL_retain 10 = .ok (.goto 11, 3) := by decide +kernel
theorem dL_retain_13 : decode cL_retain 13 = .ok (.astore 4, 2) := by decide +kernel
theorem dL_retain_15 : decode cL_retain 15 = .ok (.iconst 1, 1) := by decide +kernel
theorem dL_retain_16 : decode cL_retain 16 = .ok (.ireturn, 1) := by decide +kernel
theorem dL_retain_17 : decode cL_retain 17 = .ok (.astore 4, 2) := by decide +kernel
theorem dL_retain_19 : decode cL_retain 19 = .ok (.iconst 2, 1) := by decide +kernel
theorem dL_retain_20 : decode cL_retain 20 = .ok (.ireturn, 1) := by decide +kernel
theorem dL_retain_21 : decode cL_retain 21 = .ok (.iconst 0, 1) := by decide +kernel
theorem dL_retain_22 : decode cL_retain 22 = .ok (.ireturn, 1) := by decide +kernel
theorem dL_thin_0 : decode cL_thin 0 = .ok (.aload_n 3, 1) := by decide +kernel
theorem dL_thin_1 : decode cL_thin 1 = .ok (.iconst 0, 1) := by decide +kernel
theorem dL_thin_2 : decode cL_thin 2 = .ok (.aload_n 0, 1) := by decide +kernel
theorem dL_thin_3 : decode cL_thin 3 = .ok (.iload_n 1, 1) := by decide +kernel
theorem dL_thin_4 : decode cL_thin 4 = .ok (.iload_n 2, 1) := by decide +kernel
theorem dL_thin_5 : decode cL_thin 5 = .ok (.invokevirtual 21, 3) := by decide +kernel
theorem dL_thin_8 : decode cL_thin 8 = .ok (.i2l, 1) := by decide +kernel
theorem dL_thin_9 : decode cL_thin 9 = .ok (.lastore, 1) := by decide +kernel
theorem dL_thin_10 : decode cL_thin 10 = .ok (.goto 11, 3) := by decide +kernel
theorem dL_thin_13 : decode cL_thin 13 = .ok (.astore 4, 2) := by decide +kernel
theorem dL_thin_15 : decode cL_thin 15 = .ok (.iconst 1, 1) := by decide +kernel
theorem dL_thin_16 : decode cL_thin 16 = .ok (.ireturn, 1) := by decide +kernel
theorem dL_thin_17 : decode cL_thin 17 = .ok (.astore 4, 2) := by decide +kernel
theorem dL_thin_19 : decode cL_thin 19 = .ok (.iconst 2, 1) := by decide +kernel
theorem dL_thin_20 : decode cL_thin 20 = .ok (.ireturn, 1) := by decide +kernel
theorem dL_thin_21 : decode cL_thin 21 = .ok (.iconst 0, 1) := by decide +kernel
theorem dL_thin_22 : decode cL_thin 22 = .ok (.ireturn, 1) := by decide +kernel
theorem dL_log_0 : decode cL_log 0 = .ok (.aload_n 3, 1) := by decide +kernel
theorem dL_log_1 : decode cL_log 1 = .ok (.iconst 0, 1) := by decide +kernel
theorem dL_log_2 : decode cL_log 2 = .ok (.aload_n 0, 1) := by decide +kernel
theorem dL_log_3 : decode cL_log 3 = .ok (.iload_n 1, 1) := by decide +kernel
theorem dL_log_4 : decode cL_log 4 = .ok (.iload_n 2, 1) := by decide +kernel
theorem dL_log_5 : decode cL_log 5 = .ok (.invokevirtual 24, 3) := by decide +kernel
theorem dL_log_8 : decode cL_log 8 = .ok (.i2l, 1) := by decide +kernel
theorem dL_log_9 : decode cL_log 9 = .ok (.lastore, 1) := by decide +kernel
theorem dL_log_10 : decode cL_log 10 = .ok (.goto 11, 3) := by decide +kernel
theorem dL_log_13 : decode cL_log 13 = .ok (.astore 4, 2) := by decide +kernel
theorem dL_log_15 : decode cL_log 15 = .ok (.iconst 1, 1) := by decide +kernel
theorem dL_log_16 : decode cL_log 16 = .ok (.ireturn, 1) := by decide +kernel
theorem dL_log_17 : decode cL_log 17 = .ok (.astore 4, 2) := by decide +kernel
theorem dL_log_19 : decode cL_log 19 = .ok (.iconst 2, 1) := by decide +kernel
theorem dL_log_20 : decode cL_log 20 = .ok (.ireturn, 1) := by decide +kernel
theorem dL_log_21 : decode cL_log 21 = .ok (.iconst 0, 1) := by decide +kernel
theorem dL_log_22 : decode cL_log 22 = .ok (.ireturn, 1) := by decide +kernel
theorem dL_entry_0 : decode cL_entry 0 = .ok (.aload 4, 2) := by decide +kernel
theorem dL_entry_2 : decode cL_entry 2 = .ok (.iconst 0, 1) := by decide +kernel
theorem dL_entry_3 : decode cL_entry 3 = .ok (.aload_n 0, 1) := by decide +kernel
theorem dL_entry_4 : decode cL_entry 4 = .ok (.iload_n 1, 1) := by decide +kernel
theorem dL_entry_5 : decode cL_entry 5 = .ok (.iload_n 2, 1) := by decide +kernel
theorem dL_entry_6 : decode cL_entry 6 = .ok (.iload_n 3, 1) := by decide +kernel
theorem dL_entry_7 : decode cL_entry 7 = .ok (.invokevirtual 27, 3) := by decide +kernel
theorem dL_entry_10 : decode cL_entry 10 = .ok (.i2l, 1) := by decide +kernel
theorem dL_entry_11 : decode cL_entry 11 = .ok (.lastore, 1) := by decide +kernel
theorem dL_entry_12 : decode cL_entry 12 = .ok (.goto 11, 3) := by decide +kernel
theorem dL_entry_15 : decode cL_entry 15 = .ok (.astore 5, 2) := by decide +kernel
theorem dL_entry_17 : decode cL_entry 17 = .ok (.iconst 1, 1) := by decide +kernel
theorem dL_entry_18 : decode cL_entry 18 = .ok (.ireturn, 1) := by decide +kernel
theorem dL_entry_19 : decode cL_entry 19 = .ok (.astore 5, 2) := by decide +kernel
theorem dL_entry_21 : decode cL_entry 21 = .ok (.iconst 2, 1) := by decide +kernel
theorem dL_entry_22 : decode cL_entry 22 = .ok (.ireturn, 1) := by decide +kernel
theorem dL_entry_23 : decode cL_entry 23 = .ok (.iconst 0, 1) := by decide +kernel
theorem dL_entry_24 : decode cL_entry 24 = .ok (.ireturn, 1) := by decide +kernel
theorem dL_byteAt_0 : decode cL_byteAt 0 = .ok (.aload 4, 2) := by decide +kernel
theorem dL_byteAt_2 : decode cL_byteAt 2 = .ok (.iconst 0, 1) := by decide +kernel
theorem dL_byteAt_3 : decode cL_byteAt 3 = .ok (.aload_n 0, 1) := by decide +kernel
theorem dL_byteAt_4 : decode cL_byteAt 4 = .ok (.iload_n 1, 1) := by decide +kernel
theorem dL_byteAt_5 : decode cL_byteAt 5 = .ok (.iload_n 2, 1) := by decide +kernel
theorem dL_byteAt_6 : decode cL_byteAt 6 = .ok (.iload_n 3, 1) := by decide +kernel
theorem dL_byteAt_7 : decode cL_byteAt 7 = .ok (.invokevirtual 30, 3) := by decide +kernel
theorem dL_byteAt_10 : decode cL_byteAt 10 = .ok (.i2l, 1) := by decide +kernel
theorem dL_byteAt_11 : decode cL_byteAt 11 = .ok (.lastore, 1) := by decide +kernel
theorem dL_byteAt_12 : decode cL_byteAt 12 = .ok (.goto 11, 3) := by decide +kernel
theorem dL_byteAt_15 : decode cL_byteAt 15 = .ok (.astore 5, 2) := by decide +kernel
theorem dL_byteAt_17 : decode cL_byteAt 17 = .ok (.iconst 1, 1) := by decide +kernel
theorem dL_byteAt_18 : decode cL_byteAt 18 = .ok (.ireturn, 1) := by decide +kernel
theorem dL_byteAt_19 : decode cL_byteAt 19 = .ok (.astore 5, 2) := by decide +kernel
theorem dL_byteAt_21 : decode cL_byteAt 21 = .ok (.iconst 2, 1) := by decide +kernel
theorem dL_byteAt_22 : decode cL_byteAt 22 = .ok (.ireturn, 1) := by decide +kernel
theorem dL_byteAt_23 : decode cL_byteAt 23 = .ok (.iconst 0, 1) := by decide +kernel
theorem dL_byteAt_24 : decode cL_byteAt 24 = .ok (.ireturn, 1) := by decide +kernel
theorem dL_crash_0 : decode cL_crash 0 = .ok (.aload_n 0, 1) := by decide +kernel
theorem dL_crash_1 : decode cL_crash 1 = .ok (.iload_n 1, 1) := by decide +kernel
theorem dL_crash_2 : decode cL_crash 2 = .ok (.invokevirtual 33, 3) := by decide +kernel
theorem dL_crash_5 : decode cL_crash 5 = .ok (.goto 9, 3) := by decide +kernel
theorem dL_crash_8 : decode cL_crash 8 = .ok (.astore_n 2, 1) := by decide +kernel
theorem dL_crash_9 : decode cL_crash 9 = .ok (.iconst 1, 1) := by decide +kernel
theorem dL_crash_10 : decode cL_crash 10 = .ok (.ireturn, 1) := by decide +kernel
theorem dL_crash_11 : decode cL_crash 11 = .ok (.astore_n 2, 1) := by decide +kernel
theorem dL_crash_12 : decode cL_crash 12 = .ok (.iconst 2, 1) := by decide +kernel
theorem dL_crash_13 : decode cL_crash 13 = .ok (.ireturn, 1) := by decide +kernel
theorem dL_crash_14 : decode cL_crash 14 = .ok (.iconst 0, 1) := by decide +kernel
theorem dL_crash_15 : decode cL_crash 15 = .ok (.ireturn, 1) := by decide +kernel
theorem dL_free_0 : decode cL_free 0 = .ok (.aload_n 1, 1) := by decide +kernel
theorem dL_free_1 : decode cL_free 1 = .ok (.iconst 0, 1) := by decide +kernel
theorem dL_free_2 : decode cL_free 2 = .ok (.aload_n 0, 1) := by decide +kernel
theorem dL_free_3 : decode cL_free 3 = .ok (.invokevirtual 37, 3) := by decide +kernel
theorem dL_free_6 : decode cL_free 6 = .ok (.i2l, 1) := by decide +kernel
theorem dL_free_7 : decode cL_free 7 = .ok (.lastore, 1) := by decide +kernel
theorem dL_free_8 : decode cL_free 8 = .ok (.goto 6, 3) := by decide +kernel
theorem dL_free_11 : decode cL_free 11 = .ok (.astore_n 2, 1) := by decide +kernel
theorem dL_free_12 : decode cL_free 12 = .ok (.iconst 1, 1) := by decide +kernel
theorem dL_free_13 : decode cL_free 13 = .ok (.ireturn, 1) := by decide +kernel
theorem dL_free_14 : decode cL_free 14 = .ok (.iconst 0, 1) := by decide +kernel
theorem dL_free_15 : decode cL_free 15 = .ok (.ireturn, 1) := by decide +kernel
theorem dL_law_0 : decode code 0 = .ok (.new 8, 3) := by decide +kernel
theorem dL_law_3 : decode code 3 = .ok (.dup, 1) := by decide +kernel
theorem dL_law_4 : decode code 4 = .ok (.aload_n 0, 1) := by decide +kernel
theorem dL_law_5 : decode code 5 = .ok (.iconst 0, 1) := by decide +kernel
theorem dL_law_6 : decode code 6 = .ok (.invokestatic 41, 3) := by decide +kernel
theorem dL_law_9 : decode code 9 = .ok (.aload_n 0, 1) := by decide +kernel
theorem dL_law_10 : decode code 10 = .ok (.iconst 1, 1) := by decide +kernel
theorem dL_law_11 : decode code 11 = .ok (.invokestatic 41, 3) := by decide +kernel
theorem dL_law_14 : decode code 14 = .ok (.invokespecial 47, 3) := by decide +kernel
theorem dL_law_17 : decode code 17 = .ok (.astore_n 1, 1) := by decide +kernel
theorem dL_law_18 : decode code 18 = .ok (.new 50, 3) := by decide +kernel
theorem dL_law_21 : decode code 21 = .ok (.dup, 1) := by decide +kernel
theorem dL_law_22 : decode code 22 = .ok (.aload_n 0, 1) := by decide +kernel
theorem dL_law_23 : decode code 23 = .ok (.iconst 0, 1) := by decide +kernel
theorem dL_law_24 : decode code 24 = .ok (.invokestatic 41, 3) := by decide +kernel
theorem dL_law_27 : decode code 27 = .ok (.aload_n 0, 1) := by decide +kernel
theorem dL_law_28 : decode code 28 = .ok (.iconst 1, 1) := by decide +kernel
theorem dL_law_29 : decode code 29 = .ok (.invokestatic 41, 3) := by decide +kernel
theorem dL_law_32 : decode code 32 = .ok (.invokespecial 52, 3) := by decide +kernel
theorem dL_law_35 : decode code 35 = .ok (.astore_n 2, 1) := by decide +kernel
theorem dL_law_36 : decode code 36 = .ok (.iconst 1, 1) := by decide +kernel
theorem dL_law_37 : decode code 37 = .ok (.newarray .long, 2) := by decide +kernel
theorem dL_law_39 : decode code 39 = .ok (.astore_n 3, 1) := by decide +kernel
theorem dL_law_40 : decode code 40 = .ok (.iconst 2, 1) := by decide +kernel
theorem dL_law_41 : decode code 41 = .ok (.istore 4, 2) := by decide +kernel
theorem dL_law_43 : decode code 43 = .ok (.iload 4, 2) := by decide +kernel
theorem dL_law_45 : decode code 45 = .ok (.aload_n 0, 1) := by decide +kernel
theorem dL_law_46 : decode code 46 = .ok (.arraylength, 1) := by decide +kernel
theorem dL_law_47 : decode code 47 = .ok (.iconst 4, 1) := by decide +kernel
theorem dL_law_48 : decode code 48 = .ok (.isub, 1) := by decide +kernel
theorem dL_law_49 : decode code 49 = .ok (.if_icmp .gt 636, 3) := by decide +kernel
theorem dL_law_52 : decode code 52 = .ok (.aload_n 0, 1) := by decide +kernel
theorem dL_law_53 : decode code 53 = .ok (.iload 4, 2) := by decide +kernel
theorem dL_law_55 : decode code 55 = .ok (.iaload, 1) := by decide +kernel
theorem dL_law_56 : decode code 56 = .ok (.bipush 15, 2) := by decide +kernel
theorem dL_law_58 : decode code 58 = .ok (.iand, 1) := by decide +kernel
theorem dL_law_59 : decode code 59 = .ok (.tableswitch 620 0 10 #[57, 137, 205, 273, 341, 421, 501, 537, 550, 563, 576], 57) := by decide +kernel
theorem dL_law_116 : decode code 116 = .ok (.aload_n 1, 1) := by decide +kernel
theorem dL_law_117 : decode code 117 = .ok (.aload_n 0, 1) := by decide +kernel
theorem dL_law_118 : decode code 118 = .ok (.iload 4, 2) := by decide +kernel
theorem dL_law_120 : decode code 120 = .ok (.iconst 1, 1) := by decide +kernel
theorem dL_law_121 : decode code 121 = .ok (.iadd, 1) := by decide +kernel
theorem dL_law_122 : decode code 122 = .ok (.iaload, 1) := by decide +kernel
theorem dL_law_123 : decode code 123 = .ok (.aload_n 0, 1) := by decide +kernel
theorem dL_law_124 : decode code 124 = .ok (.iload 4, 2) := by decide +kernel
theorem dL_law_126 : decode code 126 = .ok (.iconst 2, 1) := by decide +kernel
theorem dL_law_127 : decode code 127 = .ok (.iadd, 1) := by decide +kernel
theorem dL_law_128 : decode code 128 = .ok (.iaload, 1) := by decide +kernel
theorem dL_law_129 : decode code 129 = .ok (.aload_n 0, 1) := by decide +kernel
theorem dL_law_130 : decode code 130 = .ok (.iload 4, 2) := by decide +kernel
theorem dL_law_132 : decode code 132 = .ok (.iconst 3, 1) := by decide +kernel
theorem dL_law_133 : decode code 133 = .ok (.iadd, 1) := by decide +kernel
theorem dL_law_134 : decode code 134 = .ok (.iaload, 1) := by decide +kernel
theorem dL_law_135 : decode code 135 = .ok (.aload_n 3, 1) := by decide +kernel
theorem dL_law_136 : decode code 136 = .ok (.invokestatic 53, 3) := by decide +kernel
theorem dL_law_139 : decode code 139 = .ok (.istore 5, 2) := by decide +kernel
theorem dL_law_141 : decode code 141 = .ok (.aload_n 2, 1) := by decide +kernel
theorem dL_law_142 : decode code 142 = .ok (.aload_n 0, 1) := by decide +kernel
theorem dL_law_143 : decode code 143 = .ok (.iload 4, 2) := by decide +kernel
theorem dL_law_145 : decode code 145 = .ok (.iconst 1, 1) := by decide +kernel
theorem dL_law_146 : decode code 146 = .ok (.iadd, 1) := by decide +kernel
theorem dL_law_147 : decode code 147 = .ok (.iaload, 1) := by decide +kernel
theorem dL_law_148 : decode code 148 = .ok (.aload_n 0, 1) := by decide +kernel
theorem dL_law_149 : decode code 149 = .ok (.iload 4, 2) := by decide +kernel
theorem dL_law_151 : decode code 151 = .ok (.iconst 2, 1) := by decide +kernel
theorem dL_law_152 : decode code 152 = .ok (.iadd, 1) := by decide +kernel
theorem dL_law_153 : decode code 153 = .ok (.iaload, 1) := by decide +kernel
theorem dL_law_154 : decode code 154 = .ok (.aload_n 0, 1) := by decide +kernel
theorem dL_law_155 : decode code 155 = .ok (.iload 4, 2) := by decide +kernel
theorem dL_law_157 : decode code 157 = .ok (.iconst 3, 1) := by decide +kernel
theorem dL_law_158 : decode code 158 = .ok (.iadd, 1) := by decide +kernel
theorem dL_law_159 : decode code 159 = .ok (.iaload, 1) := by decide +kernel
theorem dL_law_160 : decode code 160 = .ok (.invokevirtual 56, 3) := by decide +kernel
theorem dL_law_163 : decode code 163 = .ok (.istore 6, 2) := by decide +kernel
theorem dL_law_165 : decode code 165 = .ok (.aload_n 2, 1) := by decide +kernel
theorem dL_law_166 : decode code 166 = .ok (.invokevirtual 57, 3) := by decide +kernel
theorem dL_law_169 : decode code 169 = .ok (.iload 5, 2) := by decide +kernel
theorem dL_law_171 : decode code 171 = .ok (.if_icmp .eq 5, 3) := by decide +kernel
theorem dL_law_174 : decode code 174 = .ok (.iconst 0, 1) := by decide +kernel
theorem dL_law_175 : decode code 175 = .ok (.ireturn, 1) := by decide +kernel
theorem dL_law_176 : decode code 176 = .ok (.iload 5, 2) := by decide +kernel
theorem dL_law_178 : decode code 178 = .ok (.ifCond .ne 15, 3) := by decide +kernel
theorem dL_law_181 : decode code 181 = .ok (.aload_n 3, 1) := by decide +kernel
theorem dL_law_182 : decode code 182 = .ok (.iconst 0, 1) := by decide +kernel
theorem dL_law_183 : decode code 183 = .ok (.laload, 1) := by decide +kernel
theorem dL_law_184 : decode code 184 = .ok (.iload 6, 2) := by decide +kernel
theorem dL_law_186 : decode code 186 = .ok (.i2l, 1) := by decide +kernel
theorem dL_law_187 : decode code 187 = .ok (.lcmp, 1) := by decide +kernel
theorem dL_law_188 : decode code 188 = .ok (.ifCond .eq 5, 3) := by decide +kernel
theorem dL_law_191 : decode code 191 = .ok (.iconst 0, 1) := by decide +kernel
theorem dL_law_192 : decode code 192 = .ok (.ireturn, 1) := by decide +kernel
theorem dL_law_193 : decode code 193 = .ok (.goto 486, 3) := by decide +kernel
theorem dL_law_196 : decode code 196 = .ok (.aload_n 1, 1) := by decide +kernel
theorem dL_law_197 : decode code 197 = .ok (.aload_n 0, 1) := by decide +kernel
theorem dL_law_198 : decode code 198 = .ok (.iload 4, 2) := by decide +kernel
theorem dL_law_200 : decode code 200 = .ok (.iconst 1, 1) := by decide +kernel
theorem dL_law_201 : decode code 201 = .ok (.iadd, 1) := by decide +kernel
theorem dL_law_202 : decode code 202 = .ok (.iaload, 1) := by decide +kernel
theorem dL_law_203 : decode code 203 = .ok (.aload_n 0, 1) := by decide +kernel
theorem dL_law_204 : decode code 204 = .ok (.iload 4, 2) := by decide +kernel
theorem dL_law_206 : decode code 206 = .ok (.iconst 2, 1) := by decide +kernel
theorem dL_law_207 : decode code 207 = .ok (.iadd, 1) := by decide +kernel
theorem dL_law_208 : decode code 208 = .ok (.iaload, 1) := by decide +kernel
theorem dL_law_209 : decode code 209 = .ok (.aload_n 3, 1) := by decide +kernel
theorem dL_law_210 : decode code 210 = .ok (.invokestatic 60, 3) := by decide +kernel
theorem dL_law_213 : decode code 213 = .ok (.istore 5, 2) := by decide +kernel
theorem dL_law_215 : decode code 215 = .ok (.aload_n 2, 1) := by decide +kernel
theorem dL_law_216 : decode code 216 = .ok (.aload_n 0, 1) := by decide +kernel
theorem dL_law_217 : decode code 217 = .ok (.iload 4, 2) := by decide +kernel
theorem dL_law_219 : decode code 219 = .ok (.iconst 1, 1) := by decide +kernel
theorem dL_law_220 : decode code 220 = .ok (.iadd, 1) := by decide +kernel
theorem dL_law_221 : decode code 221 = .ok (.iaload, 1) := by decide +kernel
theorem dL_law_222 : decode code 222 = .ok (.aload_n 0, 1) := by decide +kernel
theorem dL_law_223 : decode code 223 = .ok (.iload 4, 2) := by decide +kernel
theorem dL_law_225 : decode code 225 = .ok (.iconst 2, 1) := by decide +kernel
theorem dL_law_226 : decode code 226 = .ok (.iadd, 1) := by decide +kernel
theorem dL_law_227 : decode code 227 = .ok (.iaload, 1) := by decide +kernel
theorem dL_law_228 : decode code 228 = .ok (.invokevirtual 63, 3) := by decide +kernel
theorem dL_law_231 : decode code 231 = .ok (.istore 6, 2) := by decide +kernel
theorem dL_law_233 : decode code 233 = .ok (.aload_n 2, 1) := by decide +kernel
theorem dL_law_234 : decode code 234 = .ok (.invokevirtual 57, 3) := by decide +kernel
theorem dL_law_237 : decode code 237 = .ok (.iload 5, 2) := by decide +kernel
theorem dL_law_239 : decode code 239 = .ok (.if_icmp .eq 5, 3) := by decide +kernel
theorem dL_law_242 : decode code 242 = .ok (.iconst 0, 1) := by decide +kernel
theorem dL_law_243 : decode code 243 = .ok (.ireturn, 1) := by decide +kernel
theorem dL_law_244 : decode code 244 = .ok (.iload 5, 2) := by decide +kernel
theorem dL_law_246 : decode code 246 = .ok (.ifCond .ne 15, 3) := by decide +kernel
theorem dL_law_249 : decode code 249 = .ok (.aload_n 3, 1) := by decide +kernel
theorem dL_law_250 : decode code 250 = .ok (.iconst 0, 1) := by decide +kernel
theorem dL_law_251 : decode code 251 = .ok (.laload, 1) := by decide +kernel
theorem dL_law_252 : decode code 252 = .ok (.iload 6, 2) := by decide +kernel
theorem dL_law_254 : decode code 254 = .ok (.i2l, 1) := by decide +kernel
theorem dL_law_255 : decode code 255 = .ok (.lcmp, 1) := by decide +kernel
theorem dL_law_256 : decode code 256 = .ok (.ifCond .eq 5, 3) := by decide +kernel
theorem dL_law_259 : decode code 259 = .ok (.iconst 0, 1) := by decide +kernel
theorem dL_law_260 : decode code 260 = .ok (.ireturn, 1) := by decide +kernel
theorem dL_law_261 : decode code 261 = .ok (.goto 418, 3) := by decide +kernel
theorem dL_law_264 : decode code 264 = .ok (.aload_n 1, 1) := by decide +kernel
theorem dL_law_265 : decode code 265 = .ok (.aload_n 0, 1) := by decide +kernel
theorem dL_law_266 : decode code 266 = .ok (.iload 4, 2) := by decide +kernel
theorem dL_law_268 : decode code 268 = .ok (.iconst 1, 1) := by decide +kernel
theorem dL_law_269 : decode code 269 = .ok (.iadd, 1) := by decide +kernel
theorem dL_law_270 : decode code 270 = .ok (.iaload, 1) := by decide +kernel
theorem dL_law_271 : decode code 271 = .ok (.aload_n 0, 1) := by decide +kernel
theorem dL_law_272 : decode code 272 = .ok (.iload 4, 2) := by decide +kernel
theorem dL_law_274 : decode code 274 = .ok (.iconst 2, 1) := by decide +kernel
theorem dL_law_275 : decode code 275 = .ok (.iadd, 1) := by decide +kernel
theorem dL_law_276 : decode code 276 = .ok (.iaload, 1) := by decide +kernel
theorem dL_law_277 : decode code 277 = .ok (.aload_n 3, 1) := by decide +kernel
theorem dL_law_278 : decode code 278 = .ok (.invokestatic 64, 3) := by decide +kernel
theorem dL_law_281 : decode code 281 = .ok (.istore 5, 2) := by decide +kernel
theorem dL_law_283 : decode code 283 = .ok (.aload_n 2, 1) := by decide +kernel
theorem dL_law_284 : decode code 284 = .ok (.aload_n 0, 1) := by decide +kernel
theorem dL_law_285 : decode code 285 = .ok (.iload 4, 2) := by decide +kernel
theorem dL_law_287 : decode code 287 = .ok (.iconst 1, 1) := by decide +kernel
theorem dL_law_288 : decode code 288 = .ok (.iadd, 1) := by decide +kernel
theorem dL_law_289 : decode code 289 = .ok (.iaload, 1) := by decide +kernel
theorem dL_law_290 : decode code 290 = .ok (.aload_n 0, 1) := by decide +kernel
theorem dL_law_291 : decode code 291 = .ok (.iload 4, 2) := by decide +kernel
theorem dL_law_293 : decode code 293 = .ok (.iconst 2, 1) := by decide +kernel
theorem dL_law_294 : decode code 294 = .ok (.iadd, 1) := by decide +kernel
theorem dL_law_295 : decode code 295 = .ok (.iaload, 1) := by decide +kernel
theorem dL_law_296 : decode code 296 = .ok (.invokevirtual 66, 3) := by decide +kernel
theorem dL_law_299 : decode code 299 = .ok (.istore 6, 2) := by decide +kernel
theorem dL_law_301 : decode code 301 = .ok (.aload_n 2, 1) := by decide +kernel
theorem dL_law_302 : decode code 302 = .ok (.invokevirtual 57, 3) := by decide +kernel
theorem dL_law_305 : decode code 305 = .ok (.iload 5, 2) := by decide +kernel
theorem dL_law_307 : decode code 307 = .ok (.if_icmp .eq 5, 3) := by decide +kernel
theorem dL_law_310 : decode code 310 = .ok (.iconst 0, 1) := by decide +kernel
theorem dL_law_311 : decode code 311 = .ok (.ireturn, 1) := by decide +kernel
theorem dL_law_312 : decode code 312 = .ok (.iload 5, 2) := by decide +kernel
theorem dL_law_314 : decode code 314 = .ok (.ifCond .ne 15, 3) := by decide +kernel
theorem dL_law_317 : decode code 317 = .ok (.aload_n 3, 1) := by decide +kernel
theorem dL_law_318 : decode code 318 = .ok (.iconst 0, 1) := by decide +kernel
theorem dL_law_319 : decode code 319 = .ok (.laload, 1) := by decide +kernel
theorem dL_law_320 : decode code 320 = .ok (.iload 6, 2) := by decide +kernel
theorem dL_law_322 : decode code 322 = .ok (.i2l, 1) := by decide +kernel
theorem dL_law_323 : decode code 323 = .ok (.lcmp, 1) := by decide +kernel
theorem dL_law_324 : decode code 324 = .ok (.ifCond .eq 5, 3) := by decide +kernel
theorem dL_law_327 : decode code 327 = .ok (.iconst 0, 1) := by decide +kernel
theorem dL_law_328 : decode code 328 = .ok (.ireturn, 1) := by decide +kernel
theorem dL_law_329 : decode code 329 = .ok (.goto 350, 3) := by decide +kernel
theorem dL_law_332 : decode code 332 = .ok (.aload_n 1, 1) := by decide +kernel
theorem dL_law_333 : decode code 333 = .ok (.aload_n 0, 1) := by decide +kernel
theorem dL_law_334 : decode code 334 = .ok (.iload 4, 2) := by decide +kernel
theorem dL_law_336 : decode code 336 = .ok (.iconst 1, 1) := by decide +kernel
theorem dL_law_337 : decode code 337 = .ok (.iadd, 1) := by decide +kernel
theorem dL_law_338 : decode code 338 = .ok (.iaload, 1) := by decide +kernel
theorem dL_law_339 : decode code 339 = .ok (.aload_n 0, 1) := by decide +kernel
theorem dL_law_340 : decode code 340 = .ok (.iload 4, 2) := by decide +kernel
theorem dL_law_342 : decode code 342 = .ok (.iconst 2, 1) := by decide +kernel
theorem dL_law_343 : decode code 343 = .ok (.iadd, 1) := by decide +kernel
theorem dL_law_344 : decode code 344 = .ok (.iaload, 1) := by decide +kernel
theorem dL_law_345 : decode code 345 = .ok (.aload_n 3, 1) := by decide +kernel
theorem dL_law_346 : decode code 346 = .ok (.invokestatic 67, 3) := by decide +kernel
theorem dL_law_349 : decode code 349 = .ok (.istore 5, 2) := by decide +kernel
theorem dL_law_351 : decode code 351 = .ok (.aload_n 2, 1) := by decide +kernel
theorem dL_law_352 : decode code 352 = .ok (.aload_n 0, 1) := by decide +kernel
theorem dL_law_353 : decode code 353 = .ok (.iload 4, 2) := by decide +kernel
theorem dL_law_355 : decode code 355 = .ok (.iconst 1, 1) := by decide +kernel
theorem dL_law_356 : decode code 356 = .ok (.iadd, 1) := by decide +kernel
theorem dL_law_357 : decode code 357 = .ok (.iaload, 1) := by decide +kernel
theorem dL_law_358 : decode code 358 = .ok (.aload_n 0, 1) := by decide +kernel
theorem dL_law_359 : decode code 359 = .ok (.iload 4, 2) := by decide +kernel
theorem dL_law_361 : decode code 361 = .ok (.iconst 2, 1) := by decide +kernel
theorem dL_law_362 : decode code 362 = .ok (.iadd, 1) := by decide +kernel
theorem dL_law_363 : decode code 363 = .ok (.iaload, 1) := by decide +kernel
theorem dL_law_364 : decode code 364 = .ok (.invokevirtual 69, 3) := by decide +kernel
theorem dL_law_367 : decode code 367 = .ok (.istore 6, 2) := by decide +kernel
theorem dL_law_369 : decode code 369 = .ok (.aload_n 2, 1) := by decide +kernel
theorem dL_law_370 : decode code 370 = .ok (.invokevirtual 57, 3) := by decide +kernel
theorem dL_law_373 : decode code 373 = .ok (.iload 5, 2) := by decide +kernel
theorem dL_law_375 : decode code 375 = .ok (.if_icmp .eq 5, 3) := by decide +kernel
theorem dL_law_378 : decode code 378 = .ok (.iconst 0, 1) := by decide +kernel
theorem dL_law_379 : decode code 379 = .ok (.ireturn, 1) := by decide +kernel
theorem dL_law_380 : decode code 380 = .ok (.iload 5, 2) := by decide +kernel
theorem dL_law_382 : decode code 382 = .ok (.ifCond .ne 15, 3) := by decide +kernel
theorem dL_law_385 : decode code 385 = .ok (.aload_n 3, 1) := by decide +kernel
theorem dL_law_386 : decode code 386 = .ok (.iconst 0, 1) := by decide +kernel
theorem dL_law_387 : decode code 387 = .ok (.laload, 1) := by decide +kernel
theorem dL_law_388 : decode code 388 = .ok (.iload 6, 2) := by decide +kernel
theorem dL_law_390 : decode code 390 = .ok (.i2l, 1) := by decide +kernel
theorem dL_law_391 : decode code 391 = .ok (.lcmp, 1) := by decide +kernel
theorem dL_law_392 : decode code 392 = .ok (.ifCond .eq 5, 3) := by decide +kernel
theorem dL_law_395 : decode code 395 = .ok (.iconst 0, 1) := by decide +kernel
theorem dL_law_396 : decode code 396 = .ok (.ireturn, 1) := by decide +kernel
theorem dL_law_397 : decode code 397 = .ok (.goto 282, 3) := by decide +kernel
theorem dL_law_400 : decode code 400 = .ok (.aload_n 1, 1) := by decide +kernel
theorem dL_law_401 : decode code 401 = .ok (.aload_n 0, 1) := by decide +kernel
theorem dL_law_402 : decode code 402 = .ok (.iload 4, 2) := by decide +kernel
theorem dL_law_404 : decode code 404 = .ok (.iconst 1, 1) := by decide +kernel
theorem dL_law_405 : decode code 405 = .ok (.iadd, 1) := by decide +kernel
theorem dL_law_406 : decode code 406 = .ok (.iaload, 1) := by decide +kernel
theorem dL_law_407 : decode code 407 = .ok (.aload_n 0, 1) := by decide +kernel
theorem dL_law_408 : decode code 408 = .ok (.iload 4, 2) := by decide +kernel
theorem dL_law_410 : decode code 410 = .ok (.iconst 2, 1) := by decide +kernel
theorem dL_law_411 : decode code 411 = .ok (.iadd, 1) := by decide +kernel
theorem dL_law_412 : decode code 412 = .ok (.iaload, 1) := by decide +kernel
theorem dL_law_413 : decode code 413 = .ok (.aload_n 0, 1) := by decide +kernel
theorem dL_law_414 : decode code 414 = .ok (.iload 4, 2) := by decide +kernel
theorem dL_law_416 : decode code 416 = .ok (.iconst 3, 1) := by decide +kernel
theorem dL_law_417 : decode code 417 = .ok (.iadd, 1) := by decide +kernel
theorem dL_law_418 : decode code 418 = .ok (.iaload, 1) := by decide +kernel
theorem dL_law_419 : decode code 419 = .ok (.aload_n 3, 1) := by decide +kernel
theorem dL_law_420 : decode code 420 = .ok (.invokestatic 70, 3) := by decide +kernel
theorem dL_law_423 : decode code 423 = .ok (.istore 5, 2) := by decide +kernel
theorem dL_law_425 : decode code 425 = .ok (.aload_n 2, 1) := by decide +kernel
theorem dL_law_426 : decode code 426 = .ok (.aload_n 0, 1) := by decide +kernel
theorem dL_law_427 : decode code 427 = .ok (.iload 4, 2) := by decide +kernel
theorem dL_law_429 : decode code 429 = .ok (.iconst 1, 1) := by decide +kernel
theorem dL_law_430 : decode code 430 = .ok (.iadd, 1) := by decide +kernel
theorem dL_law_431 : decode code 431 = .ok (.iaload, 1) := by decide +kernel
theorem dL_law_432 : decode code 432 = .ok (.aload_n 0, 1) := by decide +kernel
theorem dL_law_433 : decode code 433 = .ok (.iload 4, 2) := by decide +kernel
theorem dL_law_435 : decode code 435 = .ok (.iconst 2, 1) := by decide +kernel
theorem dL_law_436 : decode code 436 = .ok (.iadd, 1) := by decide +kernel
theorem dL_law_437 : decode code 437 = .ok (.iaload, 1) := by decide +kernel
theorem dL_law_438 : decode code 438 = .ok (.aload_n 0, 1) := by decide +kernel
theorem dL_law_439 : decode code 439 = .ok (.iload 4, 2) := by decide +kernel
theorem dL_law_441 : decode code 441 = .ok (.iconst 3, 1) := by decide +kernel
theorem dL_law_442 : decode code 442 = .ok (.iadd, 1) := by decide +kernel
theorem dL_law_443 : decode code 443 = .ok (.iaload, 1) := by decide +kernel
theorem dL_law_444 : decode code 444 = .ok (.invokevirtual 72, 3) := by decide +kernel
theorem dL_law_447 : decode code 447 = .ok (.istore 6, 2) := by decide +kernel
theorem dL_law_449 : decode code 449 = .ok (.aload_n 2, 1) := by decide +kernel
theorem dL_law_450 : decode code 450 = .ok (.invokevirtual 57, 3) := by decide +kernel
theorem dL_law_453 : decode code 453 = .ok (.iload 5, 2) := by decide +kernel
theorem dL_law_455 : decode code 455 = .ok (.if_icmp .eq 5, 3) := by decide +kernel
theorem dL_law_458 : decode code 458 = .ok (.iconst 0, 1) := by decide +kernel
theorem dL_law_459 : decode code 459 = .ok (.ireturn, 1) := by decide +kernel
theorem dL_law_460 : decode code 460 = .ok (.iload 5, 2) := by decide +kernel
theorem dL_law_462 : decode code 462 = .ok (.ifCond .ne 15, 3) := by decide +kernel
theorem dL_law_465 : decode code 465 = .ok (.aload_n 3, 1) := by decide +kernel
theorem dL_law_466 : decode code 466 = .ok (.iconst 0, 1) := by decide +kernel
theorem dL_law_467 : decode code 467 = .ok (.laload, 1) := by decide +kernel
theorem dL_law_468 : decode code 468 = .ok (.iload 6, 2) := by decide +kernel
theorem dL_law_470 : decode code 470 = .ok (.i2l, 1) := by decide +kernel
theorem dL_law_471 : decode code 471 = .ok (.lcmp, 1) := by decide +kernel
theorem dL_law_472 : decode code 472 = .ok (.ifCond .eq 5, 3) := by decide +kernel
theorem dL_law_475 : decode code 475 = .ok (.iconst 0, 1) := by decide +kernel
theorem dL_law_476 : decode code 476 = .ok (.ireturn, 1) := by decide +kernel
theorem dL_law_477 : decode code 477 = .ok (.goto 202, 3) := by decide +kernel
theorem dL_law_480 : decode code 480 = .ok (.aload_n 1, 1) := by decide +kernel
theorem dL_law_481 : decode code 481 = .ok (.aload_n 0, 1) := by decide +kernel
theorem dL_law_482 : decode code 482 = .ok (.iload 4, 2) := by decide +kernel
theorem dL_law_484 : decode code 484 = .ok (.iconst 1, 1) := by decide +kernel
theorem dL_law_485 : decode code 485 = .ok (.iadd, 1) := by decide +kernel
theorem dL_law_486 : decode code 486 = .ok (.iaload, 1) := by decide +kernel
theorem dL_law_487 : decode code 487 = .ok (.aload_n 0, 1) := by decide +kernel
theorem dL_law_488 : decode code 488 = .ok (.iload 4, 2) := by decide +kernel
theorem dL_law_490 : decode code 490 = .ok (.iconst 2, 1) := by decide +kernel
theorem dL_law_491 : decode code 491 = .ok (.iadd, 1) := by decide +kernel
theorem dL_law_492 : decode code 492 = .ok (.iaload, 1) := by decide +kernel
theorem dL_law_493 : decode code 493 = .ok (.aload_n 0, 1) := by decide +kernel
theorem dL_law_494 : decode code 494 = .ok (.iload 4, 2) := by decide +kernel
theorem dL_law_496 : decode code 496 = .ok (.iconst 3, 1) := by decide +kernel
theorem dL_law_497 : decode code 497 = .ok (.iadd, 1) := by decide +kernel
theorem dL_law_498 : decode code 498 = .ok (.iaload, 1) := by decide +kernel
theorem dL_law_499 : decode code 499 = .ok (.aload_n 3, 1) := by decide +kernel
theorem dL_law_500 : decode code 500 = .ok (.invokestatic 73, 3) := by decide +kernel
theorem dL_law_503 : decode code 503 = .ok (.istore 5, 2) := by decide +kernel
theorem dL_law_505 : decode code 505 = .ok (.aload_n 2, 1) := by decide +kernel
theorem dL_law_506 : decode code 506 = .ok (.aload_n 0, 1) := by decide +kernel
theorem dL_law_507 : decode code 507 = .ok (.iload 4, 2) := by decide +kernel
theorem dL_law_509 : decode code 509 = .ok (.iconst 1, 1) := by decide +kernel
theorem dL_law_510 : decode code 510 = .ok (.iadd, 1) := by decide +kernel
theorem dL_law_511 : decode code 511 = .ok (.iaload, 1) := by decide +kernel
theorem dL_law_512 : decode code 512 = .ok (.aload_n 0, 1) := by decide +kernel
theorem dL_law_513 : decode code 513 = .ok (.iload 4, 2) := by decide +kernel
theorem dL_law_515 : decode code 515 = .ok (.iconst 2, 1) := by decide +kernel
theorem dL_law_516 : decode code 516 = .ok (.iadd, 1) := by decide +kernel
theorem dL_law_517 : decode code 517 = .ok (.iaload, 1) := by decide +kernel
theorem dL_law_518 : decode code 518 = .ok (.aload_n 0, 1) := by decide +kernel
theorem dL_law_519 : decode code 519 = .ok (.iload 4, 2) := by decide +kernel
theorem dL_law_521 : decode code 521 = .ok (.iconst 3, 1) := by decide +kernel
theorem dL_law_522 : decode code 522 = .ok (.iadd, 1) := by decide +kernel
theorem dL_law_523 : decode code 523 = .ok (.iaload, 1) := by decide +kernel
theorem dL_law_524 : decode code 524 = .ok (.invokevirtual 75, 3) := by decide +kernel
theorem dL_law_527 : decode code 527 = .ok (.istore 6, 2) := by decide +kernel
theorem dL_law_529 : decode code 529 = .ok (.aload_n 2, 1) := by decide +kernel
theorem dL_law_530 : decode code 530 = .ok (.invokevirtual 57, 3) := by decide +kernel
theorem dL_law_533 : decode code 533 = .ok (.iload 5, 2) := by decide +kernel
theorem dL_law_535 : decode code 535 = .ok (.if_icmp .eq 5, 3) := by decide +kernel
theorem dL_law_538 : decode code 538 = .ok (.iconst 0, 1) := by decide +kernel
theorem dL_law_539 : decode code 539 = .ok (.ireturn, 1) := by decide +kernel
theorem dL_law_540 : decode code 540 = .ok (.iload 5, 2) := by decide +kernel
theorem dL_law_542 : decode code 542 = .ok (.ifCond .ne 15, 3) := by decide +kernel
theorem dL_law_545 : decode code 545 = .ok (.aload_n 3, 1) := by decide +kernel
theorem dL_law_546 : decode code 546 = .ok (.iconst 0, 1) := by decide +kernel
theorem dL_law_547 : decode code 547 = .ok (.laload, 1) := by decide +kernel
theorem dL_law_548 : decode code 548 = .ok (.iload 6, 2) := by decide +kernel
theorem dL_law_550 : decode code 550 = .ok (.i2l, 1) := by decide +kernel
theorem dL_law_551 : decode code 551 = .ok (.lcmp, 1) := by decide +kernel
theorem dL_law_552 : decode code 552 = .ok (.ifCond .eq 5, 3) := by decide +kernel
theorem dL_law_555 : decode code 555 = .ok (.iconst 0, 1) := by decide +kernel
theorem dL_law_556 : decode code 556 = .ok (.ireturn, 1) := by decide +kernel
theorem dL_law_557 : decode code 557 = .ok (.goto 122, 3) := by decide +kernel
theorem dL_law_560 : decode code 560 = .ok (.aload_n 1, 1) := by decide +kernel
theorem dL_law_561 : decode code 561 = .ok (.aload_n 0, 1) := by decide +kernel
theorem dL_law_562 : decode code 562 = .ok (.iload 4, 2) := by decide +kernel
theorem dL_law_564 : decode code 564 = .ok (.iconst 1, 1) := by decide +kernel
theorem dL_law_565 : decode code 565 = .ok (.iadd, 1) := by decide +kernel
theorem dL_law_566 : decode code 566 = .ok (.iaload, 1) := by decide +kernel
theorem dL_law_567 : decode code 567 = .ok (.invokestatic 76, 3) := by decide +kernel
theorem dL_law_570 : decode code 570 = .ok (.istore 5, 2) := by decide +kernel
theorem dL_law_572 : decode code 572 = .ok (.aload_n 2, 1) := by decide +kernel
theorem dL_law_573 : decode code 573 = .ok (.aload_n 0, 1) := by decide +kernel
theorem dL_law_574 : decode code 574 = .ok (.iload 4, 2) := by decide +kernel
theorem dL_law_576 : decode code 576 = .ok (.iconst 1, 1) := by decide +kernel
theorem dL_law_577 : decode code 577 = .ok (.iadd, 1) := by decide +kernel
theorem dL_law_578 : decode code 578 = .ok (.iaload, 1) := by decide +kernel
theorem dL_law_579 : decode code 579 = .ok (.invokevirtual 79, 3) := by decide +kernel
theorem dL_law_582 : decode code 582 = .ok (.aload_n 2, 1) := by decide +kernel
theorem dL_law_583 : decode code 583 = .ok (.invokevirtual 57, 3) := by decide +kernel
theorem dL_law_586 : decode code 586 = .ok (.iload 5, 2) := by decide +kernel
theorem dL_law_588 : decode code 588 = .ok (.if_icmp .eq 5, 3) := by decide +kernel
theorem dL_law_591 : decode code 591 = .ok (.iconst 0, 1) := by decide +kernel
theorem dL_law_592 : decode code 592 = .ok (.ireturn, 1) := by decide +kernel
theorem dL_law_593 : decode code 593 = .ok (.goto 86, 3) := by decide +kernel
theorem dL_law_596 : decode code 596 = .ok (.aload_n 1, 1) := by decide +kernel
theorem dL_law_597 : decode code 597 = .ok (.invokevirtual 80, 3) := by decide +kernel
theorem dL_law_600 : decode code 600 = .ok (.aload_n 2, 1) := by decide +kernel
theorem dL_law_601 : decode code 601 = .ok (.invokevirtual 83, 3) := by decide +kernel
theorem dL_law_604 : decode code 604 = .ok (.if_icmp .eq 75, 3) := by decide +kernel
theorem dL_law_607 : decode code 607 = .ok (.iconst 0, 1) := by decide +kernel
theorem dL_law_608 : decode code 608 = .ok (.ireturn, 1) := by decide +kernel
theorem dL_law_609 : decode code 609 = .ok (.aload_n 1, 1) := by decide +kernel
theorem dL_law_610 : decode code 610 = .ok (.invokevirtual 84, 3) := by decide +kernel
theorem dL_law_613 : decode code 613 = .ok (.aload_n 2, 1) := by decide +kernel
theorem dL_law_614 : decode code 614 = .ok (.invokevirtual 88, 3) := by decide +kernel
theorem dL_law_617 : decode code 617 = .ok (.if_icmp .eq 62, 3) := by decide +kernel
theorem dL_law_620 : decode code 620 = .ok (.iconst 0, 1) := by decide +kernel
theorem dL_law_621 : decode code 621 = .ok (.ireturn, 1) := by decide +kernel
theorem dL_law_622 : decode code 622 = .ok (.aload_n 1, 1) := by decide +kernel
theorem dL_law_623 : decode code 623 = .ok (.invokevirtual 89, 3) := by decide +kernel
theorem dL_law_626 : decode code 626 = .ok (.aload_n 2, 1) := by decide +kernel
theorem dL_law_627 : decode code 627 = .ok (.invokevirtual 92, 3) := by decide +kernel
theorem dL_law_630 : decode code 630 = .ok (.if_icmp .eq 49, 3) := by decide +kernel
theorem dL_law_633 : decode code 633 = .ok (.iconst 0, 1) := by decide +kernel
theorem dL_law_634 : decode code 634 = .ok (.ireturn, 1) := by decide +kernel
theorem dL_law_635 : decode code 635 = .ok (.aload_n 1, 1) := by decide +kernel
theorem dL_law_636 : decode code 636 = .ok (.aload_n 3, 1) := by decide +kernel
theorem dL_law_637 : decode code 637 = .ok (.invokestatic 93, 3) := by decide +kernel
theorem dL_law_640 : decode code 640 = .ok (.istore 5, 2) := by decide +kernel
theorem dL_law_642 : decode code 642 = .ok (.aload_n 2, 1) := by decide +kernel
theorem dL_law_643 : decode code 643 = .ok (.invokevirtual 96, 3) := by decide +kernel
theorem dL_law_646 : decode code 646 = .ok (.istore 6, 2) := by decide +kernel
theorem dL_law_648 : decode code 648 = .ok (.aload_n 2, 1) := by decide +kernel
theorem dL_law_649 : decode code 649 = .ok (.invokevirtual 57, 3) := by decide +kernel
theorem dL_law_652 : decode code 652 = .ok (.iload 5, 2) := by decide +kernel
theorem dL_law_654 : decode code 654 = .ok (.if_icmp .eq 5, 3) := by decide +kernel
theorem dL_law_657 : decode code 657 = .ok (.iconst 0, 1) := by decide +kernel
theorem dL_law_658 : decode code 658 = .ok (.ireturn, 1) := by decide +kernel
theorem dL_law_659 : decode code 659 = .ok (.iload 5, 2) := by decide +kernel
theorem dL_law_661 : decode code 661 = .ok (.ifCond .ne 15, 3) := by decide +kernel
theorem dL_law_664 : decode code 664 = .ok (.aload_n 3, 1) := by decide +kernel
theorem dL_law_665 : decode code 665 = .ok (.iconst 0, 1) := by decide +kernel
theorem dL_law_666 : decode code 666 = .ok (.laload, 1) := by decide +kernel
theorem dL_law_667 : decode code 667 = .ok (.iload 6, 2) := by decide +kernel
theorem dL_law_669 : decode code 669 = .ok (.i2l, 1) := by decide +kernel
theorem dL_law_670 : decode code 670 = .ok (.lcmp, 1) := by decide +kernel
theorem dL_law_671 : decode code 671 = .ok (.ifCond .eq 5, 3) := by decide +kernel
theorem dL_law_674 : decode code 674 = .ok (.iconst 0, 1) := by decide +kernel
theorem dL_law_675 : decode code 675 = .ok (.ireturn, 1) := by decide +kernel
theorem dL_law_676 : decode code 676 = .ok (.goto 3, 3) := by decide +kernel
theorem dL_law_679 : decode code 679 = .ok (.iinc 4 4, 3) := by decide +kernel
theorem dL_law_682 : decode code 682 = .ok (.goto (-639), 3) := by decide +kernel
theorem dL_law_685 : decode code 685 = .ok (.iconst 1, 1) := by decide +kernel
theorem dL_law_686 : decode code 686 = .ok (.ireturn, 1) := by decide +kernel
end
section
/-! THE BASE: rows over a heap as it is. g: the classes' numbers and slots, and the arrays' classes (0 int, 1 boolean, 2 Log, 3 long) -/
abbrev Gx : Type := (Nat → ClassId) × (Nat → Nat → Nat) × (Nat → ClassId)
abbrev gT (g : Gx) : List (ClassId × FieldType) := [(g.2.2 0, .int), (g.2.2 1, .boolean), (g.2.2 2, .object "LogDisk$Log"), (g.2.2 3, .long)]
abbrev gD (g : Gx) : va_G := (g.1, g.2.1)
/-- the words across the nest, which aren't good ones -/
def hNw (U : State) : Prop := va_Nw (.methodLinkNest RX1 15 yX0_init "LogDisk") U ∧ va_Nw (.methodLinkNest RX0 40 yX1_at "LogDisk") U ∧ va_Nw (.methodLinkNest RX0 52 yX1_set "LogDisk") U ∧ va_Nw (.methodLinkNest RX0 71 yX1_blocksTouched "LogDisk") U ∧ va_AO "LogDisk$Log" U
theorem hNw.warm {s U : State} (hW : s.WarmedH U.vm) (h : hNw s) : hNw U := ⟨va_Nw.warmM hW h.1, va_Nw.warmM hW h.2.1, va_Nw.warmM hW h.2.2.1, va_Nw.warmM hW h.2.2.2.1, va_AO.moved hW.alike h.2.2.2.2⟩
theorem hNw.same {s U : State} (hv : s.vm = U.vm) (h : hNw s) : hNw U := ⟨va_Nw.same rfl hv h.1, va_Nw.same rfl hv h.2.1, va_Nw.same rfl hv h.2.2.1, va_Nw.same rfl hv h.2.2.2.1, va_AO.moved (by rw [hv]; exact Vm.Alike.refl _) h.2.2.2.2⟩
/-- what the tables say of our classes -/
def KK (g : Gx) (U : State) : Prop := va_K (gD g) vwCl (gT g) U ∧ hNw U
theorem KK.warm {g : Gx} {s U : State} (hW : s.WarmedH U.vm) (h : KK g s) : KK g U := ⟨va_K.moved hW.alike h.1, hNw.warm hW h.2⟩
theorem KK.calling {g : Gx} {U : State} (gf : JFrame) (mk : MethodId) (a : Array Value) (h : KK g U) : KK g (U.calling gf mk a) := ⟨va_K.moved (u := U) (U := U.calling gf mk a) (Vm.Alike.refl U.vm) h.1, hNw.same (s := U) (U := U.calling gf mk a) rfl h.2⟩
/-! cells -/
def ob (g : Gx) (a ci : Nat) (fs : List Value) (H : Heap) : Prop := va_at (gD g) vwCl (a, .inr (ci, fs)) H
def ia (g : Gx) (a n : Nat) (f : Nat → Int32) (H : Heap) : Prop := va_at (gD g) vwCl (a, .inl (g.2.2 0, n, .inl f)) H
def za (g : Gx) (a n : Nat) (f : Nat → Int32) (H : Heap) : Prop := va_at (gD g) vwCl (a, .inl (g.2.2 1, n, .inl f)) H
def qa (g : Gx) (a n : Nat) (f : Nat → Option Nat) (H : Heap) : Prop := va_at (gD g) vwCl (a, .inl (g.2.2 2, n, .inr (.inr (.inr (.inr f))))) H
def ja (g : Gx) (a n : Nat) (f : Nat → Int64) (H : Heap) : Prop := va_at (gD g) vwCl (a, .inl (g.2.2 3, n, .inr (.inl f))) H
theorem ob.kept {g : Gx} {a ci : Nat} {fs : List Value} {H H1 : Heap} (h : ob g a ci fs H) (hq : H1[a]? = H[a]?) : ob g a ci fs H1 := va_at.kept h hq
theorem ia.kept {g : Gx} {a n : Nat} {f : Nat → Int32} {H H1 : Heap} (h : ia g a n f H) (hq : H1[a]? = H[a]?) : ia g a n f H1 := va_at.kept h hq
theorem za.kept {g : Gx} {a n : Nat} {f : Nat → Int32} {H H1 : Heap} (h : za g a n f H) (hq : H1[a]? = H[a]?) : za g a n f H1 := va_at.kept h hq
theorem qa.kept {g : Gx} {a n : Nat} {f : Nat → Option Nat} {H H1 : Heap} (h : qa g a n f H) (hq : H1[a]? = H[a]?) : qa g a n f H1 := va_at.kept h hq
theorem ja.kept {g : Gx} {a n : Nat} {f : Nat → Int64} {H H1 : Heap} (h : ja g a n f H) (hq : H1[a]? = H[a]?) : ja g a n f H1 := va_at.kept h hq
theorem ob.lt {g : Gx} {a ci : Nat} {fs : List Value} {H : Heap} (h : ob g a ci fs H) : a < H.size := va_at.lt h
theorem ia.lt {g : Gx} {a n : Nat} {f : Nat → Int32} {H : Heap} (h : ia g a n f H) : a < H.size := va_at.lt h
theorem za.lt {g : Gx} {a n : Nat} {f : Nat → Int32} {H : Heap} (h : za g a n f H) : a < H.size := va_at.lt h
theorem qa.lt {g : Gx} {a n : Nat} {f : Nat → Option Nat} {H : Heap} (h : qa g a n f H) : a < H.size := va_at.lt h
theorem ja.lt {g : Gx} {a n : Nat} {f : Nat → Int64} {H : Heap} (h : ja g a n f H) : a < H.size := va_at.lt h
/-! locals: all of one word -/
def lpr : Nat → List (Option Value) → List (Nat × Value)
  | _, [] => []
  | i, none :: t => lpr (i + 1) t
  | i, some v :: t => (i, v) :: lpr (i + 1) t
theorem lpr_mem {q : Nat × Value} : ∀ (vs : List (Option Value)) (i : Nat), q ∈ lpr i vs ↔ ∃ j, vs[j]? = some (some q.2) ∧ q.1 = i + j
  | [], i => by simp [lpr]
  | none :: t, i => by
    rw [lpr, lpr_mem t (i + 1)]
    constructor
    · rintro ⟨j, h1, h2⟩
      exact ⟨j + 1, by simpa using h1, by omega⟩
    · rintro ⟨j, h1, h2⟩
      cases j with
      | zero => simp at h1
      | succ j => exact ⟨j, by simpa using h1, by omega⟩
  | some v :: t, i => by
    rw [lpr, List.mem_cons, lpr_mem t (i + 1)]
    constructor
    · rintro (h | ⟨j, h1, h2⟩)
      · exact ⟨0, by rw [h]; simp, by rw [h]; rfl⟩
      · exact ⟨j + 1, by simpa using h1, by omega⟩
    · rintro ⟨j, h1, h2⟩
      cases j with
      | zero =>
        refine Or.inl ?_
        have h3 : v = q.2 := by simpa using h1
        rw [h3]
        exact Prod.ext (by simpa using h2) rfl
      | succ j => exact Or.inr ⟨j, by simpa using h1, by omega⟩
def lh (ls : Array Slot) (n : Nat) (vs : List (Option Value)) : Prop := lv_has ls n (lpr 0 vs) ∧ ∀ v : Value, some v ∈ vs → v.category = 1
theorem lh.size {ls : Array Slot} {n : Nat} {vs : List (Option Value)} (h : lh ls n vs) : ls.size = n := h.1.1
theorem lh.get {ls : Array Slot} {n : Nat} {vs : List (Option Value)} (h : lh ls n vs) (i : Nat) {v : Value} (hv : vs[i]? = some (some v)) : ls[i]? = some (.val v) :=
  h.1.2.2 (i, v) ((lpr_mem vs 0).mpr ⟨i, hv, by simp⟩)
theorem lh.set {ls : Array Slot} {n i : Nat} {vs : List (Option Value)} {v : Value} (hc : v.category = 1) (hvs : ∀ v : Value, some v ∈ vs → v.category = 1) (h : lv_has ls n ((i, v) :: (lpr 0 vs).filter (fun q => !(q.1 == i) && !(q.1 + 1 == i && q.2.category == 2)))) : lh ls n (vs.set i (some v)) := by
  refine ⟨⟨h.1, h.2.1, fun q hq => h.2.2 q ?_⟩, fun w hw => ?_⟩
  · obtain ⟨j, h1, h2⟩ := (lpr_mem _ 0).mp hq
    rw [List.getElem?_set] at h1
    by_cases hj : i = j
    · rw [if_pos hj] at h1
      split at h1
      · have h3 : v = q.2 := by simpa using h1
        refine List.mem_cons.mpr (Or.inl ?_)
        exact Prod.ext (by omega) h3.symm
      · cases h1
    · rw [if_neg hj] at h1
      refine List.mem_cons_of_mem _ (List.mem_filter.mpr ⟨(lpr_mem _ 0).mpr ⟨j, h1, h2⟩, ?_⟩)
      have h4 : q.2.category = 1 := hvs _ (List.mem_of_getElem? h1)
      have h5 : ¬ q.1 = i := by omega
      simp [h4, h5]
  · rcases List.mem_or_eq_of_mem_set hw with h1 | h1
    · exact hvs w h1
    · cases h1; exact hc
theorem lh.entry {av : List Value} {n : Nat} (hn : av.length ≤ n) (hc : ∀ v ∈ av, v.category = 1) : lh ((lg_sl av ++ List.replicate (n - (lg_sl av).length) Slot.unset).toArray) n (av.map some ++ List.replicate (n - av.length) none) := by
  have hlen : (lg_sl av).length = av.length := by
    unfold lg_sl
    induction av with
    | nil => rfl
    | cons v t ih =>
      have h1 : v.category = 1 := hc v List.mem_cons_self
      rw [List.flatMap_cons, List.length_append, ih (by simp at hn; omega) (fun w hw => hc w (List.mem_cons_of_mem _ hw)), h1]
      simp
      omega
  have h := lv_entry av (n := n) (by rw [hlen]; exact hn)
  refine ⟨⟨h.1, h.2.1, fun q hq => h.2.2 q ?_⟩, fun v hv => ?_⟩
  · obtain ⟨j, h1, h2⟩ := (lpr_mem _ 0).mp hq
    have h3 : av[j]? = some q.2 := by
      by_cases hj : j < av.length
      · rw [List.getElem?_append_left (by simpa using hj), List.getElem?_map] at h1
        cases h9 : av[j]? with
        | none => rw [h9] at h1; simp at h1
        | some w => rw [h9] at h1; simpa using h1
      · rw [List.getElem?_append_right (by simp; omega), List.getElem?_replicate] at h1
        split at h1 <;> simp at h1
    have key : ∀ (l : List Value) (i j : Nat), (∀ v ∈ l, v.category = 1) → ∀ v, l[j]? = some v → (i + j, v) ∈ lv_args i l := by
      intro l
      induction l with
      | nil => intro i j _ v hv; simp at hv
      | cons a t ih =>
        intro i j hcc v hv
        have h9 : a.category = 1 := hcc a List.mem_cons_self
        have h8 : lv_args i (a :: t) = (i, a) :: lv_args (i + 1) t := by simp [lv_args, h9]
        rw [h8]
        cases j with
        | zero =>
          have h7 : a = v := by simpa using hv
          rw [h7]; exact List.mem_cons_self
        | succ j =>
          refine List.mem_cons_of_mem _ ?_
          have h6 := ih (i + 1) j (fun w hw => hcc w (List.mem_cons_of_mem _ hw)) v (by simpa using hv)
          rw [show i + (j + 1) = i + 1 + j by omega]
          exact h6
    have h4 := key av 0 j hc q.2 h3
    have h5 : q = (0 + j, q.2) := Prod.ext h2 rfl
    rw [h5]; exact h4
  · rcases List.mem_append.mp hv with h1 | h1
    · obtain ⟨w, hw, he⟩ := List.mem_map.mp h1
      have he' : w = v := Option.some.inj he
      rw [← he']; exact hc w hw
    · have := List.eq_of_mem_replicate h1
      cases this
/-- the machine in a method: what every row asks -/
def Cx (g : Gx) (p : Program) (s : State) (m : MethodId) (args : Array Value) (c : Code) (cc : ByteArray) (own : String) : Prop := p.tables.exec = Jvm.exec ∧ c.code = cc ∧ s.vm.findClass own = some m.cls ∧ (∀ w ∈ tb, w.before args s = true) ∧ KK g s
section HB
variable {p : Program} {l : Launch} {e : Env} {R : Room} {s : State} {m : MethodId} {args : Array Value} {below : List Frame} {meth : Method} {c : Code} {H : Heap} {locs : List Loc} {cells slots : Nat} {Q : State → Prop}
variable {g : Gx} {cc : ByteArray} {own : String} {pc n : Nat} {ls : Array Slot} {rest : List Value} {A : Nat → Prop} {a : Nat} {vs : List (Option Value)}
theorem hb_P {D : va_G} {cl : List vw_C} {q : Nat × va_E} (h : va_at D cl q H) : va_P D cl [q] H := fun k r hk => by
  cases k with
  | zero => cases hk; exact h
  | succ k => simp at hk
/-! locals -/
theorem hb_iload_n (G : Cx g p s m args c cc own) {k : Fin 4} {x : Int32} (hdg : decode cc pc = .ok (.iload_n k, 1)) (h : lh ls n vs) (hv : vs[k.val]? = some (some (.int x))) (kk : W p l e R s m args below meth c H locs cells slots Q (F0 m (pc + 1) ls (.int x :: rest))) : W p l e R s m args below meth c H locs cells slots Q (F0 m pc ls rest) := lv_iload_n G.1 G.2.1 hdg rfl (h.get _ hv) kk
theorem hb_iload (G : Cx g p s m args c cc own) {k : Nat} {x : Int32} (hdg : decode cc pc = .ok (.iload k, 2)) (h : lh ls n vs) (hv : vs[k]? = some (some (.int x))) (kk : W p l e R s m args below meth c H locs cells slots Q (F0 m (pc + 2) ls (.int x :: rest))) : W p l e R s m args below meth c H locs cells slots Q (F0 m pc ls rest) := lv_iload G.1 G.2.1 hdg (h.get _ hv) kk
theorem hb_aload_n (G : Cx g p s m args c cc own) {k : Fin 4} {x : Nat} (hdg : decode cc pc = .ok (.aload_n k, 1)) (h : lh ls n vs) (hv : vs[k.val]? = some (some (.ref x))) (kk : W p l e R s m args below meth c H locs cells slots Q (F0 m (pc + 1) ls (.ref x :: rest))) : W p l e R s m args below meth c H locs cells slots Q (F0 m pc ls rest) := lv_aload_n G.1 G.2.1 hdg rfl (h.get _ hv) kk
theorem hb_aload (G : Cx g p s m args c cc own) {k : Nat} {x : Nat} (hdg : decode cc pc = .ok (.aload k, 2)) (h : lh ls n vs) (hv : vs[k]? = some (some (.ref x))) (kk : W p l e R s m args below meth c H locs cells slots Q (F0 m (pc + 2) ls (.ref x :: rest))) : W p l e R s m args below meth c H locs cells slots Q (F0 m pc ls rest) := lv_aload G.1 G.2.1 hdg (h.get _ hv) kk
theorem hb_istore_n (G : Cx g p s m args c cc own) {k : Fin 4} {x : Int32} (hdg : decode cc pc = .ok (.istore_n k, 1)) (h : lh ls n vs) (hn : k.val < n) (kk : ∀ ls' : Array Slot, lh ls' n (vs.set k.val (some (.int x))) → W p l e R s m args below meth c H locs cells slots Q (F0 m (pc + 1) ls' rest)) : W p l e R s m args below meth c H locs cells slots Q (F0 m pc ls (.int x :: rest)) := lv_istore_n G.1 G.2.1 hdg rfl h.1 hn rfl (fun ls' h' => kk ls' (lh.set rfl h.2 h'))
theorem hb_istore (G : Cx g p s m args c cc own) {k : Nat} {x : Int32} (hdg : decode cc pc = .ok (.istore k, 2)) (h : lh ls n vs) (hn : k < n) (kk : ∀ ls' : Array Slot, lh ls' n (vs.set k (some (.int x))) → W p l e R s m args below meth c H locs cells slots Q (F0 m (pc + 2) ls' rest)) : W p l e R s m args below meth c H locs cells slots Q (F0 m pc ls (.int x :: rest)) := lv_istore G.1 G.2.1 hdg h.1 hn rfl (fun ls' h' => kk ls' (lh.set rfl h.2 h'))
theorem hb_astore_n (G : Cx g p s m args c cc own) {k : Fin 4} {x : Nat} (hdg : decode cc pc = .ok (.astore_n k, 1)) (h : lh ls n vs) (hn : k.val < n) (kk : ∀ ls' : Array Slot, lh ls' n (vs.set k.val (some (.ref x))) → W p l e R s m args below meth c H locs cells slots Q (F0 m (pc + 1) ls' rest)) : W p l e R s m args below meth c H locs cells slots Q (F0 m pc ls (.ref x :: rest)) := lv_astore_n G.1 G.2.1 hdg rfl h.1 hn rfl (fun ls' h' => kk ls' (lh.set rfl h.2 h'))
theorem hb_astore (G : Cx g p s m args c cc own) {k : Nat} {x : Nat} (hdg : decode cc pc = .ok (.astore k, 2)) (h : lh ls n vs) (hn : k < n) (kk : ∀ ls' : Array Slot, lh ls' n (vs.set k (some (.ref x))) → W p l e R s m args below meth c H locs cells slots Q (F0 m (pc + 2) ls' rest)) : W p l e R s m args below meth c H locs cells slots Q (F0 m pc ls (.ref x :: rest)) := lv_astore G.1 G.2.1 hdg h.1 hn rfl (fun ls' h' => kk ls' (lh.set rfl h.2 h'))
theorem hb_aload_nN (G : Cx g p s m args c cc own) {k : Fin 4} (hdg : decode cc pc = .ok (.aload_n k, 1)) (h : lh ls n vs) (hv : vs[k.val]? = some (some .null)) (kk : W p l e R s m args below meth c H locs cells slots Q (F0 m (pc + 1) ls (.null :: rest))) : W p l e R s m args below meth c H locs cells slots Q (F0 m pc ls rest) := lv_aload_nN G.1 G.2.1 hdg rfl (h.get _ hv) kk
theorem hb_astore_nN (G : Cx g p s m args c cc own) {k : Fin 4} (hdg : decode cc pc = .ok (.astore_n k, 1)) (h : lh ls n vs) (hn : k.val < n) (kk : ∀ ls' : Array Slot, lh ls' n (vs.set k.val (some .null)) → W p l e R s m args below meth c H locs cells slots Q (F0 m (pc + 1) ls' rest)) : W p l e R s m args below meth c H locs cells slots Q (F0 m pc ls (.null :: rest)) := lv_astore_nN G.1 G.2.1 hdg rfl h.1 hn rfl (fun ls' h' => kk ls' (lh.set rfl h.2 h'))
theorem hb_iinc (G : Cx g p s m args c cc own) {k : Nat} {d : Int} {x v : Int32} (hdg : decode cc pc = .ok (.iinc k d, 3)) (h : lh ls n vs) (hv : vs[k]? = some (some (.int x))) (hx : x + Int32.ofInt d = v) (hn : k < n) (kk : ∀ ls' : Array Slot, lh ls' n (vs.set k (some (.int v))) → W p l e R s m args below meth c H locs cells slots Q (F0 m (pc + 3) ls' rest)) : W p l e R s m args below meth c H locs cells slots Q (F0 m pc ls rest) := by
  obtain ⟨j, hj⟩ := List.mem_iff_getElem?.mp ((lpr_mem vs 0 (q := (k, .int x))).mpr ⟨k, hv, by simp⟩)
  exact lv_iinc G.1 G.2.1 hdg h.1 hj hx hn rfl (fun ls' h' => kk ls' (lh.set rfl h.2 h'))
/-! fields -/
theorem hb_get (G : Cx g p s m args c cc own) {ref C : String} {T : u_T} {N ci index : Nat} {fs : List Value} (he : ob g a ci fs H) (hc : vwCl[ci]? = some (C, T, N)) (hin : ∀ w ∈ u_ws C T N, w ∈ tb) (k : Nat) (hk : k < N) (hlink : Cond.fieldLink own index ref (T k).2.1 (T k).2.2.1 ∈ tb) (hsame : (T k).1 = ref) {v : Value} (hv : fs[k]? = some v) (hdg : decode cc pc = .ok (.getfield index, 3))
    (kk : W p l e R s m args below meth c H locs cells slots Q (F0 m (pc + 3) ls (v :: rest))) : W p l e R s m args below meth c H locs cells slots Q (F0 m pc ls (.ref a :: rest)) :=
  va_get G.1 G.2.1 G.2.2.2.1 hin G.2.2.1 G.2.2.2.2.1 (hb_P he) 0 rfl hc k hk (G.2.2.2.1 _ hlink) (fun x h => by rw [← hsame]; exact h) hv hdg kk
theorem hb_put (G : Cx g p s m args c cc own) {ref C : String} {T : u_T} {N ci index : Nat} {fs : List Value} (he : ob g a ci fs H) (hc : vwCl[ci]? = some (C, T, N)) (hin : ∀ w ∈ u_ws C T N, w ∈ tb) (ty0 : Nat → FieldType) (hty : ∀ k, k < N → parseFieldDescriptor (T k).2.2.1 = some (ty0 k)) (hnm : ∀ a, a < N → ∀ b, b < N → a ≠ b → (T a).2.1 ≠ (T b).2.1)
    (k : Nat) (hk : k < N) (hlink : Cond.fieldLink own index ref (T k).2.1 (T k).2.2.1 ∈ tb) (hsame : (T k).1 = ref) (hfin : (T k).2.2.2 = false) {v : Value} (hn : narrow (ty0 k) v = v) (hfit : fits (ty0 k) v = true) (hl : k < fs.length) (hL : ∀ q ∈ locs, A q.base) (hA : A a) (hdg : decode cc pc = .ok (.putfield index, 3))
    (kk : ∀ (H1 : Heap) (locs1 : List Loc), ob g a ci (fs.set k v) H1 → H1.size = H.size → (∀ q : Nat, q ≠ a → H1[q]? = H[q]?) → (∀ q ∈ locs1, A q.base) → W p l e R s m args below meth c H1 locs1 cells slots Q (F0 m (pc + 3) ls rest)) : W p l e R s m args below meth c H locs cells slots Q (F0 m pc ls (v :: .ref a :: rest)) := by
  obtain ⟨hx, hb, hown, hts, hK, -⟩ := G
  have hap := va_apart (own := own) hts hin ty0 hty hnm hK hc
  obtain ⟨r, h1, cell, q1, q2, q3, q4⟩ := he
  have hr : r = (C, T, N) := Option.some.inj (h1.symm.trans hc)
  subst hr
  obtain ⟨hS, hfc, kC, hkC, hkind⟩ := hK.1 ci _ hc
  obtain ⟨cf, kf, fi, f, hi, hsl⟩ := hS k hk
  have hlay := hts _ (hin _ (u_in_lay hk))
  unfold u_lay at hlay
  rw [if_neg (by rw [hfin]; decide)] at hlay
  have hst := (u_facts hfc hkC (u_lays hts hin hk) hi).1
  have h6 := u_store hfc hkC hkind hlay hi (hty k hk) hn hfit
  refine W.putK hx hb (f := f) ⟨hown, hts _ hlink, ⟨_, _, _, by rw [← hsame]; exact hi⟩, hst⟩ (by rw [q2]; exact h6) q1 q3 (by rw [hsl]; exact k2_hasslot (q4 k hk)) rfl rfl hdg fun H' e1 e2 e3 => ?_
  rw [hsl] at e1 ⊢
  exact kk H' _ ⟨_, hc, t_OB.to (V := updV (vp_V fs) k v) ⟨_, e1, q2, q3, t_set q4 hap hk v⟩ (fun j _ => vp_updV_set hl v j)⟩ e2 e3 (t_lc hL hA)
theorem hb_putF (G : Cx g p s m args c cc own) {ref C : String} {T : u_T} {N ci index : Nat} {fs : List Value} (he : ob g a ci fs H) (hc : vwCl[ci]? = some (C, T, N)) (hin : ∀ w ∈ u_ws C T N, w ∈ tb) (ty0 : Nat → FieldType) (hty : ∀ k, k < N → parseFieldDescriptor (T k).2.2.1 = some (ty0 k)) (hnm : ∀ a, a < N → ∀ b, b < N → a ≠ b → (T a).2.1 ≠ (T b).2.1)
    (k : Nat) (hk : k < N) (hlink : Cond.fieldLink own index ref (T k).2.1 (T k).2.2.1 ∈ tb) (hsame : (T k).1 = ref) (hfin : (T k).2.2.2 = true) (hin2 : meth.name = "<init>") (hdecl : (T k).1 = own) {v : Value} (hn : narrow (ty0 k) v = v) (hfit : fits (ty0 k) v = true) (hl : k < fs.length) (hL : ∀ q ∈ locs, A q.base) (hA : A a) (hdg : decode cc pc = .ok (.putfield index, 3))
    (kk : ∀ (H1 : Heap) (locs1 : List Loc), ob g a ci (fs.set k v) H1 → H1.size = H.size → (∀ q : Nat, q ≠ a → H1[q]? = H[q]?) → (∀ q ∈ locs1, A q.base) → W p l e R s m args below meth c H1 locs1 cells slots Q (F0 m (pc + 3) ls rest)) : W p l e R s m args below meth c H locs cells slots Q (F0 m pc ls (v :: .ref a :: rest)) := by
  obtain ⟨hx, hb, hown, hts, hK, -⟩ := G
  have hap := va_apart (own := own) hts hin ty0 hty hnm hK hc
  obtain ⟨r, h1, cell, q1, q2, q3, q4⟩ := he
  have hr : r = (C, T, N) := Option.some.inj (h1.symm.trans hc)
  subst hr
  obtain ⟨hS, hfc, kC, hkC, hkind⟩ := hK.1 ci _ hc
  obtain ⟨cf, kf, fi, f, hi, hsl⟩ := hS k hk
  have hlay := hts _ (hin _ (u_in_lay hk))
  unfold u_lay at hlay
  rw [if_pos hfin] at hlay
  have hst := (u_facts hfc hkC (u_lays hts hin hk) hi).1
  have hcf : m.cls = cf := by
    obtain ⟨_, _, c', _, _, _, -, -, hf', -, -, -, hown2, -⟩ := Cond.laysFinal_spec hlay
    have e1 : c' = cf := by have := hi.symm.trans hf'; simp at this; exact this.1.symm
    rw [hdecl] at hown2
    rw [← e1]; exact Option.some.inj (hown.symm.trans hown2)
  have h6 := u_fits hfc hkC hkind (Or.inr hlay) hi (hty k hk) hn hfit
  refine W.putFinK hx hb hown (hts _ hlink) (by rw [← hsame]; exact hi) hst hcf hin2 (by rw [q2]; exact h6) q1 q3 (by rw [hsl]; exact k2_hasslot (q4 k hk)) rfl rfl hdg fun H' e1 e2 e3 => ?_
  rw [hsl] at e1 ⊢
  exact kk H' _ ⟨_, hc, t_OB.to (V := updV (vp_V fs) k v) ⟨_, e1, q2, q3, t_set q4 hap hk v⟩ (fun j _ => vp_updV_set hl v j)⟩ e2 e3 (t_lc hL hA)
/-! arrays -/
theorem hb_alen_i (G : Cx g p s m args c cc own) {k : Nat} {f : Nat → Int32} (ha : ia g a k f H) (hdg : decode cc pc = .ok (.arraylength, 1)) (kk : W p l e R s m args below meth c H locs cells slots Q (F0 m (pc + 1) ls (.int (nI k) :: rest))) : W p l e R s m args below meth c H locs cells slots Q (F0 m pc ls (.ref a :: rest)) :=
  va_alen G.1 G.2.1 G.2.2.2.2.1 (hb_P ha) 0 0 rfl (ty := .int) rfl (v := nI k) rfl hdg kk
theorem hb_alen_q (G : Cx g p s m args c cc own) {k : Nat} {f : Nat → Option Nat} (ha : qa g a k f H) (hdg : decode cc pc = .ok (.arraylength, 1)) (kk : W p l e R s m args below meth c H locs cells slots Q (F0 m (pc + 1) ls (.int (nI k) :: rest))) : W p l e R s m args below meth c H locs cells slots Q (F0 m pc ls (.ref a :: rest)) :=
  va_alen G.1 G.2.1 G.2.2.2.2.1 (hb_P ha) 0 2 rfl (ty := .object "LogDisk$Log") rfl (v := nI k) rfl hdg kk
theorem hb_iald (G : Cx g p s m args c cc own) {k : Nat} {f : Nat → Int32} (ha : ia g a k f H) {i : Int32} (hin : vp_in i k) (hdg : decode cc pc = .ok (.iaload, 1)) (kk : W p l e R s m args below meth c H locs cells slots Q (F0 m (pc + 1) ls (.int (f i.toNatClampNeg) :: rest))) : W p l e R s m args below meth c H locs cells slots Q (F0 m pc ls (.int i :: .ref a :: rest)) :=
  va_iald G.1 G.2.1 G.2.2.2.2.1 (hb_P ha) 0 0 rfl rfl hin hdg kk
theorem hb_zald (G : Cx g p s m args c cc own) {k : Nat} {f : Nat → Int32} (ha : za g a k f H) {i : Int32} (hin : vp_in i k) (hdg : decode cc pc = .ok (.baload, 1)) (kk : W p l e R s m args below meth c H locs cells slots Q (F0 m (pc + 1) ls (.int (f i.toNatClampNeg) :: rest))) : W p l e R s m args below meth c H locs cells slots Q (F0 m pc ls (.int i :: .ref a :: rest)) :=
  va_zald G.1 G.2.1 G.2.2.2.2.1 (hb_P ha) 0 1 rfl rfl hin hdg kk
theorem hb_qald (G : Cx g p s m args c cc own) {k : Nat} {f : Nat → Option Nat} (ha : qa g a k f H) {i : Int32} (hin : vp_in i k) (hdg : decode cc pc = .ok (.aaload, 1)) (kk : W p l e R s m args below meth c H locs cells slots Q (F0 m (pc + 1) ls (va_rf (f i.toNatClampNeg) :: rest))) : W p l e R s m args below meth c H locs cells slots Q (F0 m pc ls (.int i :: .ref a :: rest)) :=
  va_aldq G.1 G.2.1 G.2.2.2.2.1 (hb_P ha) 0 2 rfl rfl hin hdg kk
theorem hb_iast (G : Cx g p s m args c cc own) {k : Nat} {f : Nat → Int32} (ha : ia g a k f H) {i x : Int32} (hin : vp_in i k) (hL : ∀ q ∈ locs, A q.base) (hA : A a) (hdg : decode cc pc = .ok (.iastore, 1))
    (kk : ∀ (H1 : Heap) (locs1 : List Loc), ia g a k (upd f i.toNatClampNeg x) H1 → H1.size = H.size → (∀ q : Nat, q ≠ a → H1[q]? = H[q]?) → (∀ q ∈ locs1, A q.base) → W p l e R s m args below meth c H1 locs1 cells slots Q (F0 m (pc + 1) ls rest)) : W p l e R s m args below meth c H locs cells slots Q (F0 m pc ls (.int x :: .int i :: .ref a :: rest)) := by
  refine W.iast G.1 G.2.1 ha ((G.2.2.2.2.1.2 0 _ rfl).1 k (fun j => .int (f j))) (fun q => by cases q) (by show ¬ (i < 0 ∨ (arrV _ _ _).slots.size ≤ _); rw [arrV_size]; exact hin) rfl rfl hdg fun H1 e z oq => ?_
  refine kk H1 _ ?_ z oq (t_lc hL hA)
  show H1[a]? = some (vp_cell _ _)
  rw [e, vp_cell_i, vp_cell_i, arrV_store]
  congr 2
  funext q
  by_cases hq : q = i.toNatClampNeg
  · subst hq
    simp [updV, upd]
  · simp [updV, upd, hq]
theorem hb_zast (G : Cx g p s m args c cc own) {k : Nat} {f : Nat → Int32} (ha : za g a k f H) {i x : Int32} (hin : vp_in i k) (hnx : vp_nar .boolean x = x) (hL : ∀ q ∈ locs, A q.base) (hA : A a) (hdg : decode cc pc = .ok (.bastore, 1))
    (kk : ∀ (H1 : Heap) (locs1 : List Loc), za g a k (upd f i.toNatClampNeg x) H1 → H1.size = H.size → (∀ q : Nat, q ≠ a → H1[q]? = H[q]?) → (∀ q ∈ locs1, A q.base) → W p l e R s m args below meth c H1 locs1 cells slots Q (F0 m (pc + 1) ls rest)) : W p l e R s m args below meth c H locs cells slots Q (F0 m pc ls (.int x :: .int i :: .ref a :: rest)) := by
  refine W.zast G.1 G.2.1 ha ((G.2.2.2.2.1.2 1 _ rfl).1 k (fun j => .int (f j))) (fun q => by cases q) (by show ¬ (i < 0 ∨ (arrV _ _ _).slots.size ≤ _); rw [arrV_size]; exact hin) rfl rfl hdg fun H1 e z oq => ?_
  refine kk H1 _ ?_ z oq (t_lc hL hA)
  show H1[a]? = some (vp_cell _ _)
  have hnv : narrow .boolean (.int x) = .int x := by
    have h9 : narrow .boolean (.int x) = .int (vp_nar .boolean x) := rfl
    rw [h9, hnx]
  rw [e, hnv, vp_cell_i, vp_cell_i, arrV_store]
  congr 2
  funext q
  by_cases hq : q = i.toNatClampNeg
  · subst hq
    simp [updV, upd]
  · simp [updV, upd, hq]
end HB
end
section
/-! CONTRACTS over a heap as it is, and the rows that call them -/
/-- from heap H, with these arguments, the method returns; what it answers and the heap that it leaves satisfy post; it makes at most mc cells of ms slots, and writes old cells in F alone -/
def HM (g : Gx) (l : Launch) (y : MethodName) (cy : ByteArray) (ny : Nat) (ry : Option FieldType) (fr lo mc ms : Nat) (av : List Value) (H : Heap) (post : Option Value → Heap → Prop) (F : Nat → Prop) : Prop :=
  Met l y (Cond.code y cy ny ry :: tb) { frames := fr, cells := mc, slots := ms, locals := lo } (fun v U => v = av.toArray ∧ U.heap = H ∧ KK g U) (fun _ _ o t => ∃ v, o = .returned v ∧ post v t.heap) mc ms F
/-- what a body owes at its end -/
def hQ (below : List Frame) (args : Array Value) (s : State) (post : Option Value → Heap → Prop) (mc ms : Nat) (F : Nat → Prop) : State → Prop := MQ below (fun _ _ o t => ∃ v, o = .returned v ∧ post v t.heap) args s mc ms F
theorem HM.ofW {g : Gx} {l : Launch} {y : MethodName} {cy : ByteArray} {ny : Nat} {ry : Option FieldType} {fr lo mc ms : Nat} {av : List Value} {H : Heap} {post : Option Value → Heap → Prop} {F : Nat → Prop} (hy : plainName y.cls = true) (hn : av.length ≤ ny) (hc : ∀ v ∈ av, v.category = 1)
    (body : ∀ (p : Program) (e : Env) (s : State) (m : MethodId) (args : Array Value) (below : List Frame) (meth : Method) (c : Code) (ls : Array Slot), Cx g p s m args c cy y.cls → meth.sig.returnType = ry → c.maxLocals = ny → meth.locks = false → meth.name = y.name → s.heap = H → lh ls ny (av.map some ++ List.replicate (ny - av.length) none) →
      W p l e { frames := fr, cells := mc, slots := ms, locals := lo } s m args below meth c H [] 0 0 (hQ below args s post mc ms F) (F0 m 0 ls [])) : HM g l y cy ny ry fr lo mc ms av H post F := by
  refine Met.ofW (cc := cy) (maxL := ny) (ret := ry) hy rfl ?_
  intro p e s m args below meth c s₁ B hml hv
  obtain ⟨rfl, hH, hK⟩ := hv
  have hts := atoms_spec (ws := Cond.code y cy ny ry :: tb) B.pre
  have hnm := (name_of_methodNamed B.named B.method).1
  have G : Cx g p s m av.toArray c cy y.cls := ⟨B.exec, B.bytes, findClass_of_methodNamed B.named, fun w h => hts w (List.mem_cons_of_mem _ h), hK⟩
  rw [lg_entry_eq, hH]
  exact body p e s m _ below meth c _ G B.returns hml B.notSynchronized hnm hH (lh.entry hn hc)
theorem hm_good {y : MethodName} {cy : ByteArray} {ny : Nat} {ry : Option FieldType} (ko : Cond.code y cy ny ry ∈ tb) : GoodIn tb (Cond.code y cy ny ry :: tb) := fun w h => (List.mem_cons.mp h).elim (fun e => by rw [e]; exact ⟨ko, tb_good ko⟩) (fun h => ⟨h, tb_good h⟩)
theorem hm_blind {g : Gx} {av : List Value} {H : Heap} : FrameBlind (fun (v : Array Value) (U : State) => v = av.toArray ∧ U.heap = H ∧ KK g U) := fun a U gf mk h => ⟨h.1, h.2.1, KK.calling gf mk a h.2.2⟩
/-- a method's name is no handle's, and it has this many parameters -/
def hmd (y : MethodName) (k : Nat) : Prop := y.cls ≠ "java/lang/invoke/MethodHandle" ∧ y.cls ≠ "java/lang/invoke/VarHandle" ∧ (parseMethodDescriptor y.desc).map (fun d => d.parameters.length) = some k
section HC
variable {p : Program} {l : Launch} {e : Env} {R : Room} {s : State} {m : MethodId} {args : Array Value} {below : List Frame} {meth : Method} {c : Code} {H : Heap} {locs : List Loc} {cells slots : Nat} {Q : State → Prop}
variable {g : Gx} {cc : ByteArray} {own : String} {pc n : Nat} {ls : Array Slot} {rest st : List Value} {A : Nat → Prop} {a : Nat}
variable {y : MethodName} {cy : ByteArray} {ny : Nat} {ry : Option FieldType} {fr lo mc ms index : Nat} {As : List Value} {post : Option Value → Heap → Prop} {F : Nat → Prop}
theorem hb_goes (hr : va_Run p l e R s m args below meth c H locs cells slots mc ms (F0 m pc ls st) rest (fun _ o t => ∃ v, o = .returned v ∧ post v t.heap) F) (hL : ∀ q ∈ locs, A q.base) (hF : ∀ q, F q → A q)
    (kk : ∀ (v : Option Value) (H1 : Heap) (locs1 : List Loc), post v H1 → (∀ q ∈ locs1, A q.base) → W p l e R s m args below meth c H1 locs1 (cells + mc) (slots + ms) Q (F0 m (pc + 3) ls (v.toList ++ rest))) : W p l e R s m args below meth c H locs cells slots Q (F0 m pc ls st) := by
  intro T hT X
  obtain ⟨v, st0, t, T', L, h0, X', hLL, e1, e2, ⟨v', hv, hp⟩, st⟩ := hr T hT X
  cases hv
  obtain ⟨t2, a1, b1⟩ := kk v T'.heap (locs ++ L) (by rw [e1]; exact hp) (t_lL hL (fun q h => hF _ (hLL q h))) T' rfl X'
  exact ⟨t2, st t2 a1, b1⟩
theorem hb_callS (G : Cx g p s m args c cc own) (hml : c.maxLocals = n) (hM : HM g l y cy ny ry fr lo mc ms As H post F) (kl : Cond.methodLink own index y ∈ tb) (kt : Cond.static y ∈ tb) (kn : Cond.initialized y.cls ∈ tb) (ko : Cond.code y cy ny ry ∈ tb) (hd : hmd y As.length)
    (hR : fr + 1 ≤ R.frames ∧ 8 + (ny + 11) + lo ≤ R.locals) (hs : ls.size = n) (hst : st = As.reverse ++ rest) (hW : (rest.map fun v => v.category).sum ≤ 8) (hdg : decode cc pc = .ok (.invokestatic index, 3)) (hf : cells + mc ≤ R.cells ∧ slots + ms ≤ R.slots) (hL : ∀ q ∈ locs, A q.base) (hF : ∀ q, F q → A q)
    (kk : ∀ (v : Option Value) (H1 : Heap) (locs1 : List Loc), post v H1 → (∀ q ∈ locs1, A q.base) → W p l e R s m args below meth c H1 locs1 (cells + mc) (slots + ms) Q (F0 m (pc + 3) ls (v.toList ++ rest))) : W p l e R s m args below meth c H locs cells slots Q (F0 m pc ls st) :=
  hb_goes (va_runS (As := As) (rest := rest) ⟨G.1, G.2.1, hml, G.2.2.1, G.2.2.2.1⟩ hM ⟨callB_of As.length G.2.2.2.1 (hm_good ko) rfl rfl rfl (G.2.2.2.1 _ kn) (G.2.2.2.1 _ kl) hd hR, G.2.2.2.1 _ kt⟩ ⟨hm_blind, fun U hU hW => ⟨rfl, hU, KK.warm hW G.2.2.2.2⟩⟩ rfl rfl hs hst (lv_room hW) hdg hf) hL hF kk
theorem hb_callV (G : Cx g p s m args c cc own) (hml : c.maxLocals = n) {b ci N : Nat} {fs : List Value} {T : u_T} (hM : HM g l y cy ny ry fr lo mc ms (.ref b :: As) H post F) (he : ob g b ci fs H) (hc : vwCl[ci]? = some (y.cls, T, N)) (kl : Cond.methodLink own index y ∈ tb) (ki : Cond.instanceMethod y ∈ tb) (ks : Cond.selects y.cls y y ∈ tb) (kn : Cond.initialized y.cls ∈ tb) (ko : Cond.code y cy ny ry ∈ tb) (hd : hmd y As.length)
    (hR : fr + 1 ≤ R.frames ∧ 8 + (ny + 11) + lo ≤ R.locals) (hs : ls.size = n) (hst : st = As.reverse ++ .ref b :: rest) (hW : (rest.map fun v => v.category).sum ≤ 8) (hdg : decode cc pc = .ok (.invokevirtual index, 3)) (hf : cells + mc ≤ R.cells ∧ slots + ms ≤ R.slots) (hL : ∀ q ∈ locs, A q.base) (hF : ∀ q, F q → A q)
    (kk : ∀ (v : Option Value) (H1 : Heap) (locs1 : List Loc), post v H1 → (∀ q ∈ locs1, A q.base) → W p l e R s m args below meth c H1 locs1 (cells + mc) (slots + ms) Q (F0 m (pc + 3) ls (v.toList ++ rest))) : W p l e R s m args below meth c H locs cells slots Q (F0 m pc ls st) :=
  hb_goes (va_runV (As := As) (rest := rest) ⟨G.1, G.2.1, hml, G.2.2.1, G.2.2.2.1⟩ hM ⟨callB_of As.length G.2.2.2.1 (hm_good ko) rfl rfl rfl (G.2.2.2.1 _ kn) (G.2.2.2.1 _ kl) hd hR, G.2.2.2.1 _ ki, G.2.2.2.1 _ ks⟩ ⟨hm_blind, va_recv G.2.2.2.2.1 (hb_P he) (q0 := 0) hc rfl, fun U hU hW => ⟨rfl, hU, KK.warm hW G.2.2.2.2⟩⟩ rfl rfl hs hst (lv_room hW) hdg hf) hL hF kk
theorem hb_callI (G : Cx g p s m args c cc own) (hml : c.maxLocals = n) {b : Nat} (hM : HM g l y cy ny none fr lo mc ms (.ref b :: As) H post F) (hy : y.name = "<init>") (kl : Cond.methodLink own index y ∈ tb) (ki : Cond.instanceMethod y ∈ tb) (kn : Cond.initialized y.cls ∈ tb) (ko : Cond.code y cy ny none ∈ tb) (hd : hmd y As.length)
    (hR : fr + 1 ≤ R.frames ∧ 8 + (ny + 11) + lo ≤ R.locals) (hs : ls.size = n) (hst : st = As.reverse ++ .ref b :: rest) (hW : (rest.map fun v => v.category).sum ≤ 8) (hdg : decode cc pc = .ok (.invokespecial index, 3)) (hf : cells + mc ≤ R.cells ∧ slots + ms ≤ R.slots) (hL : ∀ q ∈ locs, A q.base) (hF : ∀ q, F q → A q)
    (kk : ∀ (v : Option Value) (H1 : Heap) (locs1 : List Loc), post v H1 → (∀ q ∈ locs1, A q.base) → W p l e R s m args below meth c H1 locs1 (cells + mc) (slots + ms) Q (F0 m (pc + 3) ls (v.toList ++ rest))) : W p l e R s m args below meth c H locs cells slots Q (F0 m pc ls st) :=
  hb_goes (va_runI (As := As) (rest := rest) ⟨G.1, G.2.1, hml, G.2.2.1, G.2.2.2.1⟩ hM ⟨callB_of As.length G.2.2.2.1 (hm_good ko) rfl rfl rfl (G.2.2.2.1 _ kn) (G.2.2.2.1 _ kl) hd hR, hy, G.2.2.2.1 _ ki⟩ ⟨hm_blind, fun U hU hW => ⟨rfl, hU, KK.warm hW G.2.2.2.2⟩⟩ rfl rfl hs hst (lv_room hW) hdg hf) hL hF kk
theorem hb_callSN (G : Cx g p s m args c cc own) (hml : c.maxLocals = n) (hM : HM g l y cy ny ry fr lo mc ms As H post F) {host : String} (kl : va_Nw (.methodLinkNest own index y host) s) (kt : Cond.static y ∈ tb) (kn : Cond.initialized y.cls ∈ tb) (ko : Cond.code y cy ny ry ∈ tb) (hd : hmd y As.length)
    (hR : fr + 1 ≤ R.frames ∧ 8 + (ny + 11) + lo ≤ R.locals) (hs : ls.size = n) (hst : st = As.reverse ++ rest) (hW : (rest.map fun v => v.category).sum ≤ 8) (hdg : decode cc pc = .ok (.invokestatic index, 3)) (hf : cells + mc ≤ R.cells ∧ slots + ms ≤ R.slots) (hL : ∀ q ∈ locs, A q.base) (hF : ∀ q, F q → A q)
    (kk : ∀ (v : Option Value) (H1 : Heap) (locs1 : List Loc), post v H1 → (∀ q ∈ locs1, A q.base) → W p l e R s m args below meth c H1 locs1 (cells + mc) (slots + ms) Q (F0 m (pc + 3) ls (v.toList ++ rest))) : W p l e R s m args below meth c H locs cells slots Q (F0 m pc ls st) :=
  hb_goes (va_runSN (As := As) (rest := rest) ⟨G.1, G.2.1, hml, G.2.2.1, G.2.2.2.1⟩ hM ⟨va_cnB As.length G.2.2.2.1 (hm_good ko) rfl rfl rfl kl (G.2.2.2.1 _ kn) hd hR, G.2.2.2.1 _ kt, trivial⟩ ⟨hm_blind, fun U hU hW => ⟨rfl, hU, KK.warm hW G.2.2.2.2⟩⟩ rfl rfl hs hst (lv_room hW) hdg hf) hL hF kk
theorem hb_callIN (G : Cx g p s m args c cc own) (hml : c.maxLocals = n) {b : Nat} (hM : HM g l y cy ny none fr lo mc ms (.ref b :: As) H post F) (hy : y.name = "<init>") {host : String} (kl : va_Nw (.methodLinkNest own index y host) s) (ki : Cond.instanceMethod y ∈ tb) (kn : Cond.initialized y.cls ∈ tb) (ko : Cond.code y cy ny none ∈ tb) (hd : hmd y As.length)
    (hR : fr + 1 ≤ R.frames ∧ 8 + (ny + 11) + lo ≤ R.locals) (hs : ls.size = n) (hst : st = As.reverse ++ .ref b :: rest) (hW : (rest.map fun v => v.category).sum ≤ 8) (hdg : decode cc pc = .ok (.invokespecial index, 3)) (hf : cells + mc ≤ R.cells ∧ slots + ms ≤ R.slots) (hL : ∀ q ∈ locs, A q.base) (hF : ∀ q, F q → A q)
    (kk : ∀ (v : Option Value) (H1 : Heap) (locs1 : List Loc), post v H1 → (∀ q ∈ locs1, A q.base) → W p l e R s m args below meth c H1 locs1 (cells + mc) (slots + ms) Q (F0 m (pc + 3) ls (v.toList ++ rest))) : W p l e R s m args below meth c H locs cells slots Q (F0 m pc ls st) :=
  hb_goes (va_runIN (As := As) (rest := rest) ⟨G.1, G.2.1, hml, G.2.2.1, G.2.2.2.1⟩ hM ⟨va_cnB As.length G.2.2.2.1 (hm_good ko) rfl rfl rfl kl (G.2.2.2.1 _ kn) hd hR, hy, G.2.2.2.1 _ ki⟩ ⟨hm_blind, fun U hU hW => ⟨rfl, hU, KK.warm hW G.2.2.2.2⟩⟩ rfl rfl hs hst (lv_room hW) hdg hf) hL hF kk
/-! ends -/
theorem hb_iret (G : Cx g p s m args c cc own) (hr : meth.sig.returnType = some .int) (hlocks : meth.locks = false) {v : Int32} (hp : post (some (.int v)) H) (hL : ∀ q ∈ locs, F q.base) (h1 : cells ≤ mc) (h2 : slots ≤ ms) (hdg : decode cc pc = .ok (.ireturn, 1)) : W p l e R s m args below meth c H locs cells slots (hQ below args s post mc ms F) (F0 m pc ls [.int v]) :=
  W.widen h1 h2 (W.iret G.1 G.2.1 hr (fun t ht _ => ⟨_, rfl, by rw [ht]; exact hp⟩) hL hdg hlocks)
theorem hb_zret (G : Cx g p s m args c cc own) (hr : meth.sig.returnType = some .boolean) (hlocks : meth.locks = false) {v : Int32} (hv : v = 0 ∨ v = 1) (hp : post (some (.int v)) H) (hL : ∀ q ∈ locs, F q.base) (h1 : cells ≤ mc) (h2 : slots ≤ ms) (hdg : decode cc pc = .ok (.ireturn, 1)) : W p l e R s m args below meth c H locs cells slots (hQ below args s post mc ms F) (F0 m pc ls [.int v]) :=
  W.widen h1 h2 (W.zret G.1 G.2.1 hr (by rcases hv with rfl | rfl <;> rfl) (fun t ht _ => ⟨_, rfl, by rw [ht]; exact hp⟩) hL hdg hlocks)
theorem hb_vret (G : Cx g p s m args c cc own) (hr : meth.sig.returnType = none) (hlocks : meth.locks = false) (hp : post none H) (hL : ∀ q ∈ locs, F q.base) (h1 : cells ≤ mc) (h2 : slots ≤ ms) (hdg : decode cc pc = .ok (.return_, 1)) : W p l e R s m args below meth c H locs cells slots (hQ below args s post mc ms F) (F0 m pc ls []) :=
  W.widen h1 h2 (W.vret G.1 G.2.1 hr (fun t ht _ => ⟨_, rfl, by rw [ht]; exact hp⟩) hL hdg hlocks)
theorem hb_aret (G : Cx g p s m args c cc own) {rt : FieldType} (hr : meth.sig.returnType = some rt) (hrt : (∃ n, rt = .object n) ∨ ∃ t, rt = .array t) (hlocks : meth.locks = false) (hp : post (some (.ref a)) H) (hL : ∀ q ∈ locs, F q.base) (h1 : cells ≤ mc) (h2 : slots ≤ ms) (hdg : decode cc pc = .ok (.areturn, 1)) : W p l e R s m args below meth c H locs cells slots (hQ below args s post mc ms F) (F0 m pc ls [.ref a]) :=
  W.widen h1 h2 (W.aret G.1 G.2.1 hr hrt (Or.inr ⟨_, rfl⟩) (fun t ht _ => ⟨_, rfl, by rw [ht]; exact hp⟩) hL hdg hlocks)
end HC
end
section
theorem hd_X1_init : hmd yX1_init 2 := ⟨by decide +kernel, by decide +kernel, by decide +kernel⟩
theorem hd_X0_init : hmd yX0_init 0 := ⟨by decide +kernel, by decide +kernel, by decide +kernel⟩
theorem hd_X1_recover : hmd yX1_recover 0 := ⟨by decide +kernel, by decide +kernel, by decide +kernel⟩
theorem hd_X1_isDown : hmd yX1_isDown 0 := ⟨by decide +kernel, by decide +kernel, by decide +kernel⟩
theorem hd_X1_writes : hmd yX1_writes 0 := ⟨by decide +kernel, by decide +kernel, by decide +kernel⟩
theorem hd_L_cell : hmd yL_cell 2 := ⟨by decide +kernel, by decide +kernel, by decide +kernel⟩
theorem hd_L_append : hmd yL_append 5 := ⟨by decide +kernel, by decide +kernel, by decide +kernel⟩
theorem hd_X1_append : hmd yX1_append 3 := ⟨by decide +kernel, by decide +kernel, by decide +kernel⟩
theorem hd_X1_existingLog : hmd yX1_existingLog 1 := ⟨by decide +kernel, by decide +kernel, by decide +kernel⟩
theorem hd_X1_requireWithin : hmd yX1_requireWithin 3 := ⟨by decide +kernel, by decide +kernel, by decide +kernel⟩
theorem hd_X1_requirePower : hmd yX1_requirePower 0 := ⟨by decide +kernel, by decide +kernel, by decide +kernel⟩
theorem hd_X1_segmentBytes : hmd yX1_segmentBytes 0 := ⟨by decide +kernel, by decide +kernel, by decide +kernel⟩
theorem hd_X0_openHasRoom : hmd yX0_openHasRoom 2 := ⟨by decide +kernel, by decide +kernel, by decide +kernel⟩
theorem hd_X0_openBytes : hmd yX0_openBytes 0 := ⟨by decide +kernel, by decide +kernel, by decide +kernel⟩
theorem hd_X1_at : hmd yX1_at 2 := ⟨by decide +kernel, by decide +kernel, by decide +kernel⟩
theorem hd_X0_openStart : hmd yX0_openStart 0 := ⟨by decide +kernel, by decide +kernel, by decide +kernel⟩
theorem hd_X1_startOfNewSegment : hmd yX1_startOfNewSegment 1 := ⟨by decide +kernel, by decide +kernel, by decide +kernel⟩
theorem hd_X0_canOpenMore : hmd yX0_canOpenMore 0 := ⟨by decide +kernel, by decide +kernel, by decide +kernel⟩
theorem hd_X1_markBlockUse : hmd yX1_markBlockUse 0 := ⟨by decide +kernel, by decide +kernel, by decide +kernel⟩
theorem hd_X1_set : hmd yX1_set 3 := ⟨by decide +kernel, by decide +kernel, by decide +kernel⟩
theorem hd_X1_markSegmentsOf : hmd yX1_markSegmentsOf 1 := ⟨by decide +kernel, by decide +kernel, by decide +kernel⟩
theorem hd_X1_markSegment : hmd yX1_markSegment 1 := ⟨by decide +kernel, by decide +kernel, by decide +kernel⟩
theorem hd_X1_firstFreeRun : hmd yX1_firstFreeRun 0 := ⟨by decide +kernel, by decide +kernel, by decide +kernel⟩
theorem hd_X0_canHoldMore : hmd yX0_canHoldMore 0 := ⟨by decide +kernel, by decide +kernel, by decide +kernel⟩
theorem hd_X1_blocksTouched : hmd yX1_blocksTouched 2 := ⟨by decide +kernel, by decide +kernel, by decide +kernel⟩
theorem hd_X1_writeThroughHead : hmd yX1_writeThroughHead 1 := ⟨by decide +kernel, by decide +kernel, by decide +kernel⟩
theorem hd_X0_openSegment : hmd yX0_openSegment 1 := ⟨by decide +kernel, by decide +kernel, by decide +kernel⟩
theorem hd_X0_put : hmd yX0_put 2 := ⟨by decide +kernel, by decide +kernel, by decide +kernel⟩
theorem hd_L_retain : hmd yL_retain 4 := ⟨by decide +kernel, by decide +kernel, by decide +kernel⟩
theorem hd_X1_retain : hmd yX1_retain 2 := ⟨by decide +kernel, by decide +kernel, by decide +kernel⟩
theorem hd_X0_segmentsPast : hmd yX0_segmentsPast 1 := ⟨by decide +kernel, by decide +kernel, by decide +kernel⟩
theorem hd_X0_bytesFrom : hmd yX0_bytesFrom 1 := ⟨by decide +kernel, by decide +kernel, by decide +kernel⟩
theorem hd_X0_beginAs : hmd yX0_beginAs 1 := ⟨by decide +kernel, by decide +kernel, by decide +kernel⟩
theorem hd_X0_takeSegments : hmd yX0_takeSegments 2 := ⟨by decide +kernel, by decide +kernel, by decide +kernel⟩
theorem hd_X1_putDraftInPlaceOf : hmd yX1_putDraftInPlaceOf 1 := ⟨by decide +kernel, by decide +kernel, by decide +kernel⟩
theorem hd_L_thin : hmd yL_thin 4 := ⟨by decide +kernel, by decide +kernel, by decide +kernel⟩
theorem hd_X1_thin : hmd yX1_thin 2 := ⟨by decide +kernel, by decide +kernel, by decide +kernel⟩
theorem hd_X0_closedEntries : hmd yX0_closedEntries 0 := ⟨by decide +kernel, by decide +kernel, by decide +kernel⟩
theorem hd_X1_packThinned : hmd yX1_packThinned 3 := ⟨by decide +kernel, by decide +kernel, by decide +kernel⟩
theorem hd_X1_goes : hmd yX1_goes 2 := ⟨by decide +kernel, by decide +kernel, by decide +kernel⟩
theorem hd_X1_packEntry : hmd yX1_packEntry 2 := ⟨by decide +kernel, by decide +kernel, by decide +kernel⟩
theorem hd_X0_blocksFilled : hmd yX0_blocksFilled 0 := ⟨by decide +kernel, by decide +kernel, by decide +kernel⟩
theorem hd_L_log : hmd yL_log 4 := ⟨by decide +kernel, by decide +kernel, by decide +kernel⟩
theorem hd_X1_log : hmd yX1_log 2 := ⟨by decide +kernel, by decide +kernel, by decide +kernel⟩
theorem hd_L_entry : hmd yL_entry 5 := ⟨by decide +kernel, by decide +kernel, by decide +kernel⟩
theorem hd_X1_entry : hmd yX1_entry 3 := ⟨by decide +kernel, by decide +kernel, by decide +kernel⟩
theorem hd_X0_blockOf : hmd yX0_blockOf 1 := ⟨by decide +kernel, by decide +kernel, by decide +kernel⟩
theorem hd_L_byteAt : hmd yL_byteAt 5 := ⟨by decide +kernel, by decide +kernel, by decide +kernel⟩
theorem hd_X1_byteAt : hmd yX1_byteAt 3 := ⟨by decide +kernel, by decide +kernel, by decide +kernel⟩
theorem hd_L_crash : hmd yL_crash 2 := ⟨by decide +kernel, by decide +kernel, by decide +kernel⟩
theorem hd_X1_crash : hmd yX1_crash 1 := ⟨by decide +kernel, by decide +kernel, by decide +kernel⟩
theorem hd_L_free : hmd yL_free 2 := ⟨by decide +kernel, by decide +kernel, by decide +kernel⟩
theorem hd_X1_free : hmd yX1_free 0 := ⟨by decide +kernel, by decide +kernel, by decide +kernel⟩
theorem hd_X2_init : hmd yX2_init 2 := ⟨by decide +kernel, by decide +kernel, by decide +kernel⟩
theorem hd_X2_thrown : hmd yX2_thrown 0 := ⟨by decide +kernel, by decide +kernel, by decide +kernel⟩
theorem hd_X2_append : hmd yX2_append 3 := ⟨by decide +kernel, by decide +kernel, by decide +kernel⟩
theorem hd_X2_isLog : hmd yX2_isLog 1 := ⟨by decide +kernel, by decide +kernel, by decide +kernel⟩
theorem hd_X2_goes : hmd yX2_goes 1 := ⟨by decide +kernel, by decide +kernel, by decide +kernel⟩
theorem hd_X2_mark : hmd yX2_mark 0 := ⟨by decide +kernel, by decide +kernel, by decide +kernel⟩
theorem hd_X2_hold : hmd yX2_hold 1 := ⟨by decide +kernel, by decide +kernel, by decide +kernel⟩
theorem hd_X2_place : hmd yX2_place 0 := ⟨by decide +kernel, by decide +kernel, by decide +kernel⟩
theorem hd_X2_touched : hmd yX2_touched 2 := ⟨by decide +kernel, by decide +kernel, by decide +kernel⟩
theorem hd_X2_spend : hmd yX2_spend 1 := ⟨by decide +kernel, by decide +kernel, by decide +kernel⟩
theorem hd_X2_add : hmd yX2_add 5 := ⟨by decide +kernel, by decide +kernel, by decide +kernel⟩
theorem hd_X2_longer : hmd yX2_longer 1 := ⟨by decide +kernel, by decide +kernel, by decide +kernel⟩
theorem hd_X2_retain : hmd yX2_retain 2 := ⟨by decide +kernel, by decide +kernel, by decide +kernel⟩
theorem hd_X2_sum : hmd yX2_sum 1 := ⟨by decide +kernel, by decide +kernel, by decide +kernel⟩
theorem hd_X2_inSegment : hmd yX2_inSegment 2 := ⟨by decide +kernel, by decide +kernel, by decide +kernel⟩
theorem hd_X2_copy : hmd yX2_copy 2 := ⟨by decide +kernel, by decide +kernel, by decide +kernel⟩
theorem hd_X2_thin : hmd yX2_thin 2 := ⟨by decide +kernel, by decide +kernel, by decide +kernel⟩
theorem hd_X2_closed : hmd yX2_closed 1 := ⟨by decide +kernel, by decide +kernel, by decide +kernel⟩
theorem hd_X2_count : hmd yX2_count 1 := ⟨by decide +kernel, by decide +kernel, by decide +kernel⟩
theorem hd_X2_plan : hmd yX2_plan 2 := ⟨by decide +kernel, by decide +kernel, by decide +kernel⟩
theorem hd_X2_entryOf : hmd yX2_entryOf 2 := ⟨by decide +kernel, by decide +kernel, by decide +kernel⟩
theorem hd_X2_happen : hmd yX2_happen 2 := ⟨by decide +kernel, by decide +kernel, by decide +kernel⟩
theorem hd_X2_log : hmd yX2_log 2 := ⟨by decide +kernel, by decide +kernel, by decide +kernel⟩
theorem hd_X2_entry : hmd yX2_entry 3 := ⟨by decide +kernel, by decide +kernel, by decide +kernel⟩
theorem hd_X2_isEntry : hmd yX2_isEntry 2 := ⟨by decide +kernel, by decide +kernel, by decide +kernel⟩
theorem hd_X2_byteAt : hmd yX2_byteAt 3 := ⟨by decide +kernel, by decide +kernel, by decide +kernel⟩
theorem hd_X2_crash : hmd yX2_crash 1 := ⟨by decide +kernel, by decide +kernel, by decide +kernel⟩
theorem hd_X2_recover : hmd yX2_recover 0 := ⟨by decide +kernel, by decide +kernel, by decide +kernel⟩
theorem hd_X2_isDown : hmd yX2_isDown 0 := ⟨by decide +kernel, by decide +kernel, by decide +kernel⟩
theorem hd_X2_writes : hmd yX2_writes 0 := ⟨by decide +kernel, by decide +kernel, by decide +kernel⟩
theorem hd_X2_free : hmd yX2_free 0 := ⟨by decide +kernel, by decide +kernel, by decide +kernel⟩
theorem hd_J_fill : hmd yJ_fill 2 := ⟨by decide +kernel, by decide +kernel, by decide +kernel⟩
/-! where a method writes: nowhere, in one cell, in a block -/
def f0 : Nat → Prop := fun _ => False
def f1 (a : Nat) : Nat → Prop := fun q => q = a
def fB (x k : Nat) : Nat → Prop := fun q => x ≤ q ∧ q < x + k
theorem f0_in {A : Nat → Prop} : ∀ q, f0 q → A q := fun _ h => h.elim
theorem f1_in {A : Nat → Prop} {a : Nat} (h : A a) : ∀ q, f1 a q → A q := fun q hq => by rw [show q = a from hq]; exact h
/-! a row read and written behind a look at its index -/
def atV (f : Nat → Int32) (k : Nat) (i : Int32) : Int32 := if 0 ≤ i ∧ i < nI k then f i.toNatClampNeg else 0
def setV (f : Nat → Int32) (k : Nat) (i x : Int32) : Nat → Int32 := if 0 ≤ i ∧ i < nI k then upd f i.toNatClampNeg x else f
theorem i32_nlt {x y : Int32} : ¬ x < y ↔ y ≤ x := Int32.not_lt
theorem i32_nle {x y : Int32} : ¬ x ≤ y ↔ y < x := Int32.not_le
theorem vp_in_ge {i : Int32} {k : Nat} (h0 : ¬ i < 0) (h1 : i < nI k) (hk : k < 2 ^ 31) : vp_in i k := by
  rw [vp_in_iff]
  rw [Int32.lt_iff_toInt_lt] at h0 h1
  rw [nI_toInt hk] at h1
  have h2 : (0 : Int32).toInt = 0 := rfl
  rw [h2] at h0
  omega
theorem atV_in {f : Nat → Int32} {k j : Nat} (h : j < k) (hk : k < 2 ^ 31) : atV f k (nI j) = f j := by
  unfold atV
  rw [if_pos ⟨nI_pos' (by omega), nI_lt h hk⟩, nI_clamp (by omega)]
theorem atV_neg {f : Nat → Int32} {k : Nat} {i : Int32} (h : i < 0) : atV f k i = 0 := by
  unfold atV
  rw [if_neg (fun q => i32_nlt.mpr q.1 h)]
theorem setV_in {f : Nat → Int32} {k j : Nat} {x : Int32} (h : j < k) (hk : k < 2 ^ 31) : setV f k (nI j) x = upd f j x := by
  unfold setV
  rw [if_pos ⟨nI_pos' (by omega), nI_lt h hk⟩, nI_clamp (by omega)]
set_option maxHeartbeats 4000000 in
set_option maxRecDepth 100000 in
/-- at: the element, or 0 where there is none -/
theorem c_at (g : Gx) (l : Launch) (a k : Nat) (f : Nat → Int32) (i : Int32) (H : Heap) (hk : k < 2 ^ 31) (ha : ia g a k f H) : HM g l yX1_at cX1_at 2 (some .int) 0 0 0 0 [.ref a, .int i] H (fun v H1 => v = some (.int (atV f k i)) ∧ H1 = H) (f0) := by
  refine HM.ofW (by decide) (Nat.le_of_ble_eq_true rfl) (by simp [Value.category]) ?_
  intro p e s m args below meth c ls G hr hml hlocks hnm hH hl
  have hl : lh ls 2 [some (.ref a), some (.int i)] := hl
  have hL : ∀ q ∈ ([] : List Loc), f0 q.base := fun q h => by cases h
  refine hb_iload_n G dX1_at_0 hl rfl ?_
  refine lv_if_lt (tgt := 16) G.1 G.2.1 dX1_at_1 (by decide) (fun c_1 => ?_) (fun c_1 => ?_)
  · refine lv_iconst (v := 0) G.1 G.2.1 dX1_at_16 (by decide) ?_
    exact hb_iret G hr hlocks ⟨by rw [atV_neg c_1], rfl⟩ hL (Nat.le_refl _) (Nat.le_refl _) dX1_at_17
  · refine hb_iload_n G dX1_at_4 hl rfl ?_
    refine hb_aload_n G dX1_at_5 hl rfl ?_
    refine hb_alen_i G ha dX1_at_6 ?_
    refine lv_icmp_ge (tgt := 16) G.1 G.2.1 dX1_at_7 (by decide) (fun c_2 => ?_) (fun c_2 => ?_)
    · refine lv_iconst (v := 0) G.1 G.2.1 dX1_at_16 (by decide) ?_
      exact hb_iret G hr hlocks ⟨by unfold atV; rw [if_neg (fun q => i32_nlt.mpr c_2 q.2)], rfl⟩ hL (Nat.le_refl _) (Nat.le_refl _) dX1_at_17
    · refine hb_aload_n G dX1_at_10 hl rfl ?_
      refine hb_iload_n G dX1_at_11 hl rfl ?_
      refine hb_iald G ha (vp_in_ge c_1 (i32_nle.mp c_2) hk) dX1_at_12 ?_
      refine lv_goto (tgt := 17) G.1 G.2.1 dX1_at_13 (by decide) ?_
      exact hb_iret G hr hlocks ⟨by unfold atV; rw [if_pos ⟨i32_nlt.mp c_1, i32_nle.mp c_2⟩], rfl⟩ hL (Nat.le_refl _) (Nat.le_refl _) dX1_at_17
set_option maxHeartbeats 4000000 in
set_option maxRecDepth 100000 in
/-- set: the element takes the number, if there is one -/
theorem c_set (g : Gx) (l : Launch) (a k : Nat) (f : Nat → Int32) (i x : Int32) (H : Heap) (hk : k < 2 ^ 31) (ha : ia g a k f H) : HM g l yX1_set cX1_set 3 none 0 0 0 0 [.ref a, .int i, .int x] H (fun v H1 => v = none ∧ ia g a k (setV f k i x) H1 ∧ H1.size = H.size ∧ ∀ q : Nat, q ≠ a → H1[q]? = H[q]?) (f1 a) := by
  refine HM.ofW (by decide) (Nat.le_of_ble_eq_true rfl) (by simp [Value.category]) ?_
  intro p e s m args below meth c ls G hr hml hlocks hnm hH hl
  have hl : lh ls 3 [some (.ref a), some (.int i), some (.int x)] := hl
  have hL : ∀ q ∈ ([] : List Loc), f1 a q.base := fun q h => by cases h
  refine hb_iload_n G dX1_set_0 hl rfl ?_
  refine lv_if_lt (tgt := 14) G.1 G.2.1 dX1_set_1 (by decide) (fun c_1 => ?_) (fun c_1 => ?_)
  · exact hb_vret G hr hlocks ⟨rfl, by unfold setV; rw [if_neg (fun q => i32_nlt.mpr q.1 c_1)]; exact ha, rfl, fun _ _ => rfl⟩ hL (Nat.le_refl _) (Nat.le_refl _) dX1_set_14
  · refine hb_iload_n G dX1_set_4 hl rfl ?_
    refine hb_aload_n G dX1_set_5 hl rfl ?_
    refine hb_alen_i G ha dX1_set_6 ?_
    refine lv_icmp_ge (tgt := 14) G.1 G.2.1 dX1_set_7 (by decide) (fun c_2 => ?_) (fun c_2 => ?_)
    · exact hb_vret G hr hlocks ⟨rfl, by unfold setV; rw [if_neg (fun q => i32_nlt.mpr c_2 q.2)]; exact ha, rfl, fun _ _ => rfl⟩ hL (Nat.le_refl _) (Nat.le_refl _) dX1_set_14
    · refine hb_aload_n G dX1_set_10 hl rfl ?_
      refine hb_iload_n G dX1_set_11 hl rfl ?_
      refine hb_iload_n G dX1_set_12 hl rfl ?_
      refine hb_iast G ha (vp_in_ge c_1 (i32_nle.mp c_2) hk) hL rfl dX1_set_13 (fun H1 locs1 ha1 hz ho hL => ?_)
      exact hb_vret G hr hlocks ⟨rfl, by unfold setV; rw [if_pos ⟨i32_nlt.mp c_1, i32_nle.mp c_2⟩]; exact ha1, hz, ho⟩ hL (Nat.le_refl _) (Nat.le_refl _) dX1_set_14
end
section
/-! A LOG: seven cells, the object at x and its six rows behind it. v: the rows, how many segments, how many entries, how many came -/
def Fr (x k : Nat) (H H1 : Heap) : Prop := H1.size = H.size ∧ ∀ q : Nat, (q < x ∨ x + k ≤ q) → H1[q]? = H[q]?
theorem Fr.rf {x k : Nat} {H : Heap} : Fr x k H H := ⟨rfl, fun _ _ => rfl⟩
theorem Fr.tr {x k : Nat} {H H1 H2 : Heap} (h : Fr x k H H1) (h2 : Fr x k H1 H2) : Fr x k H H2 := ⟨h2.1.trans h.1, fun q hq => (h2.2 q hq).trans (h.2 q hq)⟩
theorem Fr.one {x k a : Nat} {H H1 : Heap} (hz : H1.size = H.size) (ho : ∀ q : Nat, q ≠ a → H1[q]? = H[q]?) (h1 : x ≤ a) (h2 : a < x + k) : Fr x k H H1 := ⟨hz, fun q hq => ho q (by omega)⟩
theorem Fr.wide {x k y n : Nat} {H H1 : Heap} (h : Fr x k H H1) (h1 : y ≤ x) (h2 : x + k ≤ y + n) : Fr y n H H1 := ⟨h.1, fun q hq => h.2 q (by omega)⟩
def lgLen (j : Nat) : Nat := if j < 2 then 60 else 512
abbrev LV : Type := (Nat → Nat → Int32) × Nat × Nat × Int32
def lgFs (x : Nat) (v : LV) : List Value := [.ref (x + 1), .ref (x + 2), .int (nI v.2.1), .ref (x + 3), .ref (x + 4), .ref (x + 5), .ref (x + 6), .int (nI v.2.2.1), .int v.2.2.2]
def lgAt (g : Gx) (x : Nat) (v : LV) (H : Heap) : Prop := ob g x 0 (lgFs x v) H ∧ ∀ j, j < 6 → ia g (x + 1 + j) (lgLen j) (v.1 j) H
def lgOk (v : LV) : Prop := v.2.1 ≤ 60 ∧ v.2.2.1 ≤ 512
theorem lgAt.kept {g : Gx} {x : Nat} {v : LV} {H H1 : Heap} (h : lgAt g x v H) (hq : ∀ q, x ≤ q → q < x + 7 → H1[q]? = H[q]?) : lgAt g x v H1 := ⟨h.1.kept (hq x (Nat.le_refl _) (by omega)), fun j hj => (h.2 j hj).kept (hq _ (by omega) (by omega))⟩
theorem lgAt.up {g : Gx} {x : Nat} {v : LV} {H H1 : Heap} (h : lgAt g x v H) (j : Nat) {f : Nat → Int32} (hf : ia g (x + 1 + j) (lgLen j) f H1) (ho : ∀ q : Nat, q ≠ x + 1 + j → H1[q]? = H[q]?) : lgAt g x (va_up v.1 j f, v.2) H1 := by
  refine ⟨h.1.kept (ho _ (by omega)), fun i hi => ?_⟩
  by_cases hij : i = j
  · subst hij
    show ia g (x + 1 + i) (lgLen i) (va_up v.1 i f i) H1
    rw [va_up_self]; exact hf
  · show ia g (x + 1 + i) (lgLen i) (va_up v.1 j f i) H1
    rw [va_up_ne _ _ hij]
    exact (h.2 i hi).kept (ho _ (by omega))
theorem lgAt.fd {g : Gx} {x : Nat} {v w : LV} {H H1 : Heap} (h : lgAt g x v H) (hr : w.1 = v.1) (hf : ob g x 0 (lgFs x w) H1) (ho : ∀ q : Nat, q ≠ x → H1[q]? = H[q]?) : lgAt g x w H1 :=
  ⟨hf, fun j hj => by rw [hr]; exact (h.2 j hj).kept (ho _ (by omega))⟩
theorem ic_le {a b : Nat} {x y : Int32} (hx : x = nI a) (hy : y = nI b) (ha : a < 2 ^ 31) (hb : b < 2 ^ 31) : x ≤ y ↔ a ≤ b := by rw [hx, hy]; exact nI_leI ha hb
theorem ic_lt {a b : Nat} {x y : Int32} (hx : x = nI a) (hy : y = nI b) (ha : a < 2 ^ 31) (hb : b < 2 ^ 31) : x < y ↔ a < b := by rw [hx, hy]; exact nI_ltI ha hb
theorem nI_m1 {k : Nat} (h : 0 < k) : nI k - 1 = nI (k - 1) := by
  obtain ⟨j, rfl⟩ : ∃ j, k = j + 1 := ⟨k - 1, by omega⟩
  rw [nI_pred]; rfl
theorem nI_0m1 : nI 0 - 1 = -1 := by decide
def lgOS (v : LV) : Int32 := if v.2.1 = 0 then 0 else v.1 0 (v.2.1 - 1)
def lgOB (v : LV) : Int32 := if v.2.1 = 0 then 0 else v.1 1 (v.2.1 - 1)
theorem atV_last {f : Nat → Int32} {k n : Nat} (hn : n ≤ k) (hk : k < 2 ^ 31) : atV f k (nI n - 1) = if n = 0 then 0 else f (n - 1) := by
  by_cases h : n = 0
  · subst h
    rw [if_pos rfl, nI_0m1]
    exact atV_neg (by decide)
  · rw [if_neg h, nI_m1 (by omega)]
    exact atV_in (by omega) hk
set_option maxHeartbeats 4000000 in
set_option maxRecDepth 100000 in
/-- canOpenMore -/
theorem c_canOpenMore (g : Gx) (l : Launch) (x : Nat) (v : LV) (H : Heap) (hv : lgOk v) (hg : lgAt g x v H) : HM g l yX0_canOpenMore cX0_canOpenMore 1 (some .boolean) 0 0 0 0 [.ref x] H (fun r H1 => r = some (.int (if v.2.1 < 60 then 1 else 0)) ∧ H1 = H) (f0) := by
  refine HM.ofW (by decide) (Nat.le_of_ble_eq_true rfl) (by simp [Value.category]) ?_
  intro p e s m args below meth c ls G hr hml hlocks hnm hH hl
  have hl : lh ls 1 [some (.ref x)] := hl
  have hL : ∀ q ∈ ([] : List Loc), f0 q.base := fun q h => by cases h
  obtain ⟨hv1, hv2⟩ := hv
  refine hb_aload_n G dX0_canOpenMore_0 hl rfl ?_
  refine hb_get G hg.1 rfl inX0 2 (by decide) kf_X0_18 rfl rfl dX0_canOpenMore_1 ?_
  refine lv_bipush (v := 60) G.1 G.2.1 dX0_canOpenMore_4 (by decide) ?_
  refine lv_icmp_ge (tgt := 13) G.1 G.2.1 dX0_canOpenMore_6 (by decide) (fun c_1 => ?_) (fun c_1 => ?_)
  · refine lv_iconst (v := 0) G.1 G.2.1 dX0_canOpenMore_13 (by decide) ?_
    exact hb_zret G hr hlocks (by decide) ⟨by rw [if_neg (by have := (ic_le (a := 60) (b := v.2.1) rfl rfl (by omega) (by omega)).mp c_1; omega)], rfl⟩ hL (Nat.le_refl _) (Nat.le_refl _) dX0_canOpenMore_14
  · refine lv_iconst (v := 1) G.1 G.2.1 dX0_canOpenMore_9 (by decide) ?_
    refine lv_goto (tgt := 14) G.1 G.2.1 dX0_canOpenMore_10 (by decide) ?_
    exact hb_zret G hr hlocks (by decide) ⟨by rw [if_pos (by have := mt (ic_le (a := 60) (b := v.2.1) rfl rfl (by omega) (by omega)).mpr c_1; omega)], rfl⟩ hL (Nat.le_refl _) (Nat.le_refl _) dX0_canOpenMore_14
set_option maxHeartbeats 4000000 in
set_option maxRecDepth 100000 in
/-- canHoldMore -/
theorem c_canHoldMore (g : Gx) (l : Launch) (x : Nat) (v : LV) (H : Heap) (hv : lgOk v) (hg : lgAt g x v H) : HM g l yX0_canHoldMore cX0_canHoldMore 1 (some .boolean) 0 0 0 0 [.ref x] H (fun r H1 => r = some (.int (if v.2.2.1 < 512 then 1 else 0)) ∧ H1 = H) (f0) := by
  refine HM.ofW (by decide) (Nat.le_of_ble_eq_true rfl) (by simp [Value.category]) ?_
  intro p e s m args below meth c ls G hr hml hlocks hnm hH hl
  have hl : lh ls 1 [some (.ref x)] := hl
  have hL : ∀ q ∈ ([] : List Loc), f0 q.base := fun q h => by cases h
  obtain ⟨hv1, hv2⟩ := hv
  refine hb_aload_n G dX0_canHoldMore_0 hl rfl ?_
  refine hb_get G hg.1 rfl inX0 7 (by decide) kf_X0_34 rfl rfl dX0_canHoldMore_1 ?_
  refine lv_sipush (v := 512) G.1 G.2.1 dX0_canHoldMore_4 (by decide) ?_
  refine lv_icmp_ge (tgt := 14) G.1 G.2.1 dX0_canHoldMore_7 (by decide) (fun c_1 => ?_) (fun c_1 => ?_)
  · refine lv_iconst (v := 0) G.1 G.2.1 dX0_canHoldMore_14 (by decide) ?_
    exact hb_zret G hr hlocks (by decide) ⟨by rw [if_neg (by have := (ic_le (a := 512) (b := v.2.2.1) rfl rfl (by omega) (by omega)).mp c_1; omega)], rfl⟩ hL (Nat.le_refl _) (Nat.le_refl _) dX0_canHoldMore_15
  · refine lv_iconst (v := 1) G.1 G.2.1 dX0_canHoldMore_10 (by decide) ?_
    refine lv_goto (tgt := 15) G.1 G.2.1 dX0_canHoldMore_11 (by decide) ?_
    exact hb_zret G hr hlocks (by decide) ⟨by rw [if_pos (by have := mt (ic_le (a := 512) (b := v.2.2.1) rfl rfl (by omega) (by omega)).mpr c_1; omega)], rfl⟩ hL (Nat.le_refl _) (Nat.le_refl _) dX0_canHoldMore_15
set_option maxHeartbeats 4000000 in
set_option maxRecDepth 100000 in
/-- openStart -/
theorem c_openStart (g : Gx) (l : Launch) (x : Nat) (v : LV) (H : Heap) (hv : lgOk v) (hg : lgAt g x v H) : HM g l yX0_openStart cX0_openStart 1 (some .int) 1 21 0 0 [.ref x] H (fun r H1 => r = some (.int (lgOS v)) ∧ H1 = H) (f0) := by
  refine HM.ofW (by decide) (Nat.le_of_ble_eq_true rfl) (by simp [Value.category]) ?_
  intro p e s m args below meth c ls G hr hml hlocks hnm hH hl
  have hl : lh ls 1 [some (.ref x)] := hl
  have hL : ∀ q ∈ ([] : List Loc), f0 q.base := fun q h => by cases h
  refine hb_aload_n G dX0_openStart_0 hl rfl ?_
  refine hb_get G hg.1 rfl inX0 0 (by decide) kf_X0_9 rfl rfl dX0_openStart_1 ?_
  refine hb_aload_n G dX0_openStart_4 hl rfl ?_
  refine hb_get G hg.1 rfl inX0 2 (by decide) kf_X0_18 rfl rfl dX0_openStart_5 ?_
  refine lv_iconst (v := 1) G.1 G.2.1 dX0_openStart_8 (by decide) ?_
  refine lv_isub G.1 G.2.1 dX0_openStart_9 ?_
  refine lv_topi (fun t_1 et_1 => ?_)
  refine hb_callSN (As := [.ref (x + 1), .int t_1]) (rest := []) G hml (c_at g l (x + 1) 60 (v.1 0) t_1 H (by decide) (hg.2 0 (by decide))) G.2.2.2.2.2.2.1 kt_X1_at kn_X1 ko_X1_at hd_X1_at ⟨Nat.le_of_ble_eq_true rfl, Nat.le_of_ble_eq_true rfl⟩ hl.size rfl (Nat.le_of_ble_eq_true rfl) dX0_openStart_10 ⟨Nat.le_of_ble_eq_true rfl, Nat.le_of_ble_eq_true rfl⟩ hL (f0_in) (fun v1 H1 locs1 hp hL => ?_)
  obtain ⟨rfl, rfl⟩ := hp
  exact hb_iret G hr hlocks ⟨by rw [et_1, atV_last hv.1 (by decide)]; rfl, rfl⟩ hL (Nat.le_refl _) (Nat.le_refl _) dX0_openStart_13
set_option maxHeartbeats 4000000 in
set_option maxRecDepth 100000 in
/-- openBytes -/
theorem c_openBytes (g : Gx) (l : Launch) (x : Nat) (v : LV) (H : Heap) (hv : lgOk v) (hg : lgAt g x v H) : HM g l yX0_openBytes cX0_openBytes 1 (some .int) 1 21 0 0 [.ref x] H (fun r H1 => r = some (.int (lgOB v)) ∧ H1 = H) (f0) := by
  refine HM.ofW (by decide) (Nat.le_of_ble_eq_true rfl) (by simp [Value.category]) ?_
  intro p e s m args below meth c ls G hr hml hlocks hnm hH hl
  have hl : lh ls 1 [some (.ref x)] := hl
  have hL : ∀ q ∈ ([] : List Loc), f0 q.base := fun q h => by cases h
  refine hb_aload_n G dX0_openBytes_0 hl rfl ?_
  refine hb_get G hg.1 rfl inX0 1 (by decide) kf_X0_15 rfl rfl dX0_openBytes_1 ?_
  refine hb_aload_n G dX0_openBytes_4 hl rfl ?_
  refine hb_get G hg.1 rfl inX0 2 (by decide) kf_X0_18 rfl rfl dX0_openBytes_5 ?_
  refine lv_iconst (v := 1) G.1 G.2.1 dX0_openBytes_8 (by decide) ?_
  refine lv_isub G.1 G.2.1 dX0_openBytes_9 ?_
  refine lv_topi (fun t_1 et_1 => ?_)
  refine hb_callSN (As := [.ref (x + 2), .int t_1]) (rest := []) G hml (c_at g l (x + 2) 60 (v.1 1) t_1 H (by decide) (hg.2 1 (by decide))) G.2.2.2.2.2.2.1 kt_X1_at kn_X1 ko_X1_at hd_X1_at ⟨Nat.le_of_ble_eq_true rfl, Nat.le_of_ble_eq_true rfl⟩ hl.size rfl (Nat.le_of_ble_eq_true rfl) dX0_openBytes_10 ⟨Nat.le_of_ble_eq_true rfl, Nat.le_of_ble_eq_true rfl⟩ hL (f0_in) (fun v1 H1 locs1 hp hL => ?_)
  obtain ⟨rfl, rfl⟩ := hp
  exact hb_iret G hr hlocks ⟨by rw [et_1, atV_last hv.1 (by decide)]; rfl, rfl⟩ hL (Nat.le_refl _) (Nat.le_refl _) dX0_openBytes_13
set_option maxHeartbeats 4000000 in
set_option maxRecDepth 100000 in
/-- openHasRoom -/
theorem c_openHasRoom (g : Gx) (l : Launch) (x : Nat) (v : LV) (H : Heap) (hv : lgOk v) (hg : lgAt g x v H) (b z : Int32) : HM g l yX0_openHasRoom cX0_openHasRoom 3 (some .boolean) 2 41 0 0 [.ref x, .int b, .int z] H (fun r H1 => r = some (.int (if 0 < v.2.1 ∧ lgOB v + b ≤ z then 1 else 0)) ∧ H1 = H) (f0) := by
  refine HM.ofW (by decide) (Nat.le_of_ble_eq_true rfl) (by simp [Value.category]) ?_
  intro p e s m args below meth c ls G hr hml hlocks hnm hH hl
  have hl : lh ls 3 [some (.ref x), some (.int b), some (.int z)] := hl
  have hL : ∀ q ∈ ([] : List Loc), f0 q.base := fun q h => by cases h
  have hv1 := hv.1
  refine hb_aload_n G dX0_openHasRoom_0 hl rfl ?_
  refine hb_get G hg.1 rfl inX0 2 (by decide) kf_X0_18 rfl rfl dX0_openHasRoom_1 ?_
  refine lv_if_le (tgt := 21) G.1 G.2.1 dX0_openHasRoom_4 (by decide) (fun c_1 => ?_) (fun c_1 => ?_)
  · refine lv_iconst (v := 0) G.1 G.2.1 dX0_openHasRoom_21 (by decide) ?_
    exact hb_zret G hr hlocks (by decide) ⟨by rw [if_neg (fun q => by have := (ic_le (a := v.2.1) (b := 0) rfl rfl (by omega) (by omega)).mp c_1; omega)], rfl⟩ hL (Nat.le_refl _) (Nat.le_refl _) dX0_openHasRoom_22
  · refine hb_aload_n G dX0_openHasRoom_7 hl rfl ?_
    refine hb_callV (As := []) (rest := []) G hml (c_openBytes g l x v H hv hg) (hg.1) rfl km_X0_44 ki_X0_openBytes ks_X0_openBytes kn_X0 ko_X0_openBytes hd_X0_openBytes ⟨Nat.le_of_ble_eq_true rfl, Nat.le_of_ble_eq_true rfl⟩ hl.size rfl (Nat.le_of_ble_eq_true rfl) dX0_openHasRoom_8 ⟨Nat.le_of_ble_eq_true rfl, Nat.le_of_ble_eq_true rfl⟩ hL (f0_in) (fun v1 H1 locs1 hp hL => ?_)
    obtain ⟨rfl, rfl⟩ := hp
    refine lv_topi (fun r_2 er_2 => ?_)
    refine hb_iload_n G dX0_openHasRoom_11 hl rfl ?_
    refine lv_iadd G.1 G.2.1 dX0_openHasRoom_12 ?_
    refine lv_topi (fun t_3 et_3 => ?_)
    refine hb_iload_n G dX0_openHasRoom_13 hl rfl ?_
    refine lv_icmp_gt (tgt := 21) G.1 G.2.1 dX0_openHasRoom_14 (by decide) (fun c_4 => ?_) (fun c_4 => ?_)
    · refine lv_iconst (v := 0) G.1 G.2.1 dX0_openHasRoom_21 (by decide) ?_
      exact hb_zret G hr hlocks (by decide) ⟨by rw [if_neg (fun q => by have q2 := q.2; rw [← er_2, ← et_3] at q2; exact i32_nlt.mpr q2 c_4)], rfl⟩ hL (Nat.le_refl _) (Nat.le_refl _) dX0_openHasRoom_22
    · refine lv_iconst (v := 1) G.1 G.2.1 dX0_openHasRoom_17 (by decide) ?_
      refine lv_goto (tgt := 22) G.1 G.2.1 dX0_openHasRoom_18 (by decide) ?_
      exact hb_zret G hr hlocks (by decide) ⟨by rw [if_pos ⟨(by have := mt (ic_le (a := v.2.1) (b := 0) rfl rfl (by omega) (by omega)).mpr c_1; omega), by rw [← er_2, ← et_3]; exact i32_nlt.mp c_4⟩], rfl⟩ hL (Nat.le_refl _) (Nat.le_refl _) dX0_openHasRoom_22
end
section
theorem fB_mk {x k q : Nat} (h1 : x ≤ q) (h2 : q < x + k) : fB x k q := ⟨h1, h2⟩
theorem it0 {P : Prop} [Decidable P] {r : Int32} (e : r = if P then 1 else 0) : r = 0 ↔ ¬ P := by
  by_cases h : P
  · rw [e, if_pos h]; simp [h]
  · rw [e, if_neg h]; simp [h]
def lgOpen (v : LV) (z : Int32) : LV := if v.2.1 < 60 then (va_up (va_up v.1 0 (upd (v.1 0) v.2.1 z)) 1 (upd (v.1 1) v.2.1 0), v.2.1 + 1, v.2.2) else v
def lgPut (v : LV) (b z : Int32) : LV := if 0 < v.2.1 ∧ v.2.2.1 < 512 then (va_up (va_up (va_up (va_up (va_up v.1 2 (upd (v.1 2) v.2.2.1 b)) 3 (upd (v.1 3) v.2.2.1 z)) 4 (upd (v.1 4) v.2.2.1 (nI (v.2.1 - 1)))) 5 (upd (v.1 5) v.2.2.1 (lgOB v))) 1 (upd (v.1 1) (v.2.1 - 1) (lgOB v + b + 4)), v.2.1, v.2.2.1 + 1, v.2.2.2) else v
theorem lgOpen_ok {v : LV} (h : lgOk v) (z : Int32) : lgOk (lgOpen v z) := by
  unfold lgOpen
  by_cases h1 : v.2.1 < 60
  · rw [if_pos h1]; exact ⟨by show v.2.1 + 1 ≤ 60; omega, h.2⟩
  · rw [if_neg h1]; exact h
theorem lgPut_ok {v : LV} (h : lgOk v) (b z : Int32) : lgOk (lgPut v b z) := by
  unfold lgPut
  by_cases h1 : 0 < v.2.1 ∧ v.2.2.1 < 512
  · rw [if_pos h1]; exact ⟨h.1, by show v.2.2.1 + 1 ≤ 512; omega⟩
  · rw [if_neg h1]; exact h
set_option maxHeartbeats 4000000 in
set_option maxRecDepth 100000 in
/-- openSegment -/
theorem c_openSegment (g : Gx) (l : Launch) (x : Nat) (v : LV) (H : Heap) (hv : lgOk v) (hg : lgAt g x v H) (z : Int32) : HM g l yX0_openSegment cX0_openSegment 2 none 1 22 0 0 [.ref x, .int z] H (fun r H1 => r = none ∧ lgAt g x (lgOpen v z) H1 ∧ Fr x 7 H H1) (fB x 7) := by
  refine HM.ofW (by decide) (Nat.le_of_ble_eq_true rfl) (by simp [Value.category]) ?_
  intro p e s m args below meth c ls G hr hml hlocks hnm hH hl
  have hl : lh ls 2 [some (.ref x), some (.int z)] := hl
  have hL : ∀ q ∈ ([] : List Loc), fB x 7 q.base := fun q h => by cases h
  refine hb_aload_n G dX0_openSegment_0 hl rfl ?_
  refine hb_callV (As := []) (rest := []) G hml (c_canOpenMore g l x v H hv hg) (hg.1) rfl km_X0_48 ki_X0_canOpenMore ks_X0_canOpenMore kn_X0 ko_X0_canOpenMore hd_X0_canOpenMore ⟨Nat.le_of_ble_eq_true rfl, Nat.le_of_ble_eq_true rfl⟩ hl.size rfl (Nat.le_of_ble_eq_true rfl) dX0_openSegment_1 ⟨Nat.le_of_ble_eq_true rfl, Nat.le_of_ble_eq_true rfl⟩ hL (f0_in) (fun v1 H1 locs1 hp hL => ?_)
  obtain ⟨rfl, rfl⟩ := hp
  refine lv_topi (fun r_1 er_1 => ?_)
  refine lv_if_eq (tgt := 41) G.1 G.2.1 dX0_openSegment_4 (by decide) (fun c_2 => ?_) (fun c_2 => ?_)
  · exact hb_vret G hr hlocks ⟨rfl, by unfold lgOpen; rw [if_neg ((it0 er_1).mp c_2)]; exact hg, Fr.rf⟩ hL (Nat.le_refl _) (Nat.le_refl _) dX0_openSegment_41
  · have h60 : v.2.1 < 60 := Decidable.not_not.mp (fun q => c_2 ((it0 er_1).mpr q))
    refine hb_aload_n G dX0_openSegment_7 hl rfl ?_
    refine hb_get G hg.1 rfl inX0 0 (by decide) kf_X0_9 rfl rfl dX0_openSegment_8 ?_
    refine hb_aload_n G dX0_openSegment_11 hl rfl ?_
    refine hb_get G hg.1 rfl inX0 2 (by decide) kf_X0_18 rfl rfl dX0_openSegment_12 ?_
    refine hb_iload_n G dX0_openSegment_15 hl rfl ?_
    refine hb_callSN (As := [.ref (x + 1), .int (nI v.2.1), .int z]) (rest := []) G hml (c_set g l (x + 1) 60 (v.1 0) (nI v.2.1) z _ (by decide) (hg.2 0 (by decide))) G.2.2.2.2.2.2.2.1 kt_X1_set kn_X1 ko_X1_set hd_X1_set ⟨Nat.le_of_ble_eq_true rfl, Nat.le_of_ble_eq_true rfl⟩ hl.size rfl (Nat.le_of_ble_eq_true rfl) dX0_openSegment_16 ⟨Nat.le_of_ble_eq_true rfl, Nat.le_of_ble_eq_true rfl⟩ hL (f1_in (fB_mk (by omega) (by omega))) (fun v1 H1 locs1 hp hL => ?_)
    obtain ⟨rfl, ha, hz1, ho1⟩ := hp
    rw [setV_in h60 (by decide)] at ha
    have hg1 := hg.up 0 ha ho1
    refine hb_aload_n G dX0_openSegment_19 hl rfl ?_
    refine hb_get G hg1.1 rfl inX0 1 (by decide) kf_X0_15 rfl rfl dX0_openSegment_20 ?_
    refine hb_aload_n G dX0_openSegment_23 hl rfl ?_
    refine hb_get G hg1.1 rfl inX0 2 (by decide) kf_X0_18 rfl rfl dX0_openSegment_24 ?_
    refine lv_iconst (v := 0) G.1 G.2.1 dX0_openSegment_27 (by decide) ?_
    refine hb_callSN (As := [.ref (x + 2), .int (nI v.2.1), .int 0]) (rest := []) G hml (c_set g l (x + 2) 60 (v.1 1) (nI v.2.1) 0 _ (by decide) (hg1.2 1 (by decide))) G.2.2.2.2.2.2.2.1 kt_X1_set kn_X1 ko_X1_set hd_X1_set ⟨Nat.le_of_ble_eq_true rfl, Nat.le_of_ble_eq_true rfl⟩ hl.size rfl (Nat.le_of_ble_eq_true rfl) dX0_openSegment_28 ⟨Nat.le_of_ble_eq_true rfl, Nat.le_of_ble_eq_true rfl⟩ hL (f1_in (fB_mk (by omega) (by omega))) (fun v1 H2 locs2 hp hL => ?_)
    obtain ⟨rfl, ha, hz2, ho2⟩ := hp
    rw [setV_in h60 (by decide)] at ha
    have hg2 := hg1.up 1 ha ho2
    refine hb_aload_n G dX0_openSegment_31 hl rfl ?_
    refine lv_dup G.1 G.2.1 dX0_openSegment_32 rfl ?_
    refine hb_get G hg2.1 rfl inX0 2 (by decide) kf_X0_18 rfl rfl dX0_openSegment_33 ?_
    refine lv_iconst (v := 1) G.1 G.2.1 dX0_openSegment_36 (by decide) ?_
    refine lv_iadd G.1 G.2.1 dX0_openSegment_37 ?_
    refine lv_topi (fun t_3 et_3 => ?_)
    refine hb_put G hg2.1 rfl inX0 tyX0 tyX0_ok nmX0 2 (by decide) kf_X0_18 rfl rfl rfl rfl (Nat.le_of_ble_eq_true rfl) hL (fB_mk (by omega) (by omega)) dX0_openSegment_38 (fun H3 locs3 hf hz3 ho3 hL => ?_)
    have h9 : nI v.2.1 + 1 = nI (v.2.1 + 1) := nI_1 _
    rw [et_3, h9] at hf
    exact hb_vret G hr hlocks ⟨rfl, by unfold lgOpen; rw [if_pos h60]; exact lgAt.fd hg2 rfl hf ho3, (Fr.one hz1 ho1 (by omega) (by omega)).tr ((Fr.one hz2 ho2 (by omega) (by omega)).tr (Fr.one hz3 ho3 (by omega) (by omega)))⟩ hL (Nat.le_refl _) (Nat.le_refl _) dX0_openSegment_41
set_option maxHeartbeats 4000000 in
set_option maxRecDepth 100000 in
/-- put -/
theorem c_put (g : Gx) (l : Launch) (x : Nat) (v : LV) (H : Heap) (hv : lgOk v) (hg : lgAt g x v H) (b z : Int32) : HM g l yX0_put cX0_put 3 none 2 41 0 0 [.ref x, .int b, .int z] H (fun r H1 => r = none ∧ lgAt g x (lgPut v b z) H1 ∧ Fr x 7 H H1) (fB x 7) := by
  refine HM.ofW (by decide) (Nat.le_of_ble_eq_true rfl) (by simp [Value.category]) ?_
  intro p e s m args below meth c ls G hr hml hlocks hnm hH hl
  have hl : lh ls 3 [some (.ref x), some (.int b), some (.int z)] := hl
  have hL : ∀ q ∈ ([] : List Loc), fB x 7 q.base := fun q h => by cases h
  have hv1 := hv.1
  refine hb_aload_n G dX0_put_0 hl rfl ?_
  refine hb_get G hg.1 rfl inX0 2 (by decide) kf_X0_18 rfl rfl dX0_put_1 ?_
  refine lv_if_le (tgt := 101) G.1 G.2.1 dX0_put_4 (by decide) (fun c_1 => ?_) (fun c_1 => ?_)
  · exact hb_vret G hr hlocks ⟨rfl, by unfold lgPut; rw [if_neg (fun q => by have := (ic_le (a := v.2.1) (b := 0) rfl rfl (by omega) (by omega)).mp c_1; omega)]; exact hg, Fr.rf⟩ hL (Nat.le_refl _) (Nat.le_refl _) dX0_put_101
  · have h0 : 0 < v.2.1 := by have := mt (ic_le (a := v.2.1) (b := 0) rfl rfl (by omega) (by omega)).mpr c_1; omega
    refine hb_aload_n G dX0_put_7 hl rfl ?_
    refine hb_callV (As := []) (rest := []) G hml (c_canHoldMore g l x v H hv hg) (hg.1) rfl km_X0_56 ki_X0_canHoldMore ks_X0_canHoldMore kn_X0 ko_X0_canHoldMore hd_X0_canHoldMore ⟨Nat.le_of_ble_eq_true rfl, Nat.le_of_ble_eq_true rfl⟩ hl.size rfl (Nat.le_of_ble_eq_true rfl) dX0_put_8 ⟨Nat.le_of_ble_eq_true rfl, Nat.le_of_ble_eq_true rfl⟩ hL (f0_in) (fun v1 H1 locs1 hp hL => ?_)
    obtain ⟨rfl, rfl⟩ := hp
    refine lv_topi (fun r_2 er_2 => ?_)
    refine lv_if_eq (tgt := 101) G.1 G.2.1 dX0_put_11 (by decide) (fun c_3 => ?_) (fun c_3 => ?_)
    · exact hb_vret G hr hlocks ⟨rfl, by unfold lgPut; rw [if_neg (fun q => (it0 er_2).mp c_3 q.2)]; exact hg, Fr.rf⟩ hL (Nat.le_refl _) (Nat.le_refl _) dX0_put_101
    · have h5 : v.2.2.1 < 512 := Decidable.not_not.mp (fun q => c_3 ((it0 er_2).mpr q))
      refine hb_aload_n G dX0_put_14 hl rfl ?_
      refine hb_get G hg.1 rfl inX0 3 (by decide) kf_X0_22 rfl rfl dX0_put_15 ?_
      refine hb_aload_n G dX0_put_18 hl rfl ?_
      refine hb_get G hg.1 rfl inX0 7 (by decide) kf_X0_34 rfl rfl dX0_put_19 ?_
      refine hb_iload_n G dX0_put_22 hl rfl ?_
      refine hb_callSN (As := [.ref (x + 3), .int (nI v.2.2.1), .int b]) (rest := []) G hml (c_set g l (x + 3) 512 (v.1 2) (nI v.2.2.1) b _ (by decide) (hg.2 2 (by decide))) G.2.2.2.2.2.2.2.1 kt_X1_set kn_X1 ko_X1_set hd_X1_set ⟨Nat.le_of_ble_eq_true rfl, Nat.le_of_ble_eq_true rfl⟩ hl.size rfl (Nat.le_of_ble_eq_true rfl) dX0_put_23 ⟨Nat.le_of_ble_eq_true rfl, Nat.le_of_ble_eq_true rfl⟩ hL (f1_in (fB_mk (by omega) (by omega))) (fun v1 H0 locs0 hp hL => ?_)
      obtain ⟨rfl, ha, hz0, ho0⟩ := hp
      rw [setV_in h5 (by decide)] at ha
      have hg0 := hg.up 2 ha ho0
      refine hb_aload_n G dX0_put_26 hl rfl ?_
      refine hb_get G hg0.1 rfl inX0 4 (by decide) kf_X0_25 rfl rfl dX0_put_27 ?_
      refine hb_aload_n G dX0_put_30 hl rfl ?_
      refine hb_get G hg0.1 rfl inX0 7 (by decide) kf_X0_34 rfl rfl dX0_put_31 ?_
      refine hb_iload_n G dX0_put_34 hl rfl ?_
      refine hb_callSN (As := [.ref (x + 4), .int (nI v.2.2.1), .int z]) (rest := []) G hml (c_set g l (x + 4) 512 (v.1 3) (nI v.2.2.1) z _ (by decide) (hg0.2 3 (by decide))) G.2.2.2.2.2.2.2.1 kt_X1_set kn_X1 ko_X1_set hd_X1_set ⟨Nat.le_of_ble_eq_true rfl, Nat.le_of_ble_eq_true rfl⟩ hl.size rfl (Nat.le_of_ble_eq_true rfl) dX0_put_35 ⟨Nat.le_of_ble_eq_true rfl, Nat.le_of_ble_eq_true rfl⟩ hL (f1_in (fB_mk (by omega) (by omega))) (fun v1 H1 locs1 hp hL => ?_)
      obtain ⟨rfl, ha, hz1, ho1⟩ := hp
      rw [setV_in h5 (by decide)] at ha
      have hg1 := hg0.up 3 ha ho1
      refine hb_aload_n G dX0_put_38 hl rfl ?_
      refine hb_get G hg1.1 rfl inX0 5 (by decide) kf_X0_28 rfl rfl dX0_put_39 ?_
      refine hb_aload_n G dX0_put_42 hl rfl ?_
      refine hb_get G hg1.1 rfl inX0 7 (by decide) kf_X0_34 rfl rfl dX0_put_43 ?_
      refine hb_aload_n G dX0_put_46 hl rfl ?_
      refine hb_get G hg1.1 rfl inX0 2 (by decide) kf_X0_18 rfl rfl dX0_put_47 ?_
      refine lv_iconst (v := 1) G.1 G.2.1 dX0_put_50 (by decide) ?_
      refine lv_isub G.1 G.2.1 dX0_put_51 ?_
      refine lv_topi (fun t_4 et_4 => ?_)
      refine hb_callSN (As := [.ref (x + 5), .int (nI v.2.2.1), .int t_4]) (rest := []) G hml (c_set g l (x + 5) 512 (v.1 4) (nI v.2.2.1) t_4 _ (by decide) (hg1.2 4 (by decide))) G.2.2.2.2.2.2.2.1 kt_X1_set kn_X1 ko_X1_set hd_X1_set ⟨Nat.le_of_ble_eq_true rfl, Nat.le_of_ble_eq_true rfl⟩ hl.size rfl (Nat.le_of_ble_eq_true rfl) dX0_put_52 ⟨Nat.le_of_ble_eq_true rfl, Nat.le_of_ble_eq_true rfl⟩ hL (f1_in (fB_mk (by omega) (by omega))) (fun v1 H2 locs2 hp hL => ?_)
      obtain ⟨rfl, ha, hz2, ho2⟩ := hp
      rw [setV_in h5 (by decide)] at ha
      rw [et_4, nI_m1 h0] at ha
      have hg2 := hg1.up 4 ha ho2
      refine hb_aload_n G dX0_put_55 hl rfl ?_
      refine hb_get G hg2.1 rfl inX0 6 (by decide) kf_X0_31 rfl rfl dX0_put_56 ?_
      refine hb_aload_n G dX0_put_59 hl rfl ?_
      refine hb_get G hg2.1 rfl inX0 7 (by decide) kf_X0_34 rfl rfl dX0_put_60 ?_
      refine hb_aload_n G dX0_put_63 hl rfl ?_
      refine hb_callV (As := []) (rest := [.int (nI v.2.2.1), .ref (x + 6)]) G hml (c_openBytes g l x _ _ (by exact hv) hg2) (hg2.1) rfl km_X0_44 ki_X0_openBytes ks_X0_openBytes kn_X0 ko_X0_openBytes hd_X0_openBytes ⟨Nat.le_of_ble_eq_true rfl, Nat.le_of_ble_eq_true rfl⟩ hl.size rfl (Nat.le_of_ble_eq_true rfl) dX0_put_64 ⟨Nat.le_of_ble_eq_true rfl, Nat.le_of_ble_eq_true rfl⟩ hL (f0_in) (fun v1 H9 locs9 hp hL => ?_)
      obtain ⟨rfl, rfl⟩ := hp
      refine lv_topi (fun r_5 er_5 => ?_)
      have er_5 : r_5 = lgOB v := er_5
      refine hb_callSN (As := [.ref (x + 6), .int (nI v.2.2.1), .int r_5]) (rest := []) G hml (c_set g l (x + 6) 512 (v.1 5) (nI v.2.2.1) r_5 _ (by decide) (hg2.2 5 (by decide))) G.2.2.2.2.2.2.2.1 kt_X1_set kn_X1 ko_X1_set hd_X1_set ⟨Nat.le_of_ble_eq_true rfl, Nat.le_of_ble_eq_true rfl⟩ hl.size rfl (Nat.le_of_ble_eq_true rfl) dX0_put_67 ⟨Nat.le_of_ble_eq_true rfl, Nat.le_of_ble_eq_true rfl⟩ hL (f1_in (fB_mk (by omega) (by omega))) (fun v1 H3 locs3 hp hL => ?_)
      obtain ⟨rfl, ha, hz3, ho3⟩ := hp
      rw [setV_in h5 (by decide)] at ha
      rw [er_5] at ha
      have hg3 := hg2.up 5 ha ho3
      refine hb_aload_n G dX0_put_70 hl rfl ?_
      refine lv_dup G.1 G.2.1 dX0_put_71 rfl ?_
      refine hb_get G hg3.1 rfl inX0 7 (by decide) kf_X0_34 rfl rfl dX0_put_72 ?_
      refine lv_iconst (v := 1) G.1 G.2.1 dX0_put_75 (by decide) ?_
      refine lv_iadd G.1 G.2.1 dX0_put_76 ?_
      refine lv_topi (fun t_6 et_6 => ?_)
      refine hb_put G hg3.1 rfl inX0 tyX0 tyX0_ok nmX0 7 (by decide) kf_X0_34 rfl rfl rfl rfl (Nat.le_of_ble_eq_true rfl) hL (fB_mk (by omega) (by omega)) dX0_put_77 (fun H4 locs4 hf hz4 ho4 hL => ?_)
      have h9 : nI v.2.2.1 + 1 = nI (v.2.2.1 + 1) := nI_1 _
      rw [et_6, h9] at hf
      have hg4 := lgAt.fd (w := (_, v.2.1, v.2.2.1 + 1, v.2.2.2)) hg3 rfl hf ho4
      refine hb_aload_n G dX0_put_80 hl rfl ?_
      refine hb_get G hg4.1 rfl inX0 1 (by decide) kf_X0_15 rfl rfl dX0_put_81 ?_
      refine hb_aload_n G dX0_put_84 hl rfl ?_
      refine hb_get G hg4.1 rfl inX0 2 (by decide) kf_X0_18 rfl rfl dX0_put_85 ?_
      refine lv_iconst (v := 1) G.1 G.2.1 dX0_put_88 (by decide) ?_
      refine lv_isub G.1 G.2.1 dX0_put_89 ?_
      refine lv_topi (fun t_7 et_7 => ?_)
      refine hb_aload_n G dX0_put_90 hl rfl ?_
      refine hb_callV (As := []) (rest := [.int t_7, .ref (x + 2)]) G hml (c_openBytes g l x _ _ (by exact ⟨hv.1, h5⟩) hg4) (hg4.1) rfl km_X0_44 ki_X0_openBytes ks_X0_openBytes kn_X0 ko_X0_openBytes hd_X0_openBytes ⟨Nat.le_of_ble_eq_true rfl, Nat.le_of_ble_eq_true rfl⟩ hl.size rfl (Nat.le_of_ble_eq_true rfl) dX0_put_91 ⟨Nat.le_of_ble_eq_true rfl, Nat.le_of_ble_eq_true rfl⟩ hL (f0_in) (fun v1 H9 locs9 hp hL => ?_)
      obtain ⟨rfl, rfl⟩ := hp
      refine lv_topi (fun r_8 er_8 => ?_)
      have er_8 : r_8 = lgOB v := er_8
      refine hb_iload_n G dX0_put_94 hl rfl ?_
      refine lv_iadd G.1 G.2.1 dX0_put_95 ?_
      refine lv_topi (fun t_9 et_9 => ?_)
      refine lv_iconst (v := 4) G.1 G.2.1 dX0_put_96 (by decide) ?_
      refine lv_iadd G.1 G.2.1 dX0_put_97 ?_
      refine lv_topi (fun t_10 et_10 => ?_)
      rw [nI_m1 h0] at et_7
      refine hb_callSN (As := [.ref (x + 2), .int t_7, .int t_10]) (rest := []) G hml (c_set g l (x + 2) 60 (v.1 1) t_7 t_10 _ (by decide) (hg4.2 1 (by decide))) G.2.2.2.2.2.2.2.1 kt_X1_set kn_X1 ko_X1_set hd_X1_set ⟨Nat.le_of_ble_eq_true rfl, Nat.le_of_ble_eq_true rfl⟩ hl.size rfl (Nat.le_of_ble_eq_true rfl) dX0_put_98 ⟨Nat.le_of_ble_eq_true rfl, Nat.le_of_ble_eq_true rfl⟩ hL (f1_in (fB_mk (by omega) (by omega))) (fun v1 H5 locs5 hp hL => ?_)
      obtain ⟨rfl, ha, hz5, ho5⟩ := hp
      rw [et_7, setV_in (by omega) (by decide)] at ha
      have hg5 := hg4.up 1 ha ho5
      have hval : t_10 = lgOB v + b + 4 := by rw [et_10, et_9, er_8]
      rw [hval] at hg5
      exact hb_vret G hr hlocks ⟨rfl, by unfold lgPut; rw [if_pos ⟨h0, h5⟩]; exact hg5, ((Fr.one hz0 ho0 (by omega) (by omega)).tr ((Fr.one hz1 ho1 (by omega) (by omega)).tr ((Fr.one hz2 ho2 (by omega) (by omega)).tr ((Fr.one hz3 ho3 (by omega) (by omega)).tr ((Fr.one hz4 ho4 (by omega) (by omega)).tr (Fr.one hz5 ho5 (by omega) (by omega)))))))⟩ hL (Nat.le_refl _) (Nat.le_refl _) dX0_put_101
def lgBegin (u : LV) (v : LV) : LV := (v.1, 0, 0, u.2.2.2)
set_option maxHeartbeats 4000000 in
set_option maxRecDepth 100000 in
/-- beginAs -/
theorem c_beginAs (g : Gx) (l : Launch) (x : Nat) (v : LV) (H : Heap) (hg : lgAt g x v H) (y : Nat) (u : LV) (hu : lgAt g y u H) (hxy : y + 7 ≤ x ∨ x + 7 ≤ y) : HM g l yX0_beginAs cX0_beginAs 2 none 0 0 0 0 [.ref x, .ref y] H (fun r H1 => r = none ∧ lgAt g x (lgBegin u v) H1 ∧ Fr x 7 H H1) (fB x 7) := by
  refine HM.ofW (by decide) (Nat.le_of_ble_eq_true rfl) (by simp [Value.category]) ?_
  intro p e s m args below meth c ls G hr hml hlocks hnm hH hl
  have hl : lh ls 2 [some (.ref x), some (.ref y)] := hl
  have hL : ∀ q ∈ ([] : List Loc), fB x 7 q.base := fun q h => by cases h
  refine hb_aload_n G dX0_beginAs_0 hl rfl ?_
  refine lv_iconst (v := 0) G.1 G.2.1 dX0_beginAs_1 (by decide) ?_
  refine hb_put G hg.1 rfl inX0 tyX0 tyX0_ok nmX0 2 (by decide) kf_X0_18 rfl rfl rfl rfl (Nat.le_of_ble_eq_true rfl) hL (fB_mk (by omega) (by omega)) dX0_beginAs_2 (fun H1 locs1 hf hz1 ho1 hL => ?_)
  have hg1 := lgAt.fd (w := (v.1, 0, v.2.2)) hg rfl hf ho1
  have hu1 := hu.kept (fun q h1 h2 => ho1 q (by omega))
  refine hb_aload_n G dX0_beginAs_5 hl rfl ?_
  refine lv_iconst (v := 0) G.1 G.2.1 dX0_beginAs_6 (by decide) ?_
  refine hb_put G hg1.1 rfl inX0 tyX0 tyX0_ok nmX0 7 (by decide) kf_X0_34 rfl rfl rfl rfl (Nat.le_of_ble_eq_true rfl) hL (fB_mk (by omega) (by omega)) dX0_beginAs_7 (fun H2 locs2 hf hz2 ho2 hL => ?_)
  have hg2 := lgAt.fd (w := (v.1, 0, 0, v.2.2.2)) hg1 rfl hf ho2
  have hu2 := hu1.kept (fun q h1 h2 => ho2 q (by omega))
  refine hb_aload_n G dX0_beginAs_10 hl rfl ?_
  refine hb_aload_n G dX0_beginAs_11 hl rfl ?_
  refine hb_get G hu2.1 rfl inX0 8 (by decide) kf_X0_37 rfl rfl dX0_beginAs_12 ?_
  refine hb_put G hg2.1 rfl inX0 tyX0 tyX0_ok nmX0 8 (by decide) kf_X0_37 rfl rfl rfl rfl (Nat.le_of_ble_eq_true rfl) hL (fB_mk (by omega) (by omega)) dX0_beginAs_15 (fun H3 locs3 hf hz3 ho3 hL => ?_)
  exact hb_vret G hr hlocks ⟨rfl, lgAt.fd (w := (v.1, 0, 0, u.2.2.2)) hg2 rfl hf ho3, (Fr.one hz1 ho1 (by omega) (by omega)).tr ((Fr.one hz2 ho2 (by omega) (by omega)).tr (Fr.one hz3 ho3 (by omega) (by omega)))⟩ hL (Nat.le_refl _) (Nat.le_refl _) dX0_beginAs_18
end
section
def btV (a b : Int32) : Int32 := (a + b - 1) / 1024 - a / 1024 + 1
def lgCl (v : LV) : Nat → Nat
  | 0 => 0
  | j + 1 => lgCl v j + (if v.1 4 j < nI v.2.1 - 1 then 1 else 0)
def lgSm (f : Nat → Int32) (k : Nat) : Nat → Int32
  | 0 => 0
  | i + 1 => lgSm f k i + f (k + i)
def lgPast (v : LV) (b : Int32) : Nat → Nat → Nat
  | 0, k => k
  | d + 1, k => if b ≤ lgSm (v.1 1) (k + 1) (v.2.1 - (k + 1)) then lgPast v b d (k + 1) else k
def lgBF (f : Nat → Int32) : Nat → Int32
  | 0 => 0
  | j + 1 => lgBF f j + btV 0 (f j)
def tkStep (u : LV) (z : Int32) (j : Nat) (r : LV × Int32) : LV × Int32 := if z ≤ u.1 4 j then (lgPut (if u.1 4 j = r.2 then r.1 else lgOpen r.1 (atV (u.1 0) 60 (u.1 4 j))) (u.1 2 j) (u.1 3 j), u.1 4 j) else r
def lgTk (u : LV) (z : Int32) (r : LV × Int32) : Nat → LV × Int32
  | 0 => r
  | j + 1 => tkStep u z j (lgTk u z r j)
theorem tkStep_ok {u : LV} {z : Int32} {j : Nat} {r : LV × Int32} (h : lgOk r.1) : lgOk (tkStep u z j r).1 := by
  unfold tkStep
  split
  · refine lgPut_ok ?_ _ _
    split
    · exact h
    · exact lgOpen_ok h _
  · exact h
theorem lgTk_ok {u : LV} {z : Int32} {r : LV × Int32} (h : lgOk r.1) : ∀ j, lgOk (lgTk u z r j).1
  | 0 => h
  | j + 1 => tkStep_ok (lgTk_ok h j)
theorem lgCl_le (v : LV) : ∀ j, lgCl v j ≤ j
  | 0 => Nat.le_refl 0
  | j + 1 => by
    have := lgCl_le v j
    simp only [lgCl]
    split <;> omega
theorem lgPast_ge (v : LV) (b : Int32) : ∀ d k, k ≤ lgPast v b d k ∧ lgPast v b d k ≤ k + d
  | 0, k => ⟨Nat.le_refl k, Nat.le_refl k⟩
  | d + 1, k => by
    have := lgPast_ge v b d (k + 1)
    simp only [lgPast]
    split <;> omega
set_option maxHeartbeats 4000000 in
set_option maxRecDepth 100000 in
/-- blocksTouched -/
theorem c_blocksTouched (g : Gx) (l : Launch) (a b : Int32) (H : Heap) : HM g l yX1_blocksTouched cX1_blocksTouched 2 (some .int) 0 0 0 0 [.int a, .int b] H (fun r H1 => r = some (.int (btV a b)) ∧ H1 = H) (f0) := by
  refine HM.ofW (by decide) (Nat.le_of_ble_eq_true rfl) (by simp [Value.category]) ?_
  intro p e s m args below meth c ls G hr hml hlocks hnm hH hl
  have hl : lh ls 2 [some (.int a), some (.int b)] := hl
  have hL : ∀ q ∈ ([] : List Loc), (f0) q.base := fun q h => by cases h
  refine hb_iload_n G dX1_blocksTouched_0 hl rfl ?_
  refine hb_iload_n G dX1_blocksTouched_1 hl rfl ?_
  refine lv_iadd G.1 G.2.1 dX1_blocksTouched_2 ?_
  refine lv_topi (fun t_1 et_1 => ?_)
  refine lv_iconst (v := 1) G.1 G.2.1 dX1_blocksTouched_3 (by decide) ?_
  refine lv_isub G.1 G.2.1 dX1_blocksTouched_4 ?_
  refine lv_topi (fun t_2 et_2 => ?_)
  refine lv_sipush (v := 1024) G.1 G.2.1 dX1_blocksTouched_5 (by decide) ?_
  refine lv_idiv G.1 G.2.1 dX1_blocksTouched_8 (by decide) ?_
  refine lv_topi (fun t_3 et_3 => ?_)
  refine hb_iload_n G dX1_blocksTouched_9 hl rfl ?_
  refine lv_sipush (v := 1024) G.1 G.2.1 dX1_blocksTouched_10 (by decide) ?_
  refine lv_idiv G.1 G.2.1 dX1_blocksTouched_13 (by decide) ?_
  refine lv_topi (fun t_4 et_4 => ?_)
  refine lv_isub G.1 G.2.1 dX1_blocksTouched_14 ?_
  refine lv_topi (fun t_5 et_5 => ?_)
  refine lv_iconst (v := 1) G.1 G.2.1 dX1_blocksTouched_15 (by decide) ?_
  refine lv_iadd G.1 G.2.1 dX1_blocksTouched_16 ?_
  refine lv_topi (fun t_6 et_6 => ?_)
  exact hb_iret G hr hlocks ⟨by simp only [*]; rfl, rfl⟩ hL (Nat.le_refl _) (Nat.le_refl _) dX1_blocksTouched_17
set_option maxHeartbeats 4000000 in
set_option maxRecDepth 100000 in
/-- blockOf -/
theorem c_blockOf (g : Gx) (l : Launch) (x : Nat) (v : LV) (H : Heap) (hv : lgOk v) (hg : lgAt g x v H) (i : Int32) : HM g l yX0_blockOf cX0_blockOf 2 (some .int) 1 21 0 0 [.ref x, .int i] H (fun r H1 => r = some (.int (atV (v.1 0) 60 (atV (v.1 4) 512 i) + atV (v.1 5) 512 i / 1024)) ∧ H1 = H) (f0) := by
  refine HM.ofW (by decide) (Nat.le_of_ble_eq_true rfl) (by simp [Value.category]) ?_
  intro p e s m args below meth c ls G hr hml hlocks hnm hH hl
  have hl : lh ls 2 [some (.ref x), some (.int i)] := hl
  have hL : ∀ q ∈ ([] : List Loc), (f0) q.base := fun q h => by cases h
  refine hb_aload_n G dX0_blockOf_0 hl rfl ?_
  refine hb_get G hg.1 rfl inX0 0 (by decide) kf_X0_9 rfl rfl dX0_blockOf_1 ?_
  refine hb_aload_n G dX0_blockOf_4 hl rfl ?_
  refine hb_get G hg.1 rfl inX0 5 (by decide) kf_X0_28 rfl rfl dX0_blockOf_5 ?_
  refine hb_iload_n G dX0_blockOf_8 hl rfl ?_
  refine hb_callSN (As := [.ref (x + 5), .int i]) (rest := [.ref (x + 1)]) G hml (c_at g l (x + 5) 512 (v.1 4) i _ (by decide) (hg.2 4 (by decide))) G.2.2.2.2.2.2.1 kt_X1_at kn_X1 ko_X1_at hd_X1_at ⟨Nat.le_of_ble_eq_true rfl, Nat.le_of_ble_eq_true rfl⟩ hl.size rfl (Nat.le_of_ble_eq_true rfl) dX0_blockOf_9 ⟨Nat.le_of_ble_eq_true rfl, Nat.le_of_ble_eq_true rfl⟩ hL (f0_in) (fun v1 H1 locs1 hp hL => ?_)
  obtain ⟨rfl, rfl⟩ := hp
  refine lv_topi (fun r_1 er_1 => ?_)
  refine hb_callSN (As := [.ref (x + 1), .int r_1]) (rest := []) G hml (c_at g l (x + 1) 60 (v.1 0) r_1 _ (by decide) (hg.2 0 (by decide))) G.2.2.2.2.2.2.1 kt_X1_at kn_X1 ko_X1_at hd_X1_at ⟨Nat.le_of_ble_eq_true rfl, Nat.le_of_ble_eq_true rfl⟩ hl.size rfl (Nat.le_of_ble_eq_true rfl) dX0_blockOf_12 ⟨Nat.le_of_ble_eq_true rfl, Nat.le_of_ble_eq_true rfl⟩ hL (f0_in) (fun v1 H1 locs1 hp hL => ?_)
  obtain ⟨rfl, rfl⟩ := hp
  refine lv_topi (fun r_2 er_2 => ?_)
  refine hb_aload_n G dX0_blockOf_15 hl rfl ?_
  refine hb_get G hg.1 rfl inX0 6 (by decide) kf_X0_31 rfl rfl dX0_blockOf_16 ?_
  refine hb_iload_n G dX0_blockOf_19 hl rfl ?_
  refine hb_callSN (As := [.ref (x + 6), .int i]) (rest := [.int r_2]) G hml (c_at g l (x + 6) 512 (v.1 5) i _ (by decide) (hg.2 5 (by decide))) G.2.2.2.2.2.2.1 kt_X1_at kn_X1 ko_X1_at hd_X1_at ⟨Nat.le_of_ble_eq_true rfl, Nat.le_of_ble_eq_true rfl⟩ hl.size rfl (Nat.le_of_ble_eq_true rfl) dX0_blockOf_20 ⟨Nat.le_of_ble_eq_true rfl, Nat.le_of_ble_eq_true rfl⟩ hL (f0_in) (fun v1 H1 locs1 hp hL => ?_)
  obtain ⟨rfl, rfl⟩ := hp
  refine lv_topi (fun r_3 er_3 => ?_)
  refine lv_sipush (v := 1024) G.1 G.2.1 dX0_blockOf_23 (by decide) ?_
  refine lv_idiv G.1 G.2.1 dX0_blockOf_26 (by decide) ?_
  refine lv_topi (fun t_4 et_4 => ?_)
  refine lv_iadd G.1 G.2.1 dX0_blockOf_27 ?_
  refine lv_topi (fun t_5 et_5 => ?_)
  exact hb_iret G hr hlocks ⟨by simp only [*], rfl⟩ hL (Nat.le_refl _) (Nat.le_refl _) dX0_blockOf_28
set_option maxHeartbeats 4000000 in
set_option maxRecDepth 100000 in
/-- closedEntries -/
theorem c_closedEntries (g : Gx) (l : Launch) (x : Nat) (v : LV) (H : Heap) (hv : lgOk v) (hg : lgAt g x v H) : HM g l yX0_closedEntries cX0_closedEntries 3 (some .int) 1 21 0 0 [.ref x] H (fun r H1 => r = some (.int (nI (lgCl v v.2.2.1))) ∧ H1 = H) (f0) := by
  refine HM.ofW (by decide) (Nat.le_of_ble_eq_true rfl) (by simp [Value.category]) ?_
  intro p e s m args below meth c ls G hr hml hlocks hnm hH hl
  have hl : lh ls 3 [some (.ref x), none, none] := hl
  have hL : ∀ q ∈ ([] : List Loc), (f0) q.base := fun q h => by cases h
  obtain ⟨hv1, hv2⟩ := hv
  have lp : ∀ (d j : Nat) (a b : Int32)  (locs : List Loc) (ls : Array Slot), v.2.2.1 + 1 ≤ j + d → j ≤ v.2.2.1 → a = nI (lgCl v j) → b = nI j → (∀ q ∈ locs, (f0) q.base) → lh ls 3 [some (.ref x), some (.int a), some (.int b)] → W p l e ({ frames := 1, cells := 0, slots := 0, locals := 21 } : Room) s m args below meth c H locs 0 0 (hQ below args s (fun r H1 => r = some (.int (nI (lgCl v v.2.2.1))) ∧ H1 = H) 0 0 (f0)) (F0 m 4 ls []) := by
    intro d
    induction d with
    | zero =>
      intro j a b  locs ls hd hj ea eb hL hl
      exfalso; omega
    | succ d ih =>
      intro j a b  locs ls hd hj ea eb hL hl
      refine hb_iload_n G dX0_closedEntries_4 hl rfl ?_
      refine hb_aload_n G dX0_closedEntries_5 hl rfl ?_
      refine hb_get G hg.1 rfl inX0 7 (by decide) kf_X0_34 rfl rfl dX0_closedEntries_6 ?_
      refine lv_icmp_ge (tgt := 38) G.1 G.2.1 dX0_closedEntries_9 (by decide) (fun c_1 => ?_) (fun c_1 => ?_)
      · have hj2 : j = v.2.2.1 := by have := (ic_le rfl eb (by omega) (by omega)).mp c_1; omega
        subst hj2
        refine hb_iload_n G dX0_closedEntries_38 hl rfl ?_
        exact hb_iret G hr hlocks ⟨by rw [ea], rfl⟩ hL (Nat.le_refl _) (Nat.le_refl _) dX0_closedEntries_39
      · have hj2 : j < v.2.2.1 := by have := mt (ic_le rfl eb (by omega) (by omega)).mpr c_1; omega
        refine hb_aload_n G dX0_closedEntries_12 hl rfl ?_
        refine hb_get G hg.1 rfl inX0 5 (by decide) kf_X0_28 rfl rfl dX0_closedEntries_13 ?_
        refine hb_iload_n G dX0_closedEntries_16 hl rfl ?_
        refine hb_callSN (As := [.ref (x + 5), .int b]) (rest := []) G hml (c_at g l (x + 5) 512 (v.1 4) b _ (by decide) (hg.2 4 (by decide))) G.2.2.2.2.2.2.1 kt_X1_at kn_X1 ko_X1_at hd_X1_at ⟨Nat.le_of_ble_eq_true rfl, Nat.le_of_ble_eq_true rfl⟩ hl.size rfl (Nat.le_of_ble_eq_true rfl) dX0_closedEntries_17 ⟨Nat.le_of_ble_eq_true rfl, Nat.le_of_ble_eq_true rfl⟩ hL (f0_in) (fun v1 H1 locs1 hp hL => ?_)
        obtain ⟨rfl, rfl⟩ := hp
        refine lv_topi (fun r_2 er_2 => ?_)
        have er : r_2 = v.1 4 j := by rw [er_2, eb, atV_in (by omega) (by decide)]
        refine hb_aload_n G dX0_closedEntries_20 hl rfl ?_
        refine hb_get G hg.1 rfl inX0 2 (by decide) kf_X0_18 rfl rfl dX0_closedEntries_21 ?_
        refine lv_iconst (v := 1) G.1 G.2.1 dX0_closedEntries_24 (by decide) ?_
        refine lv_isub G.1 G.2.1 dX0_closedEntries_25 ?_
        refine lv_topi (fun t_3 et_3 => ?_)
        refine lv_icmp_ge (tgt := 32) G.1 G.2.1 dX0_closedEntries_26 (by decide) (fun c_4 => ?_) (fun c_4 => ?_)
        · obtain ⟨t_5, et_5⟩ : ∃ z : Int32, z = b + 1 := ⟨_, rfl⟩
          refine hb_iinc (v := t_5) G dX0_closedEntries_32 hl rfl (by rw [et_5]; rfl) (by decide) (fun ls hl => ?_)
          have hl : lh ls 3 [some (.ref x), some (.int a), some (.int t_5)] := hl
          refine lv_goto (tgt := 4) G.1 G.2.1 dX0_closedEntries_35 (by decide) ?_
          exact ih (j + 1) a t_5 locs1 ls (by omega) (by omega) (by simp only [lgCl]; rw [if_neg (by rw [← er, ← et_3]; exact i32_nlt.mpr c_4)]; exact ea) (by rw [et_5, eb]; exact nI_1 j) hL hl
        · obtain ⟨t_6, et_6⟩ : ∃ z : Int32, z = a + 1 := ⟨_, rfl⟩
          refine hb_iinc (v := t_6) G dX0_closedEntries_29 hl rfl (by rw [et_6]; rfl) (by decide) (fun ls hl => ?_)
          have hl : lh ls 3 [some (.ref x), some (.int t_6), some (.int b)] := hl
          obtain ⟨t_7, et_7⟩ : ∃ z : Int32, z = b + 1 := ⟨_, rfl⟩
          refine hb_iinc (v := t_7) G dX0_closedEntries_32 hl rfl (by rw [et_7]; rfl) (by decide) (fun ls hl => ?_)
          have hl : lh ls 3 [some (.ref x), some (.int t_6), some (.int t_7)] := hl
          refine lv_goto (tgt := 4) G.1 G.2.1 dX0_closedEntries_35 (by decide) ?_
          exact ih (j + 1) t_6 t_7 locs1 ls (by omega) (by omega) (by simp only [lgCl]; rw [if_pos (by rw [← er, ← et_3]; exact i32_nle.mp c_4), et_6, ea]; exact nI_1 _) (by rw [et_7, eb]; exact nI_1 j) hL hl
  refine lv_iconst (v := 0) G.1 G.2.1 dX0_closedEntries_0 (by decide) ?_
  refine hb_istore_n G dX0_closedEntries_1 hl (by decide) (fun ls hl => ?_)
  have hl : lh ls 3 [some (.ref x), some (.int 0), none] := hl
  refine lv_iconst (v := 0) G.1 G.2.1 dX0_closedEntries_2 (by decide) ?_
  refine hb_istore_n G dX0_closedEntries_3 hl (by decide) (fun ls hl => ?_)
  have hl : lh ls 3 [some (.ref x), some (.int 0), some (.int 0)] := hl
  exact lp (v.2.2.1 + 1) 0 0 0 [] ls (by omega) (by omega) rfl rfl hL hl
set_option maxHeartbeats 4000000 in
set_option maxRecDepth 100000 in
/-- bytesFrom -/
theorem c_bytesFrom (g : Gx) (l : Launch) (x : Nat) (v : LV) (H : Heap) (hv : lgOk v) (hg : lgAt g x v H) (k : Nat) (hk : k ≤ 61) : HM g l yX0_bytesFrom cX0_bytesFrom 4 (some .int) 1 21 0 0 [.ref x, .int (nI k)] H (fun r H1 => r = some (.int (lgSm (v.1 1) k (v.2.1 - k))) ∧ H1 = H) (f0) := by
  refine HM.ofW (by decide) (Nat.le_of_ble_eq_true rfl) (by simp [Value.category]) ?_
  intro p e s m args below meth c ls G hr hml hlocks hnm hH hl
  have hl : lh ls 4 [some (.ref x), some (.int (nI k)), none, none] := hl
  have hL : ∀ q ∈ ([] : List Loc), (f0) q.base := fun q h => by cases h
  obtain ⟨hv1, hv2⟩ := hv
  have lp : ∀ (d j : Nat) (a b : Int32)  (locs : List Loc) (ls : Array Slot), v.2.1 - k + 1 ≤ j + d → j ≤ v.2.1 - k → a = lgSm (v.1 1) k j → b = nI (k + j) → (∀ q ∈ locs, (f0) q.base) → lh ls 4 [some (.ref x), some (.int (nI k)), some (.int a), some (.int b)] → W p l e ({ frames := 1, cells := 0, slots := 0, locals := 21 } : Room) s m args below meth c H locs 0 0 (hQ below args s (fun r H1 => r = some (.int (lgSm (v.1 1) k (v.2.1 - k))) ∧ H1 = H) 0 0 (f0)) (F0 m 4 ls []) := by
    intro d
    induction d with
    | zero =>
      intro j a b  locs ls hd hj ea eb hL hl
      exfalso; omega
    | succ d ih =>
      intro j a b  locs ls hd hj ea eb hL hl
      refine hb_iload_n G dX0_bytesFrom_4 hl rfl ?_
      refine hb_aload_n G dX0_bytesFrom_5 hl rfl ?_
      refine hb_get G hg.1 rfl inX0 2 (by decide) kf_X0_18 rfl rfl dX0_bytesFrom_6 ?_
      refine lv_icmp_ge (tgt := 29) G.1 G.2.1 dX0_bytesFrom_9 (by decide) (fun c_1 => ?_) (fun c_1 => ?_)
      · have hj2 : j = v.2.1 - k := by have := (ic_le rfl eb (by omega) (by omega)).mp c_1; omega
        subst hj2
        refine hb_iload_n G dX0_bytesFrom_29 hl rfl ?_
        exact hb_iret G hr hlocks ⟨by rw [ea], rfl⟩ hL (Nat.le_refl _) (Nat.le_refl _) dX0_bytesFrom_30
      · have hj2 : k + j < v.2.1 := by have := mt (ic_le rfl eb (by omega) (by omega)).mpr c_1; omega
        refine hb_iload_n G dX0_bytesFrom_12 hl rfl ?_
        refine hb_aload_n G dX0_bytesFrom_13 hl rfl ?_
        refine hb_get G hg.1 rfl inX0 1 (by decide) kf_X0_15 rfl rfl dX0_bytesFrom_14 ?_
        refine hb_iload_n G dX0_bytesFrom_17 hl rfl ?_
        refine hb_callSN (As := [.ref (x + 2), .int b]) (rest := [.int a]) G hml (c_at g l (x + 2) 60 (v.1 1) b _ (by decide) (hg.2 1 (by decide))) G.2.2.2.2.2.2.1 kt_X1_at kn_X1 ko_X1_at hd_X1_at ⟨Nat.le_of_ble_eq_true rfl, Nat.le_of_ble_eq_true rfl⟩ hl.size rfl (Nat.le_of_ble_eq_true rfl) dX0_bytesFrom_18 ⟨Nat.le_of_ble_eq_true rfl, Nat.le_of_ble_eq_true rfl⟩ hL (f0_in) (fun v1 H1 locs1 hp hL => ?_)
        obtain ⟨rfl, rfl⟩ := hp
        refine lv_topi (fun r_2 er_2 => ?_)
        have er : r_2 = v.1 1 (k + j) := by rw [er_2, eb, atV_in (by omega) (by decide)]
        refine lv_iadd G.1 G.2.1 dX0_bytesFrom_21 ?_
        refine lv_topi (fun t_3 et_3 => ?_)
        refine hb_istore_n G dX0_bytesFrom_22 hl (by decide) (fun ls hl => ?_)
        have hl : lh ls 4 [some (.ref x), some (.int (nI k)), some (.int t_3), some (.int b)] := hl
        obtain ⟨t_4, et_4⟩ : ∃ z : Int32, z = b + 1 := ⟨_, rfl⟩
        refine hb_iinc (v := t_4) G dX0_bytesFrom_23 hl rfl (by rw [et_4]; rfl) (by decide) (fun ls hl => ?_)
        have hl : lh ls 4 [some (.ref x), some (.int (nI k)), some (.int t_3), some (.int t_4)] := hl
        refine lv_goto (tgt := 4) G.1 G.2.1 dX0_bytesFrom_26 (by decide) ?_
        exact ih (j + 1) t_3 t_4 locs1 ls (by omega) (by omega) (by rw [et_3, ea, er]; rfl) (by rw [et_4, eb]; exact nI_1 (k + j)) hL hl
  refine lv_iconst (v := 0) G.1 G.2.1 dX0_bytesFrom_0 (by decide) ?_
  refine hb_istore_n G dX0_bytesFrom_1 hl (by decide) (fun ls hl => ?_)
  have hl : lh ls 4 [some (.ref x), some (.int (nI k)), some (.int 0), none] := hl
  refine hb_iload_n G dX0_bytesFrom_2 hl rfl ?_
  refine hb_istore_n G dX0_bytesFrom_3 hl (by decide) (fun ls hl => ?_)
  have hl : lh ls 4 [some (.ref x), some (.int (nI k)), some (.int 0), some (.int (nI k))] := hl
  exact lp (v.2.1 - k + 1) 0 0 (nI k) [] ls (by omega) (by omega) rfl rfl hL hl
set_option maxHeartbeats 4000000 in
set_option maxRecDepth 100000 in
/-- segmentsPast -/
theorem c_segmentsPast (g : Gx) (l : Launch) (x : Nat) (v : LV) (H : Heap) (hv : lgOk v) (hg : lgAt g x v H) (z : Int32) : HM g l yX0_segmentsPast cX0_segmentsPast 3 (some .int) 2 44 0 0 [.ref x, .int z] H (fun r H1 => r = some (.int (nI (lgPast v z (v.2.1 - 1) 0))) ∧ H1 = H) (f0) := by
  refine HM.ofW (by decide) (Nat.le_of_ble_eq_true rfl) (by simp [Value.category]) ?_
  intro p e s m args below meth c ls G hr hml hlocks hnm hH hl
  have hl : lh ls 3 [some (.ref x), some (.int z), none] := hl
  have hL : ∀ q ∈ ([] : List Loc), (f0) q.base := fun q h => by cases h
  have hv1 := hv.1
  have lp : ∀ (d j : Nat) (b : Int32)  (locs : List Loc) (ls : Array Slot), v.2.1 - 1 + 1 ≤ j + d → j ≤ v.2.1 - 1 → b = nI j → lgPast v z (v.2.1 - 1) 0 = lgPast v z (v.2.1 - 1 - j) j → (∀ q ∈ locs, (f0) q.base) → lh ls 3 [some (.ref x), some (.int z), some (.int b)] → W p l e ({ frames := 2, cells := 0, slots := 0, locals := 44 } : Room) s m args below meth c H locs 0 0 (hQ below args s (fun r H1 => r = some (.int (nI (lgPast v z (v.2.1 - 1) 0))) ∧ H1 = H) 0 0 (f0)) (F0 m 2 ls []) := by
    intro d
    induction d with
    | zero =>
      intro j b  locs ls hd hj eb hi hL hl
      exfalso; omega
    | succ d ih =>
      intro j b  locs ls hd hj eb hi hL hl
      by_cases h0 : v.2.1 = 0
      · have hj0 : j = 0 := by omega
        subst hj0
        refine hb_iload_n G dX0_segmentsPast_2 hl rfl ?_
        refine hb_aload_n G dX0_segmentsPast_3 hl rfl ?_
        refine hb_get G hg.1 rfl inX0 2 (by decide) kf_X0_18 rfl rfl dX0_segmentsPast_4 ?_
        refine lv_iconst (v := 1) G.1 G.2.1 dX0_segmentsPast_7 (by decide) ?_
        refine lv_isub G.1 G.2.1 dX0_segmentsPast_8 ?_
        refine lv_topi (fun t_1 et_1 => ?_)
        refine lv_icmp_ge (tgt := 29) G.1 G.2.1 dX0_segmentsPast_9 (by decide) (fun c_2 => ?_) (fun c_2 => ?_)
        · refine hb_iload_n G dX0_segmentsPast_29 hl rfl ?_
          exact hb_iret G hr hlocks ⟨by rw [eb, h0]; rfl, rfl⟩ hL (Nat.le_refl _) (Nat.le_refl _) dX0_segmentsPast_30
        · exact absurd (by rw [et_1, eb, h0]; decide) c_2
      · refine hb_iload_n G dX0_segmentsPast_2 hl rfl ?_
        refine hb_aload_n G dX0_segmentsPast_3 hl rfl ?_
        refine hb_get G hg.1 rfl inX0 2 (by decide) kf_X0_18 rfl rfl dX0_segmentsPast_4 ?_
        refine lv_iconst (v := 1) G.1 G.2.1 dX0_segmentsPast_7 (by decide) ?_
        refine lv_isub G.1 G.2.1 dX0_segmentsPast_8 ?_
        refine lv_topi (fun t_3 et_3 => ?_)
        have e9 : t_3 = nI (v.2.1 - 1) := by rw [et_3]; exact nI_m1 (by omega)
        refine lv_icmp_ge (tgt := 29) G.1 G.2.1 dX0_segmentsPast_9 (by decide) (fun c_4 => ?_) (fun c_4 => ?_)
        · have hj2 : j = v.2.1 - 1 := by have := (ic_le e9 eb (by omega) (by omega)).mp c_4; omega
          refine hb_iload_n G dX0_segmentsPast_29 hl rfl ?_
          exact hb_iret G hr hlocks ⟨by rw [eb, hi, show v.2.1 - 1 - j = 0 by omega]; rfl, rfl⟩ hL (Nat.le_refl _) (Nat.le_refl _) dX0_segmentsPast_30
        · have hj2 : j < v.2.1 - 1 := by have := mt (ic_le e9 eb (by omega) (by omega)).mpr c_4; omega
          refine hb_aload_n G dX0_segmentsPast_12 hl rfl ?_
          refine hb_iload_n G dX0_segmentsPast_13 hl rfl ?_
          refine lv_iconst (v := 1) G.1 G.2.1 dX0_segmentsPast_14 (by decide) ?_
          refine lv_iadd G.1 G.2.1 dX0_segmentsPast_15 ?_
          refine lv_topi (fun t_5 et_5 => ?_)
          obtain rfl : t_5 = nI (j + 1) := by rw [et_5, eb]; exact nI_1 j
          have hs9 : lgPast v z (v.2.1 - 1 - j) j = if z ≤ lgSm (v.1 1) (j + 1) (v.2.1 - (j + 1)) then lgPast v z (v.2.1 - 1 - (j + 1)) (j + 1) else j := by rw [show v.2.1 - 1 - j = (v.2.1 - 1 - (j + 1)) + 1 by omega]; rfl
          refine hb_callV (As := [.int (nI (j + 1))]) (rest := []) G hml (c_bytesFrom g l x v _ hv hg (j + 1) (by omega)) (hg.1) rfl km_X0_67 ki_X0_bytesFrom ks_X0_bytesFrom kn_X0 ko_X0_bytesFrom hd_X0_bytesFrom ⟨Nat.le_of_ble_eq_true rfl, Nat.le_of_ble_eq_true rfl⟩ hl.size rfl (Nat.le_of_ble_eq_true rfl) dX0_segmentsPast_16 ⟨Nat.le_of_ble_eq_true rfl, Nat.le_of_ble_eq_true rfl⟩ hL (f0_in) (fun v1 H1 locs1 hp hL => ?_)
          obtain ⟨rfl, rfl⟩ := hp
          refine lv_topi (fun r_6 er_6 => ?_)
          refine hb_iload_n G dX0_segmentsPast_19 hl rfl ?_
          refine lv_icmp_lt (tgt := 29) G.1 G.2.1 dX0_segmentsPast_20 (by decide) (fun c_7 => ?_) (fun c_7 => ?_)
          · refine hb_iload_n G dX0_segmentsPast_29 hl rfl ?_
            exact hb_iret G hr hlocks ⟨by rw [eb, hi, hs9, if_neg (by rw [← er_6]; exact i32_nle.mpr c_7)], rfl⟩ hL (Nat.le_refl _) (Nat.le_refl _) dX0_segmentsPast_30
          · obtain ⟨t_8, et_8⟩ : ∃ z : Int32, z = b + 1 := ⟨_, rfl⟩
            refine hb_iinc (v := t_8) G dX0_segmentsPast_23 hl rfl (by rw [et_8]; rfl) (by decide) (fun ls hl => ?_)
            have hl : lh ls 3 [some (.ref x), some (.int z), some (.int t_8)] := hl
            refine lv_goto (tgt := 2) G.1 G.2.1 dX0_segmentsPast_26 (by decide) ?_
            exact ih (j + 1) t_8 locs1 ls (by omega) (by omega) (by rw [et_8, eb]; exact nI_1 j) (by rw [hi, hs9, if_pos (by rw [← er_6]; exact i32_nlt.mp c_7)]) hL hl
  refine lv_iconst (v := 0) G.1 G.2.1 dX0_segmentsPast_0 (by decide) ?_
  refine hb_istore_n G dX0_segmentsPast_1 hl (by decide) (fun ls hl => ?_)
  have hl : lh ls 3 [some (.ref x), some (.int z), some (.int 0)] := hl
  exact lp (v.2.1 - 1 + 1) 0 0 [] ls (by omega) (by omega) rfl rfl hL hl
set_option maxHeartbeats 4000000 in
set_option maxRecDepth 100000 in
/-- blocksFilled -/
theorem c_blocksFilled (g : Gx) (l : Launch) (x : Nat) (v : LV) (H : Heap) (hv : lgOk v) (hg : lgAt g x v H) : HM g l yX0_blocksFilled cX0_blocksFilled 3 (some .int) 1 21 0 0 [.ref x] H (fun r H1 => r = some (.int (lgBF (v.1 1) v.2.1)) ∧ H1 = H) (f0) := by
  refine HM.ofW (by decide) (Nat.le_of_ble_eq_true rfl) (by simp [Value.category]) ?_
  intro p e s m args below meth c ls G hr hml hlocks hnm hH hl
  have hl : lh ls 3 [some (.ref x), none, none] := hl
  have hL : ∀ q ∈ ([] : List Loc), (f0) q.base := fun q h => by cases h
  obtain ⟨hv1, hv2⟩ := hv
  have lp : ∀ (d j : Nat) (a b : Int32)  (locs : List Loc) (ls : Array Slot), v.2.1 + 1 ≤ j + d → j ≤ v.2.1 → a = lgBF (v.1 1) j → b = nI j → (∀ q ∈ locs, (f0) q.base) → lh ls 3 [some (.ref x), some (.int a), some (.int b)] → W p l e ({ frames := 1, cells := 0, slots := 0, locals := 21 } : Room) s m args below meth c H locs 0 0 (hQ below args s (fun r H1 => r = some (.int (lgBF (v.1 1) v.2.1)) ∧ H1 = H) 0 0 (f0)) (F0 m 4 ls []) := by
    intro d
    induction d with
    | zero =>
      intro j a b  locs ls hd hj ea eb hL hl
      exfalso; omega
    | succ d ih =>
      intro j a b  locs ls hd hj ea eb hL hl
      refine hb_iload_n G dX0_blocksFilled_4 hl rfl ?_
      refine hb_aload_n G dX0_blocksFilled_5 hl rfl ?_
      refine hb_get G hg.1 rfl inX0 2 (by decide) kf_X0_18 rfl rfl dX0_blocksFilled_6 ?_
      refine lv_icmp_ge (tgt := 33) G.1 G.2.1 dX0_blocksFilled_9 (by decide) (fun c_1 => ?_) (fun c_1 => ?_)
      · have hj2 : j = v.2.1 := by have := (ic_le rfl eb (by omega) (by omega)).mp c_1; omega
        subst hj2
        refine hb_iload_n G dX0_blocksFilled_33 hl rfl ?_
        exact hb_iret G hr hlocks ⟨by rw [ea], rfl⟩ hL (Nat.le_refl _) (Nat.le_refl _) dX0_blocksFilled_34
      · have hj2 : j < v.2.1 := by have := mt (ic_le rfl eb (by omega) (by omega)).mpr c_1; omega
        refine hb_iload_n G dX0_blocksFilled_12 hl rfl ?_
        refine lv_iconst (v := 0) G.1 G.2.1 dX0_blocksFilled_13 (by decide) ?_
        refine hb_aload_n G dX0_blocksFilled_14 hl rfl ?_
        refine hb_get G hg.1 rfl inX0 1 (by decide) kf_X0_15 rfl rfl dX0_blocksFilled_15 ?_
        refine hb_iload_n G dX0_blocksFilled_18 hl rfl ?_
        refine hb_callSN (As := [.ref (x + 2), .int b]) (rest := [.int 0, .int a]) G hml (c_at g l (x + 2) 60 (v.1 1) b _ (by decide) (hg.2 1 (by decide))) G.2.2.2.2.2.2.1 kt_X1_at kn_X1 ko_X1_at hd_X1_at ⟨Nat.le_of_ble_eq_true rfl, Nat.le_of_ble_eq_true rfl⟩ hl.size rfl (Nat.le_of_ble_eq_true rfl) dX0_blocksFilled_19 ⟨Nat.le_of_ble_eq_true rfl, Nat.le_of_ble_eq_true rfl⟩ hL (f0_in) (fun v1 H1 locs1 hp hL => ?_)
        obtain ⟨rfl, rfl⟩ := hp
        refine lv_topi (fun r_2 er_2 => ?_)
        have er : r_2 = v.1 1 j := by rw [er_2, eb, atV_in (by omega) (by decide)]
        refine hb_callSN (As := [.int 0, .int r_2]) (rest := [.int a]) G hml (c_blocksTouched g l 0 r_2 _) G.2.2.2.2.2.2.2.2.1 kt_X1_blocksTouched kn_X1 ko_X1_blocksTouched hd_X1_blocksTouched ⟨Nat.le_of_ble_eq_true rfl, Nat.le_of_ble_eq_true rfl⟩ hl.size rfl (Nat.le_of_ble_eq_true rfl) dX0_blocksFilled_22 ⟨Nat.le_of_ble_eq_true rfl, Nat.le_of_ble_eq_true rfl⟩ hL (f0_in) (fun v1 H1 locs1 hp hL => ?_)
        obtain ⟨rfl, rfl⟩ := hp
        refine lv_topi (fun r_3 er_3 => ?_)
        refine lv_iadd G.1 G.2.1 dX0_blocksFilled_25 ?_
        refine lv_topi (fun t_4 et_4 => ?_)
        refine hb_istore_n G dX0_blocksFilled_26 hl (by decide) (fun ls hl => ?_)
        have hl : lh ls 3 [some (.ref x), some (.int t_4), some (.int b)] := hl
        obtain ⟨t_5, et_5⟩ : ∃ z : Int32, z = b + 1 := ⟨_, rfl⟩
        refine hb_iinc (v := t_5) G dX0_blocksFilled_27 hl rfl (by rw [et_5]; rfl) (by decide) (fun ls hl => ?_)
        have hl : lh ls 3 [some (.ref x), some (.int t_4), some (.int t_5)] := hl
        refine lv_goto (tgt := 4) G.1 G.2.1 dX0_blocksFilled_30 (by decide) ?_
        exact ih (j + 1) t_4 t_5 locs1 ls (by omega) (by omega) (by rw [et_4, ea, er_3, er]; rfl) (by rw [et_5, eb]; exact nI_1 j) hL hl
  refine lv_iconst (v := 0) G.1 G.2.1 dX0_blocksFilled_0 (by decide) ?_
  refine hb_istore_n G dX0_blocksFilled_1 hl (by decide) (fun ls hl => ?_)
  have hl : lh ls 3 [some (.ref x), some (.int 0), none] := hl
  refine lv_iconst (v := 0) G.1 G.2.1 dX0_blocksFilled_2 (by decide) ?_
  refine hb_istore_n G dX0_blocksFilled_3 hl (by decide) (fun ls hl => ?_)
  have hl : lh ls 3 [some (.ref x), some (.int 0), some (.int 0)] := hl
  exact lp (v.2.1 + 1) 0 0 0 [] ls (by omega) (by omega) rfl rfl hL hl
end
section
theorem lh.drop {ls : Array Slot} {n : Nat} {vs : List (Option Value)} (h : lh ls n vs) (k : Nat) : lh ls n (vs.set k none) := by
  have key : ∀ (i : Nat) (v : Value), (vs.set k none)[i]? = some (some v) → vs[i]? = some (some v) := by
    intro i v hv
    rw [List.getElem?_set] at hv
    by_cases hk : k = i
    · rw [if_pos hk] at hv
      split at hv <;> simp at hv
    · rw [if_neg hk] at hv; exact hv
  refine ⟨⟨h.1.1, h.1.2.1, fun q hq => ?_⟩, fun v hv => ?_⟩
  · obtain ⟨j, h1, h2⟩ := (lpr_mem _ 0).mp hq
    exact h.1.2.2 q ((lpr_mem _ 0).mpr ⟨j, key _ _ h1, h2⟩)
  · obtain ⟨j, hj⟩ := List.mem_iff_getElem?.mp hv
    exact h.2 v (List.mem_of_getElem? (key _ _ hj))
set_option maxHeartbeats 4000000 in
set_option maxRecDepth 100000 in
/-- takeSegments -/
theorem c_takeSegments (g : Gx) (l : Launch) (x : Nat) (v : LV) (H : Heap) (hv : lgOk v) (hg : lgAt g x v H) (y : Nat) (u : LV) (hu : lgOk u) (hgu : lgAt g y u H) (hxy : y + 7 ≤ x ∨ x + 7 ≤ y) (z : Int32) : HM g l yX0_takeSegments cX0_takeSegments 6 none 3 63 0 0 [.ref x, .ref y, .int z] H (fun r H1 => r = none ∧ lgAt g x (lgTk u z (v, -1) u.2.2.1).1 H1 ∧ Fr x 7 H H1) (fB x 7) := by
  refine HM.ofW (by decide) (Nat.le_of_ble_eq_true rfl) (by simp [Value.category]) ?_
  intro p e s m args below meth c ls G hr hml hlocks hnm hH hl
  have hl : lh ls 6 [some (.ref x), some (.ref y), some (.int z), none, none, none] := hl
  have hL : ∀ q ∈ ([] : List Loc), (fB x 7) q.base := fun q h => by cases h
  have hu2 := hu.2
  have lp : ∀ (d j : Nat) (a b : Int32) (K : Heap) (locs : List Loc) (ls : Array Slot), u.2.2.1 + 1 ≤ j + d → j ≤ u.2.2.1 → a = (lgTk u z (v, -1) j).2 → b = nI j → lgAt g x (lgTk u z (v, -1) j).1 K → Fr x 7 H K → (∀ q ∈ locs, (fB x 7) q.base) → lh ls 6 [some (.ref x), some (.ref y), some (.int z), some (.int a), some (.int b), none] → W p l e ({ frames := 3, cells := 0, slots := 0, locals := 63 } : Room) s m args below meth c K locs 0 0 (hQ below args s (fun r H1 => r = none ∧ lgAt g x (lgTk u z (v, -1) u.2.2.1).1 H1 ∧ Fr x 7 H H1) 0 0 (fB x 7)) (F0 m 5 ls []) := by
    intro d
    induction d with
    | zero =>
      intro j a b K locs ls hd hj ea eb hgK hF hL hl
      exfalso; omega
    | succ d ih =>
      intro j a b K locs ls hd hj ea eb hgK hF hL hl
      have huK : lgAt g y u K := hgu.kept (fun q h1 h2 => hF.2 q (by omega))
      refine hb_iload G dX0_takeSegments_5 hl rfl ?_
      refine hb_aload_n G dX0_takeSegments_7 hl rfl ?_
      refine hb_get G huK.1 rfl inX0 7 (by decide) kf_X0_34 rfl rfl dX0_takeSegments_8 ?_
      refine lv_icmp_ge (tgt := 81) G.1 G.2.1 dX0_takeSegments_11 (by decide) (fun c_1 => ?_) (fun c_1 => ?_)
      · have hj2 : j = u.2.2.1 := by have := (ic_le rfl eb (by omega) (by omega)).mp c_1; omega
        subst hj2
        exact hb_vret G hr hlocks ⟨rfl, hgK, hF⟩ hL (Nat.le_refl _) (Nat.le_refl _) dX0_takeSegments_81
      · have hj2 : j < u.2.2.1 := by have := mt (ic_le rfl eb (by omega) (by omega)).mpr c_1; omega
        refine hb_aload_n G dX0_takeSegments_14 hl rfl ?_
        refine hb_get G huK.1 rfl inX0 5 (by decide) kf_X0_28 rfl rfl dX0_takeSegments_15 ?_
        refine hb_iload G dX0_takeSegments_18 hl rfl ?_
        refine hb_callSN (As := [.ref (y + 5), .int b]) (rest := []) G hml (c_at g l (y + 5) 512 (u.1 4) b _ (by decide) (huK.2 4 (by decide))) G.2.2.2.2.2.2.1 kt_X1_at kn_X1 ko_X1_at hd_X1_at ⟨Nat.le_of_ble_eq_true rfl, Nat.le_of_ble_eq_true rfl⟩ hl.size rfl (Nat.le_of_ble_eq_true rfl) dX0_takeSegments_20 ⟨Nat.le_of_ble_eq_true rfl, Nat.le_of_ble_eq_true rfl⟩ hL (f0_in) (fun v1 K locs hp hL => ?_)
        obtain ⟨rfl, rfl⟩ := hp
        refine lv_topi (fun r_2 er_2 => ?_)
        have er_2 : r_2 = u.1 4 j := by rw [er_2, eb, atV_in (by omega) (by decide)]
        have hok := lgTk_ok (u := u) (z := z) (r := (v, -1)) hv j
        refine hb_istore G dX0_takeSegments_23 hl (by decide) (fun ls hl => ?_)
        have hl : lh ls 6 [some (.ref x), some (.ref y), some (.int z), some (.int a), some (.int b), some (.int r_2)] := hl
        refine hb_iload G dX0_takeSegments_25 hl rfl ?_
        refine hb_iload_n G dX0_takeSegments_27 hl rfl ?_
        refine lv_icmp_lt (tgt := 75) G.1 G.2.1 dX0_takeSegments_28 (by decide) (fun c_3 => ?_) (fun c_3 => ?_)
        · obtain ⟨t_4, et_4⟩ : ∃ z : Int32, z = b + 1 := ⟨_, rfl⟩
          refine hb_iinc (v := t_4) G dX0_takeSegments_75 hl rfl (by rw [et_4]; rfl) (by decide) (fun ls hl => ?_)
          have hl : lh ls 6 [some (.ref x), some (.ref y), some (.int z), some (.int a), some (.int t_4), some (.int r_2)] := hl
          refine lv_goto (tgt := 5) G.1 G.2.1 dX0_takeSegments_78 (by decide) ?_
          exact ih (j + 1) a t_4 K locs ls (by omega) (by omega) (by rw [ea]; simp only [lgTk, tkStep]; rw [if_neg (by rw [← er_2]; exact i32_nle.mpr c_3)]) (by rw [et_4, eb]; exact nI_1 j) (by simp only [lgTk, tkStep]; rw [if_neg (by rw [← er_2]; exact i32_nle.mpr c_3)]; exact hgK) hF hL (hl.drop 5)
        · have hz9 : z ≤ u.1 4 j := by rw [← er_2]; exact i32_nlt.mp c_3
          refine hb_iload G dX0_takeSegments_31 hl rfl ?_
          refine hb_iload_n G dX0_takeSegments_33 hl rfl ?_
          refine lv_icmp_eq (tgt := 53) G.1 G.2.1 dX0_takeSegments_34 (by decide) (fun c_5 => ?_) (fun c_5 => ?_)
          · refine hb_aload_n G dX0_takeSegments_53 hl rfl ?_
            refine hb_aload_n G dX0_takeSegments_54 hl rfl ?_
            refine hb_get G huK.1 rfl inX0 3 (by decide) kf_X0_22 rfl rfl dX0_takeSegments_55 ?_
            refine hb_iload G dX0_takeSegments_58 hl rfl ?_
            refine hb_callSN (As := [.ref (y + 3), .int b]) (rest := [.ref x]) G hml (c_at g l (y + 3) 512 (u.1 2) b _ (by decide) (huK.2 2 (by decide))) G.2.2.2.2.2.2.1 kt_X1_at kn_X1 ko_X1_at hd_X1_at ⟨Nat.le_of_ble_eq_true rfl, Nat.le_of_ble_eq_true rfl⟩ hl.size rfl (Nat.le_of_ble_eq_true rfl) dX0_takeSegments_60 ⟨Nat.le_of_ble_eq_true rfl, Nat.le_of_ble_eq_true rfl⟩ hL (f0_in) (fun v1 K locs hp hL => ?_)
            obtain ⟨rfl, rfl⟩ := hp
            refine lv_topi (fun r_6 er_6 => ?_)
            have er_6 : r_6 = u.1 2 j := by rw [er_6, eb, atV_in (by omega) (by decide)]
            refine hb_aload_n G dX0_takeSegments_63 hl rfl ?_
            refine hb_get G huK.1 rfl inX0 4 (by decide) kf_X0_25 rfl rfl dX0_takeSegments_64 ?_
            refine hb_iload G dX0_takeSegments_67 hl rfl ?_
            refine hb_callSN (As := [.ref (y + 4), .int b]) (rest := [.int r_6, .ref x]) G hml (c_at g l (y + 4) 512 (u.1 3) b _ (by decide) (huK.2 3 (by decide))) G.2.2.2.2.2.2.1 kt_X1_at kn_X1 ko_X1_at hd_X1_at ⟨Nat.le_of_ble_eq_true rfl, Nat.le_of_ble_eq_true rfl⟩ hl.size rfl (Nat.le_of_ble_eq_true rfl) dX0_takeSegments_69 ⟨Nat.le_of_ble_eq_true rfl, Nat.le_of_ble_eq_true rfl⟩ hL (f0_in) (fun v1 K locs hp hL => ?_)
            obtain ⟨rfl, rfl⟩ := hp
            refine lv_topi (fun r_7 er_7 => ?_)
            have er_7 : r_7 = u.1 3 j := by rw [er_7, eb, atV_in (by omega) (by decide)]
            refine hb_callV (As := [.int r_6, .int r_7]) (rest := []) G hml (c_put g l x (lgTk u z (v, -1) j).1 _ (hok) hgK r_6 r_7) (hgK.1) rfl km_X0_63 ki_X0_put ks_X0_put kn_X0 ko_X0_put hd_X0_put ⟨Nat.le_of_ble_eq_true rfl, Nat.le_of_ble_eq_true rfl⟩ hl.size rfl (Nat.le_of_ble_eq_true rfl) dX0_takeSegments_72 ⟨Nat.le_of_ble_eq_true rfl, Nat.le_of_ble_eq_true rfl⟩ hL (fun q h => h) (fun v1 K5 locs hp hL => ?_)
            obtain ⟨rfl, hg5, hF5⟩ := hp
            rw [er_6, er_7] at hg5
            obtain ⟨t_8, et_8⟩ : ∃ z : Int32, z = b + 1 := ⟨_, rfl⟩
            refine hb_iinc (v := t_8) G dX0_takeSegments_75 hl rfl (by rw [et_8]; rfl) (by decide) (fun ls hl => ?_)
            have hl : lh ls 6 [some (.ref x), some (.ref y), some (.int z), some (.int a), some (.int t_8), some (.int r_2)] := hl
            refine lv_goto (tgt := 5) G.1 G.2.1 dX0_takeSegments_78 (by decide) ?_
            have e9 : lgTk u z (v, -1) (j + 1) = (lgPut (lgTk u z (v, -1) j).1 (u.1 2 j) (u.1 3 j), u.1 4 j) := by simp only [lgTk, tkStep]; rw [if_pos hz9, if_pos (by rw [← er_2, c_5, ea])]
            exact ih (j + 1) a t_8 K5 locs ls (by omega) (by omega) (by rw [e9]; exact (by rw [← c_5]; exact er_2)) (by rw [et_8, eb]; exact nI_1 j) (by rw [e9]; exact hg5) (hF.tr hF5) hL (hl.drop 5)
          · refine hb_aload_n G dX0_takeSegments_37 hl rfl ?_
            refine hb_aload_n G dX0_takeSegments_38 hl rfl ?_
            refine hb_get G huK.1 rfl inX0 0 (by decide) kf_X0_9 rfl rfl dX0_takeSegments_39 ?_
            refine hb_iload G dX0_takeSegments_42 hl rfl ?_
            refine hb_callSN (As := [.ref (y + 1), .int r_2]) (rest := [.ref x]) G hml (c_at g l (y + 1) 60 (u.1 0) r_2 _ (by decide) (huK.2 0 (by decide))) G.2.2.2.2.2.2.1 kt_X1_at kn_X1 ko_X1_at hd_X1_at ⟨Nat.le_of_ble_eq_true rfl, Nat.le_of_ble_eq_true rfl⟩ hl.size rfl (Nat.le_of_ble_eq_true rfl) dX0_takeSegments_44 ⟨Nat.le_of_ble_eq_true rfl, Nat.le_of_ble_eq_true rfl⟩ hL (f0_in) (fun v1 K locs hp hL => ?_)
            obtain ⟨rfl, rfl⟩ := hp
            refine lv_topi (fun r_9 er_9 => ?_)
            refine hb_callV (As := [.int r_9]) (rest := []) G hml (c_openSegment g l x _ _ hok hgK r_9) (hgK.1) rfl km_X0_59 ki_X0_openSegment ks_X0_openSegment kn_X0 ko_X0_openSegment hd_X0_openSegment ⟨Nat.le_of_ble_eq_true rfl, Nat.le_of_ble_eq_true rfl⟩ hl.size rfl (Nat.le_of_ble_eq_true rfl) dX0_takeSegments_47 ⟨Nat.le_of_ble_eq_true rfl, Nat.le_of_ble_eq_true rfl⟩ hL (fun q h => h) (fun v1 K1 locs hp hL => ?_)
            obtain ⟨rfl, hg1, hF1⟩ := hp
            rw [er_9, er_2] at hg1
            have hu1 : lgAt g y u K1 := huK.kept (fun q h1 h2 => hF1.2 q (by omega))
            refine hb_iload G dX0_takeSegments_50 hl rfl ?_
            refine hb_istore_n G dX0_takeSegments_52 hl (by decide) (fun ls hl => ?_)
            have hl : lh ls 6 [some (.ref x), some (.ref y), some (.int z), some (.int r_2), some (.int b), some (.int r_2)] := hl
            refine hb_aload_n G dX0_takeSegments_53 hl rfl ?_
            refine hb_aload_n G dX0_takeSegments_54 hl rfl ?_
            refine hb_get G hu1.1 rfl inX0 3 (by decide) kf_X0_22 rfl rfl dX0_takeSegments_55 ?_
            refine hb_iload G dX0_takeSegments_58 hl rfl ?_
            refine hb_callSN (As := [.ref (y + 3), .int b]) (rest := [.ref x]) G hml (c_at g l (y + 3) 512 (u.1 2) b _ (by decide) (hu1.2 2 (by decide))) G.2.2.2.2.2.2.1 kt_X1_at kn_X1 ko_X1_at hd_X1_at ⟨Nat.le_of_ble_eq_true rfl, Nat.le_of_ble_eq_true rfl⟩ hl.size rfl (Nat.le_of_ble_eq_true rfl) dX0_takeSegments_60 ⟨Nat.le_of_ble_eq_true rfl, Nat.le_of_ble_eq_true rfl⟩ hL (f0_in) (fun v1 K locs hp hL => ?_)
            obtain ⟨rfl, rfl⟩ := hp
            refine lv_topi (fun r_10 er_10 => ?_)
            have er_10 : r_10 = u.1 2 j := by rw [er_10, eb, atV_in (by omega) (by decide)]
            refine hb_aload_n G dX0_takeSegments_63 hl rfl ?_
            refine hb_get G hu1.1 rfl inX0 4 (by decide) kf_X0_25 rfl rfl dX0_takeSegments_64 ?_
            refine hb_iload G dX0_takeSegments_67 hl rfl ?_
            refine hb_callSN (As := [.ref (y + 4), .int b]) (rest := [.int r_10, .ref x]) G hml (c_at g l (y + 4) 512 (u.1 3) b _ (by decide) (hu1.2 3 (by decide))) G.2.2.2.2.2.2.1 kt_X1_at kn_X1 ko_X1_at hd_X1_at ⟨Nat.le_of_ble_eq_true rfl, Nat.le_of_ble_eq_true rfl⟩ hl.size rfl (Nat.le_of_ble_eq_true rfl) dX0_takeSegments_69 ⟨Nat.le_of_ble_eq_true rfl, Nat.le_of_ble_eq_true rfl⟩ hL (f0_in) (fun v1 K locs hp hL => ?_)
            obtain ⟨rfl, rfl⟩ := hp
            refine lv_topi (fun r_11 er_11 => ?_)
            have er_11 : r_11 = u.1 3 j := by rw [er_11, eb, atV_in (by omega) (by decide)]
            refine hb_callV (As := [.int r_10, .int r_11]) (rest := []) G hml (c_put g l x (lgOpen (lgTk u z (v, -1) j).1 (atV (u.1 0) 60 (u.1 4 j))) _ (lgOpen_ok hok _) hg1 r_10 r_11) (hg1.1) rfl km_X0_63 ki_X0_put ks_X0_put kn_X0 ko_X0_put hd_X0_put ⟨Nat.le_of_ble_eq_true rfl, Nat.le_of_ble_eq_true rfl⟩ hl.size rfl (Nat.le_of_ble_eq_true rfl) dX0_takeSegments_72 ⟨Nat.le_of_ble_eq_true rfl, Nat.le_of_ble_eq_true rfl⟩ hL (fun q h => h) (fun v1 K5 locs hp hL => ?_)
            obtain ⟨rfl, hg5, hF5⟩ := hp
            rw [er_10, er_11] at hg5
            obtain ⟨t_12, et_12⟩ : ∃ z : Int32, z = b + 1 := ⟨_, rfl⟩
            refine hb_iinc (v := t_12) G dX0_takeSegments_75 hl rfl (by rw [et_12]; rfl) (by decide) (fun ls hl => ?_)
            have hl : lh ls 6 [some (.ref x), some (.ref y), some (.int z), some (.int r_2), some (.int t_12), some (.int r_2)] := hl
            refine lv_goto (tgt := 5) G.1 G.2.1 dX0_takeSegments_78 (by decide) ?_
            have e9 : lgTk u z (v, -1) (j + 1) = (lgPut (lgOpen (lgTk u z (v, -1) j).1 (atV (u.1 0) 60 (u.1 4 j))) (u.1 2 j) (u.1 3 j), u.1 4 j) := by simp only [lgTk, tkStep]; rw [if_pos hz9, if_neg (by rw [← er_2, ← ea]; exact c_5)]
            exact ih (j + 1) r_2 t_12 K5 locs ls (by omega) (by omega) (by rw [e9]; exact er_2) (by rw [et_12, eb]; exact nI_1 j) (by rw [e9]; exact hg5) (hF.tr (hF1.tr hF5)) hL (hl.drop 5)
  refine lv_iconst (v := (-1)) G.1 G.2.1 dX0_takeSegments_0 (by decide) ?_
  refine hb_istore_n G dX0_takeSegments_1 hl (by decide) (fun ls hl => ?_)
  have hl : lh ls 6 [some (.ref x), some (.ref y), some (.int z), some (.int (-1)), none, none] := hl
  refine lv_iconst (v := 0) G.1 G.2.1 dX0_takeSegments_2 (by decide) ?_
  refine hb_istore G dX0_takeSegments_3 hl (by decide) (fun ls hl => ?_)
  have hl : lh ls 6 [some (.ref x), some (.ref y), some (.int z), some (.int (-1)), some (.int 0), none] := hl
  exact lp (u.2.2.1 + 1) 0 (-1) 0 H [] ls (by omega) (by omega) rfl rfl hg Fr.rf hL hl
end
section
/-! ROWS THAT MAKE CELLS: a new cell lies at the heap's end -/
def fG (x : Nat) : Nat → Prop := fun q => x ≤ q
theorem fG_mk {x q : Nat} (h : x ≤ q) : fG x q := h
section HN
variable {p : Program} {l : Launch} {e : Env} {R : Room} {s : State} {m : MethodId} {args : Array Value} {below : List Frame} {meth : Method} {c : Code} {H : Heap} {locs : List Loc} {cells slots : Nat} {Q : State → Prop}
variable {g : Gx} {cc : ByteArray} {own : String} {pc n z : Nat} {ls : Array Slot} {rest : List Value} {A : Nat → Prop} {a : Nat}
theorem hb_newi (G : Cx g p s m args c cc own) (hz : H.size = z) {k : Int32} {N : Nat} (hn : ¬ k < 0) (hN : k.toNatClampNeg = N) (hbytes : N * 4 ≤ 536870912) (hcells : cells + 1 ≤ R.cells) (hslots : slots + N ≤ R.slots) (hdg : decode cc pc = .ok (.newarray .int, 2))
    (kk : ∀ H1 : Heap, ia g z N (fun _ => 0) H1 → H1.size = z + 1 → (∀ q : Nat, q < z → H1[q]? = H[q]?) → W p l e R s m args below meth c H1 locs (cells + 1) (slots + N) Q (F0 m (pc + 2) ls (.ref z :: rest))) : W p l e R s m args below meth c H locs cells slots Q (F0 m pc ls (.int k :: rest)) := by
  refine va_newaK (atype := .int) G.1 G.2.1 (G.2.2.2.1 _ ka_int) rfl hdg rfl hn hN hbytes hcells hslots hz fun H1 cA e1 z1 o1 hAr hNm => ?_
  have h9 : s.vm.findClass ("[" ++ FieldType.int.toString) = some (g.2.2 0) := (G.2.2.2.2.1.2 0 _ rfl).2
  have h8 : cA = g.2.2 0 := Option.some.inj (hNm.symm.trans h9)
  subst h8
  exact kk H1 e1 z1 o1
theorem hb_newz (G : Cx g p s m args c cc own) (hz : H.size = z) {k : Int32} {N : Nat} (hn : ¬ k < 0) (hN : k.toNatClampNeg = N) (hbytes : N * 1 ≤ 536870912) (hcells : cells + 1 ≤ R.cells) (hslots : slots + N ≤ R.slots) (hdg : decode cc pc = .ok (.newarray .boolean, 2))
    (kk : ∀ H1 : Heap, za g z N (fun _ => 0) H1 → H1.size = z + 1 → (∀ q : Nat, q < z → H1[q]? = H[q]?) → W p l e R s m args below meth c H1 locs (cells + 1) (slots + N) Q (F0 m (pc + 2) ls (.ref z :: rest))) : W p l e R s m args below meth c H locs cells slots Q (F0 m pc ls (.int k :: rest)) := by
  refine va_newaK (atype := .boolean) G.1 G.2.1 (G.2.2.2.1 _ ka_boolean) rfl hdg rfl hn hN hbytes hcells hslots hz fun H1 cA e1 z1 o1 hAr hNm => ?_
  have h9 : s.vm.findClass ("[" ++ FieldType.boolean.toString) = some (g.2.2 1) := (G.2.2.2.2.1.2 1 _ rfl).2
  have h8 : cA = g.2.2 1 := Option.some.inj (hNm.symm.trans h9)
  subst h8
  exact kk H1 e1 z1 o1
theorem hb_newj (G : Cx g p s m args c cc own) (hz : H.size = z) {k : Int32} {N : Nat} (hn : ¬ k < 0) (hN : k.toNatClampNeg = N) (hbytes : N * 8 ≤ 536870912) (hcells : cells + 1 ≤ R.cells) (hslots : slots + N ≤ R.slots) (hdg : decode cc pc = .ok (.newarray .long, 2))
    (kk : ∀ H1 : Heap, ja g z N (fun _ => 0) H1 → H1.size = z + 1 → (∀ q : Nat, q < z → H1[q]? = H[q]?) → W p l e R s m args below meth c H1 locs (cells + 1) (slots + N) Q (F0 m (pc + 2) ls (.ref z :: rest))) : W p l e R s m args below meth c H locs cells slots Q (F0 m pc ls (.int k :: rest)) := by
  refine va_newaK (atype := .long) G.1 G.2.1 (G.2.2.2.1 _ ka_long) rfl hdg rfl hn hN hbytes hcells hslots hz fun H1 cA e1 z1 o1 hAr hNm => ?_
  have h9 : s.vm.findClass ("[" ++ FieldType.long.toString) = some (g.2.2 3) := (G.2.2.2.2.1.2 3 _ rfl).2
  have h8 : cA = g.2.2 3 := Option.some.inj (hNm.symm.trans h9)
  subst h8
  exact kk H1 e1 z1 o1
theorem hb_newq (G : Cx g p s m args c cc own) {index : Nat} (kl : Cond.classLink own index "LogDisk$Log" ∈ tb) (hz : H.size = z) {k : Int32} {N : Nat} (hn : ¬ k < 0) (hN : k.toNatClampNeg = N) (hbytes : N * 4 ≤ 536870912) (hcells : cells + 1 ≤ R.cells) (hslots : slots + N ≤ R.slots) (hdg : decode cc pc = .ok (.anewarray index, 3))
    (kk : ∀ H1 : Heap, qa g z N (fun _ => none) H1 → H1.size = z + 1 → (∀ q : Nat, q < z → H1[q]? = H[q]?) → W p l e R s m args below meth c H1 locs (cells + 1) (slots + N) Q (F0 m (pc + 3) ls (.ref z :: rest))) : W p l e R s m args below meth c H locs cells slots Q (F0 m pc ls (.int k :: rest)) := by
  subst hN
  subst hz
  refine W.anew G.1 G.2.1 G.2.2.1 (G.2.2.2.1 _ kl) (va_AO.use G.2.2.2.2.2.2.2.2.2) rfl hdg rfl hn hbytes hcells hslots fun cA kA comp f1 f2 f3 f4 => ?_
  have h9 := (G.2.2.2.2.1.2 2 _ rfl).2
  obtain ⟨kA9, comp9, k1, k2, k3, k4⟩ := h9
  have h8 : cA = g.2.2 2 := Option.some.inj (f1.symm.trans k4)
  subst h8
  refine kk _ ?_ (by rw [Array.size_push]) (fun q hq => by rw [Array.getElem?_push, if_neg (Nat.ne_of_lt hq)])
  show (H.push _)[H.size]? = some (arrV _ _ (fun _ => .null))
  rw [Array.getElem?_push_size, ← arrV_new]
theorem hb_new (G : Cx g p s m args c cc own) (hz : H.size = z) {C : String} {T : u_T} {N ci index : Nat} (hc : vwCl[ci]? = some (C, T, N)) (hin : ∀ w ∈ u_ws C T N, w ∈ tb) (ty : Nat → FieldType) (hty : ∀ k, k < N → parseFieldDescriptor (T k).2.2.1 = some (ty k)) (kl : Cond.classLink own index C ∈ tb) (kj : Cond.instantiable C N ∈ tb) (kn : Cond.initialized C ∈ tb)
    {fs : List Value} (hfs : ∀ j, j < N → defaultValue (ty j) = vp_V fs j) (hcells : cells + 1 ≤ R.cells) (hslots : slots + N ≤ R.slots) (hdg : decode cc pc = .ok (.new index, 3))
    (kk : ∀ H1 : Heap, ob g z ci fs H1 → H1.size = z + 1 → (∀ q : Nat, q < z → H1[q]? = H[q]?) → W p l e R s m args below meth c H1 locs (cells + 1) (slots + N) Q (F0 m (pc + 3) ls (.ref z :: rest))) : W p l e R s m args below meth c H locs cells slots Q (F0 m pc ls rest) := by
  have hKn := G.2.2.2.2.1.1 ci _ hc
  refine W.newcK G.1 G.2.1 G.2.2.1 (G.2.2.2.1 _ kl) (G.2.2.2.1 _ kj) (G.2.2.2.1 _ kn) rfl hdg hcells hslots hKn.2.1 hz fun H1 kC hkC e1 z1 o1 => ?_
  exact kk H1 ⟨_, hc, (u_born ty G.2.2.2.1 hin hKn hkC e1 hty).to hfs⟩ z1 o1
theorem hb_obj (G : Cx g p s m args c cc own) (hml : c.maxLocals = n) (hs : ls.size = n) {index : Nat} (kl : Cond.methodLink own index objectInit ∈ tb) (hdg : decode cc pc = .ok (.invokespecial index, 3)) (hf : 1 ≤ R.frames) (hl : (rest.map fun v => v.category).sum + 12 ≤ R.locals)
    (kk : W p l e R s m args below meth c H locs cells slots Q (F0 m (pc + 3) ls rest)) : W p l e R s m args below meth c H locs cells slots Q (F0 m pc ls (.ref a :: rest)) :=
  W.objInit G.1 G.2.1 G.2.2.1 (G.2.2.2.1 _ kl) (G.2.2.2.1 _ ki_Ob_init) (G.2.2.2.1 _ ko_Ob_init) rfl (hs.trans hml.symm) rfl hdg hf (by show 2 * 0 + _ + 12 ≤ _; omega) kk
theorem hb_qast (G : Cx g p s m args c cc own) {k v : Nat} {f : Nat → Option Nat} {vs : List Value} (ha : qa g a k f H) (hv : ob g v 0 vs H) {i : Int32} (hin : vp_in i k) (hL : ∀ q ∈ locs, A q.base) (hA : A a) (hdg : decode cc pc = .ok (.aastore, 1))
    (kk : ∀ (H1 : Heap) (locs1 : List Loc), qa g a k (va_up f i.toNatClampNeg (some v)) H1 → H1.size = H.size → (∀ q : Nat, q ≠ a → H1[q]? = H[q]?) → (∀ q ∈ locs1, A q.base) → W p l e R s m args below meth c H1 locs1 cells slots Q (F0 m (pc + 1) ls rest)) : W p l e R s m args below meth c H locs cells slots Q (F0 m pc ls (.ref v :: .int i :: .ref a :: rest)) := by
  have hlt : i.toNatClampNeg < k := Nat.not_le.mp fun q => hin (Or.inr q)
  have h0 : ¬ i < 0 := fun q => hin (Or.inl q)
  obtain ⟨r', hr', cellV, g1, g2, g3, -⟩ := hv
  have hc : vwCl[0]? = some (RX0, TX0, 9) := rfl
  have hcls := (G.2.2.2.2.1.1 0 _ hc).2
  obtain ⟨kA, comp, k1, k2, k3, -⟩ := (G.2.2.2.2.1.2 2 _ rfl).2
  have hcomp : comp = (gD g).1 0 := Option.some.inj (k3.symm.trans hcls.1)
  subst hcomp
  obtain ⟨kC, hkC, -⟩ := hcls.2
  refine W.aast G.1 G.2.1 ha (fun q h => by cases h) (fun h => by cases h) k1 k2 rfl hkC ⟨h0, by show _ < (arrV _ _ _).slots.size; rw [arrV_size]; exact hlt⟩ g1 (fun q h => by rw [g3] at h; cases h) (by rw [g2]; exact hkC) (by rw [g2]; exact va_assign hcls) rfl rfl hdg fun H1 e z oq => ?_
  refine kk H1 _ ?_ z oq (t_lc hL hA)
  show H1[a]? = some (vp_cell _ _)
  rw [e, vp_cell_q, vp_cell_q, arrV_store]
  congr 2
  funext q
  by_cases hq : q = i.toNatClampNeg
  · subst hq
    simp [updV, va_up, va_rf]
  · simp [updV, va_up, hq]
end HN
theorem qa.ext {g : Gx} {a k : Nat} {f f' : Nat → Option Nat} {H : Heap} (h : qa g a k f H) (hf : ∀ i, i < k → f i = f' i) : qa g a k f' H := by
  have h1 : H[a]? = some (vp_cell (g.2.2 2) (k, .inr (.inr (.inr (.inr f))))) := h
  show H[a]? = some (vp_cell (g.2.2 2) (k, .inr (.inr (.inr (.inr f')))))
  rw [h1, vp_cell_q, vp_cell_q]
  have h2 : (Array.ofFn (n := k) fun j => va_rf (f j.val)) = Array.ofFn (n := k) fun j => va_rf (f' j.val) := by
    congr 1
    funext j
    rw [hf j.val j.isLt]
  simp only [arrV, h2]
theorem ia.ext {g : Gx} {a k : Nat} {f f' : Nat → Int32} {H : Heap} (h : ia g a k f H) (hf : ∀ i, i < k → f i = f' i) : ia g a k f' H := by
  have h1 : H[a]? = some (vp_cell (g.2.2 0) (k, .inl f)) := h
  show H[a]? = some (vp_cell (g.2.2 0) (k, .inl f'))
  rw [h1, vp_cell_i, vp_cell_i]
  have h2 : (Array.ofFn (n := k) fun j => Value.int (f j.val)) = Array.ofFn (n := k) fun j => Value.int (f' j.val) := by
    congr 1
    funext j
    rw [hf j.val j.isLt]
  simp only [arrV, h2]
theorem za.ext {g : Gx} {a k : Nat} {f f' : Nat → Int32} {H : Heap} (h : za g a k f H) (hf : ∀ i, i < k → f i = f' i) : za g a k f' H := by
  have h1 : H[a]? = some (vp_cell (g.2.2 1) (k, .inl f)) := h
  show H[a]? = some (vp_cell (g.2.2 1) (k, .inl f'))
  rw [h1, vp_cell_i, vp_cell_i]
  have h2 : (Array.ofFn (n := k) fun j => Value.int (f j.val)) = Array.ofFn (n := k) fun j => Value.int (f' j.val) := by
    congr 1
    funext j
    rw [hf j.val j.isLt]
  simp only [arrV, h2]
end
section
def lv0 : LV := (fun _ _ => 0, 0, 0, 0)
theorem lv0_ok : lgOk lv0 := ⟨by decide, by decide⟩
set_option maxHeartbeats 4000000 in
set_option maxRecDepth 100000 in
/-- Log(): empty -/
theorem c_Log_init (g : Gx) (l : Launch) (x : Nat) (H : Heap) (hz0 : H.size = x + 1) (he : ob g x 0 [.null, .null, .int 0, .null, .null, .null, .null, .int 0, .int 0] H) : HM g l yX0_init cX0_init 1 none 1 20 6 2168 [.ref x] H (fun r H1 => r = none ∧ lgAt g x lv0 H1 ∧ H1.size = x + 7 ∧ ∀ q : Nat, q < x → H1[q]? = H[q]?) (fG x) := by
  refine HM.ofW (by decide) (Nat.le_of_ble_eq_true rfl) (by simp [Value.category]) ?_
  intro p e s m args below meth c ls G hr hml hlocks hnm hH hl
  have hl : lh ls 1 [some (.ref x)] := hl
  have hL : ∀ q ∈ ([] : List Loc), (fG x) q.base := fun q h => by cases h
  have hq0 : ∀ q : Nat, q < x → H[q]? = H[q]? := fun _ _ => rfl
  refine hb_aload_n G dX0_init_0 hl rfl ?_
  refine hb_obj G hml hl.size km_X0_3 dX0_init_1 (Nat.le_of_ble_eq_true rfl) (Nat.le_of_ble_eq_true rfl) ?_
  refine hb_aload_n G dX0_init_4 hl rfl ?_
  refine lv_bipush (v := 60) G.1 G.2.1 dX0_init_5 (by decide) ?_
  refine hb_newi (z := x + 1) (N := 60) G hz0 (by decide) rfl (by decide) (Nat.le_of_ble_eq_true rfl) (Nat.le_of_ble_eq_true rfl) dX0_init_7 (fun K1 ha1 hz1 ho => ?_)
  have he := he.kept (ho x (by omega))
  have hq1 : ∀ q : Nat, q < x → K1[q]? = H[q]? := fun q h => (ho q (by omega)).trans (hq0 q h)
  refine hb_putF G he rfl inX0 tyX0 tyX0_ok nmX0 0 (by decide) kf_X0_9 rfl rfl hnm rfl rfl rfl (Nat.le_of_ble_eq_true rfl) hL (fG_mk (by omega)) dX0_init_9 (fun K2 locs2 he hz2 ho hL => ?_)
  have hz2 := hz2.trans hz1
  have ha1 := ha1.kept (ho _ (by omega))
  have hq2 : ∀ q : Nat, q < x → K2[q]? = H[q]? := fun q h => (ho q (by omega)).trans (hq1 q h)
  refine hb_aload_n G dX0_init_12 hl rfl ?_
  refine lv_bipush (v := 60) G.1 G.2.1 dX0_init_13 (by decide) ?_
  refine hb_newi (z := x + 2) (N := 60) G hz2 (by decide) rfl (by decide) (Nat.le_of_ble_eq_true rfl) (Nat.le_of_ble_eq_true rfl) dX0_init_15 (fun K3 ha2 hz3 ho => ?_)
  have he := he.kept (ho x (by omega))
  have ha1 := ha1.kept (ho _ (by omega))
  have hq3 : ∀ q : Nat, q < x → K3[q]? = H[q]? := fun q h => (ho q (by omega)).trans (hq2 q h)
  refine hb_putF G he rfl inX0 tyX0 tyX0_ok nmX0 1 (by decide) kf_X0_15 rfl rfl hnm rfl rfl rfl (Nat.le_of_ble_eq_true rfl) hL (fG_mk (by omega)) dX0_init_17 (fun K4 locs4 he hz4 ho hL => ?_)
  have hz4 := hz4.trans hz3
  have ha1 := ha1.kept (ho _ (by omega))
  have ha2 := ha2.kept (ho _ (by omega))
  have hq4 : ∀ q : Nat, q < x → K4[q]? = H[q]? := fun q h => (ho q (by omega)).trans (hq3 q h)
  refine hb_aload_n G dX0_init_20 hl rfl ?_
  refine lv_iconst (v := 0) G.1 G.2.1 dX0_init_21 (by decide) ?_
  refine hb_put G he rfl inX0 tyX0 tyX0_ok nmX0 2 (by decide) kf_X0_18 rfl rfl rfl rfl (Nat.le_of_ble_eq_true rfl) hL (fG_mk (by omega)) dX0_init_22 (fun K5 locs5 he hz5 ho hL => ?_)
  have hz5 := hz5.trans hz4
  have ha1 := ha1.kept (ho _ (by omega))
  have ha2 := ha2.kept (ho _ (by omega))
  have hq5 : ∀ q : Nat, q < x → K5[q]? = H[q]? := fun q h => (ho q (by omega)).trans (hq4 q h)
  refine hb_aload_n G dX0_init_25 hl rfl ?_
  refine lv_sipush (v := 512) G.1 G.2.1 dX0_init_26 (by decide) ?_
  refine hb_newi (z := x + 3) (N := 512) G hz5 (by decide) rfl (by decide) (Nat.le_of_ble_eq_true rfl) (Nat.le_of_ble_eq_true rfl) dX0_init_29 (fun K6 ha3 hz6 ho => ?_)
  have he := he.kept (ho x (by omega))
  have ha1 := ha1.kept (ho _ (by omega))
  have ha2 := ha2.kept (ho _ (by omega))
  have hq6 : ∀ q : Nat, q < x → K6[q]? = H[q]? := fun q h => (ho q (by omega)).trans (hq5 q h)
  refine hb_putF G he rfl inX0 tyX0 tyX0_ok nmX0 3 (by decide) kf_X0_22 rfl rfl hnm rfl rfl rfl (Nat.le_of_ble_eq_true rfl) hL (fG_mk (by omega)) dX0_init_31 (fun K7 locs7 he hz7 ho hL => ?_)
  have hz7 := hz7.trans hz6
  have ha1 := ha1.kept (ho _ (by omega))
  have ha2 := ha2.kept (ho _ (by omega))
  have ha3 := ha3.kept (ho _ (by omega))
  have hq7 : ∀ q : Nat, q < x → K7[q]? = H[q]? := fun q h => (ho q (by omega)).trans (hq6 q h)
  refine hb_aload_n G dX0_init_34 hl rfl ?_
  refine lv_sipush (v := 512) G.1 G.2.1 dX0_init_35 (by decide) ?_
  refine hb_newi (z := x + 4) (N := 512) G hz7 (by decide) rfl (by decide) (Nat.le_of_ble_eq_true rfl) (Nat.le_of_ble_eq_true rfl) dX0_init_38 (fun K8 ha4 hz8 ho => ?_)
  have he := he.kept (ho x (by omega))
  have ha1 := ha1.kept (ho _ (by omega))
  have ha2 := ha2.kept (ho _ (by omega))
  have ha3 := ha3.kept (ho _ (by omega))
  have hq8 : ∀ q : Nat, q < x → K8[q]? = H[q]? := fun q h => (ho q (by omega)).trans (hq7 q h)
  refine hb_putF G he rfl inX0 tyX0 tyX0_ok nmX0 4 (by decide) kf_X0_25 rfl rfl hnm rfl rfl rfl (Nat.le_of_ble_eq_true rfl) hL (fG_mk (by omega)) dX0_init_40 (fun K9 locs9 he hz9 ho hL => ?_)
  have hz9 := hz9.trans hz8
  have ha1 := ha1.kept (ho _ (by omega))
  have ha2 := ha2.kept (ho _ (by omega))
  have ha3 := ha3.kept (ho _ (by omega))
  have ha4 := ha4.kept (ho _ (by omega))
  have hq9 : ∀ q : Nat, q < x → K9[q]? = H[q]? := fun q h => (ho q (by omega)).trans (hq8 q h)
  refine hb_aload_n G dX0_init_43 hl rfl ?_
  refine lv_sipush (v := 512) G.1 G.2.1 dX0_init_44 (by decide) ?_
  refine hb_newi (z := x + 5) (N := 512) G hz9 (by decide) rfl (by decide) (Nat.le_of_ble_eq_true rfl) (Nat.le_of_ble_eq_true rfl) dX0_init_47 (fun K10 ha5 hz10 ho => ?_)
  have he := he.kept (ho x (by omega))
  have ha1 := ha1.kept (ho _ (by omega))
  have ha2 := ha2.kept (ho _ (by omega))
  have ha3 := ha3.kept (ho _ (by omega))
  have ha4 := ha4.kept (ho _ (by omega))
  have hq10 : ∀ q : Nat, q < x → K10[q]? = H[q]? := fun q h => (ho q (by omega)).trans (hq9 q h)
  refine hb_putF G he rfl inX0 tyX0 tyX0_ok nmX0 5 (by decide) kf_X0_28 rfl rfl hnm rfl rfl rfl (Nat.le_of_ble_eq_true rfl) hL (fG_mk (by omega)) dX0_init_49 (fun K11 locs11 he hz11 ho hL => ?_)
  have hz11 := hz11.trans hz10
  have ha1 := ha1.kept (ho _ (by omega))
  have ha2 := ha2.kept (ho _ (by omega))
  have ha3 := ha3.kept (ho _ (by omega))
  have ha4 := ha4.kept (ho _ (by omega))
  have ha5 := ha5.kept (ho _ (by omega))
  have hq11 : ∀ q : Nat, q < x → K11[q]? = H[q]? := fun q h => (ho q (by omega)).trans (hq10 q h)
  refine hb_aload_n G dX0_init_52 hl rfl ?_
  refine lv_sipush (v := 512) G.1 G.2.1 dX0_init_53 (by decide) ?_
  refine hb_newi (z := x + 6) (N := 512) G hz11 (by decide) rfl (by decide) (Nat.le_of_ble_eq_true rfl) (Nat.le_of_ble_eq_true rfl) dX0_init_56 (fun K12 ha6 hz12 ho => ?_)
  have he := he.kept (ho x (by omega))
  have ha1 := ha1.kept (ho _ (by omega))
  have ha2 := ha2.kept (ho _ (by omega))
  have ha3 := ha3.kept (ho _ (by omega))
  have ha4 := ha4.kept (ho _ (by omega))
  have ha5 := ha5.kept (ho _ (by omega))
  have hq12 : ∀ q : Nat, q < x → K12[q]? = H[q]? := fun q h => (ho q (by omega)).trans (hq11 q h)
  refine hb_putF G he rfl inX0 tyX0 tyX0_ok nmX0 6 (by decide) kf_X0_31 rfl rfl hnm rfl rfl rfl (Nat.le_of_ble_eq_true rfl) hL (fG_mk (by omega)) dX0_init_58 (fun K13 locs13 he hz13 ho hL => ?_)
  have hz13 := hz13.trans hz12
  have ha1 := ha1.kept (ho _ (by omega))
  have ha2 := ha2.kept (ho _ (by omega))
  have ha3 := ha3.kept (ho _ (by omega))
  have ha4 := ha4.kept (ho _ (by omega))
  have ha5 := ha5.kept (ho _ (by omega))
  have ha6 := ha6.kept (ho _ (by omega))
  have hq13 : ∀ q : Nat, q < x → K13[q]? = H[q]? := fun q h => (ho q (by omega)).trans (hq12 q h)
  refine hb_aload_n G dX0_init_61 hl rfl ?_
  refine lv_iconst (v := 0) G.1 G.2.1 dX0_init_62 (by decide) ?_
  refine hb_put G he rfl inX0 tyX0 tyX0_ok nmX0 7 (by decide) kf_X0_34 rfl rfl rfl rfl (Nat.le_of_ble_eq_true rfl) hL (fG_mk (by omega)) dX0_init_63 (fun K14 locs14 he hz14 ho hL => ?_)
  have hz14 := hz14.trans hz13
  have ha1 := ha1.kept (ho _ (by omega))
  have ha2 := ha2.kept (ho _ (by omega))
  have ha3 := ha3.kept (ho _ (by omega))
  have ha4 := ha4.kept (ho _ (by omega))
  have ha5 := ha5.kept (ho _ (by omega))
  have ha6 := ha6.kept (ho _ (by omega))
  have hq14 : ∀ q : Nat, q < x → K14[q]? = H[q]? := fun q h => (ho q (by omega)).trans (hq13 q h)
  refine hb_aload_n G dX0_init_66 hl rfl ?_
  refine lv_iconst (v := 0) G.1 G.2.1 dX0_init_67 (by decide) ?_
  refine hb_put G he rfl inX0 tyX0 tyX0_ok nmX0 8 (by decide) kf_X0_37 rfl rfl rfl rfl (Nat.le_of_ble_eq_true rfl) hL (fG_mk (by omega)) dX0_init_68 (fun K15 locs15 he hz15 ho hL => ?_)
  have hz15 := hz15.trans hz14
  have ha1 := ha1.kept (ho _ (by omega))
  have ha2 := ha2.kept (ho _ (by omega))
  have ha3 := ha3.kept (ho _ (by omega))
  have ha4 := ha4.kept (ho _ (by omega))
  have ha5 := ha5.kept (ho _ (by omega))
  have ha6 := ha6.kept (ho _ (by omega))
  have hq15 : ∀ q : Nat, q < x → K15[q]? = H[q]? := fun q h => (ho q (by omega)).trans (hq14 q h)
  refine hb_vret G hr hlocks ⟨rfl, ⟨he, fun j hj => ?_⟩, hz15, hq15⟩ hL (Nat.le_of_ble_eq_true rfl) (Nat.le_of_ble_eq_true rfl) dX0_init_71
  rcases (show j = 0 ∨ j = 1 ∨ j = 2 ∨ j = 3 ∨ j = 4 ∨ j = 5 by omega) with rfl | rfl | rfl | rfl | rfl | rfl
  · exact ha1
  · exact ha2
  · exact ha3
  · exact ha4
  · exact ha5
  · exact ha6
/-! THE DISK: at d; the row of logs at d + 1, the blocks' use at d + 9; five logs, 0 .. 3 and the draft (4), where P says -/
def dkP (d : Nat) (P : Nat → Nat) : Prop := (∀ j, j < 5 → d + 2 ≤ P j ∧ P j + 7 ≤ d + 38 ∧ (P j + 7 ≤ d + 9 ∨ d + 10 ≤ P j)) ∧ ∀ i j, i < 5 → j < 5 → i ≠ j → P i + 7 ≤ P j ∨ P j + 7 ≤ P i
def dkFs (d S : Nat) (p4 : Nat) (tc dn wr : Int32) : List Value := [.int (nI S), .ref (d + 1), .ref (d + 9), .ref p4, .int tc, .int dn, .int wr]
def dkAt (g : Gx) (d S B : Nat) (P : Nat → Nat) (V : Nat → LV) (bu : Nat → Int32) (tc dn wr : Int32) (H : Heap) : Prop :=
  ob g d 1 (dkFs d S (P 4) tc dn wr) H ∧ qa g (d + 1) 4 (fun i => some (P i)) H ∧ ia g (d + 9) B bu H ∧ (∀ j, j < 5 → lgAt g (P j) (V j) H) ∧ dkP d P
def clampS (x : Int32) : Nat := if x < 1 then 1 else if 16 < x then 16 else x.toNatClampNeg
def clampB (x : Int32) : Nat := if x < 16 then 16 else if 256 < x then 256 else x.toNatClampNeg
theorem i32_lt {x y : Int32} : x < y ↔ x.toInt < y.toInt := Int32.lt_iff_toInt_lt
theorem i32_le {x y : Int32} : x ≤ y ↔ x.toInt ≤ y.toInt := Int32.le_iff_toInt_le
theorem i32_ext {x y : Int32} (h : x.toInt = y.toInt) : x = y := Int32.toInt_inj.mp h
theorem clamp_of_int {x : Int32} (h : 0 ≤ x.toInt) : (x.toNatClampNeg : Int) = x.toInt := by
  have h9 : x.toNatClampNeg = x.toInt.toNat := rfl
  rw [h9]; omega
theorem nI_tc {x : Int32} (h : 0 ≤ x.toInt) : nI x.toNatClampNeg = x := by
  have h1 := clamp_of_int h
  have h2 : x.toInt < 2 ^ 31 := by have := Int32.toInt_lt x; omega
  apply i32_ext
  rw [nI_toInt (by omega)]; exact h1
theorem clampS_in (x : Int32) : 1 ≤ clampS x ∧ clampS x ≤ 16 := by
  unfold clampS
  split
  · omega
  · rename_i h1
    split
    · omega
    · rename_i h2
      rw [i32_lt] at h1 h2
      have e1 : (1 : Int32).toInt = 1 := rfl
      have e2 : (16 : Int32).toInt = 16 := rfl
      rw [e1] at h1; rw [e2] at h2
      have := clamp_of_int (x := x) (by omega)
      omega
theorem clampB_in (x : Int32) : 16 ≤ clampB x ∧ clampB x ≤ 256 := by
  unfold clampB
  split
  · omega
  · rename_i h1
    split
    · omega
    · rename_i h2
      rw [i32_lt] at h1 h2
      have e1 : (16 : Int32).toInt = 16 := rfl
      have e2 : (256 : Int32).toInt = 256 := rfl
      rw [e1] at h1; rw [e2] at h2
      have := clamp_of_int (x := x) (by omega)
      omega
theorem clampS_eq (x : Int32) {a b : Int32} (ha : a = if x < 16 then x else 16) (hb : b = if (1 : Int32) < a then a else 1) : b = nI (clampS x) := by
  have e1 : (1 : Int32).toInt = 1 := rfl
  have e2 : (16 : Int32).toInt = 16 := rfl
  unfold clampS
  by_cases h1 : x < 1
  · rw [if_pos h1]
    rw [if_pos (by rw [i32_lt] at h1 ⊢; omega)] at ha
    subst ha
    rw [if_neg (by rw [i32_lt] at h1 ⊢; omega)] at hb
    exact hb
  · rw [if_neg h1]
    rw [i32_lt] at h1
    by_cases h2 : (16 : Int32) < x
    · rw [if_pos h2]
      rw [if_neg (by rw [i32_lt] at h2 ⊢; omega)] at ha
      subst ha
      exact hb
    · rw [if_neg h2, nI_tc (by omega)]
      rw [i32_lt] at h2
      have ha2 : a = x := by
        by_cases h3 : x < 16
        · rw [if_pos h3] at ha; exact ha
        · rw [if_neg h3] at ha
          rw [i32_lt] at h3
          rw [ha]; apply i32_ext; omega
      subst ha2
      by_cases h4 : (1 : Int32) < a
      · rw [if_pos h4] at hb; exact hb
      · rw [if_neg h4] at hb
        rw [i32_lt] at h4
        rw [hb]; apply i32_ext; omega
theorem clampB_eq (x : Int32) {a b : Int32} (ha : a = if x < 256 then x else 256) (hb : b = if (16 : Int32) < a then a else 16) : b = nI (clampB x) := by
  have e1 : (16 : Int32).toInt = 16 := rfl
  have e2 : (256 : Int32).toInt = 256 := rfl
  unfold clampB
  by_cases h1 : x < 16
  · rw [if_pos h1]
    rw [if_pos (by rw [i32_lt] at h1 ⊢; omega)] at ha
    subst ha
    rw [if_neg (by rw [i32_lt] at h1 ⊢; omega)] at hb
    exact hb
  · rw [if_neg h1]
    rw [i32_lt] at h1
    by_cases h2 : (256 : Int32) < x
    · rw [if_pos h2]
      rw [if_neg (by rw [i32_lt] at h2 ⊢; omega)] at ha
      subst ha
      exact hb
    · rw [if_neg h2, nI_tc (by omega)]
      rw [i32_lt] at h2
      have ha2 : a = x := by
        by_cases h3 : x < 256
        · rw [if_pos h3] at ha; exact ha
        · rw [if_neg h3] at ha
          rw [i32_lt] at h3
          rw [ha]; apply i32_ext; omega
      subst ha2
      by_cases h4 : (16 : Int32) < a
      · rw [if_pos h4] at hb; exact hb
      · rw [if_neg h4] at hb
        rw [i32_lt] at h4
        rw [hb]; apply i32_ext; omega
def P0 (d : Nat) : Nat → Nat := fun j => if j = 4 then d + 2 else d + 10 + 7 * j
theorem P0_ok (d : Nat) : dkP d (P0 d) := by
  unfold P0
  refine ⟨fun j hj => ?_, fun i j hi hj hij => ?_⟩
  · dsimp only
    split <;> omega
  · dsimp only
    split <;> split <;> omega
set_option maxHeartbeats 4000000 in
set_option maxRecDepth 100000 in
/-- LogDisk(): four empty logs and an empty draft -/
theorem c_Disk_init (g : Gx) (l : Launch) (d : Nat) (sg bl : Int32) (H : Heap) (hz0 : H.size = d + 1) (he : ob g d 1 [.int 0, .null, .null, .null, .int 0, .int 0, .int 0] H) : HM g l yX1_init cX1_init 4 none 2 40 37 11145 [.ref d, .int sg, .int bl] H (fun r H1 => r = none ∧ dkAt g d (clampS sg) (clampB bl) (P0 d) (fun _ => lv0) (fun _ => 0) (-1) 0 0 H1 ∧ H1.size = d + 38 ∧ ∀ q : Nat, q < d → H1[q]? = H[q]?) (fG d) := by
  refine HM.ofW (by decide) (Nat.le_of_ble_eq_true rfl) (by simp [Value.category]) ?_
  intro p e s m args below meth c ls G hr hml hlocks hnm hH hl
  have hl : lh ls 4 [some (.ref d), some (.int sg), some (.int bl), none] := hl
  have hL : ∀ q ∈ ([] : List Loc), (fG d) q.base := fun q h => by cases h
  have hq0 : ∀ q : Nat, q < d → H[q]? = H[q]? := fun _ _ => rfl
  have hbB := clampB_in bl
  refine hb_aload_n G dX1_init_0 hl rfl ?_
  refine hb_obj G hml hl.size km_X1_1 dX1_init_1 (Nat.le_of_ble_eq_true rfl) (Nat.le_of_ble_eq_true rfl) ?_
  refine hb_aload_n G dX1_init_4 hl rfl ?_
  refine lv_iconst (v := 4) G.1 G.2.1 dX1_init_5 (by decide) ?_
  refine hb_newq (z := d + 1) (N := 4) G kc_X1_9 hz0 (by decide) rfl (by decide) (Nat.le_of_ble_eq_true rfl) (Nat.le_of_ble_eq_true rfl) dX1_init_6 (fun K1 hqa hz1 ho => ?_)
  have he := he.kept (ho d (by omega))
  have hq1 : ∀ q : Nat, q < d → K1[q]? = H[q]? := fun q h => (ho q (by omega)).trans (hq0 q h)
  refine hb_putF G he rfl inX1 tyX1 tyX1_ok nmX1 1 (by decide) kf_X1_11 rfl rfl hnm rfl rfl rfl (Nat.le_of_ble_eq_true rfl) hL (fG_mk (by omega)) dX1_init_9 (fun K2 locs2 he hz2 ho hL => ?_)
  have hz2 := hz2.trans hz1
  have hqa := hqa.kept (ho _ (by omega))
  have hq2 : ∀ q : Nat, q < d → K2[q]? = H[q]? := fun q h => (ho q (by omega)).trans (hq1 q h)
  refine hb_aload_n G dX1_init_12 hl rfl ?_
  refine hb_new (z := d + 2) (fs := [.null, .null, .int 0, .null, .null, .null, .null, .int 0, .int 0]) (ci := 0) G hz2 rfl inX0 tyX0 tyX0_ok kc_X1_9 kj_X0 kn_X0 (fun j hj => by rcases (show j = 0 ∨ j = 1 ∨ j = 2 ∨ j = 3 ∨ j = 4 ∨ j = 5 ∨ j = 6 ∨ j = 7 ∨ j = 8 by omega) with rfl | rfl | rfl | rfl | rfl | rfl | rfl | rfl | rfl <;> rfl) (Nat.le_of_ble_eq_true rfl) (Nat.le_of_ble_eq_true rfl) dX1_init_13 (fun K3 hn hz3 ho => ?_)
  have he := he.kept (ho _ (by omega))
  have hqa := hqa.kept (ho _ (by omega))
  have hq3 : ∀ q : Nat, q < d → K3[q]? = H[q]? := fun q h => (ho q (by omega)).trans (hq2 q h)
  refine lv_dup G.1 G.2.1 dX1_init_16 rfl ?_
  refine hb_callIN (As := []) (rest := [.ref (d + 2), .ref d]) G hml (c_Log_init g l (d + 2) _ hz3 hn) rfl G.2.2.2.2.2.1 ki_X0_init kn_X0 ko_X0_init hd_X0_init ⟨Nat.le_of_ble_eq_true rfl, Nat.le_of_ble_eq_true rfl⟩ hl.size rfl (Nat.le_of_ble_eq_true rfl) dX1_init_17 ⟨Nat.le_of_ble_eq_true rfl, Nat.le_of_ble_eq_true rfl⟩ hL (fun q h => fG_mk (Nat.le_trans (by omega) h)) (fun v1 K4 locs4 hp hL => ?_)
  obtain ⟨rfl, l4, hz4, ho⟩ := hp
  have he := he.kept (ho _ (by omega))
  have hqa := hqa.kept (ho _ (by omega))
  have hq4 : ∀ q : Nat, q < d → K4[q]? = H[q]? := fun q h => (ho q (by omega)).trans (hq3 q h)
  refine hb_put G he rfl inX1 tyX1 tyX1_ok nmX1 3 (by decide) kf_X1_16 rfl rfl rfl rfl (Nat.le_of_ble_eq_true rfl) hL (fG_mk (by omega)) dX1_init_20 (fun K5 locs5 he hz5 ho hL => ?_)
  have hz5 := hz5.trans hz4
  have hqa := hqa.kept (ho _ (by omega))
  have l4 := l4.kept (fun q h1 h2 => ho q (by omega))
  have hq5 : ∀ q : Nat, q < d → K5[q]? = H[q]? := fun q h => (ho q (by omega)).trans (hq4 q h)
  refine hb_aload_n G dX1_init_23 hl rfl ?_
  refine lv_iconst (v := (-1)) G.1 G.2.1 dX1_init_24 (by decide) ?_
  refine hb_put G he rfl inX1 tyX1 tyX1_ok nmX1 4 (by decide) kf_X1_20 rfl rfl rfl rfl (Nat.le_of_ble_eq_true rfl) hL (fG_mk (by omega)) dX1_init_25 (fun K6 locs6 he hz6 ho hL => ?_)
  have hz6 := hz6.trans hz5
  have hqa := hqa.kept (ho _ (by omega))
  have l4 := l4.kept (fun q h1 h2 => ho q (by omega))
  have hq6 : ∀ q : Nat, q < d → K6[q]? = H[q]? := fun q h => (ho q (by omega)).trans (hq5 q h)
  refine hb_aload_n G dX1_init_28 hl rfl ?_
  refine lv_iconst (v := 0) G.1 G.2.1 dX1_init_29 (by decide) ?_
  refine hb_put G he rfl inX1 tyX1 tyX1_ok nmX1 5 (by decide) kf_X1_24 rfl rfl rfl rfl (Nat.le_of_ble_eq_true rfl) hL (fG_mk (by omega)) dX1_init_30 (fun K7 locs7 he hz7 ho hL => ?_)
  have hz7 := hz7.trans hz6
  have hqa := hqa.kept (ho _ (by omega))
  have l4 := l4.kept (fun q h1 h2 => ho q (by omega))
  have hq7 : ∀ q : Nat, q < d → K7[q]? = H[q]? := fun q h => (ho q (by omega)).trans (hq6 q h)
  refine hb_aload_n G dX1_init_33 hl rfl ?_
  refine lv_iconst (v := 0) G.1 G.2.1 dX1_init_34 (by decide) ?_
  refine hb_put G he rfl inX1 tyX1 tyX1_ok nmX1 6 (by decide) kf_X1_28 rfl rfl rfl rfl (Nat.le_of_ble_eq_true rfl) hL (fG_mk (by omega)) dX1_init_35 (fun K8 locs8 he hz8 ho hL => ?_)
  have hz8 := hz8.trans hz7
  have hqa := hqa.kept (ho _ (by omega))
  have l4 := l4.kept (fun q h1 h2 => ho q (by omega))
  have hq8 : ∀ q : Nat, q < d → K8[q]? = H[q]? := fun q h => (ho q (by omega)).trans (hq7 q h)
  refine hb_aload_n G dX1_init_38 hl rfl ?_
  refine lv_iconst (v := 1) G.1 G.2.1 dX1_init_39 (by decide) ?_
  refine lv_bipush (v := 16) G.1 G.2.1 dX1_init_40 (by decide) ?_
  refine hb_iload_n G dX1_init_42 hl rfl ?_
  refine va_mmin G.1 G.2.1 (hml.trans hl.size.symm) G.2.2.1 (G.2.2.2.1 _ km_X1_31) (G.2.2.2.1 _ kt_Ma_min) (G.2.2.2.1 _ kn_Ma) (G.2.2.2.1 _ ko_Ma_min) (Nat.le_of_ble_eq_true rfl) (Nat.le_of_ble_eq_true rfl) (Nat.le_of_ble_eq_true rfl) (Nat.le_of_ble_eq_true rfl) dX1_init_43 ?_
  refine lv_topi (fun r_1 er_1 => ?_)
  refine va_mmax G.1 G.2.1 (hml.trans hl.size.symm) G.2.2.1 (G.2.2.2.1 _ km_X1_37) (G.2.2.2.1 _ kt_Ma_max) (G.2.2.2.1 _ kn_Ma) (G.2.2.2.1 _ ko_Ma_max) (Nat.le_of_ble_eq_true rfl) (Nat.le_of_ble_eq_true rfl) (Nat.le_of_ble_eq_true rfl) (Nat.le_of_ble_eq_true rfl) dX1_init_46 ?_
  refine lv_topi (fun r_2 er_2 => ?_)
  obtain rfl : r_2 = nI (clampS sg) := clampS_eq sg er_1 er_2
  refine hb_putF G he rfl inX1 tyX1 tyX1_ok nmX1 0 (by decide) kf_X1_40 rfl rfl hnm rfl rfl rfl (Nat.le_of_ble_eq_true rfl) hL (fG_mk (by omega)) dX1_init_49 (fun K9 locs9 he hz9 ho hL => ?_)
  have hz9 := hz9.trans hz8
  have hqa := hqa.kept (ho _ (by omega))
  have l4 := l4.kept (fun q h1 h2 => ho q (by omega))
  have hq9 : ∀ q : Nat, q < d → K9[q]? = H[q]? := fun q h => (ho q (by omega)).trans (hq8 q h)
  refine hb_aload_n G dX1_init_52 hl rfl ?_
  refine lv_bipush (v := 16) G.1 G.2.1 dX1_init_53 (by decide) ?_
  refine lv_sipush (v := 256) G.1 G.2.1 dX1_init_55 (by decide) ?_
  refine hb_iload_n G dX1_init_58 hl rfl ?_
  refine va_mmin G.1 G.2.1 (hml.trans hl.size.symm) G.2.2.1 (G.2.2.2.1 _ km_X1_31) (G.2.2.2.1 _ kt_Ma_min) (G.2.2.2.1 _ kn_Ma) (G.2.2.2.1 _ ko_Ma_min) (Nat.le_of_ble_eq_true rfl) (Nat.le_of_ble_eq_true rfl) (Nat.le_of_ble_eq_true rfl) (Nat.le_of_ble_eq_true rfl) dX1_init_59 ?_
  refine lv_topi (fun r_3 er_3 => ?_)
  refine va_mmax G.1 G.2.1 (hml.trans hl.size.symm) G.2.2.1 (G.2.2.2.1 _ km_X1_37) (G.2.2.2.1 _ kt_Ma_max) (G.2.2.2.1 _ kn_Ma) (G.2.2.2.1 _ ko_Ma_max) (Nat.le_of_ble_eq_true rfl) (Nat.le_of_ble_eq_true rfl) (Nat.le_of_ble_eq_true rfl) (Nat.le_of_ble_eq_true rfl) dX1_init_62 ?_
  refine lv_topi (fun r_4 er_4 => ?_)
  obtain rfl : r_4 = nI (clampB bl) := clampB_eq bl er_3 er_4
  refine hb_newi (z := d + 9) (N := clampB bl) G hz9 (nI_pos (by omega)) (nI_clamp (by omega)) (by omega) (Nat.le_of_ble_eq_true rfl) (by show 0 + 4 + 9 + 2168 + clampB bl ≤ 11145; omega) dX1_init_65 (fun K10 hbu hz10 ho => ?_)
  have he := he.kept (ho d (by omega))
  have hqa := hqa.kept (ho _ (by omega))
  have l4 := l4.kept (fun q h1 h2 => ho q (by omega))
  have hq10 : ∀ q : Nat, q < d → K10[q]? = H[q]? := fun q h => (ho q (by omega)).trans (hq9 q h)
  refine W.widen (k := 9) (n := 2437) (by omega) (by show 0 + 4 + 9 + 2168 + clampB bl ≤ 2437; omega) ?_
  refine hb_putF G he rfl inX1 tyX1 tyX1_ok nmX1 2 (by decide) kf_X1_43 rfl rfl hnm rfl rfl rfl (Nat.le_of_ble_eq_true rfl) hL (fG_mk (by omega)) dX1_init_67 (fun K11 locs11 he hz11 ho hL => ?_)
  have hz11 := hz11.trans hz10
  have hqa := hqa.kept (ho _ (by omega))
  have l4 := l4.kept (fun q h1 h2 => ho q (by omega))
  have hbu := hbu.kept (ho _ (by omega))
  have hq11 : ∀ q : Nat, q < d → K11[q]? = H[q]? := fun q h => (ho q (by omega)).trans (hq10 q h)
  refine lv_iconst (v := 0) G.1 G.2.1 dX1_init_70 (by decide) ?_
  refine hb_istore_n G dX1_init_71 hl (by decide) (fun ls hl => ?_)
  have hl : lh ls 4 [some (.ref d), some (.int sg), some (.int bl), some (.int 0)] := hl
  have lp : ∀ (k j : Nat) (b : Int32) (f : Nat → Option Nat) (K : Heap) (locs : List Loc) (ls : Array Slot), (4 + 1 ≤ j + k) → (j ≤ 4) → (b = nI j) → (ob g d 1 (dkFs d (clampS sg) (d + 2) (-1) 0 0) K) → (qa g (d + 1) 4 f K) → (∀ i, i < j → f i = some (P0 d i)) → (ia g (d + 9) (clampB bl) (fun _ => 0) K) → (lgAt g (d + 2) lv0 K) → (∀ i, i < j → lgAt g (d + 10 + 7 * i) lv0 K) → (K.size = d + 10 + 7 * j) → (∀ q : Nat, q < d → K[q]? = H[q]?) → (∀ q ∈ locs, (fG d) q.base) → lh ls 4 [some (.ref d), some (.int sg), some (.int bl), some (.int b)] → W p l e ({ frames := 2, cells := 37, slots := 11145, locals := 40 } : Room) s m args below meth c K locs (9 + 7 * j) (2437 + 2177 * j) (hQ below args s (fun r H1 => r = none ∧ dkAt g d (clampS sg) (clampB bl) (P0 d) (fun _ => lv0) (fun _ => 0) (-1) 0 0 H1 ∧ H1.size = d + 38 ∧ ∀ q : Nat, q < d → H1[q]? = H[q]?) 37 11145 (fG d)) (F0 m 72 ls []) := by
    intro k
    induction k with
    | zero =>
      intro j b f K locs ls hd hj eb he hqa hf hbu l4 hls hz hq hL hl
      exfalso; omega
    | succ k ih =>
      intro j b f K locs ls hd hj eb he hqa hf hbu l4 hls hz hq hL hl
      refine hb_iload_n G dX1_init_72 hl rfl ?_
      refine hb_aload_n G dX1_init_73 hl rfl ?_
      refine hb_get G he rfl inX1 1 (by decide) kf_X1_11 rfl rfl dX1_init_74 ?_
      refine hb_alen_q G hqa dX1_init_77 ?_
      refine lv_icmp_ge (tgt := 100) G.1 G.2.1 dX1_init_78 (by decide) (fun c_5 => ?_) (fun c_5 => ?_)
      · have hj2 : j = 4 := by have := (ic_le rfl eb (by omega) (by omega)).mp c_5; omega
        subst hj2
        refine hb_vret G hr hlocks ⟨rfl, ⟨he, hqa.ext hf, hbu, fun i hi => ?_, P0_ok d⟩, hz, hq⟩ hL (Nat.le_of_ble_eq_true rfl) (Nat.le_of_ble_eq_true rfl) dX1_init_100
        by_cases h4 : i = 4
        · subst h4; exact l4
        · have h9 : P0 d i = d + 10 + 7 * i := by unfold P0; rw [if_neg h4]
          rw [h9]; exact hls i (by omega)
      · have hj2 : j < 4 := by have := mt (ic_le rfl eb (by omega) (by omega)).mpr c_5; omega
        refine hb_aload_n G dX1_init_81 hl rfl ?_
        refine hb_get G he rfl inX1 1 (by decide) kf_X1_11 rfl rfl dX1_init_82 ?_
        refine hb_iload_n G dX1_init_85 hl rfl ?_
        refine hb_new (z := d + 10 + 7 * j) (fs := [.null, .null, .int 0, .null, .null, .null, .null, .int 0, .int 0]) (ci := 0) G hz rfl inX0 tyX0 tyX0_ok kc_X1_9 kj_X0 kn_X0 (fun j hj => by rcases (show j = 0 ∨ j = 1 ∨ j = 2 ∨ j = 3 ∨ j = 4 ∨ j = 5 ∨ j = 6 ∨ j = 7 ∨ j = 8 by omega) with rfl | rfl | rfl | rfl | rfl | rfl | rfl | rfl | rfl <;> rfl) (show 9 + 7 * j + 1 ≤ 37 by omega) (show 2437 + 2177 * j + 9 ≤ 11145 by omega) dX1_init_86 (fun K1 hn hz1 ho1 => ?_)
        refine lv_dup G.1 G.2.1 dX1_init_89 rfl ?_
        refine hb_callIN (As := []) (rest := [.ref (d + 10 + 7 * j), .int b, .ref (d + 1)]) G hml (c_Log_init g l (d + 10 + 7 * j) _ hz1 hn) rfl G.2.2.2.2.2.1 ki_X0_init kn_X0 ko_X0_init hd_X0_init ⟨Nat.le_of_ble_eq_true rfl, Nat.le_of_ble_eq_true rfl⟩ hl.size rfl (Nat.le_of_ble_eq_true rfl) dX1_init_90 ⟨show 9 + 7 * j + 1 + 6 ≤ 37 by omega, show 2437 + 2177 * j + 9 + 2168 ≤ 11145 by omega⟩ hL (fun q h => fG_mk (Nat.le_trans (by omega) h)) (fun v1 K2 locs2 hp hL => ?_)
        obtain ⟨rfl, ln, hz2, ho2⟩ := hp
        have hk : ∀ q : Nat, q < d + 10 + 7 * j → K2[q]? = K[q]? := fun q h => (ho2 q h).trans (ho1 q h)
        refine hb_qast G (hqa.kept (hk _ (by omega))) ln.1 (by rw [eb]; exact vp_in_nI hj2 (by decide)) hL (fG_mk (by omega)) dX1_init_93 (fun K3 locs3 hqa3 hz3 ho3 hL => ?_)
        rw [show b.toNatClampNeg = j by rw [eb]; exact nI_clamp (by omega)] at hqa3
        obtain ⟨t_6, et_6⟩ : ∃ z : Int32, z = b + 1 := ⟨_, rfl⟩
        refine hb_iinc (v := t_6) G dX1_init_94 hl rfl (by rw [et_6]; rfl) (by decide) (fun ls hl => ?_)
        have hl : lh ls 4 [some (.ref d), some (.int sg), some (.int bl), some (.int t_6)] := hl
        refine lv_goto (tgt := 72) G.1 G.2.1 dX1_init_97 (by decide) ?_
        have hk3 : ∀ q : Nat, q < d + 10 + 7 * j → q ≠ d + 1 → K3[q]? = K[q]? := fun q h h2 => (ho3 q h2).trans (hk q h)
        refine W.cs (cells' := 9 + 7 * (j + 1)) (slots' := 2437 + 2177 * (j + 1)) (by omega) (by omega) ?_
        exact ih (j + 1) t_6 _ K3 locs3 ls (by omega) (by omega) (by rw [et_6, eb]; exact nI_1 j) (he.kept (hk3 _ (by omega) (by omega))) hqa3 (fun i hi => by
            by_cases hij : i = j
            · subst hij
              rw [va_up_self]
              have h9 : P0 d i = d + 10 + 7 * i := by unfold P0; rw [if_neg (by omega)]
              rw [h9]
            · rw [va_up_ne _ _ hij]; exact hf i (by omega)) (hbu.kept (hk3 _ (by omega) (by omega))) (l4.kept (fun q h1 h2 => hk3 q (by omega) (by omega))) (fun i hi => by
            by_cases hij : i = j
            · subst hij; exact ln.kept (fun q h1 h2 => ho3 q (by omega))
            · exact (hls i (by omega)).kept (fun q h1 h2 => hk3 q (by omega) (by omega))) (by omega) (fun q h => (hk3 q (by omega) (by omega)).trans (hq q h)) hL hl
  exact lp 5 0 0 (fun _ => none) K11 locs11 ls (by omega) (by omega) rfl he hqa (fun i hi => absurd hi (by omega)) hbu l4 (fun i hi => absurd hi (by omega)) (by omega) hq11 hL hl
end
section
def Fo (a : Nat) (H H1 : Heap) : Prop := H1.size = H.size ∧ ∀ q : Nat, q ≠ a → H1[q]? = H[q]?
theorem Fo.rf {a : Nat} {H : Heap} : Fo a H H := ⟨rfl, fun _ _ => rfl⟩
theorem Fo.tr {a : Nat} {H H1 H2 : Heap} (h : Fo a H H1) (h2 : Fo a H1 H2) : Fo a H H2 := ⟨h2.1.trans h.1, fun q hq => (h2.2 q hq).trans (h.2 q hq)⟩
theorem Fo.fr {a x k : Nat} {H H1 : Heap} (h : Fo a H H1) (h1 : x ≤ a) (h2 : a < x + k) : Fr x k H H1 := Fr.one h.1 h.2 h1 h2
def mkSeg (B : Nat) (bu : Nat → Int32) (st : Int32) : Nat → (Nat → Int32)
  | 0 => bu
  | i + 1 => setV (mkSeg B bu st i) B (st + nI i) 1
def mkLog (B S : Nat) (v : LV) (bu : Nat → Int32) : Nat → (Nat → Int32)
  | 0 => bu
  | j + 1 => mkSeg B (mkLog B S v bu j) (v.1 0 j) S
def mkHd (B : Nat) : Nat → (Nat → Int32)
  | 0 => fun _ => 0
  | i + 1 => setV (mkHd B i) B (nI i) 1
def mkD (B S : Nat) (V : Nat → LV) : Nat → (Nat → Int32)
  | 0 => mkHd B 4
  | i + 1 => mkLog B S (V i) (mkD B S V i) (V i).2.1
def frun (bu : Nat → Int32) : Nat → Nat
  | 0 => 0
  | j + 1 => if bu j = 0 then frun bu j + 1 else 0
theorem frun_le (bu : Nat → Int32) : ∀ j, frun bu j ≤ j
  | 0 => Nat.le_refl 0
  | j + 1 => by
    have := frun_le bu j
    simp only [frun]
    split <;> omega
def ffr (bu : Nat → Int32) (S : Nat) : Nat → Nat → Int32
  | 0, _ => -1
  | d + 1, j => if frun bu (j + 1) = S then nI j - nI S + 1 else ffr bu S d (j + 1)
def swp {α : Type} (f : Nat → α) (j : Nat) : Nat → α := fun i => if i = j then f 4 else if i = 4 then f j else f i
def whD (tc n : Int32) : Int32 := if tc < n then tc else n
def whT (tc n : Int32) : Int32 := if tc = -1 then tc else tc - whD tc n
def whN (tc dn n : Int32) : Int32 := if tc = -1 then dn else if tc - whD tc n = 0 then 1 else 0
def whW (tc wr n : Int32) : Int32 := if tc = -1 then wr + n else wr + whD tc n
def whR (tc n : Int32) : Int32 := if tc = -1 then 1 else if whD tc n = n then 1 else 0
set_option maxHeartbeats 4000000 in
set_option maxRecDepth 100000 in
/-- segmentBytes -/
theorem c_segmentBytes (g : Gx) (l : Launch) (d S p4 : Nat) (tc dn wr : Int32) (H : Heap) (hd : ob g d 1 (dkFs d S p4 tc dn wr) H) : HM g l yX1_segmentBytes cX1_segmentBytes 1 (some .int) 0 0 0 0 [.ref d] H (fun r H1 => r = some (.int (nI S * 1024)) ∧ H1 = H) (f0) := by
  refine HM.ofW (by decide) (Nat.le_of_ble_eq_true rfl) (by simp [Value.category]) ?_
  intro p e s m args below meth c ls G hr hml hlocks hnm hH hl
  have hl : lh ls 1 [some (.ref d)] := hl
  have hL : ∀ q ∈ ([] : List Loc), (f0) q.base := fun q h => by cases h
  refine hb_aload_n G dX1_segmentBytes_0 hl rfl ?_
  refine hb_get G hd rfl inX1 0 (by decide) kf_X1_40 rfl rfl dX1_segmentBytes_1 ?_
  refine lv_sipush (v := 1024) G.1 G.2.1 dX1_segmentBytes_4 (by decide) ?_
  refine lv_imul G.1 G.2.1 dX1_segmentBytes_7 ?_
  refine lv_topi (fun t_1 et_1 => ?_)
  exact hb_iret G hr hlocks ⟨by simp only [*], rfl⟩ hL (Nat.le_refl _) (Nat.le_refl _) dX1_segmentBytes_8
set_option maxHeartbeats 4000000 in
set_option maxRecDepth 100000 in
/-- goes: i modulo k is 0 -/
theorem c_goes (g : Gx) (l : Launch) (i k : Int32) (H : Heap) (hk : 0 < k) : HM g l yX1_goes cX1_goes 2 (some .boolean) 0 0 0 0 [.int i, .int k] H (fun r H1 => r = some (.int (if i - i / k * k = 0 then 1 else 0)) ∧ H1 = H) (f0) := by
  refine HM.ofW (by decide) (Nat.le_of_ble_eq_true rfl) (by simp [Value.category]) ?_
  intro p e s m args below meth c ls G hr hml hlocks hnm hH hl
  have hl : lh ls 2 [some (.int i), some (.int k)] := hl
  have hL : ∀ q ∈ ([] : List Loc), (f0) q.base := fun q h => by cases h
  refine hb_iload_n G dX1_goes_0 hl rfl ?_
  refine lv_if_le (tgt := 14) G.1 G.2.1 dX1_goes_1 (by decide) (fun c_1 => ?_) (fun c_1 => ?_)
  · exact absurd hk (i32_nlt.mpr c_1)
  · refine hb_iload_n G dX1_goes_4 hl rfl ?_
    refine hb_iload_n G dX1_goes_5 hl rfl ?_
    refine lv_irem G.1 G.2.1 dX1_goes_6 (fun q => absurd hk (by rw [q]; decide)) ?_
    refine lv_topi (fun t_2 et_2 => ?_)
    refine lv_if_ne (tgt := 14) G.1 G.2.1 dX1_goes_7 (by decide) (fun c_3 => ?_) (fun c_3 => ?_)
    · refine lv_iconst (v := 0) G.1 G.2.1 dX1_goes_14 (by decide) ?_
      exact hb_zret G hr hlocks (by decide) ⟨by rw [if_neg (by rw [← et_2]; exact c_3)], rfl⟩ hL (Nat.le_refl _) (Nat.le_refl _) dX1_goes_15
    · refine lv_iconst (v := 1) G.1 G.2.1 dX1_goes_10 (by decide) ?_
      refine lv_goto (tgt := 15) G.1 G.2.1 dX1_goes_11 (by decide) ?_
      exact hb_zret G hr hlocks (by decide) ⟨by rw [if_pos (by rw [← et_2]; exact c_3)], rfl⟩ hL (Nat.le_refl _) (Nat.le_refl _) dX1_goes_15
set_option maxHeartbeats 4000000 in
set_option maxRecDepth 100000 in
/-- writeThroughHead -/
theorem c_writeThroughHead (g : Gx) (l : Launch) (d S p4 : Nat) (tc dn wr : Int32) (H : Heap) (hd : ob g d 1 (dkFs d S p4 tc dn wr) H) (n : Int32) : HM g l yX1_writeThroughHead cX1_writeThroughHead 3 (some .boolean) 1 30 0 0 [.ref d, .int n] H (fun r H1 => r = some (.int (whR tc n)) ∧ ob g d 1 (dkFs d S p4 (whT tc n) (whN tc dn n) (whW tc wr n)) H1 ∧ Fo d H H1) (f1 d) := by
  refine HM.ofW (by decide) (Nat.le_of_ble_eq_true rfl) (by simp [Value.category]) ?_
  intro p e s m args below meth c ls G hr hml hlocks hnm hH hl
  have hl : lh ls 3 [some (.ref d), some (.int n), none] := hl
  have hL : ∀ q ∈ ([] : List Loc), (f1 d) q.base := fun q h => by cases h
  refine hb_aload_n G dX1_writeThroughHead_0 hl rfl ?_
  refine hb_get G hd rfl inX1 4 (by decide) kf_X1_20 rfl rfl dX1_writeThroughHead_1 ?_
  refine lv_iconst (v := (-1)) G.1 G.2.1 dX1_writeThroughHead_4 (by decide) ?_
  refine lv_icmp_ne (tgt := 20) G.1 G.2.1 dX1_writeThroughHead_5 (by decide) (fun c_1 => ?_) (fun c_1 => ?_)
  · refine hb_iload_n G dX1_writeThroughHead_20 hl rfl ?_
    refine hb_aload_n G dX1_writeThroughHead_21 hl rfl ?_
    refine hb_get G hd rfl inX1 4 (by decide) kf_X1_20 rfl rfl dX1_writeThroughHead_22 ?_
    refine va_mmin G.1 G.2.1 (hml.trans hl.size.symm) G.2.2.1 (G.2.2.2.1 _ km_X1_31) (G.2.2.2.1 _ kt_Ma_min) (G.2.2.2.1 _ kn_Ma) (G.2.2.2.1 _ ko_Ma_min) (Nat.le_of_ble_eq_true rfl) (Nat.le_of_ble_eq_true rfl) (Nat.le_of_ble_eq_true rfl) (Nat.le_of_ble_eq_true rfl) dX1_writeThroughHead_25 ?_
    refine lv_topi (fun r_2 er_2 => ?_)
    have er_2 : r_2 = whD tc n := er_2
    refine hb_istore_n G dX1_writeThroughHead_28 hl (by decide) (fun ls hl => ?_)
    have hl : lh ls 3 [some (.ref d), some (.int n), some (.int r_2)] := hl
    refine hb_aload_n G dX1_writeThroughHead_29 hl rfl ?_
    refine lv_dup G.1 G.2.1 dX1_writeThroughHead_30 rfl ?_
    refine hb_get G hd rfl inX1 6 (by decide) kf_X1_28 rfl rfl dX1_writeThroughHead_31 ?_
    refine hb_iload_n G dX1_writeThroughHead_34 hl rfl ?_
    refine lv_iadd G.1 G.2.1 dX1_writeThroughHead_35 ?_
    refine lv_topi (fun t_3 et_3 => ?_)
    refine hb_put G hd rfl inX1 tyX1 tyX1_ok nmX1 6 (by decide) kf_X1_28 rfl rfl rfl rfl (Nat.le_of_ble_eq_true rfl) hL (rfl) dX1_writeThroughHead_36 (fun H1 locs1 hf1 hz1 ho1 hL => ?_)
    have hf1 : ob g d 1 (dkFs d S p4 tc dn t_3) H1 := hf1
    refine hb_aload_n G dX1_writeThroughHead_39 hl rfl ?_
    refine lv_dup G.1 G.2.1 dX1_writeThroughHead_40 rfl ?_
    refine hb_get G hf1 rfl inX1 4 (by decide) kf_X1_20 rfl rfl dX1_writeThroughHead_41 ?_
    refine hb_iload_n G dX1_writeThroughHead_44 hl rfl ?_
    refine lv_isub G.1 G.2.1 dX1_writeThroughHead_45 ?_
    refine lv_topi (fun t_4 et_4 => ?_)
    refine hb_put G hf1 rfl inX1 tyX1 tyX1_ok nmX1 4 (by decide) kf_X1_20 rfl rfl rfl rfl (Nat.le_of_ble_eq_true rfl) hL (rfl) dX1_writeThroughHead_46 (fun H2 locs2 hf2 hz2 ho2 hL => ?_)
    have hf2 : ob g d 1 (dkFs d S p4 t_4 dn t_3) H2 := hf2
    refine hb_aload_n G dX1_writeThroughHead_49 hl rfl ?_
    refine hb_aload_n G dX1_writeThroughHead_50 hl rfl ?_
    refine hb_get G hf2 rfl inX1 4 (by decide) kf_X1_20 rfl rfl dX1_writeThroughHead_51 ?_
    refine lv_if_ne (tgt := 61) G.1 G.2.1 dX1_writeThroughHead_54 (by decide) (fun c_5 => ?_) (fun c_5 => ?_)
    · refine lv_iconst (v := 0) G.1 G.2.1 dX1_writeThroughHead_61 (by decide) ?_
      refine hb_put G hf2 rfl inX1 tyX1 tyX1_ok nmX1 5 (by decide) kf_X1_24 rfl rfl rfl rfl (Nat.le_of_ble_eq_true rfl) hL (rfl) dX1_writeThroughHead_62 (fun H3 locs3 hf3 hz3 ho3 hL => ?_)
      have hf3 : ob g d 1 (dkFs d S p4 (whT tc n) (whN tc dn n) (whW tc wr n)) H3 := by
        unfold whT whN whW; rw [if_neg c_1, if_neg c_1, if_neg c_1, if_neg (by rw [← er_2, ← et_4]; exact c_5), ← er_2, ← et_4, ← et_3]; exact hf3
      have hF : Fo d H H3 := Fo.tr ⟨hz1, ho1⟩ (Fo.tr ⟨hz2, ho2⟩ ⟨hz3, ho3⟩)
      refine hb_iload_n G dX1_writeThroughHead_65 hl rfl ?_
      refine hb_iload_n G dX1_writeThroughHead_66 hl rfl ?_
      refine lv_icmp_ne (tgt := 74) G.1 G.2.1 dX1_writeThroughHead_67 (by decide) (fun c_6 => ?_) (fun c_6 => ?_)
      · refine lv_iconst (v := 0) G.1 G.2.1 dX1_writeThroughHead_74 (by decide) ?_
        exact hb_zret G hr hlocks (by decide) ⟨by unfold whR; rw [if_neg c_1, if_neg (by rw [← er_2]; exact c_6)], hf3, hF⟩ hL (Nat.le_refl _) (Nat.le_refl _) dX1_writeThroughHead_75
      · refine lv_iconst (v := 1) G.1 G.2.1 dX1_writeThroughHead_70 (by decide) ?_
        refine lv_goto (tgt := 75) G.1 G.2.1 dX1_writeThroughHead_71 (by decide) ?_
        exact hb_zret G hr hlocks (by decide) ⟨by unfold whR; rw [if_neg c_1, if_pos (by rw [← er_2]; exact c_6)], hf3, hF⟩ hL (Nat.le_refl _) (Nat.le_refl _) dX1_writeThroughHead_75
    · refine lv_iconst (v := 1) G.1 G.2.1 dX1_writeThroughHead_57 (by decide) ?_
      refine lv_goto (tgt := 62) G.1 G.2.1 dX1_writeThroughHead_58 (by decide) ?_
      refine hb_put G hf2 rfl inX1 tyX1 tyX1_ok nmX1 5 (by decide) kf_X1_24 rfl rfl rfl rfl (Nat.le_of_ble_eq_true rfl) hL (rfl) dX1_writeThroughHead_62 (fun H3 locs3 hf3 hz3 ho3 hL => ?_)
      have hf3 : ob g d 1 (dkFs d S p4 (whT tc n) (whN tc dn n) (whW tc wr n)) H3 := by
        unfold whT whN whW; rw [if_neg c_1, if_neg c_1, if_neg c_1, if_pos (by rw [← er_2, ← et_4]; exact c_5), ← er_2, ← et_4, ← et_3]; exact hf3
      have hF : Fo d H H3 := Fo.tr ⟨hz1, ho1⟩ (Fo.tr ⟨hz2, ho2⟩ ⟨hz3, ho3⟩)
      refine hb_iload_n G dX1_writeThroughHead_65 hl rfl ?_
      refine hb_iload_n G dX1_writeThroughHead_66 hl rfl ?_
      refine lv_icmp_ne (tgt := 74) G.1 G.2.1 dX1_writeThroughHead_67 (by decide) (fun c_7 => ?_) (fun c_7 => ?_)
      · refine lv_iconst (v := 0) G.1 G.2.1 dX1_writeThroughHead_74 (by decide) ?_
        exact hb_zret G hr hlocks (by decide) ⟨by unfold whR; rw [if_neg c_1, if_neg (by rw [← er_2]; exact c_7)], hf3, hF⟩ hL (Nat.le_refl _) (Nat.le_refl _) dX1_writeThroughHead_75
      · refine lv_iconst (v := 1) G.1 G.2.1 dX1_writeThroughHead_70 (by decide) ?_
        refine lv_goto (tgt := 75) G.1 G.2.1 dX1_writeThroughHead_71 (by decide) ?_
        exact hb_zret G hr hlocks (by decide) ⟨by unfold whR; rw [if_neg c_1, if_pos (by rw [← er_2]; exact c_7)], hf3, hF⟩ hL (Nat.le_refl _) (Nat.le_refl _) dX1_writeThroughHead_75
  · have h1 : tc = -1 := c_1
    refine hb_aload_n G dX1_writeThroughHead_8 hl rfl ?_
    refine lv_dup G.1 G.2.1 dX1_writeThroughHead_9 rfl ?_
    refine hb_get G hd rfl inX1 6 (by decide) kf_X1_28 rfl rfl dX1_writeThroughHead_10 ?_
    refine hb_iload_n G dX1_writeThroughHead_13 hl rfl ?_
    refine lv_iadd G.1 G.2.1 dX1_writeThroughHead_14 ?_
    refine lv_topi (fun t_8 et_8 => ?_)
    refine hb_put G hd rfl inX1 tyX1 tyX1_ok nmX1 6 (by decide) kf_X1_28 rfl rfl rfl rfl (Nat.le_of_ble_eq_true rfl) hL (rfl) dX1_writeThroughHead_15 (fun H1 locs1 hf hz ho hL => ?_)
    refine lv_iconst (v := 1) G.1 G.2.1 dX1_writeThroughHead_18 (by decide) ?_
    refine hb_zret G hr hlocks (by decide) ⟨by unfold whR; rw [if_pos h1], ?_, hz, ho⟩ hL (Nat.le_refl _) (Nat.le_refl _) dX1_writeThroughHead_19
    unfold whT whN whW; rw [if_pos h1, if_pos h1, if_pos h1, ← et_8]; exact hf
set_option maxHeartbeats 4000000 in
set_option maxRecDepth 100000 in
/-- Arrays.fill -/
theorem c_fill (g : Gx) (l : Launch) (a k : Nat) (f : Nat → Int32) (z : Int32) (H : Heap) (hk : k ≤ 512) (ha : ia g a k f H) : HM g l yJ_fill cJ_fill 4 none 0 0 0 0 [.ref a, .int z] H (fun r H1 => r = none ∧ ia g a k (fun _ => z) H1 ∧ Fo a H H1) (f1 a) := by
  refine HM.ofW (by decide) (Nat.le_of_ble_eq_true rfl) (by simp [Value.category]) ?_
  intro p e s m args below meth c ls G hr hml hlocks hnm hH hl
  have hl : lh ls 4 [some (.ref a), some (.int z), none, none] := hl
  have hL : ∀ q ∈ ([] : List Loc), (f1 a) q.base := fun q h => by cases h
  refine lv_iconst (v := 0) G.1 G.2.1 dJ_fill_0 (by decide) ?_
  refine hb_istore_n G dJ_fill_1 hl (by decide) (fun ls hl => ?_)
  have hl : lh ls 4 [some (.ref a), some (.int z), some (.int 0), none] := hl
  refine hb_aload_n G dJ_fill_2 hl rfl ?_
  refine hb_alen_i G ha dJ_fill_3 ?_
  refine hb_istore_n G dJ_fill_4 hl (by decide) (fun ls hl => ?_)
  have hl : lh ls 4 [some (.ref a), some (.int z), some (.int 0), some (.int (nI k))] := hl
  have lp : ∀ (d j : Nat) (b : Int32) (fk : Nat → Int32) (K : Heap) (locs : List Loc) (ls : Array Slot), (k + 1 ≤ j + d) → (j ≤ k) → (b = nI j) → (ia g a k fk K) → (∀ i, i < j → fk i = z) → (Fo a H K) → (∀ q ∈ locs, (f1 a) q.base) → lh ls 4 [some (.ref a), some (.int z), some (.int b), some (.int (nI k))] → W p l e ({ frames := 0, cells := 0, slots := 0, locals := 0 } : Room) s m args below meth c K locs 0 0 (hQ below args s (fun r H1 => r = none ∧ ia g a k (fun _ => z) H1 ∧ Fo a H H1) 0 0 (f1 a)) (F0 m 5 ls []) := by
    intro d
    induction d with
    | zero =>
      intro j b fk K locs ls hd hj eb hK hf hF hL hl
      exfalso; omega
    | succ d ih =>
      intro j b fk K locs ls hd hj eb hK hf hF hL hl
      refine hb_iload_n G dJ_fill_5 hl rfl ?_
      refine hb_iload_n G dJ_fill_6 hl rfl ?_
      refine lv_icmp_ge (tgt := 20) G.1 G.2.1 dJ_fill_7 (by decide) (fun c_1 => ?_) (fun c_1 => ?_)
      · have hj2 : j = k := by have := (ic_le rfl eb (by omega) (by omega)).mp c_1; omega
        subst hj2
        exact hb_vret G hr hlocks ⟨rfl, hK.ext hf, hF⟩ hL (Nat.le_refl _) (Nat.le_refl _) dJ_fill_20
      · have hj2 : j < k := by have := mt (ic_le rfl eb (by omega) (by omega)).mpr c_1; omega
        refine hb_aload_n G dJ_fill_10 hl rfl ?_
        refine hb_iload_n G dJ_fill_11 hl rfl ?_
        refine hb_iload_n G dJ_fill_12 hl rfl ?_
        refine hb_iast G hK (by rw [eb]; exact vp_in_nI hj2 (by omega)) hL rfl dJ_fill_13 (fun K1 locs1 hK1 hz1 ho1 hL => ?_)
        rw [show b.toNatClampNeg = j by rw [eb]; exact nI_clamp (by omega)] at hK1
        obtain ⟨t_2, et_2⟩ : ∃ z : Int32, z = b + 1 := ⟨_, rfl⟩
        refine hb_iinc (v := t_2) G dJ_fill_14 hl rfl (by rw [et_2]; rfl) (by decide) (fun ls hl => ?_)
        have hl : lh ls 4 [some (.ref a), some (.int z), some (.int t_2), some (.int (nI k))] := hl
        refine lv_goto (tgt := 5) G.1 G.2.1 dJ_fill_17 (by decide) ?_
        exact ih (j + 1) t_2 _ K1 locs1 ls (by omega) (by omega) (by rw [et_2, eb]; exact nI_1 j) hK1 (fun i hi => by
            by_cases hij : i = j
            · subst hij; exact pk_us
            · rw [pk_un hij]; exact hf i (by omega)) (hF.tr ⟨hz1, ho1⟩) hL hl
  exact lp (k + 1) 0 0 f H [] ls (by omega) (by omega) rfl ha (fun i hi => absurd hi (by omega)) Fo.rf hL hl
set_option maxHeartbeats 4000000 in
set_option maxRecDepth 100000 in
/-- markSegment -/
theorem c_markSegment (g : Gx) (l : Launch) (d S p4 : Nat) (tc dn wr : Int32) (H : Heap) (hd : ob g d 1 (dkFs d S p4 tc dn wr) H) (B : Nat) (bu : Nat → Int32) (hB : B ≤ 256) (hS : S ≤ 16) (hb : ia g (d + 9) B bu H) (st : Int32) : HM g l yX1_markSegment cX1_markSegment 3 none 1 22 0 0 [.ref d, .int st] H (fun r H1 => r = none ∧ ia g (d + 9) B (mkSeg B bu st S) H1 ∧ Fo (d + 9) H H1) (f1 (d + 9)) := by
  refine HM.ofW (by decide) (Nat.le_of_ble_eq_true rfl) (by simp [Value.category]) ?_
  intro p e s m args below meth c ls G hr hml hlocks hnm hH hl
  have hl : lh ls 3 [some (.ref d), some (.int st), none] := hl
  have hL : ∀ q ∈ ([] : List Loc), (f1 (d + 9)) q.base := fun q h => by cases h
  have lp : ∀ (k j : Nat) (b : Int32) (K : Heap) (locs : List Loc) (ls : Array Slot), (S + 1 ≤ j + k) → (j ≤ S) → (b = nI j) → (ia g (d + 9) B (mkSeg B bu st j) K) → (Fo (d + 9) H K) → (∀ q ∈ locs, (f1 (d + 9)) q.base) → lh ls 3 [some (.ref d), some (.int st), some (.int b)] → W p l e ({ frames := 1, cells := 0, slots := 0, locals := 22 } : Room) s m args below meth c K locs 0 0 (hQ below args s (fun r H1 => r = none ∧ ia g (d + 9) B (mkSeg B bu st S) H1 ∧ Fo (d + 9) H H1) 0 0 (f1 (d + 9))) (F0 m 2 ls []) := by
    intro k
    induction k with
    | zero =>
      intro j b K locs ls hd9 hj eb hK hF hL hl
      exfalso; omega
    | succ k ih =>
      intro j b K locs ls hd9 hj eb hK hF hL hl
      have hdK := hd.kept (hF.2 d (by omega))
      refine hb_iload_n G dX1_markSegment_2 hl rfl ?_
      refine hb_aload_n G dX1_markSegment_3 hl rfl ?_
      refine hb_get G hdK rfl inX1 0 (by decide) kf_X1_40 rfl rfl dX1_markSegment_4 ?_
      refine lv_icmp_ge (tgt := 27) G.1 G.2.1 dX1_markSegment_7 (by decide) (fun c_1 => ?_) (fun c_1 => ?_)
      · have hj2 : j = S := by have := (ic_le rfl eb (by omega) (by omega)).mp c_1; omega
        subst hj2
        exact hb_vret G hr hlocks ⟨rfl, hK, hF⟩ hL (Nat.le_refl _) (Nat.le_refl _) dX1_markSegment_27
      · have hj2 : j < S := by have := mt (ic_le rfl eb (by omega) (by omega)).mpr c_1; omega
        refine hb_aload_n G dX1_markSegment_10 hl rfl ?_
        refine hb_get G hdK rfl inX1 2 (by decide) kf_X1_43 rfl rfl dX1_markSegment_11 ?_
        refine hb_iload_n G dX1_markSegment_14 hl rfl ?_
        refine hb_iload_n G dX1_markSegment_15 hl rfl ?_
        refine lv_iadd G.1 G.2.1 dX1_markSegment_16 ?_
        refine lv_topi (fun t_2 et_2 => ?_)
        refine lv_iconst (v := 1) G.1 G.2.1 dX1_markSegment_17 (by decide) ?_
        refine hb_callS (As := [.ref (d + 9), .int t_2, .int 1]) (rest := []) G hml (c_set g l (d + 9) B _ t_2 1 _ (by omega) hK) km_X1_190 kt_X1_set kn_X1 ko_X1_set hd_X1_set ⟨Nat.le_of_ble_eq_true rfl, Nat.le_of_ble_eq_true rfl⟩ hl.size rfl (Nat.le_of_ble_eq_true rfl) dX1_markSegment_18 ⟨Nat.le_of_ble_eq_true rfl, Nat.le_of_ble_eq_true rfl⟩ hL (f1_in rfl) (fun v1 K1 locs1 hp hL => ?_)
        obtain ⟨rfl, hK1, hz1, ho1⟩ := hp
        rw [et_2, eb] at hK1
        obtain ⟨t_3, et_3⟩ : ∃ z : Int32, z = b + 1 := ⟨_, rfl⟩
        refine hb_iinc (v := t_3) G dX1_markSegment_21 hl rfl (by rw [et_3]; rfl) (by decide) (fun ls hl => ?_)
        have hl : lh ls 3 [some (.ref d), some (.int st), some (.int t_3)] := hl
        refine lv_goto (tgt := 2) G.1 G.2.1 dX1_markSegment_24 (by decide) ?_
        exact ih (j + 1) t_3 K1 locs1 ls (by omega) (by omega) (by rw [et_3, eb]; exact nI_1 j) hK1 (hF.tr ⟨hz1, ho1⟩) hL hl
  refine lv_iconst (v := 0) G.1 G.2.1 dX1_markSegment_0 (by decide) ?_
  refine hb_istore_n G dX1_markSegment_1 hl (by decide) (fun ls hl => ?_)
  have hl : lh ls 3 [some (.ref d), some (.int st), some (.int 0)] := hl
  exact lp (S + 1) 0 0 H [] ls (by omega) (by omega) rfl hb Fo.rf hL hl
set_option maxHeartbeats 4000000 in
set_option maxRecDepth 100000 in
/-- markSegmentsOf -/
theorem c_markSegmentsOf (g : Gx) (l : Launch) (d S p4 : Nat) (tc dn wr : Int32) (H : Heap) (hd : ob g d 1 (dkFs d S p4 tc dn wr) H) (B : Nat) (bu : Nat → Int32) (hB : B ≤ 256) (hS : S ≤ 16) (hb : ia g (d + 9) B bu H) (x : Nat) (v : LV) (hv : lgOk v) (hg : lgAt g x v H) (hx : x + 7 ≤ d + 9 ∨ d + 10 ≤ x) : HM g l yX1_markSegmentsOf cX1_markSegmentsOf 3 none 2 44 0 0 [.ref d, .ref x] H (fun r H1 => r = none ∧ ia g (d + 9) B (mkLog B S v bu v.2.1) H1 ∧ Fo (d + 9) H H1) (f1 (d + 9)) := by
  refine HM.ofW (by decide) (Nat.le_of_ble_eq_true rfl) (by simp [Value.category]) ?_
  intro p e s m args below meth c ls G hr hml hlocks hnm hH hl
  have hl : lh ls 3 [some (.ref d), some (.ref x), none] := hl
  have hL : ∀ q ∈ ([] : List Loc), (f1 (d + 9)) q.base := fun q h => by cases h
  have hv1 := hv.1
  have lp : ∀ (k j : Nat) (b : Int32) (K : Heap) (locs : List Loc) (ls : Array Slot), (v.2.1 + 1 ≤ j + k) → (j ≤ v.2.1) → (b = nI j) → (ia g (d + 9) B (mkLog B S v bu j) K) → (Fo (d + 9) H K) → (∀ q ∈ locs, (f1 (d + 9)) q.base) → lh ls 3 [some (.ref d), some (.ref x), some (.int b)] → W p l e ({ frames := 2, cells := 0, slots := 0, locals := 44 } : Room) s m args below meth c K locs 0 0 (hQ below args s (fun r H1 => r = none ∧ ia g (d + 9) B (mkLog B S v bu v.2.1) H1 ∧ Fo (d + 9) H H1) 0 0 (f1 (d + 9))) (F0 m 2 ls []) := by
    intro k
    induction k with
    | zero =>
      intro j b K locs ls hd9 hj eb hK hF hL hl
      exfalso; omega
    | succ k ih =>
      intro j b K locs ls hd9 hj eb hK hF hL hl
      have hdK := hd.kept (hF.2 d (by omega))
      have hgK := hg.kept (fun q h1 h2 => hF.2 q (by omega))
      refine hb_iload_n G dX1_markSegmentsOf_2 hl rfl ?_
      refine hb_aload_n G dX1_markSegmentsOf_3 hl rfl ?_
      refine hb_get G hgK.1 rfl inX0 2 (by decide) kf_X1_129 rfl rfl dX1_markSegmentsOf_4 ?_
      refine lv_icmp_ge (tgt := 28) G.1 G.2.1 dX1_markSegmentsOf_7 (by decide) (fun c_1 => ?_) (fun c_1 => ?_)
      · have hj2 : j = v.2.1 := by have := (ic_le rfl eb (by omega) (by omega)).mp c_1; omega
        subst hj2
        exact hb_vret G hr hlocks ⟨rfl, hK, hF⟩ hL (Nat.le_refl _) (Nat.le_refl _) dX1_markSegmentsOf_28
      · have hj2 : j < v.2.1 := by have := mt (ic_le rfl eb (by omega) (by omega)).mpr c_1; omega
        refine hb_aload_n G dX1_markSegmentsOf_10 hl rfl ?_
        refine hb_aload_n G dX1_markSegmentsOf_11 hl rfl ?_
        refine hb_get G hgK.1 rfl inX0 0 (by decide) kf_X1_197 rfl rfl dX1_markSegmentsOf_12 ?_
        refine hb_iload_n G dX1_markSegmentsOf_15 hl rfl ?_
        refine hb_callS (As := [.ref (x + 1), .int b]) (rest := [.ref d]) G hml (c_at g l (x + 1) 60 (v.1 0) b _ (by decide) (hgK.2 0 (by decide))) km_X1_138 kt_X1_at kn_X1 ko_X1_at hd_X1_at ⟨Nat.le_of_ble_eq_true rfl, Nat.le_of_ble_eq_true rfl⟩ hl.size rfl (Nat.le_of_ble_eq_true rfl) dX1_markSegmentsOf_16 ⟨Nat.le_of_ble_eq_true rfl, Nat.le_of_ble_eq_true rfl⟩ hL (f0_in) (fun v1 K locs hp hL => ?_)
        obtain ⟨rfl, rfl⟩ := hp
        refine lv_topi (fun r_2 er_2 => ?_)
        obtain rfl : r_2 = v.1 0 j := by rw [er_2, eb, atV_in (by omega) (by decide)]
        refine hb_callV (As := [.int (v.1 0 j)]) (rest := []) G hml (c_markSegment g l d S p4 tc dn wr _ hdK B _ hB hS hK (v.1 0 j)) (hdK) rfl km_X1_181 ki_X1_markSegment ks_X1_markSegment kn_X1 ko_X1_markSegment hd_X1_markSegment ⟨Nat.le_of_ble_eq_true rfl, Nat.le_of_ble_eq_true rfl⟩ hl.size rfl (Nat.le_of_ble_eq_true rfl) dX1_markSegmentsOf_19 ⟨Nat.le_of_ble_eq_true rfl, Nat.le_of_ble_eq_true rfl⟩ hL (fun q h => h) (fun v1 K1 locs1 hp hL => ?_)
        obtain ⟨rfl, hK1, hF1⟩ := hp
        obtain ⟨t_3, et_3⟩ : ∃ z : Int32, z = b + 1 := ⟨_, rfl⟩
        refine hb_iinc (v := t_3) G dX1_markSegmentsOf_22 hl rfl (by rw [et_3]; rfl) (by decide) (fun ls hl => ?_)
        have hl : lh ls 3 [some (.ref d), some (.ref x), some (.int t_3)] := hl
        refine lv_goto (tgt := 2) G.1 G.2.1 dX1_markSegmentsOf_25 (by decide) ?_
        exact ih (j + 1) t_3 K1 locs1 ls (by omega) (by omega) (by rw [et_3, eb]; exact nI_1 j) hK1 (hF.tr hF1) hL hl
  refine lv_iconst (v := 0) G.1 G.2.1 dX1_markSegmentsOf_0 (by decide) ?_
  refine hb_istore_n G dX1_markSegmentsOf_1 hl (by decide) (fun ls hl => ?_)
  have hl : lh ls 3 [some (.ref d), some (.ref x), some (.int 0)] := hl
  exact lp (v.2.1 + 1) 0 0 H [] ls (by omega) (by omega) rfl hb Fo.rf hL hl
set_option maxHeartbeats 4000000 in
set_option maxRecDepth 100000 in
/-- firstFreeRun -/
theorem c_firstFreeRun (g : Gx) (l : Launch) (d S p4 : Nat) (tc dn wr : Int32) (H : Heap) (hd : ob g d 1 (dkFs d S p4 tc dn wr) H) (B : Nat) (bu : Nat → Int32) (hB : B ≤ 256) (hS : S ≤ 16) (hb : ia g (d + 9) B bu H) : HM g l yX1_firstFreeRun cX1_firstFreeRun 3 (some .int) 0 0 0 0 [.ref d] H (fun r H1 => r = some (.int (ffr bu S B 0)) ∧ H1 = H) (f0) := by
  refine HM.ofW (by decide) (Nat.le_of_ble_eq_true rfl) (by simp [Value.category]) ?_
  intro p e s m args below meth c ls G hr hml hlocks hnm hH hl
  have hl : lh ls 3 [some (.ref d), none, none] := hl
  have hL : ∀ q ∈ ([] : List Loc), (f0) q.base := fun q h => by cases h
  have lp : ∀ (k j : Nat) (a b : Int32)  (locs : List Loc) (ls : Array Slot), (B + 1 ≤ j + k) → (j ≤ B) → (a = nI (frun bu j)) → (b = nI j) → (ffr bu S B 0 = ffr bu S (B - j) j) → (∀ q ∈ locs, (f0) q.base) → lh ls 3 [some (.ref d), some (.int a), some (.int b)] → W p l e ({ frames := 0, cells := 0, slots := 0, locals := 0 } : Room) s m args below meth c H locs 0 0 (hQ below args s (fun r H1 => r = some (.int (ffr bu S B 0)) ∧ H1 = H) 0 0 (f0)) (F0 m 4 ls []) := by
    intro k
    induction k with
    | zero =>
      intro j a b  locs ls hd9 hj ea eb hi hL hl
      exfalso; omega
    | succ k ih =>
      intro j a b  locs ls hd9 hj ea eb hi hL hl
      have hfl := frun_le bu j
      refine hb_iload_n G dX1_firstFreeRun_4 hl rfl ?_
      refine hb_aload_n G dX1_firstFreeRun_5 hl rfl ?_
      refine hb_get G hd rfl inX1 2 (by decide) kf_X1_43 rfl rfl dX1_firstFreeRun_6 ?_
      refine hb_alen_i G hb dX1_firstFreeRun_9 ?_
      refine lv_icmp_ge (tgt := 53) G.1 G.2.1 dX1_firstFreeRun_10 (by decide) (fun c_1 => ?_) (fun c_1 => ?_)
      · have hj2 : j = B := by have := (ic_le rfl eb (by omega) (by omega)).mp c_1; omega
        refine lv_iconst (v := (-1)) G.1 G.2.1 dX1_firstFreeRun_53 (by decide) ?_
        exact hb_iret G hr hlocks ⟨by rw [hi, show B - j = 0 by omega]; rfl, rfl⟩ hL (Nat.le_refl _) (Nat.le_refl _) dX1_firstFreeRun_54
      · have hj2 : j < B := by have := mt (ic_le rfl eb (by omega) (by omega)).mpr c_1; omega
        have hs9 : ffr bu S (B - j) j = if frun bu (j + 1) = S then nI j - nI S + 1 else ffr bu S (B - (j + 1)) (j + 1) := by rw [show B - j = (B - (j + 1)) + 1 by omega]; rfl
        refine hb_aload_n G dX1_firstFreeRun_13 hl rfl ?_
        refine hb_get G hd rfl inX1 2 (by decide) kf_X1_43 rfl rfl dX1_firstFreeRun_14 ?_
        refine hb_iload_n G dX1_firstFreeRun_17 hl rfl ?_
        refine hb_iald G hb (by rw [eb]; exact vp_in_nI hj2 (by omega)) dX1_firstFreeRun_18 ?_
        refine lv_topi (fun r_2 er_2 => ?_)
        have er_2 : r_2 = bu j := by rw [er_2, show b.toNatClampNeg = j by rw [eb]; exact nI_clamp (by omega)]
        refine lv_if_ne (tgt := 28) G.1 G.2.1 dX1_firstFreeRun_19 (by decide) (fun c_3 => ?_) (fun c_3 => ?_)
        · have hr1 : frun bu (j + 1) = 0 := by simp only [frun]; rw [if_neg (by rw [← er_2]; exact c_3)]
          refine lv_iconst (v := 0) G.1 G.2.1 dX1_firstFreeRun_28 (by decide) ?_
          refine hb_istore_n G dX1_firstFreeRun_29 hl (by decide) (fun ls hl => ?_)
          have hl : lh ls 3 [some (.ref d), some (.int 0), some (.int b)] := hl
          refine hb_iload_n G dX1_firstFreeRun_30 hl rfl ?_
          refine hb_aload_n G dX1_firstFreeRun_31 hl rfl ?_
          refine hb_get G hd rfl inX1 0 (by decide) kf_X1_40 rfl rfl dX1_firstFreeRun_32 ?_
          have er1 : (0 : Int32) = nI (frun bu (j + 1)) := by rw [hr1]; rfl
          refine lv_icmp_ne (tgt := 47) G.1 G.2.1 dX1_firstFreeRun_35 (by decide) (fun c_4 => ?_) (fun c_4 => ?_)
          · have hne : ¬ frun bu (j + 1) = S := fun h9 => c_4 (by rw [er1, h9])
            obtain ⟨t_5, et_5⟩ : ∃ z : Int32, z = b + 1 := ⟨_, rfl⟩
            refine hb_iinc (v := t_5) G dX1_firstFreeRun_47 hl rfl (by rw [et_5]; rfl) (by decide) (fun ls hl => ?_)
            have hl : lh ls 3 [some (.ref d), some (.int 0), some (.int t_5)] := hl
            refine lv_goto (tgt := 4) G.1 G.2.1 dX1_firstFreeRun_50 (by decide) ?_
            exact ih (j + 1) 0 t_5 locs ls (by omega) (by omega) er1 (by rw [et_5, eb]; exact nI_1 j) (by rw [hi, hs9, if_neg hne]) hL hl
          · have he1 : frun bu (j + 1) = S := (nI_eq (by omega) (by omega)).mp (er1.symm.trans (c_4))
            refine hb_iload_n G dX1_firstFreeRun_38 hl rfl ?_
            refine hb_aload_n G dX1_firstFreeRun_39 hl rfl ?_
            refine hb_get G hd rfl inX1 0 (by decide) kf_X1_40 rfl rfl dX1_firstFreeRun_40 ?_
            refine lv_isub G.1 G.2.1 dX1_firstFreeRun_43 ?_
            refine lv_topi (fun t_6 et_6 => ?_)
            refine lv_iconst (v := 1) G.1 G.2.1 dX1_firstFreeRun_44 (by decide) ?_
            refine lv_iadd G.1 G.2.1 dX1_firstFreeRun_45 ?_
            refine lv_topi (fun t_7 et_7 => ?_)
            exact hb_iret G hr hlocks ⟨by rw [hi, hs9, if_pos he1]; simp only [*], rfl⟩ hL (Nat.le_refl _) (Nat.le_refl _) dX1_firstFreeRun_46
        · have hr1 : frun bu (j + 1) = frun bu j + 1 := by simp only [frun]; rw [if_pos (by rw [← er_2]; exact c_3)]
          refine hb_iload_n G dX1_firstFreeRun_22 hl rfl ?_
          refine lv_iconst (v := 1) G.1 G.2.1 dX1_firstFreeRun_23 (by decide) ?_
          refine lv_iadd G.1 G.2.1 dX1_firstFreeRun_24 ?_
          refine lv_topi (fun t_8 et_8 => ?_)
          refine lv_goto (tgt := 29) G.1 G.2.1 dX1_firstFreeRun_25 (by decide) ?_
          refine hb_istore_n G dX1_firstFreeRun_29 hl (by decide) (fun ls hl => ?_)
          have hl : lh ls 3 [some (.ref d), some (.int t_8), some (.int b)] := hl
          refine hb_iload_n G dX1_firstFreeRun_30 hl rfl ?_
          refine hb_aload_n G dX1_firstFreeRun_31 hl rfl ?_
          refine hb_get G hd rfl inX1 0 (by decide) kf_X1_40 rfl rfl dX1_firstFreeRun_32 ?_
          have er1 : t_8 = nI (frun bu (j + 1)) := by rw [hr1, et_8, ea]; exact nI_1 _
          refine lv_icmp_ne (tgt := 47) G.1 G.2.1 dX1_firstFreeRun_35 (by decide) (fun c_9 => ?_) (fun c_9 => ?_)
          · have hne : ¬ frun bu (j + 1) = S := fun h9 => c_9 (by rw [er1, h9])
            obtain ⟨t_10, et_10⟩ : ∃ z : Int32, z = b + 1 := ⟨_, rfl⟩
            refine hb_iinc (v := t_10) G dX1_firstFreeRun_47 hl rfl (by rw [et_10]; rfl) (by decide) (fun ls hl => ?_)
            have hl : lh ls 3 [some (.ref d), some (.int t_8), some (.int t_10)] := hl
            refine lv_goto (tgt := 4) G.1 G.2.1 dX1_firstFreeRun_50 (by decide) ?_
            exact ih (j + 1) t_8 t_10 locs ls (by omega) (by omega) er1 (by rw [et_10, eb]; exact nI_1 j) (by rw [hi, hs9, if_neg hne]) hL hl
          · have he1 : frun bu (j + 1) = S := (nI_eq (by omega) (by omega)).mp (er1.symm.trans (c_9))
            refine hb_iload_n G dX1_firstFreeRun_38 hl rfl ?_
            refine hb_aload_n G dX1_firstFreeRun_39 hl rfl ?_
            refine hb_get G hd rfl inX1 0 (by decide) kf_X1_40 rfl rfl dX1_firstFreeRun_40 ?_
            refine lv_isub G.1 G.2.1 dX1_firstFreeRun_43 ?_
            refine lv_topi (fun t_11 et_11 => ?_)
            refine lv_iconst (v := 1) G.1 G.2.1 dX1_firstFreeRun_44 (by decide) ?_
            refine lv_iadd G.1 G.2.1 dX1_firstFreeRun_45 ?_
            refine lv_topi (fun t_12 et_12 => ?_)
            exact hb_iret G hr hlocks ⟨by rw [hi, hs9, if_pos he1]; simp only [*], rfl⟩ hL (Nat.le_refl _) (Nat.le_refl _) dX1_firstFreeRun_46
  refine lv_iconst (v := 0) G.1 G.2.1 dX1_firstFreeRun_0 (by decide) ?_
  refine hb_istore_n G dX1_firstFreeRun_1 hl (by decide) (fun ls hl => ?_)
  have hl : lh ls 3 [some (.ref d), some (.int 0), none] := hl
  refine lv_iconst (v := 0) G.1 G.2.1 dX1_firstFreeRun_2 (by decide) ?_
  refine hb_istore_n G dX1_firstFreeRun_3 hl (by decide) (fun ls hl => ?_)
  have hl : lh ls 3 [some (.ref d), some (.int 0), some (.int 0)] := hl
  exact lp (B + 1) 0 0 0 [] ls (by omega) (by omega) rfl rfl rfl hL hl
end
section
theorem hb_qaldR {p : Program} {l : Launch} {e : Env} {R : Room} {s : State} {m : MethodId} {args : Array Value} {below : List Frame} {meth : Method} {c : Code} {H : Heap} {locs : List Loc} {cells slots : Nat} {Q : State → Prop} {g : Gx} {cc : ByteArray} {own : String} {pc : Nat} {ls : Array Slot} {rest : List Value} {a : Nat} (G : Cx g p s m args c cc own) {k x : Nat} {f : Nat → Option Nat} (ha : qa g a k f H) {i : Int32} (hin : vp_in i k) (hx : f i.toNatClampNeg = some x) (hdg : decode cc pc = .ok (.aaload, 1)) (kk : W p l e R s m args below meth c H locs cells slots Q (F0 m (pc + 1) ls (.ref x :: rest))) : W p l e R s m args below meth c H locs cells slots Q (F0 m pc ls (.int i :: .ref a :: rest)) :=
  hb_qald G ha hin hdg (by rw [hx]; exact kk)
section DK
variable {g : Gx} {d S B : Nat} {P : Nat → Nat} {V : Nat → LV} {bu : Nat → Int32} {tc dn wr : Int32} {H H1 : Heap}
theorem dkAt.far (h : dkAt g d S B P V bu tc dn wr H) {j : Nat} (hj : j < 5) : d + 2 ≤ P j ∧ P j + 7 ≤ d + 38 ∧ (P j + 7 ≤ d + 9 ∨ d + 10 ≤ P j) := h.2.2.2.2.1 j hj
theorem dkAt.kept (h : dkAt g d S B P V bu tc dn wr H) (hq : ∀ q, d ≤ q → q < d + 38 → H1[q]? = H[q]?) : dkAt g d S B P V bu tc dn wr H1 :=
  ⟨h.1.kept (hq _ (by omega) (by omega)), h.2.1.kept (hq _ (by omega) (by omega)), h.2.2.1.kept (hq _ (by omega) (by omega)), fun j hj => (h.2.2.2.1 j hj).kept (fun q h1 h2 => by have := h.far hj; exact hq q (by omega) (by omega)), h.2.2.2.2⟩
theorem dkAt.ub (h : dkAt g d S B P V bu tc dn wr H) {bv : Nat → Int32} (hb : ia g (d + 9) B bv H1) (hF : Fo (d + 9) H H1) : dkAt g d S B P V bv tc dn wr H1 :=
  ⟨h.1.kept (hF.2 _ (by omega)), h.2.1.kept (hF.2 _ (by omega)), hb, fun j hj => (h.2.2.2.1 j hj).kept (fun q h1 h2 => by have := h.far hj; exact hF.2 q (by omega)), h.2.2.2.2⟩
theorem dkAt.lg (h : dkAt g d S B P V bu tc dn wr H) {j : Nat} (hj : j < 5) {v : LV} (hg : lgAt g (P j) v H1) (hF : Fr (P j) 7 H H1) : dkAt g d S B P (va_up V j v) bu tc dn wr H1 := by
  have hf := h.far hj
  refine ⟨h.1.kept (hF.2 _ (by omega)), h.2.1.kept (hF.2 _ (by omega)), h.2.2.1.kept (hF.2 _ (by omega)), fun i hi => ?_, h.2.2.2.2⟩
  by_cases hij : i = j
  · subst hij; rw [va_up_self]; exact hg
  · rw [va_up_ne _ _ hij]
    have := h.2.2.2.2.2 i j hi hj hij
    exact (h.2.2.2.1 i hi).kept (fun q h1 h2 => hF.2 q (by omega))
theorem dkAt.ob (h : dkAt g d S B P V bu tc dn wr H) {tc2 dn2 wr2 : Int32} (hg : ob g d 1 (dkFs d S (P 4) tc2 dn2 wr2) H1) (hF : Fo d H H1) : dkAt g d S B P V bu tc2 dn2 wr2 H1 :=
  ⟨hg, h.2.1.kept (hF.2 _ (by omega)), h.2.2.1.kept (hF.2 _ (by omega)), fun j hj => (h.2.2.2.1 j hj).kept (fun q h1 h2 => by have := h.far hj; exact hF.2 q (by omega)), h.2.2.2.2⟩
end DK
/-- the disk's lasting bounds -/
def dkB (S B : Nat) : Prop := 1 ≤ S ∧ S ≤ 16 ∧ 16 ≤ B ∧ B ≤ 256
def sons (B S : Nat) (V : Nat → LV) (v : LV) : Int32 := if v.2.1 < 60 then ffr (mkD B S V 4) S B 0 else -1
def pkE (B S : Nat) (w : LV) (bu : Nat → Int32) (b z : Int32) : Int32 × LV × (Nat → Int32) :=
  if 0 < w.2.1 ∧ lgOB w + (b + 4) ≤ nI S * 1024 then (1, lgPut w b z, bu)
  else if ffr bu S B 0 = -1 ∨ ¬ w.2.1 < 60 then (0, w, bu)
  else (1, lgPut (lgOpen w (ffr bu S B 0)) b z, mkSeg B bu (ffr bu S B 0) S)
def pkL (B S : Nat) (u : LV) (k : Int32) : Nat → Nat → LV → (Nat → Int32) → Int32 × LV × (Nat → Int32)
  | 0, _, w, bu => (1, w, bu)
  | n + 1, i, w, bu => if nI i - nI i / k * k = 0 then pkL B S u k n (i + 1) w bu else if (pkE B S w bu (u.1 2 i) (u.1 3 i)).1 = 0 then pkE B S w bu (u.1 2 i) (u.1 3 i) else pkL B S u k n (i + 1) (pkE B S w bu (u.1 2 i) (u.1 3 i)).2.1 (pkE B S w bu (u.1 2 i) (u.1 3 i)).2.2
theorem pkE_ok {B S : Nat} {w : LV} {bu : Nat → Int32} {b z : Int32} (h : lgOk w) : lgOk (pkE B S w bu b z).2.1 := by
  unfold pkE
  split
  · exact lgPut_ok h _ _
  · split
    · exact h
    · exact lgPut_ok (lgOpen_ok h _) _ _
set_option maxHeartbeats 4000000 in
set_option maxRecDepth 100000 in
/-- markBlockUse -/
theorem c_markBlockUse (g : Gx) (l : Launch) (d S B : Nat) (P : Nat → Nat) (V : Nat → LV) (bu : Nat → Int32) (tc dn wr : Int32) (H : Heap) (hSB : dkB S B) (hV : ∀ j, j < 5 → lgOk (V j)) (h : dkAt g d S B P V bu tc dn wr H) : HM g l yX1_markBlockUse cX1_markBlockUse 5 none 3 66 0 0 [.ref d] H (fun r H1 => r = none ∧ ia g (d + 9) B (mkD B S V 4) H1 ∧ Fo (d + 9) H H1) (f1 (d + 9)) := by
  refine HM.ofW (by decide) (Nat.le_of_ble_eq_true rfl) (by simp [Value.category]) ?_
  intro p e s m args below meth c ls G hr hml hlocks hnm hH hl
  have hl : lh ls 5 [some (.ref d), none, none, none, none] := hl
  have hL : ∀ q ∈ ([] : List Loc), (f1 (d + 9)) q.base := fun q h => by cases h
  obtain ⟨hS1, hS2, hB1, hB2⟩ := hSB
  have lp2 : ∀ (k j : Nat) (b : Int32) (K : Heap) (locs : List Loc) (ls : Array Slot), (4 + 1 ≤ j + k) → (j ≤ 4) → (b = nI j) → (ia g (d + 9) B (mkD B S V j) K) → (Fo (d + 9) H K) → (∀ q ∈ locs, (f1 (d + 9)) q.base) → lh ls 5 [some (.ref d), some (.ref (d + 1)), some (.int (nI 4)), some (.int b), none] → W p l e ({ frames := 3, cells := 0, slots := 0, locals := 66 } : Room) s m args below meth c K locs 0 0 (hQ below args s (fun r H1 => r = none ∧ ia g (d + 9) B (mkD B S V 4) H1 ∧ Fo (d + 9) H H1) 0 0 (f1 (d + 9))) (F0 m 40 ls []) := by
    intro k
    induction k with
    | zero =>
      intro j b K locs ls hd9 hj eb hK hF hL hl
      exfalso; omega
    | succ k ih =>
      intro j b K locs ls hd9 hj eb hK hF hL hl
      have hk := h.ub hK hF
      refine hb_iload_n G dX1_markBlockUse_40 hl rfl ?_
      refine hb_iload_n G dX1_markBlockUse_41 hl rfl ?_
      refine lv_icmp_ge (tgt := 67) G.1 G.2.1 dX1_markBlockUse_42 (by decide) (fun c_1 => ?_) (fun c_1 => ?_)
      · have hj2 : j = 4 := by have := (ic_le rfl eb (by omega) (by omega)).mp c_1; omega
        subst hj2
        exact hb_vret G hr hlocks ⟨rfl, hK, hF⟩ hL (Nat.le_refl _) (Nat.le_refl _) dX1_markBlockUse_67
      · have hj2 : j < 4 := by have := mt (ic_le rfl eb (by omega) (by omega)).mpr c_1; omega
        refine hb_aload_n G dX1_markBlockUse_45 hl rfl ?_
        refine hb_iload_n G dX1_markBlockUse_46 hl rfl ?_
        refine hb_qaldR (x := P j) G hk.2.1 (by rw [eb]; exact vp_in_nI hj2 (by decide)) (by rw [eb, nI_clamp (by omega)]) dX1_markBlockUse_47 ?_
        refine hb_astore G dX1_markBlockUse_48 hl (by decide) (fun ls hl => ?_)
        have hl : lh ls 5 [some (.ref d), some (.ref (d + 1)), some (.int (nI 4)), some (.int b), some (.ref (P j))] := hl
        refine hb_aload G dX1_markBlockUse_50 hl rfl ?_
        refine lv_ifnull G.1 G.2.1 dX1_markBlockUse_52 ?_
        refine hb_aload_n G dX1_markBlockUse_55 hl rfl ?_
        refine hb_aload G dX1_markBlockUse_56 hl rfl ?_
        refine hb_callV (As := [.ref (P j)]) (rest := []) G hml (c_markSegmentsOf g l d S (P 4) tc dn wr _ hk.1 B _ hB2 hS2 hK (P j) (V j) (hV j (by omega)) (hk.2.2.2.1 j (by omega)) (by have := hk.far (j := j) (by omega); omega)) (hk.1) rfl km_X1_194 ki_X1_markSegmentsOf ks_X1_markSegmentsOf kn_X1 ko_X1_markSegmentsOf hd_X1_markSegmentsOf ⟨Nat.le_of_ble_eq_true rfl, Nat.le_of_ble_eq_true rfl⟩ hl.size rfl (Nat.le_of_ble_eq_true rfl) dX1_markBlockUse_58 ⟨Nat.le_of_ble_eq_true rfl, Nat.le_of_ble_eq_true rfl⟩ hL (fun q h => h) (fun v1 K1 locs1 hp hL => ?_)
        obtain ⟨rfl, hK1, hF1⟩ := hp
        obtain ⟨t_2, et_2⟩ : ∃ z : Int32, z = b + 1 := ⟨_, rfl⟩
        refine hb_iinc (v := t_2) G dX1_markBlockUse_61 hl rfl (by rw [et_2]; rfl) (by decide) (fun ls hl => ?_)
        have hl : lh ls 5 [some (.ref d), some (.ref (d + 1)), some (.int (nI 4)), some (.int t_2), some (.ref (P j))] := hl
        refine lv_goto (tgt := 40) G.1 G.2.1 dX1_markBlockUse_64 (by decide) ?_
        exact ih (j + 1) t_2 K1 locs1 ls (by omega) (by omega) (by rw [et_2, eb]; exact nI_1 j) hK1 (hF.tr hF1) hL (hl.drop 4)
  have lp1 : ∀ (k j : Nat) (b : Int32) (K : Heap) (locs : List Loc) (ls : Array Slot), (4 + 1 ≤ j + k) → (j ≤ 4) → (b = nI j) → (ia g (d + 9) B (mkHd B j) K) → (Fo (d + 9) H K) → (∀ q ∈ locs, (f1 (d + 9)) q.base) → lh ls 5 [some (.ref d), some (.int b), none, none, none] → W p l e ({ frames := 3, cells := 0, slots := 0, locals := 66 } : Room) s m args below meth c K locs 0 0 (hQ below args s (fun r H1 => r = none ∧ ia g (d + 9) B (mkD B S V 4) H1 ∧ Fo (d + 9) H H1) 0 0 (f1 (d + 9))) (F0 m 10 ls []) := by
    intro k
    induction k with
    | zero =>
      intro j b K locs ls hd9 hj eb hK hF hL hl
      exfalso; omega
    | succ k ih =>
      intro j b K locs ls hd9 hj eb hK hF hL hl
      have hk := h.ub hK hF
      refine hb_iload_n G dX1_markBlockUse_10 hl rfl ?_
      refine lv_iconst (v := 4) G.1 G.2.1 dX1_markBlockUse_11 (by decide) ?_
      refine lv_icmp_ge (tgt := 30) G.1 G.2.1 dX1_markBlockUse_12 (by decide) (fun c_3 => ?_) (fun c_3 => ?_)
      · have hj2 : j = 4 := by have := (ic_le (b := j) (a := 4) rfl eb (by omega) (by omega)).mp c_3; omega
        subst hj2
        refine hb_aload_n G dX1_markBlockUse_30 hl rfl ?_
        refine hb_get G hk.1 rfl inX1 1 (by decide) kf_X1_11 rfl rfl dX1_markBlockUse_31 ?_
        refine hb_astore_n G dX1_markBlockUse_34 hl (by decide) (fun ls hl => ?_)
        have hl : lh ls 5 [some (.ref d), some (.ref (d + 1)), none, none, none] := hl
        refine hb_aload_n G dX1_markBlockUse_35 hl rfl ?_
        refine hb_alen_q G hk.2.1 dX1_markBlockUse_36 ?_
        refine hb_istore_n G dX1_markBlockUse_37 hl (by decide) (fun ls hl => ?_)
        have hl : lh ls 5 [some (.ref d), some (.ref (d + 1)), some (.int (nI 4)), none, none] := hl
        refine lv_iconst (v := 0) G.1 G.2.1 dX1_markBlockUse_38 (by decide) ?_
        refine hb_istore_n G dX1_markBlockUse_39 hl (by decide) (fun ls hl => ?_)
        have hl : lh ls 5 [some (.ref d), some (.ref (d + 1)), some (.int (nI 4)), some (.int 0), none] := hl
        exact lp2 5 0 0 K locs ls (by omega) (by omega) rfl hK hF hL hl
      · have hj2 : j < 4 := by have := mt (ic_le (b := j) (a := 4) rfl eb (by omega) (by omega)).mpr c_3; omega
        refine hb_aload_n G dX1_markBlockUse_15 hl rfl ?_
        refine hb_get G hk.1 rfl inX1 2 (by decide) kf_X1_43 rfl rfl dX1_markBlockUse_16 ?_
        refine hb_iload_n G dX1_markBlockUse_19 hl rfl ?_
        refine lv_iconst (v := 1) G.1 G.2.1 dX1_markBlockUse_20 (by decide) ?_
        refine hb_callS (As := [.ref (d + 9), .int b, .int 1]) (rest := []) G hml (c_set g l (d + 9) B _ b 1 _ (by omega) hK) km_X1_190 kt_X1_set kn_X1 ko_X1_set hd_X1_set ⟨Nat.le_of_ble_eq_true rfl, Nat.le_of_ble_eq_true rfl⟩ hl.size rfl (Nat.le_of_ble_eq_true rfl) dX1_markBlockUse_21 ⟨Nat.le_of_ble_eq_true rfl, Nat.le_of_ble_eq_true rfl⟩ hL (f1_in rfl) (fun v1 K1 locs1 hp hL => ?_)
        obtain ⟨rfl, hK1, hz1, ho1⟩ := hp
        rw [eb] at hK1
        obtain ⟨t_4, et_4⟩ : ∃ z : Int32, z = b + 1 := ⟨_, rfl⟩
        refine hb_iinc (v := t_4) G dX1_markBlockUse_24 hl rfl (by rw [et_4]; rfl) (by decide) (fun ls hl => ?_)
        have hl : lh ls 5 [some (.ref d), some (.int t_4), none, none, none] := hl
        refine lv_goto (tgt := 10) G.1 G.2.1 dX1_markBlockUse_27 (by decide) ?_
        exact ih (j + 1) t_4 K1 locs1 ls (by omega) (by omega) (by rw [et_4, eb]; exact nI_1 j) hK1 (hF.tr ⟨hz1, ho1⟩) hL hl
  refine hb_aload_n G dX1_markBlockUse_0 hl rfl ?_
  refine hb_get G h.1 rfl inX1 2 (by decide) kf_X1_43 rfl rfl dX1_markBlockUse_1 ?_
  refine lv_iconst (v := 0) G.1 G.2.1 dX1_markBlockUse_4 (by decide) ?_
  refine hb_callS (As := [.ref (d + 9), .int 0]) (rest := []) G hml (c_fill g l (d + 9) B bu 0 _ (by omega) h.2.2.1) km_X1_184 kt_Ja_fill kn_Ja ko_J_fill hd_J_fill ⟨Nat.le_of_ble_eq_true rfl, Nat.le_of_ble_eq_true rfl⟩ hl.size rfl (Nat.le_of_ble_eq_true rfl) dX1_markBlockUse_5 ⟨Nat.le_of_ble_eq_true rfl, Nat.le_of_ble_eq_true rfl⟩ hL (fun q h => h) (fun v1 K0 locs0 hp hL => ?_)
  obtain ⟨rfl, hK0, hF0⟩ := hp
  refine lv_iconst (v := 0) G.1 G.2.1 dX1_markBlockUse_8 (by decide) ?_
  refine hb_istore_n G dX1_markBlockUse_9 hl (by decide) (fun ls hl => ?_)
  have hl : lh ls 5 [some (.ref d), some (.int 0), none, none, none] := hl
  exact lp1 5 0 0 K0 locs0 ls (by omega) (by omega) rfl hK0 hF0 hL hl
set_option maxHeartbeats 4000000 in
set_option maxRecDepth 100000 in
/-- startOfNewSegment -/
theorem c_startOfNewSegment (g : Gx) (l : Launch) (d S B : Nat) (P : Nat → Nat) (V : Nat → LV) (bu : Nat → Int32) (tc dn wr : Int32) (H : Heap) (hSB : dkB S B) (hV : ∀ j, j < 5 → lgOk (V j)) (h : dkAt g d S B P V bu tc dn wr H) (j : Nat) (hj : j < 5) : HM g l yX1_startOfNewSegment cX1_startOfNewSegment 2 (some .int) 4 90 0 0 [.ref d, .ref (P j)] H (fun r H1 => r = some (.int (sons B S V (V j))) ∧ ∃ bv, ia g (d + 9) B bv H1 ∧ Fo (d + 9) H H1) (f1 (d + 9)) := by
  refine HM.ofW (by decide) (Nat.le_of_ble_eq_true rfl) (by simp [Value.category]) ?_
  intro p e s m args below meth c ls G hr hml hlocks hnm hH hl
  have hl : lh ls 2 [some (.ref d), some (.ref (P j))] := hl
  have hL : ∀ q ∈ ([] : List Loc), (f1 (d + 9)) q.base := fun q h => by cases h
  refine hb_aload_n G dX1_startOfNewSegment_0 hl rfl ?_
  refine hb_callV (As := []) (rest := []) G hml (c_canOpenMore g l (P j) (V j) _ (hV j hj) (h.2.2.2.1 j hj)) ((h.2.2.2.1 j hj).1) rfl km_X1_178 ki_X0_canOpenMore ks_X0_canOpenMore kn_X0 ko_X0_canOpenMore hd_X0_canOpenMore ⟨Nat.le_of_ble_eq_true rfl, Nat.le_of_ble_eq_true rfl⟩ hl.size rfl (Nat.le_of_ble_eq_true rfl) dX1_startOfNewSegment_1 ⟨Nat.le_of_ble_eq_true rfl, Nat.le_of_ble_eq_true rfl⟩ hL (f0_in) (fun v1 H locs1 hp hL => ?_)
  obtain ⟨rfl, rfl⟩ := hp
  refine lv_topi (fun r_1 er_1 => ?_)
  refine lv_if_ne (tgt := 9) G.1 G.2.1 dX1_startOfNewSegment_4 (by decide) (fun c_2 => ?_) (fun c_2 => ?_)
  · have h60 : (V j).2.1 < 60 := Decidable.not_not.mp (fun q => c_2 ((it0 er_1).mpr q))
    refine hb_aload_n G dX1_startOfNewSegment_9 hl rfl ?_
    refine hb_callV (As := []) (rest := []) G hml (c_markBlockUse g l d S B P V bu tc dn wr _ hSB hV h) (h.1) rfl km_X1_151 ki_X1_markBlockUse ks_X1_markBlockUse kn_X1 ko_X1_markBlockUse hd_X1_markBlockUse ⟨Nat.le_of_ble_eq_true rfl, Nat.le_of_ble_eq_true rfl⟩ hl.size rfl (Nat.le_of_ble_eq_true rfl) dX1_startOfNewSegment_10 ⟨Nat.le_of_ble_eq_true rfl, Nat.le_of_ble_eq_true rfl⟩ hL (fun q h => h) (fun v1 K0 locs0 hp hL => ?_)
    obtain ⟨rfl, hK0, hF0⟩ := hp
    have hk := h.ub hK0 hF0
    refine hb_aload_n G dX1_startOfNewSegment_13 hl rfl ?_
    refine hb_callV (As := []) (rest := []) G hml (c_firstFreeRun g l d S (P 4) tc dn wr _ hk.1 B _ hSB.2.2.2 hSB.2.1 hK0) (hk.1) rfl km_X1_175 ki_X1_firstFreeRun ks_X1_firstFreeRun kn_X1 ko_X1_firstFreeRun hd_X1_firstFreeRun ⟨Nat.le_of_ble_eq_true rfl, Nat.le_of_ble_eq_true rfl⟩ hl.size rfl (Nat.le_of_ble_eq_true rfl) dX1_startOfNewSegment_14 ⟨Nat.le_of_ble_eq_true rfl, Nat.le_of_ble_eq_true rfl⟩ hL (f0_in) (fun v1 K0 locs0 hp hL => ?_)
    obtain ⟨rfl, rfl⟩ := hp
    exact hb_iret G hr hlocks ⟨by unfold sons; rw [if_pos h60], _, hK0, hF0⟩ hL (Nat.le_refl _) (Nat.le_refl _) dX1_startOfNewSegment_17
  · refine lv_iconst (v := (-1)) G.1 G.2.1 dX1_startOfNewSegment_7 (by decide) ?_
    exact hb_iret G hr hlocks ⟨by unfold sons; rw [if_neg ((it0 er_1).mp c_2)], _, h.2.2.1, Fo.rf⟩ hL (Nat.le_refl _) (Nat.le_refl _) dX1_startOfNewSegment_8
theorem swp_P {d j : Nat} {P : Nat → Nat} (hj : j < 4) (h : dkP d P) : dkP d (swp P j) := by
  have hP : ∀ i, i < 5 → ∃ i', i' < 5 ∧ swp P j i = P i' ∧ (i = j → i' = 4) ∧ (i = 4 → i' = j) ∧ (i ≠ j → i ≠ 4 → i' = i) := by
    intro i hi
    unfold swp
    by_cases h1 : i = j
    · exact ⟨4, by omega, by rw [if_pos h1], fun _ => rfl, fun h9 => by omega, fun h9 => absurd h1 h9⟩
    · by_cases h2 : i = 4
      · exact ⟨j, by omega, by rw [if_neg h1, if_pos h2], fun h9 => absurd h9 h1, fun _ => rfl, fun _ h9 => absurd h2 h9⟩
      · exact ⟨i, hi, by rw [if_neg h1, if_neg h2], fun h9 => absurd h9 h1, fun h9 => absurd h9 h2, fun _ _ => rfl⟩
  refine ⟨fun i hi => ?_, fun i k hi hk hik => ?_⟩
  · obtain ⟨i', h1, h2, -⟩ := hP i hi
    rw [h2]; exact h.1 i' h1
  · obtain ⟨i', h1, h2, h3, h4, h5⟩ := hP i hi
    obtain ⟨k', g1, g2, g3, g4, g5⟩ := hP k hk
    rw [h2, g2]
    refine h.2 i' k' h1 g1 ?_
    omega
set_option maxHeartbeats 4000000 in
set_option maxRecDepth 100000 in
/-- putDraftInPlaceOf -/
theorem c_putDraftInPlaceOf (g : Gx) (l : Launch) (d S B : Nat) (P : Nat → Nat) (V : Nat → LV) (bu : Nat → Int32) (tc dn wr : Int32) (H : Heap) (hSB : dkB S B) (hV : ∀ j, j < 5 → lgOk (V j)) (h : dkAt g d S B P V bu tc dn wr H) (j : Nat) (hj : j < 4) : HM g l yX1_putDraftInPlaceOf cX1_putDraftInPlaceOf 3 none 0 0 0 0 [.ref d, .int (nI j)] H (fun r H1 => r = none ∧ dkAt g d S B (swp P j) (swp V j) bu tc dn wr H1 ∧ Fr d 38 H H1) (fB d 38) := by
  refine HM.ofW (by decide) (Nat.le_of_ble_eq_true rfl) (by simp [Value.category]) ?_
  intro p e s m args below meth c ls G hr hml hlocks hnm hH hl
  have hl : lh ls 3 [some (.ref d), some (.int (nI j)), none] := hl
  have hL : ∀ q ∈ ([] : List Loc), (fB d 38) q.base := fun q h => by cases h
  refine hb_iload_n G dX1_putDraftInPlaceOf_0 hl rfl ?_
  refine lv_if_lt (tgt := 44) G.1 G.2.1 dX1_putDraftInPlaceOf_1 (by decide) (fun c_1 => ?_) (fun c_1 => ?_)
  · exact absurd c_1 (nI_pos (by omega))
  · refine hb_iload_n G dX1_putDraftInPlaceOf_4 hl rfl ?_
    refine hb_aload_n G dX1_putDraftInPlaceOf_5 hl rfl ?_
    refine hb_get G h.1 rfl inX1 1 (by decide) kf_X1_11 rfl rfl dX1_putDraftInPlaceOf_6 ?_
    refine hb_alen_q G h.2.1 dX1_putDraftInPlaceOf_9 ?_
    refine lv_icmp_ge (tgt := 44) G.1 G.2.1 dX1_putDraftInPlaceOf_10 (by decide) (fun c_2 => ?_) (fun c_2 => ?_)
    · exact absurd ((nI_leI (by omega) (by omega)).mp c_2) (by omega)
    · refine hb_aload_n G dX1_putDraftInPlaceOf_13 hl rfl ?_
      refine hb_get G h.1 rfl inX1 1 (by decide) kf_X1_11 rfl rfl dX1_putDraftInPlaceOf_14 ?_
      refine hb_iload_n G dX1_putDraftInPlaceOf_17 hl rfl ?_
      refine hb_qaldR (x := P j) G h.2.1 (vp_in_nI hj (by decide)) (by rw [nI_clamp (by omega)]) dX1_putDraftInPlaceOf_18 ?_
      refine lv_ifnull G.1 G.2.1 dX1_putDraftInPlaceOf_19 ?_
      refine hb_aload_n G dX1_putDraftInPlaceOf_22 hl rfl ?_
      refine hb_get G h.1 rfl inX1 1 (by decide) kf_X1_11 rfl rfl dX1_putDraftInPlaceOf_23 ?_
      refine hb_iload_n G dX1_putDraftInPlaceOf_26 hl rfl ?_
      refine hb_qaldR (x := P j) G h.2.1 (vp_in_nI hj (by decide)) (by rw [nI_clamp (by omega)]) dX1_putDraftInPlaceOf_27 ?_
      refine hb_astore_n G dX1_putDraftInPlaceOf_28 hl (by decide) (fun ls hl => ?_)
      have hl : lh ls 3 [some (.ref d), some (.int (nI j)), some (.ref (P j))] := hl
      refine hb_aload_n G dX1_putDraftInPlaceOf_29 hl rfl ?_
      refine hb_get G h.1 rfl inX1 1 (by decide) kf_X1_11 rfl rfl dX1_putDraftInPlaceOf_30 ?_
      refine hb_iload_n G dX1_putDraftInPlaceOf_33 hl rfl ?_
      refine hb_aload_n G dX1_putDraftInPlaceOf_34 hl rfl ?_
      refine hb_get G h.1 rfl inX1 3 (by decide) kf_X1_16 rfl rfl dX1_putDraftInPlaceOf_35 ?_
      refine hb_qast G h.2.1 (h.2.2.2.1 4 (by decide)).1 (vp_in_nI hj (by decide)) hL (fB_mk (by omega) (by omega)) dX1_putDraftInPlaceOf_38 (fun K1 locs1 hqa hz1 ho1 hL => ?_)
      rw [nI_clamp (by omega)] at hqa
      refine hb_aload_n G dX1_putDraftInPlaceOf_39 hl rfl ?_
      refine hb_aload_n G dX1_putDraftInPlaceOf_40 hl rfl ?_
      refine hb_put G (h.1.kept (ho1 _ (by omega))) rfl inX1 tyX1 tyX1_ok nmX1 3 (by decide) kf_X1_16 rfl rfl rfl rfl (Nat.le_of_ble_eq_true rfl) hL (fB_mk (by omega) (by omega)) dX1_putDraftInPlaceOf_41 (fun K2 locs2 hf hz2 ho2 hL => ?_)
      have hk2 : ∀ q : Nat, q ≠ d → q ≠ d + 1 → K2[q]? = H[q]? := fun q h1 h2 => (ho2 q h1).trans (ho1 q h2)
      have e4 : swp P j 4 = P j := by unfold swp; rw [if_neg (by omega), if_pos rfl]
      refine hb_vret G hr hlocks ⟨rfl, ⟨by rw [e4]; exact hf, (hqa.kept (ho2 _ (by omega))).ext (fun i hi => ?_), h.2.2.1.kept (hk2 _ (by omega) (by omega)), fun i hi => ?_, swp_P hj h.2.2.2.2⟩, (Fr.one hz1 ho1 (by omega) (by omega)).tr (Fr.one hz2 ho2 (by omega) (by omega))⟩ hL (Nat.le_refl _) (Nat.le_refl _) dX1_putDraftInPlaceOf_44
      · unfold swp
        by_cases h1 : i = j
        · subst h1; rw [va_up_self, if_pos rfl]
        · rw [va_up_ne _ _ h1, if_neg h1, if_neg (by omega)]
      · unfold swp
        by_cases h1 : i = j
        · rw [if_pos h1, if_pos h1]
          exact (h.2.2.2.1 4 (by decide)).kept (fun q g1 g2 => by have := h.far (j := 4) (by decide); exact hk2 q (by omega) (by omega))
        · by_cases h2 : i = 4
          · rw [if_neg h1, if_neg h1, if_pos h2, if_pos h2]
            exact (h.2.2.2.1 j (by omega)).kept (fun q g1 g2 => by have := h.far (j := j) (by omega); exact hk2 q (by omega) (by omega))
          · rw [if_neg h1, if_neg h1, if_neg h2, if_neg h2]
            exact (h.2.2.2.1 i hi).kept (fun q g1 g2 => by have := h.far hi; exact hk2 q (by omega) (by omega))
end
section
set_option maxHeartbeats 4000000 in
set_option maxRecDepth 100000 in
/-- packEntry -/
theorem c_packEntry (g : Gx) (l : Launch) (d S B : Nat) (P : Nat → Nat) (V : Nat → LV) (bu : Nat → Int32) (tc dn wr : Int32) (H : Heap) (hSB : dkB S B) (hV : ∀ j, j < 5 → lgOk (V j)) (h : dkAt g d S B P V bu tc dn wr H) (j : Nat) (hj : j < 4) (i : Nat) (hi : i < 512) : HM g l yX1_packEntry cX1_packEntry 5 (some .boolean) 3 63 0 0 [.ref d, .ref (P j), .int (nI i)] H (fun r H1 => r = some (.int (pkE B S (V 4) bu ((V j).1 2 i) ((V j).1 3 i)).1) ∧ dkAt g d S B P (va_up V 4 (pkE B S (V 4) bu ((V j).1 2 i) ((V j).1 3 i)).2.1) (pkE B S (V 4) bu ((V j).1 2 i) ((V j).1 3 i)).2.2 tc dn wr H1 ∧ Fr d 38 H H1) (fB d 38) := by
  refine HM.ofW (by decide) (Nat.le_of_ble_eq_true rfl) (by simp [Value.category]) ?_
  intro p e s m args below meth c ls G hr hml hlocks hnm hH hl
  have hl : lh ls 5 [some (.ref d), some (.ref (P j)), some (.int (nI i)), none, none] := hl
  have hL : ∀ q ∈ ([] : List Loc), (fB d 38) q.base := fun q h => by cases h
  have hP4 := h.far (j := 4) (by decide)
  have hPj := h.far (j := j) (by omega)
  have h4 := h.2.2.2.1 4 (by decide)
  have hgj := h.2.2.2.1 j (by omega)
  have hjd := h.2.2.2.2.2 j 4 (by omega) (by decide) (by omega)
  have hv4 := hV 4 (by decide)
  refine hb_aload_n G dX1_packEntry_0 hl rfl ?_
  refine hb_get G hgj.1 rfl inX0 3 (by decide) kf_X1_135 rfl rfl dX1_packEntry_1 ?_
  refine hb_iload_n G dX1_packEntry_4 hl rfl ?_
  refine hb_callS (As := [.ref (P j + 3), .int (nI i)]) (rest := []) G hml (c_at g l (P j + 3) 512 ((V j).1 2) (nI i) _ (by decide) (hgj.2 2 (by decide))) km_X1_138 kt_X1_at kn_X1 ko_X1_at hd_X1_at ⟨Nat.le_of_ble_eq_true rfl, Nat.le_of_ble_eq_true rfl⟩ hl.size rfl (Nat.le_of_ble_eq_true rfl) dX1_packEntry_5 ⟨Nat.le_of_ble_eq_true rfl, Nat.le_of_ble_eq_true rfl⟩ hL (f0_in) (fun v1 H locs1 hp hL => ?_)
  obtain ⟨rfl, rfl⟩ := hp
  refine lv_topi (fun r_1 er_1 => ?_)
  have er_1 : r_1 = (V j).1 2 i := by rw [er_1, atV_in (by omega) (by decide)]
  generalize hbb : (V j).1 2 i = bb at *
  refine hb_istore_n G dX1_packEntry_8 hl (by decide) (fun ls hl => ?_)
  have hl : lh ls 5 [some (.ref d), some (.ref (P j)), some (.int (nI i)), some (.int r_1), none] := hl
  refine hb_aload_n G dX1_packEntry_9 hl rfl ?_
  refine hb_get G h.1 rfl inX1 3 (by decide) kf_X1_16 rfl rfl dX1_packEntry_10 ?_
  refine hb_iload_n G dX1_packEntry_13 hl rfl ?_
  refine lv_iconst (v := 4) G.1 G.2.1 dX1_packEntry_14 (by decide) ?_
  refine lv_iadd G.1 G.2.1 dX1_packEntry_15 ?_
  refine lv_topi (fun t_2 et_2 => ?_)
  refine hb_aload_n G dX1_packEntry_16 hl rfl ?_
  refine hb_callV (As := []) (rest := [.int t_2, .ref (P 4)]) G hml (c_segmentBytes g l d S (P 4) tc dn wr _ h.1) (h.1) rfl km_X1_58 ki_X1_segmentBytes ks_X1_segmentBytes kn_X1 ko_X1_segmentBytes hd_X1_segmentBytes ⟨Nat.le_of_ble_eq_true rfl, Nat.le_of_ble_eq_true rfl⟩ hl.size rfl (Nat.le_of_ble_eq_true rfl) dX1_packEntry_17 ⟨Nat.le_of_ble_eq_true rfl, Nat.le_of_ble_eq_true rfl⟩ hL (f0_in) (fun v1 H locs1 hp hL => ?_)
  obtain ⟨rfl, rfl⟩ := hp
  refine lv_topi (fun r_3 er_3 => ?_)
  refine hb_callV (As := [.int t_2, .int r_3]) (rest := []) G hml (c_openHasRoom g l (P 4) (V 4) _ hv4 h4 t_2 r_3) (h4.1) rfl km_X1_62 ki_X0_openHasRoom ks_X0_openHasRoom kn_X0 ko_X0_openHasRoom hd_X0_openHasRoom ⟨Nat.le_of_ble_eq_true rfl, Nat.le_of_ble_eq_true rfl⟩ hl.size rfl (Nat.le_of_ble_eq_true rfl) dX1_packEntry_20 ⟨Nat.le_of_ble_eq_true rfl, Nat.le_of_ble_eq_true rfl⟩ hL (f0_in) (fun v1 H locs1 hp hL => ?_)
  obtain ⟨rfl, rfl⟩ := hp
  refine lv_topi (fun r_4 er_4 => ?_)
  rw [er_3, et_2, er_1] at er_4
  refine lv_if_ne (tgt := 65) G.1 G.2.1 dX1_packEntry_23 (by decide) (fun c_5 => ?_) (fun c_5 => ?_)
  · have hroom : 0 < (V 4).2.1 ∧ lgOB (V 4) + (bb + 4) ≤ nI S * 1024 := Decidable.not_not.mp (fun q => c_5 ((it0 er_4).mpr q))
    have hpk : pkE B S (V 4) bu bb ((V j).1 3 i) = (1, lgPut (V 4) bb ((V j).1 3 i), bu) := by unfold pkE; rw [if_pos hroom]
    refine hb_aload_n G dX1_packEntry_65 hl rfl ?_
    refine hb_get G h.1 rfl inX1 3 (by decide) kf_X1_16 rfl rfl dX1_packEntry_66 ?_
    refine hb_iload_n G dX1_packEntry_69 hl rfl ?_
    refine hb_aload_n G dX1_packEntry_70 hl rfl ?_
    refine hb_get G hgj.1 rfl inX0 4 (by decide) kf_X1_148 rfl rfl dX1_packEntry_71 ?_
    refine hb_iload_n G dX1_packEntry_74 hl rfl ?_
    refine hb_callS (As := [.ref (P j + 4), .int (nI i)]) (rest := [.int r_1, .ref (P 4)]) G hml (c_at g l (P j + 4) 512 ((V j).1 3) (nI i) _ (by decide) (hgj.2 3 (by decide))) km_X1_138 kt_X1_at kn_X1 ko_X1_at hd_X1_at ⟨Nat.le_of_ble_eq_true rfl, Nat.le_of_ble_eq_true rfl⟩ hl.size rfl (Nat.le_of_ble_eq_true rfl) dX1_packEntry_75 ⟨Nat.le_of_ble_eq_true rfl, Nat.le_of_ble_eq_true rfl⟩ hL (f0_in) (fun v1 H locs1 hp hL => ?_)
    obtain ⟨rfl, rfl⟩ := hp
    refine lv_topi (fun r_6 er_6 => ?_)
    have er_6 : r_6 = (V j).1 3 i := by rw [er_6, atV_in (by omega) (by decide)]
    refine hb_callV (As := [.int r_1, .int r_6]) (rest := []) G hml (c_put g l (P 4) (V 4) _ (hv4) h4 r_1 r_6) (h4.1) rfl km_X1_91 ki_X0_put ks_X0_put kn_X0 ko_X0_put hd_X0_put ⟨Nat.le_of_ble_eq_true rfl, Nat.le_of_ble_eq_true rfl⟩ hl.size rfl (Nat.le_of_ble_eq_true rfl) dX1_packEntry_78 ⟨Nat.le_of_ble_eq_true rfl, Nat.le_of_ble_eq_true rfl⟩ hL (fun q h => fB_mk (by have := h.1; omega) (by have := h.2; omega)) (fun v1 K9 locs9 hp hL => ?_)
    obtain ⟨rfl, hg9, hF9⟩ := hp
    rw [er_1, er_6] at hg9
    refine lv_iconst (v := 1) G.1 G.2.1 dX1_packEntry_81 (by decide) ?_
    exact hb_zret G hr hlocks (by decide) ⟨by rw [hpk], by rw [hpk]; exact h.lg (by decide) hg9 hF9, hF9.wide (by omega) (by omega)⟩ hL (Nat.le_refl _) (Nat.le_refl _) dX1_packEntry_82
  · have hroom := (it0 er_4).mp c_5
    refine hb_aload_n G dX1_packEntry_26 hl rfl ?_
    refine hb_callV (As := []) (rest := []) G hml (c_firstFreeRun g l d S (P 4) tc dn wr _ h.1 B bu hSB.2.2.2 hSB.2.1 h.2.2.1) (h.1) rfl km_X1_175 ki_X1_firstFreeRun ks_X1_firstFreeRun kn_X1 ko_X1_firstFreeRun hd_X1_firstFreeRun ⟨Nat.le_of_ble_eq_true rfl, Nat.le_of_ble_eq_true rfl⟩ hl.size rfl (Nat.le_of_ble_eq_true rfl) dX1_packEntry_27 ⟨Nat.le_of_ble_eq_true rfl, Nat.le_of_ble_eq_true rfl⟩ hL (f0_in) (fun v1 H locs1 hp hL => ?_)
    obtain ⟨rfl, rfl⟩ := hp
    refine lv_topi (fun r_7 er_7 => ?_)
    refine hb_istore G dX1_packEntry_30 hl (by decide) (fun ls hl => ?_)
    have hl : lh ls 5 [some (.ref d), some (.ref (P j)), some (.int (nI i)), some (.int r_1), some (.int r_7)] := hl
    refine hb_iload G dX1_packEntry_32 hl rfl ?_
    refine lv_iconst (v := (-1)) G.1 G.2.1 dX1_packEntry_34 (by decide) ?_
    refine lv_icmp_eq (tgt := 48) G.1 G.2.1 dX1_packEntry_35 (by decide) (fun c_8 => ?_) (fun c_8 => ?_)
    · have hpk : pkE B S (V 4) bu bb ((V j).1 3 i) = (0, V 4, bu) := by unfold pkE; rw [if_neg hroom, if_pos (Or.inl (by rw [← er_7]; exact c_8))]
      refine lv_iconst (v := 0) G.1 G.2.1 dX1_packEntry_48 (by decide) ?_
      exact hb_zret G hr hlocks (by decide) ⟨by rw [hpk], by rw [hpk]; exact h.lg (j := 4) (by decide) h4 Fr.rf, Fr.rf⟩ hL (Nat.le_refl _) (Nat.le_refl _) dX1_packEntry_49
    · refine hb_aload_n G dX1_packEntry_38 hl rfl ?_
      refine hb_get G h.1 rfl inX1 3 (by decide) kf_X1_16 rfl rfl dX1_packEntry_39 ?_
      refine hb_callV (As := []) (rest := []) G hml (c_canOpenMore g l (P 4) (V 4) _ hv4 h4) (h4.1) rfl km_X1_178 ki_X0_canOpenMore ks_X0_canOpenMore kn_X0 ko_X0_canOpenMore hd_X0_canOpenMore ⟨Nat.le_of_ble_eq_true rfl, Nat.le_of_ble_eq_true rfl⟩ hl.size rfl (Nat.le_of_ble_eq_true rfl) dX1_packEntry_42 ⟨Nat.le_of_ble_eq_true rfl, Nat.le_of_ble_eq_true rfl⟩ hL (f0_in) (fun v1 H locs1 hp hL => ?_)
      obtain ⟨rfl, rfl⟩ := hp
      refine lv_topi (fun r_9 er_9 => ?_)
      refine lv_if_ne (tgt := 50) G.1 G.2.1 dX1_packEntry_45 (by decide) (fun c_10 => ?_) (fun c_10 => ?_)
      · have h60 : (V 4).2.1 < 60 := Decidable.not_not.mp (fun q => c_10 ((it0 er_9).mpr q))
        have hpk : pkE B S (V 4) bu bb ((V j).1 3 i) = (1, lgPut (lgOpen (V 4) r_7) bb ((V j).1 3 i), mkSeg B bu r_7 S) := by unfold pkE; rw [if_neg hroom, if_neg (fun q => q.elim (fun q1 => c_8 (by rw [er_7]; exact q1)) (fun q2 => q2 h60)), ← er_7]
        refine hb_aload_n G dX1_packEntry_50 hl rfl ?_
        refine hb_get G h.1 rfl inX1 3 (by decide) kf_X1_16 rfl rfl dX1_packEntry_51 ?_
        refine hb_iload G dX1_packEntry_54 hl rfl ?_
        refine hb_callV (As := [.int r_7]) (rest := []) G hml (c_openSegment g l (P 4) (V 4) _ hv4 h4 r_7) (h4.1) rfl km_X1_87 ki_X0_openSegment ks_X0_openSegment kn_X0 ko_X0_openSegment hd_X0_openSegment ⟨Nat.le_of_ble_eq_true rfl, Nat.le_of_ble_eq_true rfl⟩ hl.size rfl (Nat.le_of_ble_eq_true rfl) dX1_packEntry_56 ⟨Nat.le_of_ble_eq_true rfl, Nat.le_of_ble_eq_true rfl⟩ hL (fun q h => fB_mk (by have := h.1; omega) (by have := h.2; omega)) (fun v1 K1 locs1 hp hL => ?_)
        obtain ⟨rfl, hg1, hF1⟩ := hp
        have hk1 := h.lg (by decide) hg1 hF1
        refine hb_aload_n G dX1_packEntry_59 hl rfl ?_
        refine hb_iload G dX1_packEntry_60 hl rfl ?_
        refine hb_callV (As := [.int r_7]) (rest := []) G hml (c_markSegment g l d S (P 4) tc dn wr _ hk1.1 B bu hSB.2.2.2 hSB.2.1 hk1.2.2.1 r_7) (hk1.1) rfl km_X1_181 ki_X1_markSegment ks_X1_markSegment kn_X1 ko_X1_markSegment hd_X1_markSegment ⟨Nat.le_of_ble_eq_true rfl, Nat.le_of_ble_eq_true rfl⟩ hl.size rfl (Nat.le_of_ble_eq_true rfl) dX1_packEntry_62 ⟨Nat.le_of_ble_eq_true rfl, Nat.le_of_ble_eq_true rfl⟩ hL (f1_in (fB_mk (by omega) (by omega))) (fun v1 K2 locs2 hp hL => ?_)
        obtain ⟨rfl, hb2, hF2⟩ := hp
        have hk2 := hk1.ub hb2 hF2
        have hg2 : lgAt g (P 4) (lgOpen (V 4) r_7) K2 := hg1.kept (fun q h1 h2 => hF2.2 q (by omega))
        have hgj2 : lgAt g (P j) (V j) K2 := hgj.kept (fun q h1 h2 => (hF2.2 q (by omega)).trans (hF1.2 q (by omega)))
        refine hb_aload_n G dX1_packEntry_65 hl rfl ?_
        refine hb_get G hk2.1 rfl inX1 3 (by decide) kf_X1_16 rfl rfl dX1_packEntry_66 ?_
        refine hb_iload_n G dX1_packEntry_69 hl rfl ?_
        refine hb_aload_n G dX1_packEntry_70 hl rfl ?_
        refine hb_get G hgj2.1 rfl inX0 4 (by decide) kf_X1_148 rfl rfl dX1_packEntry_71 ?_
        refine hb_iload_n G dX1_packEntry_74 hl rfl ?_
        refine hb_callS (As := [.ref (P j + 4), .int (nI i)]) (rest := [.int r_1, .ref (P 4)]) G hml (c_at g l (P j + 4) 512 ((V j).1 3) (nI i) _ (by decide) (hgj2.2 3 (by decide))) km_X1_138 kt_X1_at kn_X1 ko_X1_at hd_X1_at ⟨Nat.le_of_ble_eq_true rfl, Nat.le_of_ble_eq_true rfl⟩ hl.size rfl (Nat.le_of_ble_eq_true rfl) dX1_packEntry_75 ⟨Nat.le_of_ble_eq_true rfl, Nat.le_of_ble_eq_true rfl⟩ hL (f0_in) (fun v1 K2 locs1 hp hL => ?_)
        obtain ⟨rfl, rfl⟩ := hp
        refine lv_topi (fun r_11 er_11 => ?_)
        have er_11 : r_11 = (V j).1 3 i := by rw [er_11, atV_in (by omega) (by decide)]
        refine hb_callV (As := [.int r_1, .int r_11]) (rest := []) G hml (c_put g l (P 4) (lgOpen (V 4) r_7) _ (lgOpen_ok hv4 _) hg2 r_1 r_11) (hg2.1) rfl km_X1_91 ki_X0_put ks_X0_put kn_X0 ko_X0_put hd_X0_put ⟨Nat.le_of_ble_eq_true rfl, Nat.le_of_ble_eq_true rfl⟩ hl.size rfl (Nat.le_of_ble_eq_true rfl) dX1_packEntry_78 ⟨Nat.le_of_ble_eq_true rfl, Nat.le_of_ble_eq_true rfl⟩ hL (fun q h => fB_mk (by have := h.1; omega) (by have := h.2; omega)) (fun v1 K9 locs9 hp hL => ?_)
        obtain ⟨rfl, hg9, hF9⟩ := hp
        rw [er_1, er_11] at hg9
        refine lv_iconst (v := 1) G.1 G.2.1 dX1_packEntry_81 (by decide) ?_
        have hk9 := hk2.lg (j := 4) (by decide) hg9 hF9
        have e9 : va_up (va_up V 4 (lgOpen (V 4) r_7)) 4 (lgPut (lgOpen (V 4) r_7) bb ((V j).1 3 i)) = va_up V 4 (lgPut (lgOpen (V 4) r_7) bb ((V j).1 3 i)) := bx_uu _ _ _ _
        rw [e9] at hk9
        exact hb_zret G hr hlocks (by decide) ⟨by rw [hpk], by rw [hpk]; exact hk9, (hF1.wide (by omega) (by omega)).tr ((hF2.fr (by omega) (by omega)).tr (hF9.wide (by omega) (by omega)))⟩ hL (Nat.le_refl _) (Nat.le_refl _) dX1_packEntry_82
      · have hpk : pkE B S (V 4) bu bb ((V j).1 3 i) = (0, V 4, bu) := by unfold pkE; rw [if_neg hroom, if_pos (Or.inr ((it0 er_9).mp c_10))]
        refine lv_iconst (v := 0) G.1 G.2.1 dX1_packEntry_48 (by decide) ?_
        exact hb_zret G hr hlocks (by decide) ⟨by rw [hpk], by rw [hpk]; exact h.lg (j := 4) (by decide) h4 Fr.rf, Fr.rf⟩ hL (Nat.le_refl _) (Nat.le_refl _) dX1_packEntry_49
set_option maxHeartbeats 4000000 in
set_option maxRecDepth 100000 in
/-- packThinned -/
theorem c_packThinned (g : Gx) (l : Launch) (d S B : Nat) (P : Nat → Nat) (V : Nat → LV) (bu : Nat → Int32) (tc dn wr : Int32) (H : Heap) (hSB : dkB S B) (hV : ∀ j, j < 5 → lgOk (V j)) (h : dkAt g d S B P V bu tc dn wr H) (j : Nat) (hj : j < 4) (n : Nat) (hn : n ≤ 512) (k : Int32) (hk : 0 < k) : HM g l yX1_packThinned cX1_packThinned 5 (some .boolean) 4 90 0 0 [.ref d, .ref (P j), .int (nI n), .int k] H (fun r H1 => r = some (.int (pkL B S (V j) k n 0 (lgBegin (V j) (V 4)) (mkD B S V 4)).1) ∧ dkAt g d S B P (va_up V 4 (pkL B S (V j) k n 0 (lgBegin (V j) (V 4)) (mkD B S V 4)).2.1) (pkL B S (V j) k n 0 (lgBegin (V j) (V 4)) (mkD B S V 4)).2.2 tc dn wr H1 ∧ Fr d 38 H H1) (fB d 38) := by
  refine HM.ofW (by decide) (Nat.le_of_ble_eq_true rfl) (by simp [Value.category]) ?_
  intro p e s m args below meth c ls G hr hml hlocks hnm hH hl
  have hl : lh ls 5 [some (.ref d), some (.ref (P j)), some (.int (nI n)), some (.int k), none] := hl
  have hL : ∀ q ∈ ([] : List Loc), (fB d 38) q.base := fun q h => by cases h
  have hP4 := h.far (j := 4) (by decide)
  have hPj := h.far (j := j) (by omega)
  have h4 := h.2.2.2.1 4 (by decide)
  have hgj := h.2.2.2.1 j (by omega)
  have hjd := h.2.2.2.2.2 j 4 (by omega) (by decide) (by omega)
  have hv4 := hV 4 (by decide)
  have lp : ∀ (q9 i : Nat) (b : Int32) (u : LV) (bv : Nat → Int32) (K : Heap) (locs : List Loc) (ls : Array Slot), (n + 1 ≤ i + q9) → (i ≤ n) → (b = nI i) → (lgOk u) → (dkAt g d S B P (va_up V 4 u) bv tc dn wr K) → (Fr d 38 H K) → (pkL B S (V j) k n 0 (lgBegin (V j) (V 4)) (mkD B S V 4) = pkL B S (V j) k (n - i) i u bv) → (∀ q ∈ locs, (fB d 38) q.base) → lh ls 5 [some (.ref d), some (.ref (P j)), some (.int (nI n)), some (.int k), some (.int b)] → W p l e ({ frames := 4, cells := 0, slots := 0, locals := 90 } : Room) s m args below meth c K locs 0 0 (hQ below args s (fun r H1 => r = some (.int (pkL B S (V j) k n 0 (lgBegin (V j) (V 4)) (mkD B S V 4)).1) ∧ dkAt g d S B P (va_up V 4 (pkL B S (V j) k n 0 (lgBegin (V j) (V 4)) (mkD B S V 4)).2.1) (pkL B S (V j) k n 0 (lgBegin (V j) (V 4)) (mkD B S V 4)).2.2 tc dn wr H1 ∧ Fr d 38 H H1) 0 0 (fB d 38)) (F0 m 15 ls []) := by
    intro q9
    induction q9 with
    | zero =>
      intro i b u bv K locs ls hd9 hi eb hu hK hF hI hL hl
      exfalso; omega
    | succ q9 ih =>
      intro i b u bv K locs ls hd9 hi eb hu hK hF hI hL hl
      refine hb_iload G dX1_packThinned_15 hl rfl ?_
      refine hb_iload_n G dX1_packThinned_17 hl rfl ?_
      refine lv_icmp_ge (tgt := 48) G.1 G.2.1 dX1_packThinned_18 (by decide) (fun c_1 => ?_) (fun c_1 => ?_)
      · have hi2 : i = n := by have := (ic_le rfl eb (by omega) (by omega)).mp c_1; omega
        have hpk : pkL B S (V j) k n 0 (lgBegin (V j) (V 4)) (mkD B S V 4) = (1, u, bv) := by rw [hI, show n - i = 0 by omega]; rfl
        refine lv_iconst (v := 1) G.1 G.2.1 dX1_packThinned_48 (by decide) ?_
        exact hb_zret G hr hlocks (by decide) ⟨by rw [hpk], by rw [hpk]; exact hK, hF⟩ hL (Nat.le_refl _) (Nat.le_refl _) dX1_packThinned_49
      · have hi2 : i < n := by have := mt (ic_le rfl eb (by omega) (by omega)).mpr c_1; omega
        subst eb
        have hs9 : pkL B S (V j) k (n - i) i u bv = if nI i - nI i / k * k = 0 then pkL B S (V j) k (n - (i + 1)) (i + 1) u bv else if (pkE B S u bv ((V j).1 2 i) ((V j).1 3 i)).1 = 0 then pkE B S u bv ((V j).1 2 i) ((V j).1 3 i) else pkL B S (V j) k (n - (i + 1)) (i + 1) (pkE B S u bv ((V j).1 2 i) ((V j).1 3 i)).2.1 (pkE B S u bv ((V j).1 2 i) ((V j).1 3 i)).2.2 := by rw [show n - i = (n - (i + 1)) + 1 by omega]; rfl
        refine hb_iload G dX1_packThinned_21 hl rfl ?_
        refine hb_iload_n G dX1_packThinned_23 hl rfl ?_
        refine hb_callS (As := [.int (nI i), .int k]) (rest := []) G hml (c_goes g l (nI i) k _ hk) km_X1_168 kt_X1_goes kn_X1 ko_X1_goes hd_X1_goes ⟨Nat.le_of_ble_eq_true rfl, Nat.le_of_ble_eq_true rfl⟩ hl.size rfl (Nat.le_of_ble_eq_true rfl) dX1_packThinned_24 ⟨Nat.le_of_ble_eq_true rfl, Nat.le_of_ble_eq_true rfl⟩ hL (f0_in) (fun v1 K locs hp hL => ?_)
        obtain ⟨rfl, rfl⟩ := hp
        refine lv_topi (fun r_2 er_2 => ?_)
        refine lv_if_ne (tgt := 42) G.1 G.2.1 dX1_packThinned_27 (by decide) (fun c_3 => ?_) (fun c_3 => ?_)
        · have hgo : nI i - nI i / k * k = 0 := Decidable.not_not.mp (fun q => c_3 ((it0 er_2).mpr q))
          obtain ⟨t_4, et_4⟩ : ∃ z : Int32, z = (nI i) + 1 := ⟨_, rfl⟩
          refine hb_iinc (v := t_4) G dX1_packThinned_42 hl rfl (by rw [et_4]; rfl) (by decide) (fun ls hl => ?_)
          have hl : lh ls 5 [some (.ref d), some (.ref (P j)), some (.int (nI n)), some (.int k), some (.int t_4)] := hl
          refine lv_goto (tgt := 15) G.1 G.2.1 dX1_packThinned_45 (by decide) ?_
          exact ih (i + 1) t_4 u bv K locs ls (by omega) (by omega) (by rw [et_4]; exact nI_1 i) hu hK hF (by rw [hI, hs9, if_pos hgo]) hL hl
        · have hgo := (it0 er_2).mp c_3
          have hVu : ∀ m9, m9 < 5 → lgOk (va_up V 4 u m9) := fun m9 hm => by
            by_cases h9 : m9 = 4
            · subst h9; rw [va_up_self]; exact hu
            · rw [va_up_ne _ _ h9]; exact hV m9 hm
          refine hb_aload_n G dX1_packThinned_30 hl rfl ?_
          refine hb_aload_n G dX1_packThinned_31 hl rfl ?_
          refine hb_iload G dX1_packThinned_32 hl rfl ?_
          have ej : va_up V 4 u j = V j := va_up_ne _ _ (by omega)
          have e4 : va_up V 4 u 4 = u := va_up_self _ _ _
          have hcE := c_packEntry g l d S B P (va_up V 4 u) bv tc dn wr K hSB hVu hK j hj i (by omega)
          rw [ej, e4] at hcE
          refine hb_callV (As := [.ref (P j), .int (nI i)]) (rest := []) G hml (hcE) (hK.1) rfl km_X1_171 ki_X1_packEntry ks_X1_packEntry kn_X1 ko_X1_packEntry hd_X1_packEntry ⟨Nat.le_of_ble_eq_true rfl, Nat.le_of_ble_eq_true rfl⟩ hl.size rfl (Nat.le_of_ble_eq_true rfl) dX1_packThinned_34 ⟨Nat.le_of_ble_eq_true rfl, Nat.le_of_ble_eq_true rfl⟩ hL (fun q h => h) (fun v1 K1 locs1 hp hL => ?_)
          obtain ⟨rfl, hK1, hF1⟩ := hp
          rw [bx_uu] at hK1
          refine lv_topi (fun r_5 er_5 => ?_)
          refine lv_if_ne (tgt := 42) G.1 G.2.1 dX1_packThinned_37 (by decide) (fun c_6 => ?_) (fun c_6 => ?_)
          · have hne : ¬ (pkE B S u bv ((V j).1 2 i) ((V j).1 3 i)).1 = 0 := by rw [← er_5]; exact c_6
            obtain ⟨t_7, et_7⟩ : ∃ z : Int32, z = (nI i) + 1 := ⟨_, rfl⟩
            refine hb_iinc (v := t_7) G dX1_packThinned_42 hl rfl (by rw [et_7]; rfl) (by decide) (fun ls hl => ?_)
            have hl : lh ls 5 [some (.ref d), some (.ref (P j)), some (.int (nI n)), some (.int k), some (.int t_7)] := hl
            refine lv_goto (tgt := 15) G.1 G.2.1 dX1_packThinned_45 (by decide) ?_
            exact ih (i + 1) t_7 _ _ K1 locs1 ls (by omega) (by omega) (by rw [et_7]; exact nI_1 i) (pkE_ok hu) hK1 (hF.tr hF1) (by rw [hI, hs9, if_neg hgo, if_neg hne]) hL hl
          · have he0 : (pkE B S u bv ((V j).1 2 i) ((V j).1 3 i)).1 = 0 := by rw [← er_5]; exact c_6
            have hpk : pkL B S (V j) k n 0 (lgBegin (V j) (V 4)) (mkD B S V 4) = pkE B S u bv ((V j).1 2 i) ((V j).1 3 i) := by rw [hI, hs9, if_neg hgo, if_pos he0]
            refine lv_iconst (v := 0) G.1 G.2.1 dX1_packThinned_40 (by decide) ?_
            exact hb_zret G hr hlocks (by decide) ⟨by rw [hpk, he0], by rw [hpk]; exact hK1, hF.tr hF1⟩ hL (Nat.le_refl _) (Nat.le_refl _) dX1_packThinned_41
  refine hb_aload_n G dX1_packThinned_0 hl rfl ?_
  refine hb_get G h.1 rfl inX1 3 (by decide) kf_X1_16 rfl rfl dX1_packThinned_1 ?_
  refine hb_aload_n G dX1_packThinned_4 hl rfl ?_
  refine hb_callV (As := [.ref (P j)]) (rest := []) G hml (c_beginAs g l (P 4) (V 4) _ h4 (P j) (V j) hgj hjd) (h4.1) rfl km_X1_105 ki_X0_beginAs ks_X0_beginAs kn_X0 ko_X0_beginAs hd_X0_beginAs ⟨Nat.le_of_ble_eq_true rfl, Nat.le_of_ble_eq_true rfl⟩ hl.size rfl (Nat.le_of_ble_eq_true rfl) dX1_packThinned_5 ⟨Nat.le_of_ble_eq_true rfl, Nat.le_of_ble_eq_true rfl⟩ hL (fun q h => fB_mk (by have := h.1; omega) (by have := h.2; omega)) (fun v1 K1 locs1 hp hL => ?_)
  obtain ⟨rfl, hg1, hF1⟩ := hp
  have hk1 := h.lg (by decide) hg1 hF1
  have hb0 : lgOk (lgBegin (V j) (V 4)) := ⟨Nat.zero_le _, Nat.zero_le _⟩
  have hV1 : ∀ m9, m9 < 5 → lgOk (va_up V 4 (lgBegin (V j) (V 4)) m9) := fun m9 hm => by
    by_cases h9 : m9 = 4
    · subst h9; rw [va_up_self]; exact hb0
    · rw [va_up_ne _ _ h9]; exact hV m9 hm
  have eD : mkD B S (va_up V 4 (lgBegin (V j) (V 4))) 4 = mkD B S V 4 := rfl
  refine hb_aload_n G dX1_packThinned_8 hl rfl ?_
  refine hb_callV (As := []) (rest := []) G hml (c_markBlockUse g l d S B P _ bu tc dn wr _ hSB hV1 hk1) (hk1.1) rfl km_X1_151 ki_X1_markBlockUse ks_X1_markBlockUse kn_X1 ko_X1_markBlockUse hd_X1_markBlockUse ⟨Nat.le_of_ble_eq_true rfl, Nat.le_of_ble_eq_true rfl⟩ hl.size rfl (Nat.le_of_ble_eq_true rfl) dX1_packThinned_9 ⟨Nat.le_of_ble_eq_true rfl, Nat.le_of_ble_eq_true rfl⟩ hL (f1_in (fB_mk (by omega) (by omega))) (fun v1 K2 locs2 hp hL => ?_)
  obtain ⟨rfl, hb2, hF2⟩ := hp
  rw [eD] at hb2
  have hk2 := hk1.ub hb2 hF2
  refine lv_iconst (v := 0) G.1 G.2.1 dX1_packThinned_12 (by decide) ?_
  refine hb_istore G dX1_packThinned_13 hl (by decide) (fun ls hl => ?_)
  have hl : lh ls 5 [some (.ref d), some (.ref (P j)), some (.int (nI n)), some (.int k), some (.int 0)] := hl
  exact lp (n + 1) 0 0 _ _ K2 locs2 ls (by omega) (by omega) rfl hb0 hk2 ((hF1.wide (by omega) (by omega)).tr (hF2.fr (by omega) (by omega))) rfl hL hl
end
section
/-! THROWING: what a throw asks of the tables and of the heap's start -/
abbrev nIA : String := "java/lang/IllegalArgumentException"
abbrev nIS : String := "java/lang/IllegalStateException"
abbrev nUp : List String := ["java/lang/RuntimeException", "java/lang/Exception"]
def nbIA : List Cond := [.castable nIA nIA, .declares ⟨"java/lang/RuntimeException", "<init>", "()V"⟩, .declares ⟨"java/lang/RuntimeException", "<init>", "(Ljava/lang/String;)V"⟩, .declares ⟨"java/lang/Exception", "<init>", "()V"⟩, .declares ⟨"java/lang/Exception", "<init>", "(Ljava/lang/String;)V"⟩, .declares ⟨"java/lang/Throwable", "<init>", "()V"⟩, .declares ⟨"java/lang/Throwable", "<init>", "(Ljava/lang/String;)V"⟩]
def nbIS : List Cond := [.castable nIS nIS, .declares ⟨"java/lang/RuntimeException", "<init>", "()V"⟩, .declares ⟨"java/lang/RuntimeException", "<init>", "(Ljava/lang/String;)V"⟩, .declares ⟨"java/lang/Exception", "<init>", "()V"⟩, .declares ⟨"java/lang/Exception", "<init>", "(Ljava/lang/String;)V"⟩, .declares ⟨"java/lang/Throwable", "<init>", "()V"⟩, .declares ⟨"java/lang/Throwable", "<init>", "(Ljava/lang/String;)V"⟩]
theorem nbIA_ok : ∀ w ∈ (vx_atS RX1 158 nIA nUp).filter (fun w => !goodWord w), w ∈ nbIA := by decide +kernel
theorem nbIS_ok : ∀ w ∈ (vx_atS RX1 165 nIS nUp).filter (fun w => !goodWord w), w ∈ nbIS := by decide +kernel
theorem gdIA_ok : ∀ w ∈ (vx_atS RX1 158 nIA nUp).filter goodWord, w ∈ tb := by decide +kernel
theorem gdIS_ok : ∀ w ∈ (vx_atS RX1 165 nIS nUp).filter goodWord, w ∈ tb := by decide +kernel
theorem otIA : ∀ w ∈ Cond.classLink RX1 154 nIA :: Cond.initialized nIA :: vx_atS RX1 158 nIA nUp, vx_ot w = true := by decide +kernel
theorem otIS : ∀ w ∈ Cond.classLink RX1 161 nIS :: Cond.initialized nIS :: vx_atS RX1 165 nIS nUp, vx_ot w = true := by decide +kernel
/-- the words of a throw that aren't good ones -/
def thW (U : State) : Prop := (∀ w ∈ nbIA, va_Nw w U) ∧ (∀ w ∈ nbIS, va_Nw w U)
theorem nbIA_ot : ∀ w ∈ nbIA, w.onTables = true := by decide +kernel
theorem nbIS_ot : ∀ w ∈ nbIS, w.onTables = true := by decide +kernel
theorem thW.warm {s U : State} (hW : s.WarmedH U.vm) (h : thW s) : thW U := by
  refine ⟨fun w hw => ?_, fun w hw => ?_⟩
  · have h1 := h.1 w hw
    simp only [nbIA, List.mem_cons, List.not_mem_nil, or_false] at hw
    rcases hw with rfl | rfl | rfl | rfl | rfl | rfl | rfl
    · exact va_Nw.warmC hW h1
    all_goals exact va_Nw.warmD hW h1
  · have h1 := h.2 w hw
    simp only [nbIS, List.mem_cons, List.not_mem_nil, or_false] at hw
    rcases hw with rfl | rfl | rfl | rfl | rfl | rfl | rfl
    · exact va_Nw.warmC hW h1
    all_goals exact va_Nw.warmD hW h1
theorem thW.same {s U : State} (hv : s.vm = U.vm) (h : thW s) : thW U := ⟨fun w hw => va_Nw.same (nbIA_ot w hw) hv (h.1 w hw), fun w hw => va_Nw.same (nbIS_ot w hw) hv (h.2 w hw)⟩
/-- strings, words, and the two statics of Throwable, which lie below z; sa: where the strings lie -/
def XX (z : Nat) (sa : Nat → Nat) (U : State) (H : Heap) : Prop := vk_R RX1 156 "there is no such log" (sa 0) U ∧ vk_R RX1 166 "a number is out of its bounds" (sa 1) U ∧ vk_R RX1 163 "the disk is down" (sa 2) U ∧ thW U ∧ vx_Zq Bundle.tN "UNASSIGNED_STACK" Bundle.steD (fG z) U H ∧ vx_Zq Bundle.tN "SUPPRESSED_SENTINEL" Bundle.listD (fG z) U H
theorem XX.warm {z : Nat} {sa : Nat → Nat} {s U : State} {H : Heap} (hW : s.WarmedH U.vm) (h : XX z sa s H) : XX z sa U H := ⟨vk_R.warm hW h.1, vk_R.warm hW h.2.1, vk_R.warm hW h.2.2.1, h.2.2.2.1.warm hW, vx_Zq.moved hW.alike h.2.2.2.2.1, vx_Zq.moved hW.alike h.2.2.2.2.2⟩
theorem XX.calling {z : Nat} {sa : Nat → Nat} {U : State} {H : Heap} (gf : JFrame) (mk : MethodId) (a : Array Value) (h : XX z sa U H) : XX z sa (U.calling gf mk a) H := ⟨vk_R.same rfl h.1, vk_R.same rfl h.2.1, vk_R.same rfl h.2.2.1, thW.same (s := U) (U := U.calling gf mk a) rfl h.2.2.2.1, vx_Zq.moved (u := U) (U := U.calling gf mk a) (Vm.Alike.refl U.vm) h.2.2.2.2.1, vx_Zq.moved (u := U) (U := U.calling gf mk a) (Vm.Alike.refl U.vm) h.2.2.2.2.2⟩
theorem XX.kept {z : Nat} {sa : Nat → Nat} {U : State} {H H1 : Heap} (h : XX z sa U H) (hq : ∀ q : Nat, q < z → q < H.size → H1[q]? = H[q]?) : XX z sa U H1 := ⟨h.1, h.2.1, h.2.2.1, h.2.2.2.1, h.2.2.2.2.1.kept (fun a h1 h2 => hq a (Nat.not_le.mp h2) h1), h.2.2.2.2.2.kept (fun a h1 h2 => hq a (Nat.not_le.mp h2) h1)⟩
/-- a contract of a method that may throw: px says which, and the heap then -/
def HX (g : Gx) (z : Nat) (sa : Nat → Nat) (l : Launch) (y : MethodName) (cy : ByteArray) (ny : Nat) (ry : Option FieldType) (fr lo mc ms : Nat) (av : List Value) (H : Heap) (post : Option Value → Heap → Prop) (px : String → Heap → Prop) (F : Nat → Prop) : Prop :=
  vx_Met l y (Cond.code y cy ny ry :: tb) { frames := fr, cells := mc, slots := ms, locals := lo } (fun v U => v = av.toArray ∧ U.heap = H ∧ KK g U ∧ XX z sa U H) (fun _ _ o t => ∃ v, o = .returned v ∧ post v t.heap) (fun E _ t => px E t.heap) mc ms F
def hX (below : List Frame) (args : Array Value) (s : State) (post : Option Value → Heap → Prop) (px : String → Heap → Prop) (mc ms : Nat) (F : Nat → Prop) : State → Prop := vx_MQ below (fun _ _ o t => ∃ v, o = .returned v ∧ post v t.heap) (fun E _ t => px E t.heap) args s mc ms F
theorem HX.ofW {g : Gx} {z : Nat} {sa : Nat → Nat} {l : Launch} {y : MethodName} {cy : ByteArray} {ny : Nat} {ry : Option FieldType} {fr lo mc ms : Nat} {av : List Value} {H : Heap} {post : Option Value → Heap → Prop} {px : String → Heap → Prop} {F : Nat → Prop} (hy : plainName y.cls = true) (hn : av.length ≤ ny) (hc : ∀ v ∈ av, v.category = 1)
    (body : ∀ (p : Program) (e : Env) (s : State) (m : MethodId) (args : Array Value) (below : List Frame) (meth : Method) (c : Code) (ls : Array Slot), Cx g p s m args c cy y.cls → meth.sig.returnType = ry → c.maxLocals = ny → meth.locks = false → (∀ x ∈ c.exceptionTable.toList, False) → s.heap = H → XX z sa s H → lh ls ny (av.map some ++ List.replicate (ny - av.length) none) →
      W p l e { frames := fr, cells := mc, slots := ms, locals := lo } s m args below meth c H [] 0 0 (hX below args s post px mc ms F) (F0 m 0 ls [])) : HX g z sa l y cy ny ry fr lo mc ms av H post px F := by
  refine vx_ofW (cc := cy) (maxL := ny) (ret := ry) hy rfl ?_
  intro p e s m args below meth c s₁ B hml htb hv
  obtain ⟨rfl, hH, hK, hX9⟩ := hv
  have hts := atoms_spec (ws := Cond.code y cy ny ry :: tb) B.pre
  have G : Cx g p s m av.toArray c cy y.cls := ⟨B.exec, B.bytes, findClass_of_methodNamed B.named, fun w h => hts w (List.mem_cons_of_mem _ h), hK⟩
  rw [lg_entry_eq, hH]
  exact body p e s m _ below meth c _ G B.returns hml B.notSynchronized htb hH hX9 (lh.entry hn hc)
theorem hx_blind {g : Gx} {z : Nat} {sa : Nat → Nat} {av : List Value} {H : Heap} : FrameBlind (fun (v : Array Value) (U : State) => v = av.toArray ∧ U.heap = H ∧ KK g U ∧ XX z sa U H) := fun a U gf mk h => ⟨h.1, h.2.1, KK.calling gf mk a h.2.2.1, XX.calling gf mk a h.2.2.2⟩
section HXC
variable {p : Program} {l : Launch} {e : Env} {R : Room} {s : State} {m : MethodId} {args : Array Value} {below : List Frame} {meth : Method} {c : Code} {H : Heap} {locs : List Loc} {cells slots : Nat} {Q : State → Prop}
variable {g : Gx} {z : Nat} {sa : Nat → Nat} {cc : ByteArray} {own : String} {pc n : Nat} {ls : Array Slot} {rest st : List Value} {A : Nat → Prop} {a : Nat}
variable {y : MethodName} {cy : ByteArray} {ny : Nat} {ry : Option FieldType} {fr lo mc ms index : Nat} {As : List Value} {post : Option Value → Heap → Prop} {px : String → Heap → Prop} {F : Nat → Prop}
theorem hx_goes (hr : vx_Run p l e R s m args below meth c H locs cells slots mc ms (F0 m pc ls st) rest (fun _ o t => ∃ v, o = .returned v ∧ post v t.heap) (fun E _ t => px E t.heap) F) (hL : ∀ q ∈ locs, A q.base) (hF : ∀ q, F q → A q)
    (kx : ∀ (E : String) (ce : Cell) (q9 : Addr) (H1 : Heap) (locs1 : List Loc), px E H1 → (∀ q ∈ locs1, A q.base) → H1[q9]? = some ce → ce.vm = .none → s.vm.findClass E = some ce.cls → vx_W p l e R s m args below meth c H1 locs1 (cells + mc) (slots + ms) Q (F0 m pc ls rest) q9)
    (kk : ∀ (v : Option Value) (H1 : Heap) (locs1 : List Loc), post v H1 → (∀ q ∈ locs1, A q.base) → W p l e R s m args below meth c H1 locs1 (cells + mc) (slots + ms) Q (F0 m (pc + 3) ls (v.toList ++ rest))) : W p l e R s m args below meth c H locs cells slots Q (F0 m pc ls st) := by
  intro T hT X
  rcases hr T hT X with ⟨v, st0, t, T', L, h0, X', hLL, e1, e2, ⟨v', hv, hp⟩, st⟩ | ⟨q, st0, t, T', L, E, ce, h0, X', hLL, e1, e2, hp, hce, hcv, hcl, st⟩
  · cases hv
    obtain ⟨t2, a1, b1⟩ := kk v T'.heap (locs ++ L) (by rw [e1]; exact hp) (t_lL hL (fun q h => hF _ (hLL q h))) T' rfl X'
    exact ⟨t2, st t2 a1, b1⟩
  · obtain ⟨t2, a1, b1⟩ := kx E ce q T'.heap (locs ++ L) (by rw [e1]; exact hp) (t_lL hL (fun q h => hF _ (hLL q h))) (by rw [e1]; exact hce) hcv hcl T' rfl X'
    exact ⟨t2, st.trans a1, b1⟩
theorem hx_callS (G : Cx g p s m args c cc own) (hXs : XX z sa s H) (hml : c.maxLocals = n) (hM : HX g z sa l y cy ny ry fr lo mc ms As H post px F) (kl : Cond.methodLink own index y ∈ tb) (kt : Cond.static y ∈ tb) (kn : Cond.initialized y.cls ∈ tb) (ko : Cond.code y cy ny ry ∈ tb) (hd : hmd y As.length)
    (hR : fr + 1 ≤ R.frames ∧ 8 + (ny + 11) + lo ≤ R.locals) (hs : ls.size = n) (hst : st = As.reverse ++ rest) (hW : (rest.map fun v => v.category).sum ≤ 8) (hdg : decode cc pc = .ok (.invokestatic index, 3)) (hf : cells + mc ≤ R.cells ∧ slots + ms ≤ R.slots) (hL : ∀ q ∈ locs, A q.base) (hF : ∀ q, F q → A q)
    (kx : ∀ (E : String) (ce : Cell) (q9 : Addr) (H1 : Heap) (locs1 : List Loc), px E H1 → (∀ q ∈ locs1, A q.base) → H1[q9]? = some ce → ce.vm = .none → s.vm.findClass E = some ce.cls → vx_W p l e R s m args below meth c H1 locs1 (cells + mc) (slots + ms) Q (F0 m pc ls rest) q9)
    (kk : ∀ (v : Option Value) (H1 : Heap) (locs1 : List Loc), post v H1 → (∀ q ∈ locs1, A q.base) → W p l e R s m args below meth c H1 locs1 (cells + mc) (slots + ms) Q (F0 m (pc + 3) ls (v.toList ++ rest))) : W p l e R s m args below meth c H locs cells slots Q (F0 m pc ls st) :=
  hx_goes (vx_runS (As := As) (rest := rest) ⟨G.1, G.2.1, hml, G.2.2.1, G.2.2.2.1⟩ hM ⟨callB_of As.length G.2.2.2.1 (hm_good ko) rfl rfl rfl (G.2.2.2.1 _ kn) (G.2.2.2.1 _ kl) hd hR, G.2.2.2.1 _ kt⟩ ⟨hx_blind, fun U hU hW => ⟨rfl, hU, KK.warm hW G.2.2.2.2, XX.warm hW hXs⟩⟩ rfl rfl hs hst (lv_room hW) hdg hf) hL hF kx kk
theorem hx_callV (G : Cx g p s m args c cc own) (hXs : XX z sa s H) (hml : c.maxLocals = n) {b ci N : Nat} {fs : List Value} {T : u_T} (hM : HX g z sa l y cy ny ry fr lo mc ms (.ref b :: As) H post px F) (he : ob g b ci fs H) (hc : vwCl[ci]? = some (y.cls, T, N)) (kl : Cond.methodLink own index y ∈ tb) (ki : Cond.instanceMethod y ∈ tb) (ks : Cond.selects y.cls y y ∈ tb) (kn : Cond.initialized y.cls ∈ tb) (ko : Cond.code y cy ny ry ∈ tb) (hd : hmd y As.length)
    (hR : fr + 1 ≤ R.frames ∧ 8 + (ny + 11) + lo ≤ R.locals) (hs : ls.size = n) (hst : st = As.reverse ++ .ref b :: rest) (hW : (rest.map fun v => v.category).sum ≤ 8) (hdg : decode cc pc = .ok (.invokevirtual index, 3)) (hf : cells + mc ≤ R.cells ∧ slots + ms ≤ R.slots) (hL : ∀ q ∈ locs, A q.base) (hF : ∀ q, F q → A q)
    (kx : ∀ (E : String) (ce : Cell) (q9 : Addr) (H1 : Heap) (locs1 : List Loc), px E H1 → (∀ q ∈ locs1, A q.base) → H1[q9]? = some ce → ce.vm = .none → s.vm.findClass E = some ce.cls → vx_W p l e R s m args below meth c H1 locs1 (cells + mc) (slots + ms) Q (F0 m pc ls rest) q9)
    (kk : ∀ (v : Option Value) (H1 : Heap) (locs1 : List Loc), post v H1 → (∀ q ∈ locs1, A q.base) → W p l e R s m args below meth c H1 locs1 (cells + mc) (slots + ms) Q (F0 m (pc + 3) ls (v.toList ++ rest))) : W p l e R s m args below meth c H locs cells slots Q (F0 m pc ls st) :=
  hx_goes (vx_runV (As := As) (rest := rest) ⟨G.1, G.2.1, hml, G.2.2.1, G.2.2.2.1⟩ hM ⟨callB_of As.length G.2.2.2.1 (hm_good ko) rfl rfl rfl (G.2.2.2.1 _ kn) (G.2.2.2.1 _ kl) hd hR, G.2.2.2.1 _ ki, G.2.2.2.1 _ ks⟩ ⟨hx_blind, va_recv G.2.2.2.2.1 (hb_P he) (q0 := 0) hc rfl, fun U hU hW => ⟨rfl, hU, KK.warm hW G.2.2.2.2, XX.warm hW hXs⟩⟩ rfl rfl hs hst (lv_room hW) hdg hf) hL hF kx kk
/-- what was thrown goes on to the caller -/
theorem hx_out {E : String} {ce : Cell} {q : Addr} (htb : ∀ x ∈ c.exceptionTable.toList, False) (hlocks : meth.locks = false) (hp : px E H) (hL : ∀ z ∈ locs, F z.base) (hcell : H[q]? = some ce) (hv : ce.vm = .none) (hcl : s.vm.findClass E = some ce.cls) (h1 : cells ≤ mc) (h2 : slots ≤ ms) : vx_W p l e R s m args below meth c H locs cells slots (hX below args s post px mc ms F) (F0 m pc ls rest) q :=
  vx_out (fun x hx => (htb x hx).elim) hlocks hcell hv hcl (fun t ht _ => by rw [ht]; exact hp) hL h1 h2
theorem hx_iret (G : Cx g p s m args c cc own) (hr : meth.sig.returnType = some .int) (hlocks : meth.locks = false) {v : Int32} (hp : post (some (.int v)) H) (hL : ∀ q ∈ locs, F q.base) (h1 : cells ≤ mc) (h2 : slots ≤ ms) (hdg : decode cc pc = .ok (.ireturn, 1)) : W p l e R s m args below meth c H locs cells slots (hX below args s post px mc ms F) (F0 m pc ls [.int v]) := vx_ret (hb_iret G hr hlocks hp hL h1 h2 hdg)
theorem hx_vret (G : Cx g p s m args c cc own) (hr : meth.sig.returnType = none) (hlocks : meth.locks = false) (hp : post none H) (hL : ∀ q ∈ locs, F q.base) (h1 : cells ≤ mc) (h2 : slots ≤ ms) (hdg : decode cc pc = .ok (.return_, 1)) : W p l e R s m args below meth c H locs cells slots (hX below args s post px mc ms F) (F0 m pc ls []) := vx_ret (hb_vret G hr hlocks hp hL h1 h2 hdg)
theorem hx_aret (G : Cx g p s m args c cc own) {rt : FieldType} (hr : meth.sig.returnType = some rt) (hrt : (∃ n, rt = .object n) ∨ ∃ t, rt = .array t) (hlocks : meth.locks = false) (hp : post (some (.ref a)) H) (hL : ∀ q ∈ locs, F q.base) (h1 : cells ≤ mc) (h2 : slots ≤ ms) (hdg : decode cc pc = .ok (.areturn, 1)) : W p l e R s m args below meth c H locs cells slots (hX below args s post px mc ms F) (F0 m pc ls [.ref a]) := vx_ret (hb_aret G hr hrt hlocks hp hL h1 h2 hdg)
theorem hx_IA (G : Cx g p s m args c cc RX1) (hXs : XX z sa s H) (hH : s.heap = H) (hml : c.maxLocals = n) (hs : ls.size = n) (hl : l.stackTraces = false) {is : Nat} {tx : String} {sb : Nat} (hstr : vk_R RX1 is tx sb s) (htb : ∀ x ∈ c.exceptionTable.toList, False) (hlocks : meth.locks = false)
    (d0 : decode cc pc = .ok (.new 154, 3)) (d3 : decode cc (pc + 3) = .ok (.dup, 1)) (d4 : decode cc (pc + 4) = .ok (.ldc is, 2)) (d6 : decode cc (pc + 6) = .ok (.invokespecial 158, 3)) (d9 : decode cc (pc + 9) = .ok (.athrow, 1))
    (hf : 5 < R.frames) (hlo : (rest.map fun v => v.category).sum + 82 ≤ R.locals) (hc : 1 ≤ R.cells) (hsl : 6 ≤ R.slots) (hp : ∀ H1 : Heap, H.size ≤ H1.size → (∀ q : Nat, q < H.size → H1[q]? = H[q]?) → px nIA H1) (h1 : 1 ≤ mc) (h2 : 6 ≤ ms) : W p l e R s m args below meth c H [] 0 0 (hX below args s post px mc ms F) (F0 m pc ls rest) := by
  subst hH
  exact vx_throwS (A := fG z) (names := nUp) G.1 G.2.1 hl G.2.2.1 (by decide +kernel) (by decide +kernel) (G.2.2.2.1 _ kc_X1_154) (G.2.2.2.1 _ kn_IA) hstr (vx_hat (fun w h => G.2.2.2.1 w (gdIA_ok w h)) nbIA_ok (fun w h => va_Nw.use (nbIA_ot w h) (hXs.2.2.2.1.1 w h))) otIA hXs.2.2.2.2.1 hXs.2.2.2.2.2 va_S.rf (hs.trans hml.symm) d0 d3 d4 d6 d9 (fun x hx => (htb x hx).elim) hf hlo (by omega) (by omega) hlocks (fun t _ h3 h4 => hp _ h3 h4) (fun z h => by cases h) (by omega) (by omega)
theorem hx_IS (G : Cx g p s m args c cc RX1) (hXs : XX z sa s H) (hH : s.heap = H) (hml : c.maxLocals = n) (hs : ls.size = n) (hl : l.stackTraces = false) {is : Nat} {tx : String} {sb : Nat} (hstr : vk_R RX1 is tx sb s) (htb : ∀ x ∈ c.exceptionTable.toList, False) (hlocks : meth.locks = false)
    (d0 : decode cc pc = .ok (.new 161, 3)) (d3 : decode cc (pc + 3) = .ok (.dup, 1)) (d4 : decode cc (pc + 4) = .ok (.ldc is, 2)) (d6 : decode cc (pc + 6) = .ok (.invokespecial 165, 3)) (d9 : decode cc (pc + 9) = .ok (.athrow, 1))
    (hf : 5 < R.frames) (hlo : (rest.map fun v => v.category).sum + 82 ≤ R.locals) (hc : 1 ≤ R.cells) (hsl : 6 ≤ R.slots) (hp : ∀ H1 : Heap, H.size ≤ H1.size → (∀ q : Nat, q < H.size → H1[q]? = H[q]?) → px nIS H1) (h1 : 1 ≤ mc) (h2 : 6 ≤ ms) : W p l e R s m args below meth c H [] 0 0 (hX below args s post px mc ms F) (F0 m pc ls rest) := by
  subst hH
  exact vx_throwS (A := fG z) (names := nUp) G.1 G.2.1 hl G.2.2.1 (by decide +kernel) (by decide +kernel) (G.2.2.2.1 _ kc_X1_161) (G.2.2.2.1 _ kn_IS) hstr (vx_hat (fun w h => G.2.2.2.1 w (gdIS_ok w h)) nbIS_ok (fun w h => va_Nw.use (nbIS_ot w h) (hXs.2.2.2.1.2 w h))) otIS hXs.2.2.2.2.1 hXs.2.2.2.2.2 va_S.rf (hs.trans hml.symm) d0 d3 d4 d6 d9 (fun x hx => (htb x hx).elim) hf hlo (by omega) (by omega) hlocks (fun t _ h3 h4 => hp _ h3 h4) (fun z h => by cases h) (by omega) (by omega)
end HXC
end
section
def Gr (H H1 : Heap) : Prop := H.size ≤ H1.size ∧ ∀ q : Nat, q < H.size → H1[q]? = H[q]?
def dkIs (i : Int32) : Prop := 0 ≤ i ∧ i < 4
/-- what is thrown: the argument is wrong, or the disk is down -/
def thX (ok : Prop) (dn : Int32) (H : Heap) (E : String) (H1 : Heap) : Prop := Gr H H1 ∧ (E = nIA ∧ ¬ ok ∨ E = nIS ∧ ok ∧ ¬ dn = 0)
theorem dkIs_of {i : Int32} (h : dkIs i) : ∃ j : Nat, j < 4 ∧ i = nI j := by
  obtain ⟨j, h1, h2⟩ := nI_of2 (x := i) (M := 3) (n := 3) rfl (i32_nlt.mpr h.1) (by have h9 := h.2; rw [i32_lt] at h9; rw [i32_le]; have e1 : (4 : Int32).toInt = 4 := rfl; have e2 : (3 : Int32).toInt = 3 := rfl; omega)
  exact ⟨j, by omega, h2⟩
theorem dkIs_nI {j : Nat} (h : j < 4) : dkIs (nI j) := ⟨nI_pos' (by omega), nI_lt h (by decide)⟩
set_option maxHeartbeats 4000000 in
set_option maxRecDepth 100000 in
/-- requireWithin -/
theorem c_requireWithin (g : Gx) (z : Nat) (sa : Nat → Nat) (l : Launch) (hlt : l.stackTraces = false) (i lo hi : Int32) (H : Heap) : HX g z sa l yX1_requireWithin cX1_requireWithin 3 none 6 90 1 6 [.int i, .int lo, .int hi] H (fun v H1 => v = none ∧ (lo ≤ i ∧ i ≤ hi) ∧ H1 = H) (fun E H1 => E = nIA ∧ ¬ (lo ≤ i ∧ i ≤ hi) ∧ Gr H H1) (f0) := by
  refine HX.ofW (by decide) (Nat.le_of_ble_eq_true rfl) (by simp [Value.category]) ?_
  intro p e s m args below meth c ls G hr hml hlocks htb hH hXs hl
  have hl : lh ls 3 [some (.int i), some (.int lo), some (.int hi)] := hl
  have hL : ∀ q ∈ ([] : List Loc), (f0) q.base := fun q h => by cases h
  refine hb_iload_n G dX1_requireWithin_0 hl rfl ?_
  refine hb_iload_n G dX1_requireWithin_1 hl rfl ?_
  refine lv_icmp_lt (tgt := 10) G.1 G.2.1 dX1_requireWithin_2 (by decide) (fun c_1 => ?_) (fun c_1 => ?_)
  · exact hx_IA G hXs hH hml hl.size hlt hXs.2.1 htb hlocks dX1_requireWithin_10 dX1_requireWithin_13 dX1_requireWithin_14 dX1_requireWithin_16 dX1_requireWithin_19 (Nat.le_of_ble_eq_true rfl) (Nat.le_of_ble_eq_true rfl) (Nat.le_of_ble_eq_true rfl) (Nat.le_of_ble_eq_true rfl) (fun H1 h1 h2 => ⟨rfl, fun q => i32_nlt.mpr q.1 c_1, h1, h2⟩) (Nat.le_of_ble_eq_true rfl) (Nat.le_of_ble_eq_true rfl)
  · refine hb_iload_n G dX1_requireWithin_5 hl rfl ?_
    refine hb_iload_n G dX1_requireWithin_6 hl rfl ?_
    refine lv_icmp_le (tgt := 20) G.1 G.2.1 dX1_requireWithin_7 (by decide) (fun c_2 => ?_) (fun c_2 => ?_)
    · exact hx_vret G hr hlocks ⟨rfl, ⟨i32_nlt.mp c_1, c_2⟩, rfl⟩ hL (Nat.le_of_ble_eq_true rfl) (Nat.le_of_ble_eq_true rfl) dX1_requireWithin_20
    · exact hx_IA G hXs hH hml hl.size hlt hXs.2.1 htb hlocks dX1_requireWithin_10 dX1_requireWithin_13 dX1_requireWithin_14 dX1_requireWithin_16 dX1_requireWithin_19 (Nat.le_of_ble_eq_true rfl) (Nat.le_of_ble_eq_true rfl) (Nat.le_of_ble_eq_true rfl) (Nat.le_of_ble_eq_true rfl) (fun H1 h1 h2 => ⟨rfl, fun q => c_2 q.2, h1, h2⟩) (Nat.le_of_ble_eq_true rfl) (Nat.le_of_ble_eq_true rfl)
set_option maxHeartbeats 4000000 in
set_option maxRecDepth 100000 in
/-- requirePower -/
theorem c_requirePower (g : Gx) (z : Nat) (sa : Nat → Nat) (l : Launch) (hlt : l.stackTraces = false) (d S p4 : Nat) (tc dn wr : Int32) (H : Heap) (hd : ob g d 1 (dkFs d S p4 tc dn wr) H) : HX g z sa l yX1_requirePower cX1_requirePower 1 none 6 90 1 6 [.ref d] H (fun v H1 => v = none ∧ dn = 0 ∧ H1 = H) (fun E H1 => E = nIS ∧ ¬ dn = 0 ∧ Gr H H1) (f0) := by
  refine HX.ofW (by decide) (Nat.le_of_ble_eq_true rfl) (by simp [Value.category]) ?_
  intro p e s m args below meth c ls G hr hml hlocks htb hH hXs hl
  have hl : lh ls 1 [some (.ref d)] := hl
  have hL : ∀ q ∈ ([] : List Loc), (f0) q.base := fun q h => by cases h
  refine hb_aload_n G dX1_requirePower_0 hl rfl ?_
  refine hb_get G hd rfl inX1 5 (by decide) kf_X1_24 rfl rfl dX1_requirePower_1 ?_
  refine lv_if_eq (tgt := 17) G.1 G.2.1 dX1_requirePower_4 (by decide) (fun c_1 => ?_) (fun c_1 => ?_)
  · exact hx_vret G hr hlocks ⟨rfl, c_1, rfl⟩ hL (Nat.le_of_ble_eq_true rfl) (Nat.le_of_ble_eq_true rfl) dX1_requirePower_17
  · exact hx_IS G hXs hH hml hl.size hlt hXs.2.2.1 htb hlocks dX1_requirePower_7 dX1_requirePower_10 dX1_requirePower_11 dX1_requirePower_13 dX1_requirePower_16 (Nat.le_of_ble_eq_true rfl) (Nat.le_of_ble_eq_true rfl) (Nat.le_of_ble_eq_true rfl) (Nat.le_of_ble_eq_true rfl) (fun H1 h1 h2 => ⟨rfl, c_1, h1, h2⟩) (Nat.le_of_ble_eq_true rfl) (Nat.le_of_ble_eq_true rfl)
set_option maxHeartbeats 4000000 in
set_option maxRecDepth 100000 in
/-- existingLog -/
theorem c_existingLog (g : Gx) (z : Nat) (sa : Nat → Nat) (l : Launch) (hlt : l.stackTraces = false) (d S B : Nat) (P : Nat → Nat) (V : Nat → LV) (bu : Nat → Int32) (tc dn wr : Int32) (H : Heap) (hSB : dkB S B) (hV : ∀ j, j < 5 → lgOk (V j)) (h : dkAt g d S B P V bu tc dn wr H) (i : Int32) : HX g z sa l yX1_existingLog cX1_existingLog 3 (some (.object "LogDisk$Log")) 6 90 1 6 [.ref d, .int i] H (fun v H1 => (∃ j : Nat, j < 4 ∧ i = nI j ∧ v = some (.ref (P j))) ∧ H1 = H) (fun E H1 => E = nIA ∧ ¬ dkIs i ∧ Gr H H1) (f0) := by
  refine HX.ofW (by decide) (Nat.le_of_ble_eq_true rfl) (by simp [Value.category]) ?_
  intro p e s m args below meth c ls G hr hml hlocks htb hH hXs hl
  have hl : lh ls 3 [some (.ref d), some (.int i), none] := hl
  have hL : ∀ q ∈ ([] : List Loc), (f0) q.base := fun q h => by cases h
  refine hb_iload_n G dX1_existingLog_0 hl rfl ?_
  refine lv_if_lt (tgt := 22) G.1 G.2.1 dX1_existingLog_1 (by decide) (fun c_1 => ?_) (fun c_1 => ?_)
  · refine lv_null G.1 G.2.1 dX1_existingLog_22 ?_
    refine hb_astore_nN G dX1_existingLog_23 hl (by decide) (fun ls hl => ?_)
    have hl : lh ls 3 [some (.ref d), some (.int i), some (.null)] := hl
    refine hb_aload_nN G dX1_existingLog_24 hl rfl ?_
    refine lv_ifnonnullN G.1 G.2.1 dX1_existingLog_25 ?_
    exact hx_IA G hXs hH hml hl.size hlt hXs.1 htb hlocks dX1_existingLog_28 dX1_existingLog_31 dX1_existingLog_32 dX1_existingLog_34 dX1_existingLog_37 (Nat.le_of_ble_eq_true rfl) (Nat.le_of_ble_eq_true rfl) (Nat.le_of_ble_eq_true rfl) (Nat.le_of_ble_eq_true rfl) (fun H1 h1 h2 => ⟨rfl, fun q => i32_nlt.mpr q.1 c_1, h1, h2⟩) (Nat.le_of_ble_eq_true rfl) (Nat.le_of_ble_eq_true rfl)
  · refine hb_iload_n G dX1_existingLog_4 hl rfl ?_
    refine hb_aload_n G dX1_existingLog_5 hl rfl ?_
    refine hb_get G h.1 rfl inX1 1 (by decide) kf_X1_11 rfl rfl dX1_existingLog_6 ?_
    refine hb_alen_q G h.2.1 dX1_existingLog_9 ?_
    refine lv_icmp_ge (tgt := 22) G.1 G.2.1 dX1_existingLog_10 (by decide) (fun c_2 => ?_) (fun c_2 => ?_)
    · refine lv_null G.1 G.2.1 dX1_existingLog_22 ?_
      refine hb_astore_nN G dX1_existingLog_23 hl (by decide) (fun ls hl => ?_)
      have hl : lh ls 3 [some (.ref d), some (.int i), some (.null)] := hl
      refine hb_aload_nN G dX1_existingLog_24 hl rfl ?_
      refine lv_ifnonnullN G.1 G.2.1 dX1_existingLog_25 ?_
      exact hx_IA G hXs hH hml hl.size hlt hXs.1 htb hlocks dX1_existingLog_28 dX1_existingLog_31 dX1_existingLog_32 dX1_existingLog_34 dX1_existingLog_37 (Nat.le_of_ble_eq_true rfl) (Nat.le_of_ble_eq_true rfl) (Nat.le_of_ble_eq_true rfl) (Nat.le_of_ble_eq_true rfl) (fun H1 h1 h2 => ⟨rfl, fun q => i32_nlt.mpr c_2 q.2, h1, h2⟩) (Nat.le_of_ble_eq_true rfl) (Nat.le_of_ble_eq_true rfl)
    · obtain ⟨j, hj, rfl⟩ := dkIs_of ⟨i32_nlt.mp c_1, i32_nle.mp c_2⟩
      refine hb_aload_n G dX1_existingLog_13 hl rfl ?_
      refine hb_get G h.1 rfl inX1 1 (by decide) kf_X1_11 rfl rfl dX1_existingLog_14 ?_
      refine hb_iload_n G dX1_existingLog_17 hl rfl ?_
      refine hb_qaldR (x := P j) G h.2.1 (vp_in_nI hj (by decide)) (by rw [nI_clamp (by omega)]) dX1_existingLog_18 ?_
      refine lv_goto (tgt := 23) G.1 G.2.1 dX1_existingLog_19 (by decide) ?_
      refine hb_astore_n G dX1_existingLog_23 hl (by decide) (fun ls hl => ?_)
      have hl : lh ls 3 [some (.ref d), some (.int (nI j)), some (.ref (P j))] := hl
      refine hb_aload_n G dX1_existingLog_24 hl rfl ?_
      refine lv_ifnonnull (tgt := 38) G.1 G.2.1 dX1_existingLog_25 (by decide) ?_
      refine hb_aload_n G dX1_existingLog_38 hl rfl ?_
      exact hx_aret G hr (Or.inl ⟨_, rfl⟩) hlocks ⟨⟨j, hj, rfl, rfl⟩, rfl⟩ hL (Nat.le_of_ble_eq_true rfl) (Nat.le_of_ble_eq_true rfl) dX1_existingLog_39

set_option maxHeartbeats 4000000 in
set_option maxRecDepth 100000 in
/-- isDown -/
theorem c_isDown (g : Gx) (l : Launch) (d S p4 : Nat) (tc dn wr : Int32) (H : Heap) (hd : ob g d 1 (dkFs d S p4 tc dn wr) H) (hn : dn = 0 ∨ dn = 1) : HM g l yX1_isDown cX1_isDown 1 (some .boolean) 0 0 0 0 [.ref d] H (fun r H1 => r = some (.int dn) ∧ H1 = H) (f0) := by
  refine HM.ofW (by decide) (Nat.le_of_ble_eq_true rfl) (by simp [Value.category]) ?_
  intro p e s m args below meth c ls G hr hml hlocks hnm hH hl
  have hl : lh ls 1 [some (.ref d)] := hl
  have hL : ∀ q ∈ ([] : List Loc), (f0) q.base := fun q h => by cases h
  refine hb_aload_n G dX1_isDown_0 hl rfl ?_
  refine hb_get G hd rfl inX1 5 (by decide) kf_X1_24 rfl rfl dX1_isDown_1 ?_
  exact hb_zret G hr hlocks hn ⟨rfl, rfl⟩ hL (Nat.le_refl _) (Nat.le_refl _) dX1_isDown_4
set_option maxHeartbeats 4000000 in
set_option maxRecDepth 100000 in
/-- writes -/
theorem c_writes (g : Gx) (l : Launch) (d S p4 : Nat) (tc dn wr : Int32) (H : Heap) (hd : ob g d 1 (dkFs d S p4 tc dn wr) H) : HM g l yX1_writes cX1_writes 1 (some .int) 0 0 0 0 [.ref d] H (fun r H1 => r = some (.int wr) ∧ H1 = H) (f0) := by
  refine HM.ofW (by decide) (Nat.le_of_ble_eq_true rfl) (by simp [Value.category]) ?_
  intro p e s m args below meth c ls G hr hml hlocks hnm hH hl
  have hl : lh ls 1 [some (.ref d)] := hl
  have hL : ∀ q ∈ ([] : List Loc), (f0) q.base := fun q h => by cases h
  refine hb_aload_n G dX1_writes_0 hl rfl ?_
  refine hb_get G hd rfl inX1 6 (by decide) kf_X1_28 rfl rfl dX1_writes_1 ?_
  exact hb_iret G hr hlocks ⟨rfl, rfl⟩ hL (Nat.le_refl _) (Nat.le_refl _) dX1_writes_4
set_option maxHeartbeats 4000000 in
set_option maxRecDepth 100000 in
/-- crash -/
theorem c_crash (g : Gx) (z : Nat) (sa : Nat → Nat) (l : Launch) (hlt : l.stackTraces = false) (d S B : Nat) (P : Nat → Nat) (V : Nat → LV) (bu : Nat → Int32) (tc dn wr : Int32) (H : Heap) (hSB : dkB S B) (hV : ∀ j, j < 5 → lgOk (V j)) (h : dkAt g d S B P V bu tc dn wr H) (n : Int32) : HX g z sa l yX1_crash cX1_crash 2 none 7 112 2 12 [.ref d, .int n] H (fun v H1 => v = none ∧ (-1 ≤ n ∧ n ≤ 1000) ∧ dn = 0 ∧ dkAt g d S B P V bu n (if n = 0 then 1 else 0) wr H1 ∧ Fo d H H1) (thX (-1 ≤ n ∧ n ≤ 1000) dn H) (f1 d) := by
  refine HX.ofW (by decide) (Nat.le_of_ble_eq_true rfl) (by simp [Value.category]) ?_
  intro p e s m args below meth c ls G hr hml hlocks htb hH hXs hl
  have hl : lh ls 2 [some (.ref d), some (.int n)] := hl
  have hL : ∀ q ∈ ([] : List Loc), (f1 d) q.base := fun q h => by cases h
  refine hb_iload_n G dX1_crash_0 hl rfl ?_
  refine lv_iconst (v := (-1)) G.1 G.2.1 dX1_crash_1 (by decide) ?_
  refine lv_sipush (v := 1000) G.1 G.2.1 dX1_crash_2 (by decide) ?_
  refine hx_callS (As := [.int n, .int (-1), .int 1000]) (rest := []) G hXs hml (c_requireWithin g z sa l hlt n (-1) 1000 _) km_X1_51 kt_X1_requireWithin kn_X1 ko_X1_requireWithin hd_X1_requireWithin ⟨Nat.le_of_ble_eq_true rfl, Nat.le_of_ble_eq_true rfl⟩ hl.size rfl (Nat.le_of_ble_eq_true rfl) dX1_crash_5 ⟨Nat.le_of_ble_eq_true rfl, Nat.le_of_ble_eq_true rfl⟩ hL (f0_in) (fun E ce q9 K9 locs9 hp hL hc1 hc2 hc3 => hx_out htb hlocks (⟨hp.2.2, Or.inl ⟨hp.1, hp.2.1⟩⟩) hL hc1 hc2 hc3 (Nat.le_of_ble_eq_true rfl) (Nat.le_of_ble_eq_true rfl)) (fun v1 H locs1 hp hL => ?_)
  obtain ⟨rfl, hw, rfl⟩ := hp
  refine hb_aload_n G dX1_crash_8 hl rfl ?_
  refine hx_callV (As := []) (rest := []) G hXs hml (c_requirePower g z sa l hlt d S (P 4) tc dn wr _ h.1) (h.1) rfl km_X1_55 ki_X1_requirePower ks_X1_requirePower kn_X1 ko_X1_requirePower hd_X1_requirePower ⟨Nat.le_of_ble_eq_true rfl, Nat.le_of_ble_eq_true rfl⟩ hl.size rfl (Nat.le_of_ble_eq_true rfl) dX1_crash_9 ⟨Nat.le_of_ble_eq_true rfl, Nat.le_of_ble_eq_true rfl⟩ hL (f0_in) (fun E ce q9 K9 locs9 hp hL hc1 hc2 hc3 => hx_out htb hlocks (⟨hp.2.2, Or.inr ⟨hp.1, hw, hp.2.1⟩⟩) hL hc1 hc2 hc3 (Nat.le_of_ble_eq_true rfl) (Nat.le_of_ble_eq_true rfl)) (fun v1 H locs1 hp hL => ?_)
  obtain ⟨rfl, hdn, rfl⟩ := hp
  refine hb_aload_n G dX1_crash_12 hl rfl ?_
  refine hb_iload_n G dX1_crash_13 hl rfl ?_
  refine hb_put G h.1 rfl inX1 tyX1 tyX1_ok nmX1 4 (by decide) kf_X1_20 rfl rfl rfl rfl (Nat.le_of_ble_eq_true rfl) hL (rfl) dX1_crash_14 (fun K1 locs2 hf1 hz1 ho1 hL => ?_)
  have hf1 : ob g d 1 (dkFs d S (P 4) n dn wr) K1 := hf1
  refine hb_aload_n G dX1_crash_17 hl rfl ?_
  refine hb_iload_n G dX1_crash_18 hl rfl ?_
  refine lv_if_ne (tgt := 26) G.1 G.2.1 dX1_crash_19 (by decide) (fun c_1 => ?_) (fun c_1 => ?_)
  · refine lv_iconst (v := 0) G.1 G.2.1 dX1_crash_26 (by decide) ?_
    refine hb_put G hf1 rfl inX1 tyX1 tyX1_ok nmX1 5 (by decide) kf_X1_24 rfl rfl rfl rfl (Nat.le_of_ble_eq_true rfl) hL (rfl) dX1_crash_27 (fun K2 locs3 hf2 hz2 ho2 hL => ?_)
    have hF : Fo d _ K2 := Fo.tr ⟨hz1, ho1⟩ ⟨hz2, ho2⟩
    exact hx_vret G hr hlocks ⟨rfl, hw, hdn, by rw [if_neg c_1]; exact h.ob hf2 hF, hF⟩ hL (Nat.le_of_ble_eq_true rfl) (Nat.le_of_ble_eq_true rfl) dX1_crash_30
  · refine lv_iconst (v := 1) G.1 G.2.1 dX1_crash_22 (by decide) ?_
    refine lv_goto (tgt := 27) G.1 G.2.1 dX1_crash_23 (by decide) ?_
    refine hb_put G hf1 rfl inX1 tyX1 tyX1_ok nmX1 5 (by decide) kf_X1_24 rfl rfl rfl rfl (Nat.le_of_ble_eq_true rfl) hL (rfl) dX1_crash_27 (fun K2 locs3 hf2 hz2 ho2 hL => ?_)
    have hF : Fo d _ K2 := Fo.tr ⟨hz1, ho1⟩ ⟨hz2, ho2⟩
    exact hx_vret G hr hlocks ⟨rfl, hw, hdn, by rw [if_pos c_1]; exact h.ob hf2 hF, hF⟩ hL (Nat.le_of_ble_eq_true rfl) (Nat.le_of_ble_eq_true rfl) dX1_crash_30
def sumE (V : Nat → LV) : Nat → Nat
  | 0 => 0
  | i + 1 => sumE V i + (V i).2.2.1
theorem sumE_le {V : Nat → LV} (h : ∀ j, j < 5 → lgOk (V j)) : ∀ i, i ≤ 4 → sumE V i ≤ 512 * i
  | 0, _ => Nat.le_refl 0
  | i + 1, hi => by
    have := sumE_le h i (by omega)
    have h2 := (h i (by omega)).2
    simp only [sumE]; omega
set_option maxHeartbeats 4000000 in
set_option maxRecDepth 100000 in
/-- recover -/
theorem c_recover (g : Gx) (l : Launch) (d S B : Nat) (P : Nat → Nat) (V : Nat → LV) (bu : Nat → Int32) (tc dn wr : Int32) (H : Heap) (hSB : dkB S B) (hV : ∀ j, j < 5 → lgOk (V j)) (h : dkAt g d S B P V bu tc dn wr H) : HM g l yX1_recover cX1_recover 6 (some .int) 0 0 0 0 [.ref d] H (fun r H1 => r = some (.int (nI (sumE V 4))) ∧ dkAt g d S B P V bu (-1) 0 wr H1 ∧ Fo d H H1) (f1 d) := by
  refine HM.ofW (by decide) (Nat.le_of_ble_eq_true rfl) (by simp [Value.category]) ?_
  intro p e s m args below meth c ls G hr hml hlocks hnm hH hl
  have hl : lh ls 6 [some (.ref d), none, none, none, none, none] := hl
  have hL : ∀ q ∈ ([] : List Loc), (f1 d) q.base := fun q h => by cases h
  have lp : ∀ (k j : Nat) (a b : Int32) (K : Heap) (locs : List Loc) (ls : Array Slot), (4 + 1 ≤ j + k) → (j ≤ 4) → (a = nI (sumE V j)) → (b = nI j) → (dkAt g d S B P V bu (-1) 0 wr K) → (Fo d H K) → (∀ q ∈ locs, (f1 d) q.base) → lh ls 6 [some (.ref d), some (.int a), some (.ref (d + 1)), some (.int (nI 4)), some (.int b), none] → W p l e ({ frames := 0, cells := 0, slots := 0, locals := 0 } : Room) s m args below meth c K locs 0 0 (hQ below args s (fun r H1 => r = some (.int (nI (sumE V 4))) ∧ dkAt g d S B P V bu (-1) 0 wr H1 ∧ Fo d H H1) 0 0 (f1 d)) (F0 m 23 ls []) := by
    intro k
    induction k with
    | zero =>
      intro j a b K locs ls hd9 hj ea eb hk hF hL hl
      exfalso; omega
    | succ k ih =>
      intro j a b K locs ls hd9 hj ea eb hk hF hL hl
      refine hb_iload G dX1_recover_23 hl rfl ?_
      refine hb_iload_n G dX1_recover_25 hl rfl ?_
      refine lv_icmp_ge (tgt := 54) G.1 G.2.1 dX1_recover_26 (by decide) (fun c_1 => ?_) (fun c_1 => ?_)
      · have hj2 : j = 4 := by have := (ic_le rfl eb (by omega) (by omega)).mp c_1; omega
        subst hj2
        refine hb_iload_n G dX1_recover_54 hl rfl ?_
        exact hb_iret G hr hlocks ⟨by rw [ea], hk, hF⟩ hL (Nat.le_refl _) (Nat.le_refl _) dX1_recover_55
      · have hj2 : j < 4 := by have := mt (ic_le rfl eb (by omega) (by omega)).mpr c_1; omega
        refine hb_aload_n G dX1_recover_29 hl rfl ?_
        refine hb_iload G dX1_recover_30 hl rfl ?_
        refine hb_qaldR (x := P j) G hk.2.1 (by rw [eb]; exact vp_in_nI hj2 (by decide)) (by rw [eb, nI_clamp (by omega)]) dX1_recover_32 ?_
        refine hb_astore G dX1_recover_33 hl (by decide) (fun ls hl => ?_)
        have hl : lh ls 6 [some (.ref d), some (.int a), some (.ref (d + 1)), some (.int (nI 4)), some (.int b), some (.ref (P j))] := hl
        refine hb_aload G dX1_recover_35 hl rfl ?_
        refine lv_ifnull G.1 G.2.1 dX1_recover_37 ?_
        refine hb_iload_n G dX1_recover_40 hl rfl ?_
        refine hb_aload G dX1_recover_41 hl rfl ?_
        refine hb_get G (hk.2.2.2.1 j (by omega)).1 rfl inX0 7 (by decide) kf_X1_123 rfl rfl dX1_recover_43 ?_
        refine lv_iadd G.1 G.2.1 dX1_recover_46 ?_
        refine lv_topi (fun t_2 et_2 => ?_)
        refine hb_istore_n G dX1_recover_47 hl (by decide) (fun ls hl => ?_)
        have hl : lh ls 6 [some (.ref d), some (.int t_2), some (.ref (d + 1)), some (.int (nI 4)), some (.int b), some (.ref (P j))] := hl
        obtain ⟨t_3, et_3⟩ : ∃ z : Int32, z = b + 1 := ⟨_, rfl⟩
        refine hb_iinc (v := t_3) G dX1_recover_48 hl rfl (by rw [et_3]; rfl) (by decide) (fun ls hl => ?_)
        have hl : lh ls 6 [some (.ref d), some (.int t_2), some (.ref (d + 1)), some (.int (nI 4)), some (.int t_3), some (.ref (P j))] := hl
        refine lv_goto (tgt := 23) G.1 G.2.1 dX1_recover_51 (by decide) ?_
        exact ih (j + 1) t_2 t_3 K locs ls (by omega) (by omega) (by rw [et_2, ea]; exact nI_add _ _) (by rw [et_3, eb]; exact nI_1 j) hk hF hL (hl.drop 5)
  refine hb_aload_n G dX1_recover_0 hl rfl ?_
  refine lv_iconst (v := (-1)) G.1 G.2.1 dX1_recover_1 (by decide) ?_
  refine hb_put G h.1 rfl inX1 tyX1 tyX1_ok nmX1 4 (by decide) kf_X1_20 rfl rfl rfl rfl (Nat.le_of_ble_eq_true rfl) hL (rfl) dX1_recover_2 (fun K1 locs1 hf1 hz1 ho1 hL => ?_)
  have hf1 : ob g d 1 (dkFs d S (P 4) (-1) dn wr) K1 := hf1
  refine hb_aload_n G dX1_recover_5 hl rfl ?_
  refine lv_iconst (v := 0) G.1 G.2.1 dX1_recover_6 (by decide) ?_
  refine hb_put G hf1 rfl inX1 tyX1 tyX1_ok nmX1 5 (by decide) kf_X1_24 rfl rfl rfl rfl (Nat.le_of_ble_eq_true rfl) hL (rfl) dX1_recover_7 (fun K2 locs2 hf2 hz2 ho2 hL => ?_)
  have hF : Fo d H K2 := Fo.tr ⟨hz1, ho1⟩ ⟨hz2, ho2⟩
  have hk := h.ob hf2 hF
  refine lv_iconst (v := 0) G.1 G.2.1 dX1_recover_10 (by decide) ?_
  refine hb_istore_n G dX1_recover_11 hl (by decide) (fun ls hl => ?_)
  have hl : lh ls 6 [some (.ref d), some (.int 0), none, none, none, none] := hl
  refine hb_aload_n G dX1_recover_12 hl rfl ?_
  refine hb_get G hk.1 rfl inX1 1 (by decide) kf_X1_11 rfl rfl dX1_recover_13 ?_
  refine hb_astore_n G dX1_recover_16 hl (by decide) (fun ls hl => ?_)
  have hl : lh ls 6 [some (.ref d), some (.int 0), some (.ref (d + 1)), none, none, none] := hl
  refine hb_aload_n G dX1_recover_17 hl rfl ?_
  refine hb_alen_q G hk.2.1 dX1_recover_18 ?_
  refine hb_istore_n G dX1_recover_19 hl (by decide) (fun ls hl => ?_)
  have hl : lh ls 6 [some (.ref d), some (.int 0), some (.ref (d + 1)), some (.int (nI 4)), none, none] := hl
  refine lv_iconst (v := 0) G.1 G.2.1 dX1_recover_20 (by decide) ?_
  refine hb_istore G dX1_recover_21 hl (by decide) (fun ls hl => ?_)
  have hl : lh ls 6 [some (.ref d), some (.int 0), some (.ref (d + 1)), some (.int (nI 4)), some (.int 0), none] := hl
  exact lp 5 0 0 0 K2 locs2 ls (by omega) (by omega) rfl rfl hk hF hL hl
def cntF (bu : Nat → Int32) : Nat → Nat
  | 0 => 0
  | i + 1 => cntF bu i + (if bu i = 0 then 1 else 0)
theorem cntF_le (bu : Nat → Int32) : ∀ i, cntF bu i ≤ i
  | 0 => Nat.le_refl 0
  | i + 1 => by
    have := cntF_le bu i
    simp only [cntF]
    split <;> omega
set_option maxHeartbeats 4000000 in
set_option maxRecDepth 100000 in
/-- free -/
theorem c_free (g : Gx) (z : Nat) (sa : Nat → Nat) (l : Launch) (hlt : l.stackTraces = false) (d S B : Nat) (P : Nat → Nat) (V : Nat → LV) (bu : Nat → Int32) (tc dn wr : Int32) (H : Heap) (hSB : dkB S B) (hV : ∀ j, j < 5 → lgOk (V j)) (h : dkAt g d S B P V bu tc dn wr H) : HX g z sa l yX1_free cX1_free 6 (some .int) 7 110 1 6 [.ref d] H (fun r H1 => r = some (.int (nI (cntF (mkD B S V 4) B))) ∧ dn = 0 ∧ dkAt g d S B P V (mkD B S V 4) tc dn wr H1 ∧ Fo (d + 9) H H1) (thX True dn H) (f1 (d + 9)) := by
  refine HX.ofW (by decide) (Nat.le_of_ble_eq_true rfl) (by simp [Value.category]) ?_
  intro p e s m args below meth c ls G hr hml hlocks htb hH hXs hl
  have hl : lh ls 6 [some (.ref d), none, none, none, none, none] := hl
  have hL : ∀ q ∈ ([] : List Loc), (f1 (d + 9)) q.base := fun q h => by cases h
  obtain ⟨hS1, hS2, hB1, hB2⟩ := id hSB
  refine hb_aload_n G dX1_free_0 hl rfl ?_
  refine hx_callV (As := []) (rest := []) G hXs hml (c_requirePower g z sa l hlt d S (P 4) tc dn wr _ h.1) (h.1) rfl km_X1_55 ki_X1_requirePower ks_X1_requirePower kn_X1 ko_X1_requirePower hd_X1_requirePower ⟨Nat.le_of_ble_eq_true rfl, Nat.le_of_ble_eq_true rfl⟩ hl.size rfl (Nat.le_of_ble_eq_true rfl) dX1_free_1 ⟨Nat.le_of_ble_eq_true rfl, Nat.le_of_ble_eq_true rfl⟩ hL (f0_in) (fun E ce q9 K9 locs9 hp hL hc1 hc2 hc3 => hx_out htb hlocks (⟨hp.2.2, Or.inr ⟨hp.1, trivial, hp.2.1⟩⟩) hL hc1 hc2 hc3 (Nat.le_of_ble_eq_true rfl) (Nat.le_of_ble_eq_true rfl)) (fun v1 H locs1 hp hL => ?_)
  obtain ⟨rfl, hdn, rfl⟩ := hp
  refine hb_aload_n G dX1_free_4 hl rfl ?_
  refine hb_callV (As := []) (rest := []) G hml (c_markBlockUse g l d S B P V bu tc dn wr _ hSB hV h) (h.1) rfl km_X1_151 ki_X1_markBlockUse ks_X1_markBlockUse kn_X1 ko_X1_markBlockUse hd_X1_markBlockUse ⟨Nat.le_of_ble_eq_true rfl, Nat.le_of_ble_eq_true rfl⟩ hl.size rfl (Nat.le_of_ble_eq_true rfl) dX1_free_5 ⟨Nat.le_of_ble_eq_true rfl, Nat.le_of_ble_eq_true rfl⟩ hL (fun q h => h) (fun v1 K1 locs1 hp hL => ?_)
  obtain ⟨rfl, hK1, hF1⟩ := hp
  have hk := h.ub hK1 hF1
  have lp : ∀ (k j : Nat) (a b : Int32)  (locs : List Loc) (ls : Array Slot), (B + 1 ≤ j + k) → (j ≤ B) → (a = nI (cntF (mkD B S V 4) j)) → (b = nI j) → (∀ q ∈ locs, (f1 (d + 9)) q.base) → lh ls 6 [some (.ref d), some (.int a), some (.ref (d + 9)), some (.int (nI B)), some (.int b), none] → W p l e ({ frames := 7, cells := 1, slots := 6, locals := 110 } : Room) s m args below meth c K1 locs (0 + 1 + 0) (0 + 6 + 0) (hX below args s (fun r H1 => r = some (.int (nI (cntF (mkD B S V 4) B))) ∧ dn = 0 ∧ dkAt g d S B P V (mkD B S V 4) tc dn wr H1 ∧ Fo (d + 9) H H1) (thX True dn H) 1 6 (f1 (d + 9))) (F0 m 21 ls []) := by
    intro k
    induction k with
    | zero =>
      intro j a b  locs ls hd9 hj ea eb hL hl
      exfalso; omega
    | succ k ih =>
      intro j a b  locs ls hd9 hj ea eb hL hl
      refine hb_iload G dX1_free_21 hl rfl ?_
      refine hb_iload_n G dX1_free_23 hl rfl ?_
      refine lv_icmp_ge (tgt := 47) G.1 G.2.1 dX1_free_24 (by decide) (fun c_1 => ?_) (fun c_1 => ?_)
      · have hj2 : j = B := by have := (ic_le rfl eb (by omega) (by omega)).mp c_1; omega
        subst hj2
        refine hb_iload_n G dX1_free_47 hl rfl ?_
        exact hx_iret G hr hlocks ⟨by rw [ea], hdn, hk, hF1⟩ hL (Nat.le_of_ble_eq_true rfl) (Nat.le_of_ble_eq_true rfl) dX1_free_48
      · have hj2 : j < B := by have := mt (ic_le rfl eb (by omega) (by omega)).mpr c_1; omega
        refine hb_aload_n G dX1_free_27 hl rfl ?_
        refine hb_iload G dX1_free_28 hl rfl ?_
        refine hb_iald G hK1 (by rw [eb]; exact vp_in_nI hj2 (by omega)) dX1_free_30 ?_
        refine lv_topi (fun r_2 er_2 => ?_)
        have er_2 : r_2 = mkD B S V 4 j := by rw [er_2, show b.toNatClampNeg = j by rw [eb]; exact nI_clamp (by omega)]
        refine hb_istore G dX1_free_31 hl (by decide) (fun ls hl => ?_)
        have hl : lh ls 6 [some (.ref d), some (.int a), some (.ref (d + 9)), some (.int (nI B)), some (.int b), some (.int r_2)] := hl
        refine hb_iload G dX1_free_33 hl rfl ?_
        refine lv_if_ne (tgt := 41) G.1 G.2.1 dX1_free_35 (by decide) (fun c_3 => ?_) (fun c_3 => ?_)
        · obtain ⟨t_4, et_4⟩ : ∃ z : Int32, z = b + 1 := ⟨_, rfl⟩
          refine hb_iinc (v := t_4) G dX1_free_41 hl rfl (by rw [et_4]; rfl) (by decide) (fun ls hl => ?_)
          have hl : lh ls 6 [some (.ref d), some (.int a), some (.ref (d + 9)), some (.int (nI B)), some (.int t_4), some (.int r_2)] := hl
          refine lv_goto (tgt := 21) G.1 G.2.1 dX1_free_44 (by decide) ?_
          exact ih (j + 1) a t_4 locs ls (by omega) (by omega) (by simp only [cntF]; rw [if_neg (by rw [← er_2]; exact c_3)]; exact ea) (by rw [et_4, eb]; exact nI_1 j) hL (hl.drop 5)
        · obtain ⟨t_5, et_5⟩ : ∃ z : Int32, z = a + 1 := ⟨_, rfl⟩
          refine hb_iinc (v := t_5) G dX1_free_38 hl rfl (by rw [et_5]; rfl) (by decide) (fun ls hl => ?_)
          have hl : lh ls 6 [some (.ref d), some (.int t_5), some (.ref (d + 9)), some (.int (nI B)), some (.int b), some (.int r_2)] := hl
          obtain ⟨t_6, et_6⟩ : ∃ z : Int32, z = b + 1 := ⟨_, rfl⟩
          refine hb_iinc (v := t_6) G dX1_free_41 hl rfl (by rw [et_6]; rfl) (by decide) (fun ls hl => ?_)
          have hl : lh ls 6 [some (.ref d), some (.int t_5), some (.ref (d + 9)), some (.int (nI B)), some (.int t_6), some (.int r_2)] := hl
          refine lv_goto (tgt := 21) G.1 G.2.1 dX1_free_44 (by decide) ?_
          exact ih (j + 1) t_5 t_6 locs ls (by omega) (by omega) (by simp only [cntF]; rw [if_pos (by rw [← er_2]; exact c_3), et_5, ea]; exact nI_1 _) (by rw [et_6, eb]; exact nI_1 j) hL (hl.drop 5)
  refine lv_iconst (v := 0) G.1 G.2.1 dX1_free_8 (by decide) ?_
  refine hb_istore_n G dX1_free_9 hl (by decide) (fun ls hl => ?_)
  have hl : lh ls 6 [some (.ref d), some (.int 0), none, none, none, none] := hl
  refine hb_aload_n G dX1_free_10 hl rfl ?_
  refine hb_get G hk.1 rfl inX1 2 (by decide) kf_X1_43 rfl rfl dX1_free_11 ?_
  refine hb_astore_n G dX1_free_14 hl (by decide) (fun ls hl => ?_)
  have hl : lh ls 6 [some (.ref d), some (.int 0), some (.ref (d + 9)), none, none, none] := hl
  refine hb_aload_n G dX1_free_15 hl rfl ?_
  refine hb_alen_i G hK1 dX1_free_16 ?_
  refine hb_istore_n G dX1_free_17 hl (by decide) (fun ls hl => ?_)
  have hl : lh ls 6 [some (.ref d), some (.int 0), some (.ref (d + 9)), some (.int (nI B)), none, none] := hl
  refine lv_iconst (v := 0) G.1 G.2.1 dX1_free_18 (by decide) ?_
  refine hb_istore G dX1_free_19 hl (by decide) (fun ls hl => ?_)
  have hl : lh ls 6 [some (.ref d), some (.int 0), some (.ref (d + 9)), some (.int (nI B)), some (.int 0), none] := hl
  exact lp (B + 1) 0 0 0 locs1 ls (by omega) (by omega) rfl rfl hL hl
def logV (v : LV) (w : Int32) : Int32 := if w = 0 then nI v.2.2.1 else if w = 1 then nI v.2.1 else if w = 2 then lgSm (v.1 1) 0 v.2.1 else v.2.2.2
set_option maxHeartbeats 4000000 in
set_option maxRecDepth 100000 in
/-- log -/
theorem c_log (g : Gx) (z : Nat) (sa : Nat → Nat) (l : Launch) (hlt : l.stackTraces = false) (d S B : Nat) (P : Nat → Nat) (V : Nat → LV) (bu : Nat → Int32) (tc dn wr : Int32) (H : Heap) (hSB : dkB S B) (hV : ∀ j, j < 5 → lgOk (V j)) (h : dkAt g d S B P V bu tc dn wr H) (i w : Int32) : HX g z sa l yX1_log cX1_log 4 (some .int) 7 112 3 18 [.ref d, .int i, .int w] H (fun r H1 => (∃ j, j < 4 ∧ i = nI j ∧ r = some (.int (logV (V j) w))) ∧ (0 ≤ w ∧ w ≤ 3) ∧ dn = 0 ∧ H1 = H) (thX (dkIs i ∧ 0 ≤ w ∧ w ≤ 3) dn H) (f0) := by
  refine HX.ofW (by decide) (Nat.le_of_ble_eq_true rfl) (by simp [Value.category]) ?_
  intro p e s m args below meth c ls G hr hml hlocks htb hH hXs hl
  have hl : lh ls 4 [some (.ref d), some (.int i), some (.int w), none] := hl
  have hL : ∀ q ∈ ([] : List Loc), (f0) q.base := fun q h => by cases h
  refine hb_aload_n G dX1_log_0 hl rfl ?_
  refine hb_iload_n G dX1_log_1 hl rfl ?_
  refine hx_callV (As := [.int i]) (rest := []) G hXs hml (c_existingLog g z sa l hlt d S B P V bu tc dn wr _ hSB hV h i) (h.1) rfl km_X1_47 ki_X1_existingLog ks_X1_existingLog kn_X1 ko_X1_existingLog hd_X1_existingLog ⟨Nat.le_of_ble_eq_true rfl, Nat.le_of_ble_eq_true rfl⟩ hl.size rfl (Nat.le_of_ble_eq_true rfl) dX1_log_2 ⟨Nat.le_of_ble_eq_true rfl, Nat.le_of_ble_eq_true rfl⟩ hL (f0_in) (fun E ce q9 K9 locs9 hp hL hc1 hc2 hc3 => hx_out htb hlocks (⟨hp.2.2, Or.inl ⟨hp.1, fun q => hp.2.1 q.1⟩⟩) hL hc1 hc2 hc3 (Nat.le_of_ble_eq_true rfl) (Nat.le_of_ble_eq_true rfl)) (fun v1 H locs1 hp hL => ?_)
  obtain ⟨⟨j, hj, rfl, rfl⟩, rfl⟩ := hp
  refine hb_astore_n G dX1_log_5 hl (by decide) (fun ls hl => ?_)
  have hl : lh ls 4 [some (.ref d), some (.int (nI j)), some (.int w), some (.ref (P j))] := hl
  refine hb_iload_n G dX1_log_6 hl rfl ?_
  refine lv_iconst (v := 0) G.1 G.2.1 dX1_log_7 (by decide) ?_
  refine lv_iconst (v := 3) G.1 G.2.1 dX1_log_8 (by decide) ?_
  refine hx_callS (As := [.int w, .int 0, .int 3]) (rest := []) G hXs hml (c_requireWithin g z sa l hlt w 0 3 _) km_X1_51 kt_X1_requireWithin kn_X1 ko_X1_requireWithin hd_X1_requireWithin ⟨Nat.le_of_ble_eq_true rfl, Nat.le_of_ble_eq_true rfl⟩ hl.size rfl (Nat.le_of_ble_eq_true rfl) dX1_log_9 ⟨Nat.le_of_ble_eq_true rfl, Nat.le_of_ble_eq_true rfl⟩ hL (f0_in) (fun E ce q9 K9 locs9 hp hL hc1 hc2 hc3 => hx_out htb hlocks (⟨hp.2.2, Or.inl ⟨hp.1, fun q => hp.2.1 q.2⟩⟩) hL hc1 hc2 hc3 (Nat.le_of_ble_eq_true rfl) (Nat.le_of_ble_eq_true rfl)) (fun v1 H locs1 hp hL => ?_)
  obtain ⟨rfl, hw, rfl⟩ := hp
  refine hb_aload_n G dX1_log_12 hl rfl ?_
  refine hx_callV (As := []) (rest := []) G hXs hml (c_requirePower g z sa l hlt d S (P 4) tc dn wr _ h.1) (h.1) rfl km_X1_55 ki_X1_requirePower ks_X1_requirePower kn_X1 ko_X1_requirePower hd_X1_requirePower ⟨Nat.le_of_ble_eq_true rfl, Nat.le_of_ble_eq_true rfl⟩ hl.size rfl (Nat.le_of_ble_eq_true rfl) dX1_log_13 ⟨Nat.le_of_ble_eq_true rfl, Nat.le_of_ble_eq_true rfl⟩ hL (f0_in) (fun E ce q9 K9 locs9 hp hL hc1 hc2 hc3 => hx_out htb hlocks (⟨hp.2.2, Or.inr ⟨hp.1, ⟨dkIs_nI hj, hw⟩, hp.2.1⟩⟩) hL hc1 hc2 hc3 (Nat.le_of_ble_eq_true rfl) (Nat.le_of_ble_eq_true rfl)) (fun v1 H locs1 hp hL => ?_)
  obtain ⟨rfl, hdn, rfl⟩ := hp
  refine hb_iload_n G dX1_log_16 hl rfl ?_
  obtain ⟨k, hk3, rfl⟩ := nI_of2 (x := w) (M := 3) (n := 3) rfl (i32_nlt.mpr hw.1) hw.2
  have hkt : (nI k).toInt = (k : Int) := nI_toInt (by omega)
  rcases (show k = 0 ∨ k = 1 ∨ k = 2 ∨ k = 3 by omega) with rfl | rfl | rfl | rfl
  · refine lv_tableIn (off := 27) (tgt := 44) G.1 G.2.1 dX1_log_17 (by rw [hkt]; decide) (by rw [hkt]; decide) (by rw [hkt]; rfl) (by decide) ?_
    refine hb_aload_n G dX1_log_44 hl rfl ?_
    refine hb_get G (h.2.2.2.1 j (by omega)).1 rfl inX0 7 (by decide) kf_X1_123 rfl rfl dX1_log_45 ?_
    exact hx_iret G hr hlocks ⟨⟨j, hj, rfl, rfl⟩, hw, hdn, rfl⟩ hL (Nat.le_of_ble_eq_true rfl) (Nat.le_of_ble_eq_true rfl) dX1_log_48
  · refine lv_tableIn (off := 32) (tgt := 49) G.1 G.2.1 dX1_log_17 (by rw [hkt]; decide) (by rw [hkt]; decide) (by rw [hkt]; rfl) (by decide) ?_
    refine hb_aload_n G dX1_log_49 hl rfl ?_
    refine hb_get G (h.2.2.2.1 j (by omega)).1 rfl inX0 2 (by decide) kf_X1_129 rfl rfl dX1_log_50 ?_
    exact hx_iret G hr hlocks ⟨⟨j, hj, rfl, rfl⟩, hw, hdn, rfl⟩ hL (Nat.le_of_ble_eq_true rfl) (Nat.le_of_ble_eq_true rfl) dX1_log_53
  · refine lv_tableIn (off := 37) (tgt := 54) G.1 G.2.1 dX1_log_17 (by rw [hkt]; decide) (by rw [hkt]; decide) (by rw [hkt]; rfl) (by decide) ?_
    refine hb_aload_n G dX1_log_54 hl rfl ?_
    refine lv_iconst (v := 0) G.1 G.2.1 dX1_log_55 (by decide) ?_
    refine hb_callV (As := [.int 0]) (rest := []) G hml (c_bytesFrom g l (P j) (V j) _ (hV j (by omega)) (h.2.2.2.1 j (by omega)) 0 (by omega)) ((h.2.2.2.1 j (by omega)).1) rfl km_X1_132 ki_X0_bytesFrom ks_X0_bytesFrom kn_X0 ko_X0_bytesFrom hd_X0_bytesFrom ⟨Nat.le_of_ble_eq_true rfl, Nat.le_of_ble_eq_true rfl⟩ hl.size rfl (Nat.le_of_ble_eq_true rfl) dX1_log_56 ⟨Nat.le_of_ble_eq_true rfl, Nat.le_of_ble_eq_true rfl⟩ hL (f0_in) (fun v1 H locs1 hp hL => ?_)
    obtain ⟨rfl, rfl⟩ := hp
    exact hx_iret G hr hlocks ⟨⟨j, hj, rfl, rfl⟩, hw, hdn, rfl⟩ hL (Nat.le_of_ble_eq_true rfl) (Nat.le_of_ble_eq_true rfl) dX1_log_59
  · refine lv_tableOut (tgt := 60) G.1 G.2.1 dX1_log_17 (Or.inr (by rw [hkt]; decide)) (by decide) ?_
    refine hb_aload_n G dX1_log_60 hl rfl ?_
    refine hb_get G (h.2.2.2.1 j (by omega)).1 rfl inX0 8 (by decide) kf_X1_95 rfl rfl dX1_log_61 ?_
    exact hx_iret G hr hlocks ⟨⟨j, hj, rfl, rfl⟩, hw, hdn, rfl⟩ hL (Nat.le_of_ble_eq_true rfl) (Nat.le_of_ble_eq_true rfl) dX1_log_64
def entV (v : LV) (i w : Int32) : Int32 := if w = 0 then atV (v.1 2) 512 i else if w = 1 then atV (v.1 0) 60 (atV (v.1 4) 512 i) + atV (v.1 5) 512 i / 1024 else atV (v.1 4) 512 i
set_option maxHeartbeats 4000000 in
set_option maxRecDepth 100000 in
/-- entry -/
theorem c_entry (g : Gx) (z : Nat) (sa : Nat → Nat) (l : Launch) (hlt : l.stackTraces = false) (d S B : Nat) (P : Nat → Nat) (V : Nat → LV) (bu : Nat → Int32) (tc dn wr : Int32) (H : Heap) (hSB : dkB S B) (hV : ∀ j, j < 5 → lgOk (V j)) (h : dkAt g d S B P V bu tc dn wr H) (i n w : Int32) : HX g z sa l yX1_entry cX1_entry 5 (some .int) 7 112 4 24 [.ref d, .int i, .int n, .int w] H (fun r H1 => (∃ j, j < 4 ∧ i = nI j ∧ (0 ≤ n ∧ n ≤ nI (V j).2.2.1 - 1) ∧ r = some (.int (entV (V j) n w))) ∧ (0 ≤ w ∧ w ≤ 2) ∧ dn = 0 ∧ H1 = H) (thX (dkIs i ∧ (0 ≤ w ∧ w ≤ 2) ∧ (¬ dn = 0 ∨ ∀ j : Nat, j < 4 → i = nI j → 0 ≤ n ∧ n ≤ nI (V j).2.2.1 - 1)) dn H) (f0) := by
  refine HX.ofW (by decide) (Nat.le_of_ble_eq_true rfl) (by simp [Value.category]) ?_
  intro p e s m args below meth c ls G hr hml hlocks htb hH hXs hl
  have hl : lh ls 5 [some (.ref d), some (.int i), some (.int n), some (.int w), none] := hl
  have hL : ∀ q ∈ ([] : List Loc), (f0) q.base := fun q h => by cases h
  refine hb_aload_n G dX1_entry_0 hl rfl ?_
  refine hb_iload_n G dX1_entry_1 hl rfl ?_
  refine hx_callV (As := [.int i]) (rest := []) G hXs hml (c_existingLog g z sa l hlt d S B P V bu tc dn wr _ hSB hV h i) (h.1) rfl km_X1_47 ki_X1_existingLog ks_X1_existingLog kn_X1 ko_X1_existingLog hd_X1_existingLog ⟨Nat.le_of_ble_eq_true rfl, Nat.le_of_ble_eq_true rfl⟩ hl.size rfl (Nat.le_of_ble_eq_true rfl) dX1_entry_2 ⟨Nat.le_of_ble_eq_true rfl, Nat.le_of_ble_eq_true rfl⟩ hL (f0_in) (fun E ce q9 K9 locs9 hp hL hc1 hc2 hc3 => hx_out htb hlocks (⟨hp.2.2, Or.inl ⟨hp.1, fun q => hp.2.1 q.1⟩⟩) hL hc1 hc2 hc3 (Nat.le_of_ble_eq_true rfl) (Nat.le_of_ble_eq_true rfl)) (fun v1 H locs1 hp hL => ?_)
  obtain ⟨⟨j, hj, rfl, rfl⟩, rfl⟩ := hp
  refine hb_astore G dX1_entry_5 hl (by decide) (fun ls hl => ?_)
  have hl : lh ls 5 [some (.ref d), some (.int (nI j)), some (.int n), some (.int w), some (.ref (P j))] := hl
  refine hb_iload_n G dX1_entry_7 hl rfl ?_
  refine lv_iconst (v := 0) G.1 G.2.1 dX1_entry_8 (by decide) ?_
  refine lv_iconst (v := 2) G.1 G.2.1 dX1_entry_9 (by decide) ?_
  refine hx_callS (As := [.int w, .int 0, .int 2]) (rest := []) G hXs hml (c_requireWithin g z sa l hlt w 0 2 _) km_X1_51 kt_X1_requireWithin kn_X1 ko_X1_requireWithin hd_X1_requireWithin ⟨Nat.le_of_ble_eq_true rfl, Nat.le_of_ble_eq_true rfl⟩ hl.size rfl (Nat.le_of_ble_eq_true rfl) dX1_entry_10 ⟨Nat.le_of_ble_eq_true rfl, Nat.le_of_ble_eq_true rfl⟩ hL (f0_in) (fun E ce q9 K9 locs9 hp hL hc1 hc2 hc3 => hx_out htb hlocks (⟨hp.2.2, Or.inl ⟨hp.1, fun q => hp.2.1 q.2.1⟩⟩) hL hc1 hc2 hc3 (Nat.le_of_ble_eq_true rfl) (Nat.le_of_ble_eq_true rfl)) (fun v1 H locs1 hp hL => ?_)
  obtain ⟨rfl, hw, rfl⟩ := hp
  refine hb_aload_n G dX1_entry_13 hl rfl ?_
  refine hx_callV (As := []) (rest := []) G hXs hml (c_requirePower g z sa l hlt d S (P 4) tc dn wr _ h.1) (h.1) rfl km_X1_55 ki_X1_requirePower ks_X1_requirePower kn_X1 ko_X1_requirePower hd_X1_requirePower ⟨Nat.le_of_ble_eq_true rfl, Nat.le_of_ble_eq_true rfl⟩ hl.size rfl (Nat.le_of_ble_eq_true rfl) dX1_entry_14 ⟨Nat.le_of_ble_eq_true rfl, Nat.le_of_ble_eq_true rfl⟩ hL (f0_in) (fun E ce q9 K9 locs9 hp hL hc1 hc2 hc3 => hx_out htb hlocks (⟨hp.2.2, Or.inr ⟨hp.1, ⟨dkIs_nI hj, hw, Or.inl hp.2.1⟩, hp.2.1⟩⟩) hL hc1 hc2 hc3 (Nat.le_of_ble_eq_true rfl) (Nat.le_of_ble_eq_true rfl)) (fun v1 H locs1 hp hL => ?_)
  obtain ⟨rfl, hdn, rfl⟩ := hp
  refine hb_iload_n G dX1_entry_17 hl rfl ?_
  refine lv_iconst (v := 0) G.1 G.2.1 dX1_entry_18 (by decide) ?_
  refine hb_aload G dX1_entry_19 hl rfl ?_
  refine hb_get G (h.2.2.2.1 j (by omega)).1 rfl inX0 7 (by decide) kf_X1_123 rfl rfl dX1_entry_21 ?_
  refine lv_iconst (v := 1) G.1 G.2.1 dX1_entry_24 (by decide) ?_
  refine lv_isub G.1 G.2.1 dX1_entry_25 ?_
  refine lv_topi (fun t_1 et_1 => ?_)
  obtain rfl : t_1 = nI (V j).2.2.1 - 1 := et_1
  refine hx_callS (As := [.int n, .int 0, .int (nI (V j).2.2.1 - 1)]) (rest := []) G hXs hml (c_requireWithin g z sa l hlt n 0 (nI (V j).2.2.1 - 1) _) km_X1_51 kt_X1_requireWithin kn_X1 ko_X1_requireWithin hd_X1_requireWithin ⟨Nat.le_of_ble_eq_true rfl, Nat.le_of_ble_eq_true rfl⟩ hl.size rfl (Nat.le_of_ble_eq_true rfl) dX1_entry_26 ⟨Nat.le_of_ble_eq_true rfl, Nat.le_of_ble_eq_true rfl⟩ hL (f0_in) (fun E ce q9 K9 locs9 hp hL hc1 hc2 hc3 => hx_out htb hlocks (⟨hp.2.2, Or.inl ⟨hp.1, fun q => q.2.2.elim (fun q1 => q1 hdn) (fun q2 => hp.2.1 (q2 j hj rfl))⟩⟩) hL hc1 hc2 hc3 (Nat.le_of_ble_eq_true rfl) (Nat.le_of_ble_eq_true rfl)) (fun v1 H locs1 hp hL => ?_)
  obtain ⟨rfl, hn, rfl⟩ := hp
  refine hb_iload_n G dX1_entry_29 hl rfl ?_
  obtain ⟨k, hk3, rfl⟩ := nI_of2 (x := w) (M := 2) (n := 2) rfl (i32_nlt.mpr hw.1) hw.2
  have hkt : (nI k).toInt = (k : Int) := nI_toInt (by omega)
  rcases (show k = 0 ∨ k = 1 ∨ k = 2 by omega) with rfl | rfl | rfl
  · refine lv_lookup (off := 26) (tgt := 56) G.1 G.2.1 dX1_entry_30 (by decide) (by rw [hkt]; rfl) (by decide) ?_
    refine hb_aload G dX1_entry_56 hl rfl ?_
    refine hb_get G (h.2.2.2.1 j (by omega)).1 rfl inX0 3 (by decide) kf_X1_135 rfl rfl dX1_entry_58 ?_
    refine hb_iload_n G dX1_entry_61 hl rfl ?_
    refine hb_callS (As := [.ref (P j + 3), .int n]) (rest := []) G hml (c_at g l (P j + 3) 512 ((V j).1 2) n _ (by decide) ((h.2.2.2.1 j (by omega)).2 2 (by decide))) km_X1_138 kt_X1_at kn_X1 ko_X1_at hd_X1_at ⟨Nat.le_of_ble_eq_true rfl, Nat.le_of_ble_eq_true rfl⟩ hl.size rfl (Nat.le_of_ble_eq_true rfl) dX1_entry_62 ⟨Nat.le_of_ble_eq_true rfl, Nat.le_of_ble_eq_true rfl⟩ hL (f0_in) (fun v1 H locs1 hp hL => ?_)
    obtain ⟨rfl, rfl⟩ := hp
    exact hx_iret G hr hlocks ⟨⟨j, hj, rfl, hn, rfl⟩, hw, hdn, rfl⟩ hL (Nat.le_of_ble_eq_true rfl) (Nat.le_of_ble_eq_true rfl) dX1_entry_65
  · refine lv_lookup (off := 36) (tgt := 66) G.1 G.2.1 dX1_entry_30 (by decide) (by rw [hkt]; rfl) (by decide) ?_
    refine hb_aload G dX1_entry_66 hl rfl ?_
    refine hb_iload_n G dX1_entry_68 hl rfl ?_
    refine hb_callV (As := [.int n]) (rest := []) G hml (c_blockOf g l (P j) (V j) _ (hV j (by omega)) (h.2.2.2.1 j (by omega)) n) ((h.2.2.2.1 j (by omega)).1) rfl km_X1_142 ki_X0_blockOf ks_X0_blockOf kn_X0 ko_X0_blockOf hd_X0_blockOf ⟨Nat.le_of_ble_eq_true rfl, Nat.le_of_ble_eq_true rfl⟩ hl.size rfl (Nat.le_of_ble_eq_true rfl) dX1_entry_69 ⟨Nat.le_of_ble_eq_true rfl, Nat.le_of_ble_eq_true rfl⟩ hL (f0_in) (fun v1 H locs1 hp hL => ?_)
    obtain ⟨rfl, rfl⟩ := hp
    exact hx_iret G hr hlocks ⟨⟨j, hj, rfl, hn, rfl⟩, hw, hdn, rfl⟩ hL (Nat.le_of_ble_eq_true rfl) (Nat.le_of_ble_eq_true rfl) dX1_entry_72
  · refine lv_lookup (off := 43) (tgt := 73) G.1 G.2.1 dX1_entry_30 (by decide) (by rw [hkt]; rfl) (by decide) ?_
    refine hb_aload G dX1_entry_73 hl rfl ?_
    refine hb_get G (h.2.2.2.1 j (by omega)).1 rfl inX0 5 (by decide) kf_X1_145 rfl rfl dX1_entry_75 ?_
    refine hb_iload_n G dX1_entry_78 hl rfl ?_
    refine hb_callS (As := [.ref (P j + 5), .int n]) (rest := []) G hml (c_at g l (P j + 5) 512 ((V j).1 4) n _ (by decide) ((h.2.2.2.1 j (by omega)).2 4 (by decide))) km_X1_138 kt_X1_at kn_X1 ko_X1_at hd_X1_at ⟨Nat.le_of_ble_eq_true rfl, Nat.le_of_ble_eq_true rfl⟩ hl.size rfl (Nat.le_of_ble_eq_true rfl) dX1_entry_79 ⟨Nat.le_of_ble_eq_true rfl, Nat.le_of_ble_eq_true rfl⟩ hL (f0_in) (fun v1 H locs1 hp hL => ?_)
    obtain ⟨rfl, rfl⟩ := hp
    exact hx_iret G hr hlocks ⟨⟨j, hj, rfl, hn, rfl⟩, hw, hdn, rfl⟩ hL (Nat.le_of_ble_eq_true rfl) (Nat.le_of_ble_eq_true rfl) dX1_entry_82
set_option maxHeartbeats 4000000 in
set_option maxRecDepth 100000 in
/-- byteAt -/
theorem c_byteAt (g : Gx) (z : Nat) (sa : Nat → Nat) (l : Launch) (hlt : l.stackTraces = false) (d S B : Nat) (P : Nat → Nat) (V : Nat → LV) (bu : Nat → Int32) (tc dn wr : Int32) (H : Heap) (hSB : dkB S B) (hV : ∀ j, j < 5 → lgOk (V j)) (h : dkAt g d S B P V bu tc dn wr H) (i n k : Int32) : HX g z sa l yX1_byteAt cX1_byteAt 5 (some .int) 7 112 4 24 [.ref d, .int i, .int n, .int k] H (fun r H1 => (∃ j, j < 4 ∧ i = nI j ∧ (0 ≤ n ∧ n ≤ nI (V j).2.2.1 - 1) ∧ (0 ≤ k ∧ k ≤ atV ((V j).1 2) 512 n - 1) ∧ r = some (.int ((atV ((V j).1 3) 512 n + k) &&& 255))) ∧ dn = 0 ∧ H1 = H) (thX (dkIs i ∧ (¬ dn = 0 ∨ ∀ j : Nat, j < 4 → i = nI j → (0 ≤ n ∧ n ≤ nI (V j).2.2.1 - 1) ∧ (0 ≤ k ∧ k ≤ atV ((V j).1 2) 512 n - 1))) dn H) (f0) := by
  refine HX.ofW (by decide) (Nat.le_of_ble_eq_true rfl) (by simp [Value.category]) ?_
  intro p e s m args below meth c ls G hr hml hlocks htb hH hXs hl
  have hl : lh ls 5 [some (.ref d), some (.int i), some (.int n), some (.int k), none] := hl
  have hL : ∀ q ∈ ([] : List Loc), (f0) q.base := fun q h => by cases h
  refine hb_aload_n G dX1_byteAt_0 hl rfl ?_
  refine hb_iload_n G dX1_byteAt_1 hl rfl ?_
  refine hx_callV (As := [.int i]) (rest := []) G hXs hml (c_existingLog g z sa l hlt d S B P V bu tc dn wr _ hSB hV h i) (h.1) rfl km_X1_47 ki_X1_existingLog ks_X1_existingLog kn_X1 ko_X1_existingLog hd_X1_existingLog ⟨Nat.le_of_ble_eq_true rfl, Nat.le_of_ble_eq_true rfl⟩ hl.size rfl (Nat.le_of_ble_eq_true rfl) dX1_byteAt_2 ⟨Nat.le_of_ble_eq_true rfl, Nat.le_of_ble_eq_true rfl⟩ hL (f0_in) (fun E ce q9 K9 locs9 hp hL hc1 hc2 hc3 => hx_out htb hlocks (⟨hp.2.2, Or.inl ⟨hp.1, fun q => hp.2.1 q.1⟩⟩) hL hc1 hc2 hc3 (Nat.le_of_ble_eq_true rfl) (Nat.le_of_ble_eq_true rfl)) (fun v1 H locs1 hp hL => ?_)
  obtain ⟨⟨j, hj, rfl, rfl⟩, rfl⟩ := hp
  refine hb_astore G dX1_byteAt_5 hl (by decide) (fun ls hl => ?_)
  have hl : lh ls 5 [some (.ref d), some (.int (nI j)), some (.int n), some (.int k), some (.ref (P j))] := hl
  refine hb_aload_n G dX1_byteAt_7 hl rfl ?_
  refine hx_callV (As := []) (rest := []) G hXs hml (c_requirePower g z sa l hlt d S (P 4) tc dn wr _ h.1) (h.1) rfl km_X1_55 ki_X1_requirePower ks_X1_requirePower kn_X1 ko_X1_requirePower hd_X1_requirePower ⟨Nat.le_of_ble_eq_true rfl, Nat.le_of_ble_eq_true rfl⟩ hl.size rfl (Nat.le_of_ble_eq_true rfl) dX1_byteAt_8 ⟨Nat.le_of_ble_eq_true rfl, Nat.le_of_ble_eq_true rfl⟩ hL (f0_in) (fun E ce q9 K9 locs9 hp hL hc1 hc2 hc3 => hx_out htb hlocks (⟨hp.2.2, Or.inr ⟨hp.1, ⟨dkIs_nI hj, Or.inl hp.2.1⟩, hp.2.1⟩⟩) hL hc1 hc2 hc3 (Nat.le_of_ble_eq_true rfl) (Nat.le_of_ble_eq_true rfl)) (fun v1 H locs1 hp hL => ?_)
  obtain ⟨rfl, hdn, rfl⟩ := hp
  refine hb_iload_n G dX1_byteAt_11 hl rfl ?_
  refine lv_iconst (v := 0) G.1 G.2.1 dX1_byteAt_12 (by decide) ?_
  refine hb_aload G dX1_byteAt_13 hl rfl ?_
  refine hb_get G (h.2.2.2.1 j (by omega)).1 rfl inX0 7 (by decide) kf_X1_123 rfl rfl dX1_byteAt_15 ?_
  refine lv_iconst (v := 1) G.1 G.2.1 dX1_byteAt_18 (by decide) ?_
  refine lv_isub G.1 G.2.1 dX1_byteAt_19 ?_
  refine lv_topi (fun t_1 et_1 => ?_)
  obtain rfl : t_1 = nI (V j).2.2.1 - 1 := et_1
  refine hx_callS (As := [.int n, .int 0, .int (nI (V j).2.2.1 - 1)]) (rest := []) G hXs hml (c_requireWithin g z sa l hlt n 0 (nI (V j).2.2.1 - 1) _) km_X1_51 kt_X1_requireWithin kn_X1 ko_X1_requireWithin hd_X1_requireWithin ⟨Nat.le_of_ble_eq_true rfl, Nat.le_of_ble_eq_true rfl⟩ hl.size rfl (Nat.le_of_ble_eq_true rfl) dX1_byteAt_20 ⟨Nat.le_of_ble_eq_true rfl, Nat.le_of_ble_eq_true rfl⟩ hL (f0_in) (fun E ce q9 K9 locs9 hp hL hc1 hc2 hc3 => hx_out htb hlocks (⟨hp.2.2, Or.inl ⟨hp.1, fun q => q.2.elim (fun q1 => q1 hdn) (fun q2 => hp.2.1 (q2 j hj rfl).1)⟩⟩) hL hc1 hc2 hc3 (Nat.le_of_ble_eq_true rfl) (Nat.le_of_ble_eq_true rfl)) (fun v1 H locs1 hp hL => ?_)
  obtain ⟨rfl, hn, rfl⟩ := hp
  refine hb_iload_n G dX1_byteAt_23 hl rfl ?_
  refine lv_iconst (v := 0) G.1 G.2.1 dX1_byteAt_24 (by decide) ?_
  refine hb_aload G dX1_byteAt_25 hl rfl ?_
  refine hb_get G (h.2.2.2.1 j (by omega)).1 rfl inX0 3 (by decide) kf_X1_135 rfl rfl dX1_byteAt_27 ?_
  refine hb_iload_n G dX1_byteAt_30 hl rfl ?_
  refine hb_callS (As := [.ref (P j + 3), .int n]) (rest := [.int 0, .int k]) G hml (c_at g l (P j + 3) 512 ((V j).1 2) n _ (by decide) ((h.2.2.2.1 j (by omega)).2 2 (by decide))) km_X1_138 kt_X1_at kn_X1 ko_X1_at hd_X1_at ⟨Nat.le_of_ble_eq_true rfl, Nat.le_of_ble_eq_true rfl⟩ hl.size rfl (Nat.le_of_ble_eq_true rfl) dX1_byteAt_31 ⟨Nat.le_of_ble_eq_true rfl, Nat.le_of_ble_eq_true rfl⟩ hL (f0_in) (fun v1 H locs1 hp hL => ?_)
  obtain ⟨rfl, rfl⟩ := hp
  refine lv_topi (fun r_2 er_2 => ?_)
  refine lv_iconst (v := 1) G.1 G.2.1 dX1_byteAt_34 (by decide) ?_
  refine lv_isub G.1 G.2.1 dX1_byteAt_35 ?_
  refine lv_topi (fun t_3 et_3 => ?_)
  obtain rfl : t_3 = atV ((V j).1 2) 512 n - 1 := by rw [et_3, er_2]
  refine hx_callS (As := [.int k, .int 0, .int (atV ((V j).1 2) 512 n - 1)]) (rest := []) G hXs hml (c_requireWithin g z sa l hlt k 0 (atV ((V j).1 2) 512 n - 1) _) km_X1_51 kt_X1_requireWithin kn_X1 ko_X1_requireWithin hd_X1_requireWithin ⟨Nat.le_of_ble_eq_true rfl, Nat.le_of_ble_eq_true rfl⟩ hl.size rfl (Nat.le_of_ble_eq_true rfl) dX1_byteAt_36 ⟨Nat.le_of_ble_eq_true rfl, Nat.le_of_ble_eq_true rfl⟩ hL (f0_in) (fun E ce q9 K9 locs9 hp hL hc1 hc2 hc3 => hx_out htb hlocks (⟨hp.2.2, Or.inl ⟨hp.1, fun q => q.2.elim (fun q1 => q1 hdn) (fun q2 => hp.2.1 (q2 j hj rfl).2)⟩⟩) hL hc1 hc2 hc3 (Nat.le_of_ble_eq_true rfl) (Nat.le_of_ble_eq_true rfl)) (fun v1 H locs1 hp hL => ?_)
  obtain ⟨rfl, hk, rfl⟩ := hp
  refine hb_aload G dX1_byteAt_39 hl rfl ?_
  refine hb_get G (h.2.2.2.1 j (by omega)).1 rfl inX0 4 (by decide) kf_X1_148 rfl rfl dX1_byteAt_41 ?_
  refine hb_iload_n G dX1_byteAt_44 hl rfl ?_
  refine hb_callS (As := [.ref (P j + 4), .int n]) (rest := []) G hml (c_at g l (P j + 4) 512 ((V j).1 3) n _ (by decide) ((h.2.2.2.1 j (by omega)).2 3 (by decide))) km_X1_138 kt_X1_at kn_X1 ko_X1_at hd_X1_at ⟨Nat.le_of_ble_eq_true rfl, Nat.le_of_ble_eq_true rfl⟩ hl.size rfl (Nat.le_of_ble_eq_true rfl) dX1_byteAt_45 ⟨Nat.le_of_ble_eq_true rfl, Nat.le_of_ble_eq_true rfl⟩ hL (f0_in) (fun v1 H locs1 hp hL => ?_)
  obtain ⟨rfl, rfl⟩ := hp
  refine lv_topi (fun r_4 er_4 => ?_)
  refine hb_iload_n G dX1_byteAt_48 hl rfl ?_
  refine lv_iadd G.1 G.2.1 dX1_byteAt_49 ?_
  refine lv_topi (fun t_5 et_5 => ?_)
  refine lv_sipush (v := 255) G.1 G.2.1 dX1_byteAt_50 (by decide) ?_
  refine lv_iand G.1 G.2.1 dX1_byteAt_53 ?_
  refine lv_topi (fun t_6 et_6 => ?_)
  exact hx_iret G hr hlocks ⟨⟨j, hj, rfl, hn, hk, by rw [et_6, et_5, er_4]⟩, hdn, rfl⟩ hL (Nat.le_of_ble_eq_true rfl) (Nat.le_of_ble_eq_true rfl) dX1_byteAt_54
end
section
abbrev apFit (S : Nat) (v : LV) (n : Int32) : Prop := 0 < v.2.1 ∧ lgOB v + (n + 4) ≤ nI S * 1024
def apSt (B S : Nat) (V : Nat → LV) (v : LV) (n : Int32) : Int32 := if apFit S v n then lgOS v else sons B S V v
def apCnt (S : Nat) (v : LV) (n : Int32) : Int32 := btV (if apFit S v n then lgOB v else 0) (n + 4) + 1
def came1 (w : LV) : LV := (w.1, w.2.1, w.2.2.1, w.2.2.2 + 1)
def apNew (B S : Nat) (V : Nat → LV) (v : LV) (n b : Int32) : LV := came1 (lgPut (if apFit S v n then v else lgOpen v (apSt B S V v n)) n b)
def apV (B S : Nat) (V : Nat → LV) (v : LV) (n b tc dn wr : Int32) : Int32 × LV × Int32 × Int32 × Int32 :=
  if nI S * 1024 < n + 4 then (-5, v, tc, dn, wr) else if apSt B S V v n = -1 ∨ ¬ v.2.2.1 < 512 then (-2, v, tc, dn, wr)
  else (if whN tc dn (apCnt S v n) = 0 then apCnt S v n else -3, if whR tc (apCnt S v n) = 0 then v else apNew B S V v n b, whT tc (apCnt S v n), whN tc dn (apCnt S v n), whW tc wr (apCnt S v n))
/-- the disk as calls see it: its four logs, its power, its writes -/
def dkSt (g : Gx) (d S B : Nat) (U : Nat → LV) (tc dn wr : Int32) (H : Heap) : Prop := ∃ (P : Nat → Nat) (V : Nat → LV) (bv : Nat → Int32), dkAt g d S B P V bv tc dn wr H ∧ (∀ m, m < 4 → V m = U m) ∧ ∀ m, m < 5 → lgOk (V m)
theorem up_ok {V : Nat → LV} {j : Nat} {v : LV} (hV : ∀ m, m < 5 → lgOk (V m)) (hv : lgOk v) : ∀ m, m < 5 → lgOk (va_up V j v m) := fun m hm => by
  by_cases h : m = j
  · subst h; rw [va_up_self]; exact hv
  · rw [va_up_ne _ _ h]; exact hV m hm
theorem up_same {α : Type} (V : Nat → α) (j : Nat) : va_up V j (V j) = V := by
  funext m
  by_cases h : m = j
  · subst h; rw [va_up_self]
  · rw [va_up_ne _ _ h]
theorem swp_ok {V : Nat → LV} {j : Nat} (hj : j < 4) (hV : ∀ m, m < 5 → lgOk (V m)) : ∀ m, m < 5 → lgOk (swp V j m) := fun m hm => by
  unfold swp
  split
  · exact hV 4 (by decide)
  · split
    · exact hV j (by omega)
    · exact hV m hm
theorem swp_up {V : Nat → LV} {j : Nat} {w : LV} (hj : j < 4) : ∀ m, m < 4 → swp (va_up V 4 w) j m = va_up V j w m := fun m hm => by
  unfold swp
  by_cases h : m = j
  · subst h; rw [if_pos rfl, va_up_self, va_up_self]
  · rw [if_neg h, if_neg (by omega), va_up_ne _ _ (by omega), va_up_ne _ _ h]
theorem came1_at {g : Gx} {x : Nat} {v : LV} {H H1 : Heap} (hg : lgAt g x v H) {t : Int32} (ht : t = v.2.2.2 + 1) (hf : ob g x 0 ((lgFs x v).set 8 (.int t)) H1) (ho : ∀ q : Nat, q ≠ x → H1[q]? = H[q]?) : lgAt g x (came1 v) H1 := by
  subst ht
  exact lgAt.fd hg rfl hf ho
set_option maxHeartbeats 4000000 in
set_option maxRecDepth 100000 in
/-- append -/
theorem c_append (g : Gx) (z : Nat) (sa : Nat → Nat) (l : Launch) (hlt : l.stackTraces = false) (d S B : Nat) (P : Nat → Nat) (V : Nat → LV) (bu : Nat → Int32) (tc dn wr : Int32) (H : Heap) (hSB : dkB S B) (hV : ∀ j, j < 5 → lgOk (V j)) (h : dkAt g d S B P V bu tc dn wr H) (i n b : Int32) : HX g z sa l yX1_append cX1_append 10 (some .int) 7 112 3 18 [.ref d, .int i, .int n, .int b] H (fun r H1 => (∃ j : Nat, j < 4 ∧ i = nI j ∧ r = some (.int (apV B S V (V j) n b tc dn wr).1) ∧ dkSt g d S B (va_up V j (apV B S V (V j) n b tc dn wr).2.1) (apV B S V (V j) n b tc dn wr).2.2.1 (apV B S V (V j) n b tc dn wr).2.2.2.1 (apV B S V (V j) n b tc dn wr).2.2.2.2 H1) ∧ (1 ≤ n ∧ n ≤ 20000) ∧ dn = 0 ∧ Fr d 38 H H1) (thX (dkIs i ∧ 1 ≤ n ∧ n ≤ 20000) dn H) (fB d 38) := by
  refine HX.ofW (by decide) (Nat.le_of_ble_eq_true rfl) (by simp [Value.category]) ?_
  intro p e s m args below meth c ls G hr hml hlocks htb hH hXs hl
  have hl : lh ls 10 [some (.ref d), some (.int i), some (.int n), some (.int b), none, none, none, none, none, none] := hl
  have hL : ∀ q ∈ ([] : List Loc), (fB d 38) q.base := fun q h => by cases h
  refine hb_aload_n G dX1_append_0 hl rfl ?_
  refine hb_iload_n G dX1_append_1 hl rfl ?_
  refine hx_callV (As := [.int i]) (rest := []) G hXs hml (c_existingLog g z sa l hlt d S B P V bu tc dn wr _ hSB hV h i) (h.1) rfl km_X1_47 ki_X1_existingLog ks_X1_existingLog kn_X1 ko_X1_existingLog hd_X1_existingLog ⟨Nat.le_of_ble_eq_true rfl, Nat.le_of_ble_eq_true rfl⟩ hl.size rfl (Nat.le_of_ble_eq_true rfl) dX1_append_2 ⟨Nat.le_of_ble_eq_true rfl, Nat.le_of_ble_eq_true rfl⟩ hL (f0_in) (fun E ce q9 K9 locs9 hp hL hc1 hc2 hc3 => hx_out htb hlocks (⟨hp.2.2, Or.inl ⟨hp.1, fun q => hp.2.1 q.1⟩⟩) hL hc1 hc2 hc3 (Nat.le_of_ble_eq_true rfl) (Nat.le_of_ble_eq_true rfl)) (fun v1 H locs1 hp hL => ?_)
  obtain ⟨⟨j, hj, rfl, rfl⟩, rfl⟩ := hp
  refine hb_astore G dX1_append_5 hl (by decide) (fun ls hl => ?_)
  have hl : lh ls 10 [some (.ref d), some (.int (nI j)), some (.int n), some (.int b), some (.ref (P j)), none, none, none, none, none] := hl
  refine hb_iload_n G dX1_append_7 hl rfl ?_
  refine lv_iconst (v := 1) G.1 G.2.1 dX1_append_8 (by decide) ?_
  refine lv_sipush (v := 20000) G.1 G.2.1 dX1_append_9 (by decide) ?_
  refine hx_callS (As := [.int n, .int 1, .int 20000]) (rest := []) G hXs hml (c_requireWithin g z sa l hlt n 1 20000 _) km_X1_51 kt_X1_requireWithin kn_X1 ko_X1_requireWithin hd_X1_requireWithin ⟨Nat.le_of_ble_eq_true rfl, Nat.le_of_ble_eq_true rfl⟩ hl.size rfl (Nat.le_of_ble_eq_true rfl) dX1_append_12 ⟨Nat.le_of_ble_eq_true rfl, Nat.le_of_ble_eq_true rfl⟩ hL (f0_in) (fun E ce q9 K9 locs9 hp hL hc1 hc2 hc3 => hx_out htb hlocks (⟨hp.2.2, Or.inl ⟨hp.1, fun q => hp.2.1 q.2⟩⟩) hL hc1 hc2 hc3 (Nat.le_of_ble_eq_true rfl) (Nat.le_of_ble_eq_true rfl)) (fun v1 H locs1 hp hL => ?_)
  obtain ⟨rfl, hw, rfl⟩ := hp
  refine hb_aload_n G dX1_append_15 hl rfl ?_
  refine hx_callV (As := []) (rest := []) G hXs hml (c_requirePower g z sa l hlt d S (P 4) tc dn wr _ h.1) (h.1) rfl km_X1_55 ki_X1_requirePower ks_X1_requirePower kn_X1 ko_X1_requirePower hd_X1_requirePower ⟨Nat.le_of_ble_eq_true rfl, Nat.le_of_ble_eq_true rfl⟩ hl.size rfl (Nat.le_of_ble_eq_true rfl) dX1_append_16 ⟨Nat.le_of_ble_eq_true rfl, Nat.le_of_ble_eq_true rfl⟩ hL (f0_in) (fun E ce q9 K9 locs9 hp hL hc1 hc2 hc3 => hx_out htb hlocks (⟨hp.2.2, Or.inr ⟨hp.1, ⟨dkIs_nI hj, hw⟩, hp.2.1⟩⟩) hL hc1 hc2 hc3 (Nat.le_of_ble_eq_true rfl) (Nat.le_of_ble_eq_true rfl)) (fun v1 H locs1 hp hL => ?_)
  obtain ⟨rfl, hdn, rfl⟩ := hp
  have hPj := h.far (j := j) (by omega)
  have hgj := h.2.2.2.1 j (by omega)
  have hvj := hV j (by omega)
  refine hb_iload_n G dX1_append_19 hl rfl ?_
  refine lv_iconst (v := 4) G.1 G.2.1 dX1_append_20 (by decide) ?_
  refine lv_iadd G.1 G.2.1 dX1_append_21 ?_
  refine lv_topi (fun t_1 et_1 => ?_)
  obtain rfl : t_1 = n + 4 := et_1
  refine hb_istore G dX1_append_22 hl (by decide) (fun ls hl => ?_)
  have hl : lh ls 10 [some (.ref d), some (.int (nI j)), some (.int n), some (.int b), some (.ref (P j)), some (.int (n + 4)), none, none, none, none] := hl
  refine hb_iload G dX1_append_24 hl rfl ?_
  refine hb_aload_n G dX1_append_26 hl rfl ?_
  refine hb_callV (As := []) (rest := [.int (n + 4)]) G hml (c_segmentBytes g l d S (P 4) tc dn wr _ h.1) (h.1) rfl km_X1_58 ki_X1_segmentBytes ks_X1_segmentBytes kn_X1 ko_X1_segmentBytes hd_X1_segmentBytes ⟨Nat.le_of_ble_eq_true rfl, Nat.le_of_ble_eq_true rfl⟩ hl.size rfl (Nat.le_of_ble_eq_true rfl) dX1_append_27 ⟨Nat.le_of_ble_eq_true rfl, Nat.le_of_ble_eq_true rfl⟩ hL (f0_in) (fun v1 H locs1 hp hL => ?_)
  obtain ⟨rfl, rfl⟩ := hp
  refine lv_icmp_le (tgt := 36) G.1 G.2.1 dX1_append_30 (by decide) (fun c_2 => ?_) (fun c_2 => ?_)
  · have hla : ¬ nI S * 1024 < n + 4 := i32_nlt.mpr c_2
    refine hb_aload G dX1_append_36 hl rfl ?_
    refine hb_iload G dX1_append_38 hl rfl ?_
    refine hb_aload_n G dX1_append_40 hl rfl ?_
    refine hb_callV (As := []) (rest := [.int (n + 4), .ref (P j)]) G hml (c_segmentBytes g l d S (P 4) tc dn wr _ h.1) (h.1) rfl km_X1_58 ki_X1_segmentBytes ks_X1_segmentBytes kn_X1 ko_X1_segmentBytes hd_X1_segmentBytes ⟨Nat.le_of_ble_eq_true rfl, Nat.le_of_ble_eq_true rfl⟩ hl.size rfl (Nat.le_of_ble_eq_true rfl) dX1_append_41 ⟨Nat.le_of_ble_eq_true rfl, Nat.le_of_ble_eq_true rfl⟩ hL (f0_in) (fun v1 H locs1 hp hL => ?_)
    obtain ⟨rfl, rfl⟩ := hp
    refine hb_callV (As := [.int (n + 4), .int (nI S * 1024)]) (rest := []) G hml (c_openHasRoom g l (P j) (V j) _ hvj hgj (n + 4) (nI S * 1024)) (hgj.1) rfl km_X1_62 ki_X0_openHasRoom ks_X0_openHasRoom kn_X0 ko_X0_openHasRoom hd_X0_openHasRoom ⟨Nat.le_of_ble_eq_true rfl, Nat.le_of_ble_eq_true rfl⟩ hl.size rfl (Nat.le_of_ble_eq_true rfl) dX1_append_44 ⟨Nat.le_of_ble_eq_true rfl, Nat.le_of_ble_eq_true rfl⟩ hL (f0_in) (fun v1 H locs1 hp hL => ?_)
    obtain ⟨rfl, rfl⟩ := hp
    refine lv_topi (fun r_3 er_3 => ?_)
    refine hb_istore G dX1_append_47 hl (by decide) (fun ls hl => ?_)
    have hl : lh ls 10 [some (.ref d), some (.int (nI j)), some (.int n), some (.int b), some (.ref (P j)), some (.int (n + 4)), some (.int r_3), none, none, none] := hl
    refine hb_iload G dX1_append_49 hl rfl ?_
    refine lv_if_eq (tgt := 62) G.1 G.2.1 dX1_append_51 (by decide) (fun c_4 => ?_) (fun c_4 => ?_)
    · have hfit : ¬ apFit S (V j) n := (it0 er_3).mp c_4
      refine hb_aload_n G dX1_append_62 hl rfl ?_
      refine hb_aload G dX1_append_63 hl rfl ?_
      refine hb_callV (As := [.ref (P j)]) (rest := []) G hml (c_startOfNewSegment g l d S B P V bu tc dn wr _ hSB hV h j (by omega)) (h.1) rfl km_X1_69 ki_X1_startOfNewSegment ks_X1_startOfNewSegment kn_X1 ko_X1_startOfNewSegment hd_X1_startOfNewSegment ⟨Nat.le_of_ble_eq_true rfl, Nat.le_of_ble_eq_true rfl⟩ hl.size rfl (Nat.le_of_ble_eq_true rfl) dX1_append_65 ⟨Nat.le_of_ble_eq_true rfl, Nat.le_of_ble_eq_true rfl⟩ hL (f1_in (fB_mk (by omega) (by omega))) (fun v1 K locs1 hp hL => ?_)
      obtain ⟨rfl, bv, hbv, hFo⟩ := hp
      have hk := h.ub hbv hFo
      have hF0 : Fr d 38 _ K := hFo.fr (by omega) (by omega)
      have hgk := hk.2.2.2.1 j (by omega)
      refine lv_topi (fun r_5 er_5 => ?_)
      have hap : apSt B S V (V j) n = r_5 := by unfold apSt; rw [if_neg hfit, er_5]
      refine hb_istore G dX1_append_68 hl (by decide) (fun ls hl => ?_)
      have hl : lh ls 10 [some (.ref d), some (.int (nI j)), some (.int n), some (.int b), some (.ref (P j)), some (.int (n + 4)), some (.int r_3), some (.int r_5), none, none] := hl
      refine hb_iload G dX1_append_70 hl rfl ?_
      refine lv_iconst (v := (-1)) G.1 G.2.1 dX1_append_72 (by decide) ?_
      refine lv_icmp_eq (tgt := 84) G.1 G.2.1 dX1_append_73 (by decide) (fun c_6 => ?_) (fun c_6 => ?_)
      · have hae : apV B S V (V j) n b tc dn wr = (-2, V j, tc, dn, wr) := by unfold apV; rw [if_neg hla, if_pos (Or.inl (by rw [hap]; exact c_6))]
        refine lv_bipush (v := (-2)) G.1 G.2.1 dX1_append_84 (by decide) ?_
        exact hx_iret G hr hlocks ⟨⟨j, hj, rfl, by rw [hae], by rw [hae]; exact ⟨P, V, _, hk, fun m _ => by rw [up_same], hV⟩⟩, hw, hdn, hF0⟩ hL (Nat.le_of_ble_eq_true rfl) (Nat.le_of_ble_eq_true rfl) dX1_append_86
      · refine hb_aload G dX1_append_76 hl rfl ?_
        refine hb_callV (As := []) (rest := []) G hml (c_canHoldMore g l (P j) (V j) _ hvj hgk) (hgk.1) rfl km_X1_73 ki_X0_canHoldMore ks_X0_canHoldMore kn_X0 ko_X0_canHoldMore hd_X0_canHoldMore ⟨Nat.le_of_ble_eq_true rfl, Nat.le_of_ble_eq_true rfl⟩ hl.size rfl (Nat.le_of_ble_eq_true rfl) dX1_append_78 ⟨Nat.le_of_ble_eq_true rfl, Nat.le_of_ble_eq_true rfl⟩ hL (f0_in) (fun v1 K locs1 hp hL => ?_)
        obtain ⟨rfl, rfl⟩ := hp
        refine lv_topi (fun r_7 er_7 => ?_)
        refine lv_if_ne (tgt := 87) G.1 G.2.1 dX1_append_81 (by decide) (fun c_8 => ?_) (fun c_8 => ?_)
        · have h512 : (V j).2.2.1 < 512 := Decidable.not_not.mp (fun q => c_8 ((it0 er_7).mpr q))
          refine hb_iload G dX1_append_87 hl rfl ?_
          refine lv_if_eq (tgt := 100) G.1 G.2.1 dX1_append_89 (by decide) (fun c_9 => ?_) (fun c_9 => ?_)
          · refine lv_iconst (v := 0) G.1 G.2.1 dX1_append_100 (by decide) ?_
            refine hb_istore G dX1_append_101 hl (by decide) (fun ls hl => ?_)
            have hl : lh ls 10 [some (.ref d), some (.int (nI j)), some (.int n), some (.int b), some (.ref (P j)), some (.int (n + 4)), some (.int r_3), some (.int r_5), some (.int 0), none] := hl
            refine hb_iload G dX1_append_103 hl rfl ?_
            refine hb_iload G dX1_append_105 hl rfl ?_
            refine hb_callS (As := [.int 0, .int (n + 4)]) (rest := []) G hml (c_blocksTouched g l 0 (n + 4) _) km_X1_80 kt_X1_blocksTouched kn_X1 ko_X1_blocksTouched hd_X1_blocksTouched ⟨Nat.le_of_ble_eq_true rfl, Nat.le_of_ble_eq_true rfl⟩ hl.size rfl (Nat.le_of_ble_eq_true rfl) dX1_append_107 ⟨Nat.le_of_ble_eq_true rfl, Nat.le_of_ble_eq_true rfl⟩ hL (f0_in) (fun v1 K locs1 hp hL => ?_)
            obtain ⟨rfl, rfl⟩ := hp
            refine lv_topi (fun r_10 er_10 => ?_)
            refine lv_iconst (v := 1) G.1 G.2.1 dX1_append_110 (by decide) ?_
            refine lv_iadd G.1 G.2.1 dX1_append_111 ?_
            refine lv_topi (fun t_11 et_11 => ?_)
            obtain rfl : t_11 = apCnt S (V j) n := by rw [et_11, er_10]; unfold apCnt; rw [if_neg hfit]
            have hae : apV B S V (V j) n b tc dn wr = (if whN tc dn (apCnt S (V j) n) = 0 then apCnt S (V j) n else -3, if whR tc (apCnt S (V j) n) = 0 then V j else apNew B S V (V j) n b, whT tc (apCnt S (V j) n), whN tc dn (apCnt S (V j) n), whW tc wr (apCnt S (V j) n)) := by unfold apV; rw [if_neg hla, if_neg (fun q => q.elim (fun q1 => c_6 (by rw [← hap]; exact q1)) (fun q2 => q2 h512))]
            generalize hcn : apCnt S (V j) n = cn at *
            refine hb_istore G dX1_append_112 hl (by decide) (fun ls hl => ?_)
            have hl : lh ls 10 [some (.ref d), some (.int (nI j)), some (.int n), some (.int b), some (.ref (P j)), some (.int (n + 4)), some (.int r_3), some (.int r_5), some (.int 0), some (.int cn)] := hl
            refine hb_aload_n G dX1_append_114 hl rfl ?_
            refine hb_iload G dX1_append_115 hl rfl ?_
            refine hb_callV (As := [.int cn]) (rest := []) G hml (c_writeThroughHead g l d S (P 4) tc dn wr _ hk.1 cn) (hk.1) rfl km_X1_83 ki_X1_writeThroughHead ks_X1_writeThroughHead kn_X1 ko_X1_writeThroughHead hd_X1_writeThroughHead ⟨Nat.le_of_ble_eq_true rfl, Nat.le_of_ble_eq_true rfl⟩ hl.size rfl (Nat.le_of_ble_eq_true rfl) dX1_append_117 ⟨Nat.le_of_ble_eq_true rfl, Nat.le_of_ble_eq_true rfl⟩ hL (f1_in (fB_mk (by omega) (by omega))) (fun v1 K2 locs2 hp hL => ?_)
            obtain ⟨rfl, hob, hFo2⟩ := hp
            have hk2 := hk.ob hob hFo2
            have hF2 : Fr d 38 _ K2 := hF0.tr (hFo2.fr (by omega) (by omega))
            have hg2 := hk2.2.2.2.1 j (by omega)
            refine lv_topi (fun r_12 er_12 => ?_)
            refine lv_if_eq (tgt := 153) G.1 G.2.1 dX1_append_120 (by decide) (fun c_13 => ?_) (fun c_13 => ?_)
            · refine hb_aload_n G dX1_append_153 hl rfl ?_
              refine hb_get G hk2.1 rfl inX1 5 (by decide) kf_X1_24 rfl rfl dX1_append_154 ?_
              refine lv_if_eq (tgt := 165) G.1 G.2.1 dX1_append_157 (by decide) (fun c_14 => ?_) (fun c_14 => ?_)
              · refine hb_iload G dX1_append_165 hl rfl ?_
                have q1 : (apV B S V (V j) n b tc dn wr).1 = cn := by rw [hae]; exact if_pos c_14
                have q2 : (apV B S V (V j) n b tc dn wr).2.1 = V j := by rw [hae]; exact if_pos (by rw [← er_12]; exact c_13)
                have q3 : (apV B S V (V j) n b tc dn wr).2.2 = (whT tc cn, whN tc dn cn, whW tc wr cn) := by rw [hae]
                exact hx_iret G hr hlocks ⟨⟨j, hj, rfl, by rw [q1], by rw [q2, q3]; exact ⟨P, V, _, hk2, fun m _ => by rw [up_same], hV⟩⟩, hw, hdn, hF2⟩ hL (Nat.le_of_ble_eq_true rfl) (Nat.le_of_ble_eq_true rfl) dX1_append_167
              · refine lv_bipush (v := (-3)) G.1 G.2.1 dX1_append_160 (by decide) ?_
                refine lv_goto (tgt := 167) G.1 G.2.1 dX1_append_162 (by decide) ?_
                have q1 : (apV B S V (V j) n b tc dn wr).1 = -3 := by rw [hae]; exact if_neg c_14
                have q2 : (apV B S V (V j) n b tc dn wr).2.1 = V j := by rw [hae]; exact if_pos (by rw [← er_12]; exact c_13)
                have q3 : (apV B S V (V j) n b tc dn wr).2.2 = (whT tc cn, whN tc dn cn, whW tc wr cn) := by rw [hae]
                exact hx_iret G hr hlocks ⟨⟨j, hj, rfl, by rw [q1], by rw [q2, q3]; exact ⟨P, V, _, hk2, fun m _ => by rw [up_same], hV⟩⟩, hw, hdn, hF2⟩ hL (Nat.le_of_ble_eq_true rfl) (Nat.le_of_ble_eq_true rfl) dX1_append_167
            · refine hb_iload G dX1_append_123 hl rfl ?_
              refine lv_if_ne (tgt := 135) G.1 G.2.1 dX1_append_125 (by decide) (fun c_15 => ?_) (fun c_15 => ?_)
              · exact absurd c_4 c_15
              · refine hb_aload G dX1_append_128 hl rfl ?_
                refine hb_iload G dX1_append_130 hl rfl ?_
                refine hb_callV (As := [.int r_5]) (rest := []) G hml (c_openSegment g l (P j) (V j) _ hvj hg2 r_5) (hg2.1) rfl km_X1_87 ki_X0_openSegment ks_X0_openSegment kn_X0 ko_X0_openSegment hd_X0_openSegment ⟨Nat.le_of_ble_eq_true rfl, Nat.le_of_ble_eq_true rfl⟩ hl.size rfl (Nat.le_of_ble_eq_true rfl) dX1_append_132 ⟨Nat.le_of_ble_eq_true rfl, Nat.le_of_ble_eq_true rfl⟩ hL (fun q h => fB_mk (by have := h.1; omega) (by have := h.2; omega)) (fun v1 K3 locs3 hp hL => ?_)
                obtain ⟨rfl, hg3, hF3⟩ := hp
                have enew : apNew B S V (V j) n b = came1 (lgPut (lgOpen (V j) r_5) n b) := by unfold apNew; rw [if_neg hfit, hap]
                refine hb_aload G dX1_append_135 hl rfl ?_
                refine hb_iload_n G dX1_append_137 hl rfl ?_
                refine hb_iload_n G dX1_append_138 hl rfl ?_
                refine hb_callV (As := [.int n, .int b]) (rest := []) G hml (c_put g l (P j) (lgOpen (V j) r_5) _ (lgOpen_ok hvj _) hg3 n b) (hg3.1) rfl km_X1_91 ki_X0_put ks_X0_put kn_X0 ko_X0_put hd_X0_put ⟨Nat.le_of_ble_eq_true rfl, Nat.le_of_ble_eq_true rfl⟩ hl.size rfl (Nat.le_of_ble_eq_true rfl) dX1_append_139 ⟨Nat.le_of_ble_eq_true rfl, Nat.le_of_ble_eq_true rfl⟩ hL (fun q h => fB_mk (by have := h.1; omega) (by have := h.2; omega)) (fun v1 K4 locs4 hp hL => ?_)
                obtain ⟨rfl, hg4, hF4⟩ := hp
                refine hb_aload G dX1_append_142 hl rfl ?_
                refine lv_dup G.1 G.2.1 dX1_append_144 rfl ?_
                refine hb_get G hg4.1 rfl inX0 8 (by decide) kf_X1_95 rfl rfl dX1_append_145 ?_
                refine lv_iconst (v := 1) G.1 G.2.1 dX1_append_148 (by decide) ?_
                refine lv_iadd G.1 G.2.1 dX1_append_149 ?_
                refine lv_topi (fun t_16 et_16 => ?_)
                refine hb_put G hg4.1 rfl inX0 tyX0 tyX0_ok nmX0 8 (by decide) kf_X1_95 rfl rfl rfl rfl (Nat.le_of_ble_eq_true rfl) hL (fB_mk (by omega) (by omega)) dX1_append_150 (fun K5 locs5 hf5 hz5 ho5 hL => ?_)
                have hg5 := came1_at hg4 et_16 hf5 ho5
                have hFl : Fr (P j) 7 K2 K5 := hF3.tr (hF4.tr (Fr.one hz5 ho5 (by omega) (by omega)))
                rw [← enew] at hg5
                have hok5 : lgOk (apNew B S V (V j) n b) := by rw [enew]; exact lgPut_ok (lgOpen_ok hvj _) _ _
                have hk5 := hk2.lg (by omega) hg5 hFl
                refine hb_aload_n G dX1_append_153 hl rfl ?_
                refine hb_get G hk5.1 rfl inX1 5 (by decide) kf_X1_24 rfl rfl dX1_append_154 ?_
                refine lv_if_eq (tgt := 165) G.1 G.2.1 dX1_append_157 (by decide) (fun c_17 => ?_) (fun c_17 => ?_)
                · refine hb_iload G dX1_append_165 hl rfl ?_
                  have q1 : (apV B S V (V j) n b tc dn wr).1 = cn := by rw [hae]; exact if_pos c_17
                  have q2 : (apV B S V (V j) n b tc dn wr).2.1 = apNew B S V (V j) n b := by rw [hae]; exact if_neg (by rw [← er_12]; exact c_13)
                  have q3 : (apV B S V (V j) n b tc dn wr).2.2 = (whT tc cn, whN tc dn cn, whW tc wr cn) := by rw [hae]
                  exact hx_iret G hr hlocks ⟨⟨j, hj, rfl, by rw [q1], by rw [q2, q3]; exact ⟨P, _, _, hk5, fun m _ => rfl, up_ok hV hok5⟩⟩, hw, hdn, hF2.tr (hFl.wide (by omega) (by omega))⟩ hL (Nat.le_of_ble_eq_true rfl) (Nat.le_of_ble_eq_true rfl) dX1_append_167
                · refine lv_bipush (v := (-3)) G.1 G.2.1 dX1_append_160 (by decide) ?_
                  refine lv_goto (tgt := 167) G.1 G.2.1 dX1_append_162 (by decide) ?_
                  have q1 : (apV B S V (V j) n b tc dn wr).1 = -3 := by rw [hae]; exact if_neg c_17
                  have q2 : (apV B S V (V j) n b tc dn wr).2.1 = apNew B S V (V j) n b := by rw [hae]; exact if_neg (by rw [← er_12]; exact c_13)
                  have q3 : (apV B S V (V j) n b tc dn wr).2.2 = (whT tc cn, whN tc dn cn, whW tc wr cn) := by rw [hae]
                  exact hx_iret G hr hlocks ⟨⟨j, hj, rfl, by rw [q1], by rw [q2, q3]; exact ⟨P, _, _, hk5, fun m _ => rfl, up_ok hV hok5⟩⟩, hw, hdn, hF2.tr (hFl.wide (by omega) (by omega))⟩ hL (Nat.le_of_ble_eq_true rfl) (Nat.le_of_ble_eq_true rfl) dX1_append_167
          · exact absurd c_4 c_9
        · have hae : apV B S V (V j) n b tc dn wr = (-2, V j, tc, dn, wr) := by unfold apV; rw [if_neg hla, if_pos (Or.inr ((it0 er_7).mp c_8))]
          refine lv_bipush (v := (-2)) G.1 G.2.1 dX1_append_84 (by decide) ?_
          exact hx_iret G hr hlocks ⟨⟨j, hj, rfl, by rw [hae], by rw [hae]; exact ⟨P, V, _, hk, fun m _ => by rw [up_same], hV⟩⟩, hw, hdn, hF0⟩ hL (Nat.le_of_ble_eq_true rfl) (Nat.le_of_ble_eq_true rfl) dX1_append_86
    · have hfit : apFit S (V j) n := Decidable.not_not.mp (fun q => c_4 ((it0 er_3).mpr q))
      refine hb_aload G dX1_append_54 hl rfl ?_
      refine hb_callV (As := []) (rest := []) G hml (c_openStart g l (P j) (V j) _ hvj hgj) (hgj.1) rfl km_X1_66 ki_X0_openStart ks_X0_openStart kn_X0 ko_X0_openStart hd_X0_openStart ⟨Nat.le_of_ble_eq_true rfl, Nat.le_of_ble_eq_true rfl⟩ hl.size rfl (Nat.le_of_ble_eq_true rfl) dX1_append_56 ⟨Nat.le_of_ble_eq_true rfl, Nat.le_of_ble_eq_true rfl⟩ hL (f0_in) (fun v1 H locs1 hp hL => ?_)
      obtain ⟨rfl, rfl⟩ := hp
      refine lv_topi (fun r_18 er_18 => ?_)
      have hap : apSt B S V (V j) n = r_18 := by unfold apSt; rw [if_pos hfit, er_18]
      refine lv_goto (tgt := 68) G.1 G.2.1 dX1_append_59 (by decide) ?_
      refine hb_istore G dX1_append_68 hl (by decide) (fun ls hl => ?_)
      have hl : lh ls 10 [some (.ref d), some (.int (nI j)), some (.int n), some (.int b), some (.ref (P j)), some (.int (n + 4)), some (.int r_3), some (.int r_18), none, none] := hl
      refine hb_iload G dX1_append_70 hl rfl ?_
      refine lv_iconst (v := (-1)) G.1 G.2.1 dX1_append_72 (by decide) ?_
      refine lv_icmp_eq (tgt := 84) G.1 G.2.1 dX1_append_73 (by decide) (fun c_19 => ?_) (fun c_19 => ?_)
      · have hae : apV B S V (V j) n b tc dn wr = (-2, V j, tc, dn, wr) := by unfold apV; rw [if_neg hla, if_pos (Or.inl (by rw [hap]; exact c_19))]
        refine lv_bipush (v := (-2)) G.1 G.2.1 dX1_append_84 (by decide) ?_
        exact hx_iret G hr hlocks ⟨⟨j, hj, rfl, by rw [hae], by rw [hae]; exact ⟨P, V, _, h, fun m _ => by rw [up_same], hV⟩⟩, hw, hdn, Fr.rf⟩ hL (Nat.le_of_ble_eq_true rfl) (Nat.le_of_ble_eq_true rfl) dX1_append_86
      · refine hb_aload G dX1_append_76 hl rfl ?_
        refine hb_callV (As := []) (rest := []) G hml (c_canHoldMore g l (P j) (V j) _ hvj hgj) (hgj.1) rfl km_X1_73 ki_X0_canHoldMore ks_X0_canHoldMore kn_X0 ko_X0_canHoldMore hd_X0_canHoldMore ⟨Nat.le_of_ble_eq_true rfl, Nat.le_of_ble_eq_true rfl⟩ hl.size rfl (Nat.le_of_ble_eq_true rfl) dX1_append_78 ⟨Nat.le_of_ble_eq_true rfl, Nat.le_of_ble_eq_true rfl⟩ hL (f0_in) (fun v1 H locs1 hp hL => ?_)
        obtain ⟨rfl, rfl⟩ := hp
        refine lv_topi (fun r_20 er_20 => ?_)
        refine lv_if_ne (tgt := 87) G.1 G.2.1 dX1_append_81 (by decide) (fun c_21 => ?_) (fun c_21 => ?_)
        · have h512 : (V j).2.2.1 < 512 := Decidable.not_not.mp (fun q => c_21 ((it0 er_20).mpr q))
          refine hb_iload G dX1_append_87 hl rfl ?_
          refine lv_if_eq (tgt := 100) G.1 G.2.1 dX1_append_89 (by decide) (fun c_22 => ?_) (fun c_22 => ?_)
          · exact absurd c_22 c_4
          · refine hb_aload G dX1_append_92 hl rfl ?_
            refine hb_callV (As := []) (rest := []) G hml (c_openBytes g l (P j) (V j) _ hvj hgj) (hgj.1) rfl km_X1_77 ki_X0_openBytes ks_X0_openBytes kn_X0 ko_X0_openBytes hd_X0_openBytes ⟨Nat.le_of_ble_eq_true rfl, Nat.le_of_ble_eq_true rfl⟩ hl.size rfl (Nat.le_of_ble_eq_true rfl) dX1_append_94 ⟨Nat.le_of_ble_eq_true rfl, Nat.le_of_ble_eq_true rfl⟩ hL (f0_in) (fun v1 H locs1 hp hL => ?_)
            obtain ⟨rfl, rfl⟩ := hp
            refine lv_goto (tgt := 101) G.1 G.2.1 dX1_append_97 (by decide) ?_
            refine hb_istore G dX1_append_101 hl (by decide) (fun ls hl => ?_)
            have hl : lh ls 10 [some (.ref d), some (.int (nI j)), some (.int n), some (.int b), some (.ref (P j)), some (.int (n + 4)), some (.int r_3), some (.int r_18), some (.int (lgOB (V j))), none] := hl
            refine hb_iload G dX1_append_103 hl rfl ?_
            refine hb_iload G dX1_append_105 hl rfl ?_
            refine hb_callS (As := [.int (lgOB (V j)), .int (n + 4)]) (rest := []) G hml (c_blocksTouched g l (lgOB (V j)) (n + 4) _) km_X1_80 kt_X1_blocksTouched kn_X1 ko_X1_blocksTouched hd_X1_blocksTouched ⟨Nat.le_of_ble_eq_true rfl, Nat.le_of_ble_eq_true rfl⟩ hl.size rfl (Nat.le_of_ble_eq_true rfl) dX1_append_107 ⟨Nat.le_of_ble_eq_true rfl, Nat.le_of_ble_eq_true rfl⟩ hL (f0_in) (fun v1 H locs1 hp hL => ?_)
            obtain ⟨rfl, rfl⟩ := hp
            refine lv_topi (fun r_23 er_23 => ?_)
            refine lv_iconst (v := 1) G.1 G.2.1 dX1_append_110 (by decide) ?_
            refine lv_iadd G.1 G.2.1 dX1_append_111 ?_
            refine lv_topi (fun t_24 et_24 => ?_)
            obtain rfl : t_24 = apCnt S (V j) n := by rw [et_24, er_23]; unfold apCnt; rw [if_pos hfit]
            have hae : apV B S V (V j) n b tc dn wr = (if whN tc dn (apCnt S (V j) n) = 0 then apCnt S (V j) n else -3, if whR tc (apCnt S (V j) n) = 0 then V j else apNew B S V (V j) n b, whT tc (apCnt S (V j) n), whN tc dn (apCnt S (V j) n), whW tc wr (apCnt S (V j) n)) := by unfold apV; rw [if_neg hla, if_neg (fun q => q.elim (fun q1 => c_19 (by rw [← hap]; exact q1)) (fun q2 => q2 h512))]
            generalize hcn : apCnt S (V j) n = cn at *
            refine hb_istore G dX1_append_112 hl (by decide) (fun ls hl => ?_)
            have hl : lh ls 10 [some (.ref d), some (.int (nI j)), some (.int n), some (.int b), some (.ref (P j)), some (.int (n + 4)), some (.int r_3), some (.int r_18), some (.int (lgOB (V j))), some (.int cn)] := hl
            refine hb_aload_n G dX1_append_114 hl rfl ?_
            refine hb_iload G dX1_append_115 hl rfl ?_
            refine hb_callV (As := [.int cn]) (rest := []) G hml (c_writeThroughHead g l d S (P 4) tc dn wr _ h.1 cn) (h.1) rfl km_X1_83 ki_X1_writeThroughHead ks_X1_writeThroughHead kn_X1 ko_X1_writeThroughHead hd_X1_writeThroughHead ⟨Nat.le_of_ble_eq_true rfl, Nat.le_of_ble_eq_true rfl⟩ hl.size rfl (Nat.le_of_ble_eq_true rfl) dX1_append_117 ⟨Nat.le_of_ble_eq_true rfl, Nat.le_of_ble_eq_true rfl⟩ hL (f1_in (fB_mk (by omega) (by omega))) (fun v1 K2 locs2 hp hL => ?_)
            obtain ⟨rfl, hob, hFo2⟩ := hp
            have hk2 := h.ob hob hFo2
            have hF2 : Fr d 38 _ K2 := Fr.rf.tr (hFo2.fr (by omega) (by omega))
            have hg2 := hk2.2.2.2.1 j (by omega)
            refine lv_topi (fun r_25 er_25 => ?_)
            refine lv_if_eq (tgt := 153) G.1 G.2.1 dX1_append_120 (by decide) (fun c_26 => ?_) (fun c_26 => ?_)
            · refine hb_aload_n G dX1_append_153 hl rfl ?_
              refine hb_get G hk2.1 rfl inX1 5 (by decide) kf_X1_24 rfl rfl dX1_append_154 ?_
              refine lv_if_eq (tgt := 165) G.1 G.2.1 dX1_append_157 (by decide) (fun c_27 => ?_) (fun c_27 => ?_)
              · refine hb_iload G dX1_append_165 hl rfl ?_
                have q1 : (apV B S V (V j) n b tc dn wr).1 = cn := by rw [hae]; exact if_pos c_27
                have q2 : (apV B S V (V j) n b tc dn wr).2.1 = V j := by rw [hae]; exact if_pos (by rw [← er_25]; exact c_26)
                have q3 : (apV B S V (V j) n b tc dn wr).2.2 = (whT tc cn, whN tc dn cn, whW tc wr cn) := by rw [hae]
                exact hx_iret G hr hlocks ⟨⟨j, hj, rfl, by rw [q1], by rw [q2, q3]; exact ⟨P, V, _, hk2, fun m _ => by rw [up_same], hV⟩⟩, hw, hdn, hF2⟩ hL (Nat.le_of_ble_eq_true rfl) (Nat.le_of_ble_eq_true rfl) dX1_append_167
              · refine lv_bipush (v := (-3)) G.1 G.2.1 dX1_append_160 (by decide) ?_
                refine lv_goto (tgt := 167) G.1 G.2.1 dX1_append_162 (by decide) ?_
                have q1 : (apV B S V (V j) n b tc dn wr).1 = -3 := by rw [hae]; exact if_neg c_27
                have q2 : (apV B S V (V j) n b tc dn wr).2.1 = V j := by rw [hae]; exact if_pos (by rw [← er_25]; exact c_26)
                have q3 : (apV B S V (V j) n b tc dn wr).2.2 = (whT tc cn, whN tc dn cn, whW tc wr cn) := by rw [hae]
                exact hx_iret G hr hlocks ⟨⟨j, hj, rfl, by rw [q1], by rw [q2, q3]; exact ⟨P, V, _, hk2, fun m _ => by rw [up_same], hV⟩⟩, hw, hdn, hF2⟩ hL (Nat.le_of_ble_eq_true rfl) (Nat.le_of_ble_eq_true rfl) dX1_append_167
            · refine hb_iload G dX1_append_123 hl rfl ?_
              refine lv_if_ne (tgt := 135) G.1 G.2.1 dX1_append_125 (by decide) (fun c_28 => ?_) (fun c_28 => ?_)
              · have enew : apNew B S V (V j) n b = came1 (lgPut (V j) n b) := by unfold apNew; rw [if_pos hfit]
                refine hb_aload G dX1_append_135 hl rfl ?_
                refine hb_iload_n G dX1_append_137 hl rfl ?_
                refine hb_iload_n G dX1_append_138 hl rfl ?_
                refine hb_callV (As := [.int n, .int b]) (rest := []) G hml (c_put g l (P j) (V j) _ (hvj) hg2 n b) (hg2.1) rfl km_X1_91 ki_X0_put ks_X0_put kn_X0 ko_X0_put hd_X0_put ⟨Nat.le_of_ble_eq_true rfl, Nat.le_of_ble_eq_true rfl⟩ hl.size rfl (Nat.le_of_ble_eq_true rfl) dX1_append_139 ⟨Nat.le_of_ble_eq_true rfl, Nat.le_of_ble_eq_true rfl⟩ hL (fun q h => fB_mk (by have := h.1; omega) (by have := h.2; omega)) (fun v1 K4 locs4 hp hL => ?_)
                obtain ⟨rfl, hg4, hF4⟩ := hp
                refine hb_aload G dX1_append_142 hl rfl ?_
                refine lv_dup G.1 G.2.1 dX1_append_144 rfl ?_
                refine hb_get G hg4.1 rfl inX0 8 (by decide) kf_X1_95 rfl rfl dX1_append_145 ?_
                refine lv_iconst (v := 1) G.1 G.2.1 dX1_append_148 (by decide) ?_
                refine lv_iadd G.1 G.2.1 dX1_append_149 ?_
                refine lv_topi (fun t_29 et_29 => ?_)
                refine hb_put G hg4.1 rfl inX0 tyX0 tyX0_ok nmX0 8 (by decide) kf_X1_95 rfl rfl rfl rfl (Nat.le_of_ble_eq_true rfl) hL (fB_mk (by omega) (by omega)) dX1_append_150 (fun K5 locs5 hf5 hz5 ho5 hL => ?_)
                have hg5 := came1_at hg4 et_29 hf5 ho5
                have hFl : Fr (P j) 7 K2 K5 := hF4.tr (Fr.one hz5 ho5 (by omega) (by omega))
                rw [← enew] at hg5
                have hok5 : lgOk (apNew B S V (V j) n b) := by rw [enew]; exact lgPut_ok (hvj) _ _
                have hk5 := hk2.lg (by omega) hg5 hFl
                refine hb_aload_n G dX1_append_153 hl rfl ?_
                refine hb_get G hk5.1 rfl inX1 5 (by decide) kf_X1_24 rfl rfl dX1_append_154 ?_
                refine lv_if_eq (tgt := 165) G.1 G.2.1 dX1_append_157 (by decide) (fun c_30 => ?_) (fun c_30 => ?_)
                · refine hb_iload G dX1_append_165 hl rfl ?_
                  have q1 : (apV B S V (V j) n b tc dn wr).1 = cn := by rw [hae]; exact if_pos c_30
                  have q2 : (apV B S V (V j) n b tc dn wr).2.1 = apNew B S V (V j) n b := by rw [hae]; exact if_neg (by rw [← er_25]; exact c_26)
                  have q3 : (apV B S V (V j) n b tc dn wr).2.2 = (whT tc cn, whN tc dn cn, whW tc wr cn) := by rw [hae]
                  exact hx_iret G hr hlocks ⟨⟨j, hj, rfl, by rw [q1], by rw [q2, q3]; exact ⟨P, _, _, hk5, fun m _ => rfl, up_ok hV hok5⟩⟩, hw, hdn, hF2.tr (hFl.wide (by omega) (by omega))⟩ hL (Nat.le_of_ble_eq_true rfl) (Nat.le_of_ble_eq_true rfl) dX1_append_167
                · refine lv_bipush (v := (-3)) G.1 G.2.1 dX1_append_160 (by decide) ?_
                  refine lv_goto (tgt := 167) G.1 G.2.1 dX1_append_162 (by decide) ?_
                  have q1 : (apV B S V (V j) n b tc dn wr).1 = -3 := by rw [hae]; exact if_neg c_30
                  have q2 : (apV B S V (V j) n b tc dn wr).2.1 = apNew B S V (V j) n b := by rw [hae]; exact if_neg (by rw [← er_25]; exact c_26)
                  have q3 : (apV B S V (V j) n b tc dn wr).2.2 = (whT tc cn, whN tc dn cn, whW tc wr cn) := by rw [hae]
                  exact hx_iret G hr hlocks ⟨⟨j, hj, rfl, by rw [q1], by rw [q2, q3]; exact ⟨P, _, _, hk5, fun m _ => rfl, up_ok hV hok5⟩⟩, hw, hdn, hF2.tr (hFl.wide (by omega) (by omega))⟩ hL (Nat.le_of_ble_eq_true rfl) (Nat.le_of_ble_eq_true rfl) dX1_append_167
              · exact absurd c_28 c_4
        · have hae : apV B S V (V j) n b tc dn wr = (-2, V j, tc, dn, wr) := by unfold apV; rw [if_neg hla, if_pos (Or.inr ((it0 er_20).mp c_21))]
          refine lv_bipush (v := (-2)) G.1 G.2.1 dX1_append_84 (by decide) ?_
          exact hx_iret G hr hlocks ⟨⟨j, hj, rfl, by rw [hae], by rw [hae]; exact ⟨P, V, _, h, fun m _ => by rw [up_same], hV⟩⟩, hw, hdn, Fr.rf⟩ hL (Nat.le_of_ble_eq_true rfl) (Nat.le_of_ble_eq_true rfl) dX1_append_86
  · have hae : apV B S V (V j) n b tc dn wr = (-5, V j, tc, dn, wr) := by unfold apV; rw [if_pos (i32_nle.mp c_2)]
    refine lv_bipush (v := (-5)) G.1 G.2.1 dX1_append_33 (by decide) ?_
    exact hx_iret G hr hlocks ⟨⟨j, hj, rfl, by rw [hae], by rw [hae]; exact ⟨P, V, _, h, fun m _ => by rw [up_same], hV⟩⟩, hw, hdn, Fr.rf⟩ hL (Nat.le_of_ble_eq_true rfl) (Nat.le_of_ble_eq_true rfl) dX1_append_35
end
section
def rtW (V : Nat → LV) (v : LV) (k : Nat) : LV := (lgTk v (nI k) (lgBegin v (V 4), -1) v.2.2.1).1
def rtV (V : Nat → LV) (v : LV) (n tc dn wr : Int32) : Int32 × LV × Int32 × Int32 × Int32 :=
  if lgPast v n (v.2.1 - 1) 0 = 0 then (0, v, tc, dn, wr)
  else (if whN tc dn 1 = 0 then nI (lgPast v n (v.2.1 - 1) 0) else -3, if whR tc 1 = 0 then v else rtW V v (lgPast v n (v.2.1 - 1) 0), whT tc 1, whN tc dn 1, whW tc wr 1)
def tnR (B S : Nat) (V : Nat → LV) (v : LV) (k : Int32) : Int32 × LV × (Nat → Int32) := pkL B S v k (lgCl v v.2.2.1) 0 (lgBegin v (V 4)) (mkD B S V 4)
def tnW (B S : Nat) (V : Nat → LV) (v : LV) (k : Int32) : LV := (lgTk v (nI v.2.1 - 1) ((tnR B S V v k).2.1, -1) v.2.2.1).1
def tnC (B S : Nat) (V : Nat → LV) (v : LV) (k : Int32) : Int32 := lgBF ((tnR B S V v k).2.1.1 1) (tnR B S V v k).2.1.2.1 + 1
def tnV (B S : Nat) (V : Nat → LV) (v : LV) (k tc dn wr : Int32) : Int32 × LV × Int32 × Int32 × Int32 :=
  if lgCl v v.2.2.1 = 0 then (0, v, tc, dn, wr)
  else if (tnR B S V v k).1 = 0 then (-2, v, tc, dn, wr)
  else (if whN tc dn (tnC B S V v k) = 0 then nI (lgCl v v.2.2.1) - nI (tnR B S V v k).2.1.2.2.1 else -3, if whR tc (tnC B S V v k) = 0 then v else tnW B S V v k, whT tc (tnC B S V v k), whN tc dn (tnC B S V v k), whW tc wr (tnC B S V v k))
theorem pkL_ok {B S : Nat} {u : LV} {k : Int32} : ∀ (n i : Nat) (w : LV) (bu : Nat → Int32), lgOk w → lgOk (pkL B S u k n i w bu).2.1
  | 0, _, _, _, h => h
  | n + 1, i, w, bu, h => by
    simp only [pkL]
    split
    · exact pkL_ok n (i + 1) w bu h
    · split
      · exact pkE_ok h
      · exact pkL_ok n (i + 1) _ _ (pkE_ok h)
set_option maxHeartbeats 4000000 in
set_option maxRecDepth 100000 in
/-- retain -/
theorem c_retain (g : Gx) (z : Nat) (sa : Nat → Nat) (l : Launch) (hlt : l.stackTraces = false) (d S B : Nat) (P : Nat → Nat) (V : Nat → LV) (bu : Nat → Int32) (tc dn wr : Int32) (H : Heap) (hSB : dkB S B) (hV : ∀ j, j < 5 → lgOk (V j)) (h : dkAt g d S B P V bu tc dn wr H) (i n : Int32) : HX g z sa l yX1_retain cX1_retain 5 (some .int) 7 112 3 18 [.ref d, .int i, .int n] H (fun r H1 => (∃ j : Nat, j < 4 ∧ i = nI j ∧ r = some (.int (rtV V (V j) n tc dn wr).1) ∧ dkSt g d S B (va_up V j (rtV V (V j) n tc dn wr).2.1) (rtV V (V j) n tc dn wr).2.2.1 (rtV V (V j) n tc dn wr).2.2.2.1 (rtV V (V j) n tc dn wr).2.2.2.2 H1) ∧ (0 ≤ n ∧ n ≤ 2147483647) ∧ dn = 0 ∧ Fr d 38 H H1) (thX (dkIs i ∧ 0 ≤ n ∧ n ≤ 2147483647) dn H) (fB d 38) := by
  refine HX.ofW (by decide) (Nat.le_of_ble_eq_true rfl) (by simp [Value.category]) ?_
  intro p e s m args below meth c ls G hr hml hlocks htb hH hXs hl
  have hl : lh ls 5 [some (.ref d), some (.int i), some (.int n), none, none] := hl
  have hL : ∀ q ∈ ([] : List Loc), (fB d 38) q.base := fun q h => by cases h
  refine hb_aload_n G dX1_retain_0 hl rfl ?_
  refine hb_iload_n G dX1_retain_1 hl rfl ?_
  refine hx_callV (As := [.int i]) (rest := []) G hXs hml (c_existingLog g z sa l hlt d S B P V bu tc dn wr _ hSB hV h i) (h.1) rfl km_X1_47 ki_X1_existingLog ks_X1_existingLog kn_X1 ko_X1_existingLog hd_X1_existingLog ⟨Nat.le_of_ble_eq_true rfl, Nat.le_of_ble_eq_true rfl⟩ hl.size rfl (Nat.le_of_ble_eq_true rfl) dX1_retain_2 ⟨Nat.le_of_ble_eq_true rfl, Nat.le_of_ble_eq_true rfl⟩ hL (f0_in) (fun E ce q9 K9 locs9 hp hL hc1 hc2 hc3 => hx_out htb hlocks (⟨hp.2.2, Or.inl ⟨hp.1, fun q => hp.2.1 q.1⟩⟩) hL hc1 hc2 hc3 (Nat.le_of_ble_eq_true rfl) (Nat.le_of_ble_eq_true rfl)) (fun v1 H locs1 hp hL => ?_)
  obtain ⟨⟨j, hj, rfl, rfl⟩, rfl⟩ := hp
  refine hb_astore_n G dX1_retain_5 hl (by decide) (fun ls hl => ?_)
  have hl : lh ls 5 [some (.ref d), some (.int (nI j)), some (.int n), some (.ref (P j)), none] := hl
  refine hb_iload_n G dX1_retain_6 hl rfl ?_
  refine lv_iconst (v := 0) G.1 G.2.1 dX1_retain_7 (by decide) ?_
  refine lv_ldc (v := 2147483647) G.1 G.2.1 G.2.2.1 (G.2.2.2.1 _ kx_100) dX1_retain_8 ?_
  refine hx_callS (As := [.int n, .int 0, .int 2147483647]) (rest := []) G hXs hml (c_requireWithin g z sa l hlt n 0 2147483647 _) km_X1_51 kt_X1_requireWithin kn_X1 ko_X1_requireWithin hd_X1_requireWithin ⟨Nat.le_of_ble_eq_true rfl, Nat.le_of_ble_eq_true rfl⟩ hl.size rfl (Nat.le_of_ble_eq_true rfl) dX1_retain_10 ⟨Nat.le_of_ble_eq_true rfl, Nat.le_of_ble_eq_true rfl⟩ hL (f0_in) (fun E ce q9 K9 locs9 hp hL hc1 hc2 hc3 => hx_out htb hlocks (⟨hp.2.2, Or.inl ⟨hp.1, fun q => hp.2.1 q.2⟩⟩) hL hc1 hc2 hc3 (Nat.le_of_ble_eq_true rfl) (Nat.le_of_ble_eq_true rfl)) (fun v1 H locs1 hp hL => ?_)
  obtain ⟨rfl, hw, rfl⟩ := hp
  refine hb_aload_n G dX1_retain_13 hl rfl ?_
  refine hx_callV (As := []) (rest := []) G hXs hml (c_requirePower g z sa l hlt d S (P 4) tc dn wr _ h.1) (h.1) rfl km_X1_55 ki_X1_requirePower ks_X1_requirePower kn_X1 ko_X1_requirePower hd_X1_requirePower ⟨Nat.le_of_ble_eq_true rfl, Nat.le_of_ble_eq_true rfl⟩ hl.size rfl (Nat.le_of_ble_eq_true rfl) dX1_retain_14 ⟨Nat.le_of_ble_eq_true rfl, Nat.le_of_ble_eq_true rfl⟩ hL (f0_in) (fun E ce q9 K9 locs9 hp hL hc1 hc2 hc3 => hx_out htb hlocks (⟨hp.2.2, Or.inr ⟨hp.1, ⟨dkIs_nI hj, hw⟩, hp.2.1⟩⟩) hL hc1 hc2 hc3 (Nat.le_of_ble_eq_true rfl) (Nat.le_of_ble_eq_true rfl)) (fun v1 H locs1 hp hL => ?_)
  obtain ⟨rfl, hdn, rfl⟩ := hp
  have hP4 := h.far (j := 4) (by decide)
  have hPj := h.far (j := j) (by omega)
  have h4 := h.2.2.2.1 4 (by decide)
  have hgj := h.2.2.2.1 j (by omega)
  have hjd := h.2.2.2.2.2 j 4 (by omega) (by decide) (by omega)
  have hv4 := hV 4 (by decide)
  have hvj := hV j (by omega)
  refine hb_aload_n G dX1_retain_17 hl rfl ?_
  refine hb_iload_n G dX1_retain_18 hl rfl ?_
  refine hb_callV (As := [.int n]) (rest := []) G hml (c_segmentsPast g l (P j) (V j) _ hvj hgj n) (hgj.1) rfl km_X1_101 ki_X0_segmentsPast ks_X0_segmentsPast kn_X0 ko_X0_segmentsPast hd_X0_segmentsPast ⟨Nat.le_of_ble_eq_true rfl, Nat.le_of_ble_eq_true rfl⟩ hl.size rfl (Nat.le_of_ble_eq_true rfl) dX1_retain_19 ⟨Nat.le_of_ble_eq_true rfl, Nat.le_of_ble_eq_true rfl⟩ hL (f0_in) (fun v1 H locs1 hp hL => ?_)
  obtain ⟨rfl, rfl⟩ := hp
  have hge := lgPast_ge (V j) n ((V j).2.1 - 1) 0
  have hv1 := hvj.1
  generalize hgo : lgPast (V j) n ((V j).2.1 - 1) 0 = go at *
  refine hb_istore G dX1_retain_22 hl (by decide) (fun ls hl => ?_)
  have hl : lh ls 5 [some (.ref d), some (.int (nI j)), some (.int n), some (.ref (P j)), some (.int (nI go))] := hl
  refine hb_iload G dX1_retain_24 hl rfl ?_
  refine lv_if_ne (tgt := 31) G.1 G.2.1 dX1_retain_26 (by decide) (fun c_1 => ?_) (fun c_1 => ?_)
  · have hg0 : ¬ go = 0 := fun q => c_1 (by rw [q]; rfl)
    have hae : rtV V (V j) n tc dn wr = (if whN tc dn 1 = 0 then nI go else -3, if whR tc 1 = 0 then V j else rtW V (V j) go, whT tc 1, whN tc dn 1, whW tc wr 1) := by unfold rtV; rw [hgo, if_neg hg0]
    refine hb_aload_n G dX1_retain_31 hl rfl ?_
    refine hb_get G h.1 rfl inX1 3 (by decide) kf_X1_16 rfl rfl dX1_retain_32 ?_
    refine hb_aload_n G dX1_retain_35 hl rfl ?_
    refine hb_callV (As := [.ref (P j)]) (rest := []) G hml (c_beginAs g l (P 4) (V 4) _ h4 (P j) (V j) hgj hjd) (h4.1) rfl km_X1_105 ki_X0_beginAs ks_X0_beginAs kn_X0 ko_X0_beginAs hd_X0_beginAs ⟨Nat.le_of_ble_eq_true rfl, Nat.le_of_ble_eq_true rfl⟩ hl.size rfl (Nat.le_of_ble_eq_true rfl) dX1_retain_36 ⟨Nat.le_of_ble_eq_true rfl, Nat.le_of_ble_eq_true rfl⟩ hL (fun q h => fB_mk (by have := h.1; omega) (by have := h.2; omega)) (fun v1 K1 locs1 hp hL => ?_)
    obtain ⟨rfl, hg1, hF1⟩ := hp
    have hk1 := h.lg (by decide) hg1 hF1
    have hb0 : lgOk (lgBegin (V j) (V 4)) := ⟨Nat.zero_le _, Nat.zero_le _⟩
    have hgj1 : lgAt g (P j) (V j) K1 := hgj.kept (fun q h1 h2 => hF1.2 q (by omega))
    refine hb_aload_n G dX1_retain_39 hl rfl ?_
    refine hb_get G hk1.1 rfl inX1 3 (by decide) kf_X1_16 rfl rfl dX1_retain_40 ?_
    refine hb_aload_n G dX1_retain_43 hl rfl ?_
    refine hb_iload G dX1_retain_44 hl rfl ?_
    refine hb_callV (As := [.ref (P j), .int (nI go)]) (rest := []) G hml (c_takeSegments g l (P 4) (lgBegin (V j) (V 4)) _ hb0 hg1 (P j) (V j) hvj hgj1 hjd (nI go)) (hg1.1) rfl km_X1_109 ki_X0_takeSegments ks_X0_takeSegments kn_X0 ko_X0_takeSegments hd_X0_takeSegments ⟨Nat.le_of_ble_eq_true rfl, Nat.le_of_ble_eq_true rfl⟩ hl.size rfl (Nat.le_of_ble_eq_true rfl) dX1_retain_46 ⟨Nat.le_of_ble_eq_true rfl, Nat.le_of_ble_eq_true rfl⟩ hL (fun q h => fB_mk (by have := h.1; omega) (by have := h.2; omega)) (fun v1 K2 locs2 hp hL => ?_)
    obtain ⟨rfl, hg2, hF2⟩ := hp
    have hk2 := hk1.lg (j := 4) (by decide) hg2 hF2
    rw [bx_uu] at hk2
    have hFp : Fr d 38 _ K2 := (hF1.tr hF2).wide (by omega) (by omega)
    refine hb_aload_n G dX1_retain_49 hl rfl ?_
    refine lv_iconst (v := 1) G.1 G.2.1 dX1_retain_50 (by decide) ?_
    refine hb_callV (As := [.int 1]) (rest := []) G hml (c_writeThroughHead g l d S (P 4) tc dn wr _ hk2.1 1) (hk2.1) rfl km_X1_83 ki_X1_writeThroughHead ks_X1_writeThroughHead kn_X1 ko_X1_writeThroughHead hd_X1_writeThroughHead ⟨Nat.le_of_ble_eq_true rfl, Nat.le_of_ble_eq_true rfl⟩ hl.size rfl (Nat.le_of_ble_eq_true rfl) dX1_retain_51 ⟨Nat.le_of_ble_eq_true rfl, Nat.le_of_ble_eq_true rfl⟩ hL (f1_in (fB_mk (by omega) (by omega))) (fun v1 K3 locs3 hp hL => ?_)
    obtain ⟨rfl, hob, hFo3⟩ := hp
    have hk3 := hk2.ob hob hFo3
    have hF3 : Fr d 38 _ K3 := hFp.tr (hFo3.fr (by omega) (by omega))
    refine lv_topi (fun r_2 er_2 => ?_)
    refine lv_if_eq (tgt := 62) G.1 G.2.1 dX1_retain_54 (by decide) (fun c_3 => ?_) (fun c_3 => ?_)
    · refine hb_aload_n G dX1_retain_62 hl rfl ?_
      refine hb_get G hk3.1 rfl inX1 5 (by decide) kf_X1_24 rfl rfl dX1_retain_63 ?_
      refine lv_if_eq (tgt := 74) G.1 G.2.1 dX1_retain_66 (by decide) (fun c_4 => ?_) (fun c_4 => ?_)
      · refine hb_iload G dX1_retain_74 hl rfl ?_
        have q1 : (rtV V (V j) n tc dn wr).1 = nI go := by rw [hae]; exact if_pos c_4
        have q2 : (rtV V (V j) n tc dn wr).2.1 = V j := by rw [hae]; exact if_pos (by rw [← er_2]; exact c_3)
        have q3 : (rtV V (V j) n tc dn wr).2.2 = (whT tc 1, whN tc dn 1, whW tc wr 1) := by rw [hae]
        exact hx_iret G hr hlocks ⟨⟨j, hj, rfl, by rw [q1], by rw [q2, q3]; exact ⟨P, _, _, hk3, fun m hm => by rw [up_same, va_up_ne _ _ (by omega)], up_ok hV (lgTk_ok hb0 _)⟩⟩, hw, hdn, hF3⟩ hL (Nat.le_of_ble_eq_true rfl) (Nat.le_of_ble_eq_true rfl) dX1_retain_76
      · refine lv_bipush (v := (-3)) G.1 G.2.1 dX1_retain_69 (by decide) ?_
        refine lv_goto (tgt := 76) G.1 G.2.1 dX1_retain_71 (by decide) ?_
        have q1 : (rtV V (V j) n tc dn wr).1 = -3 := by rw [hae]; exact if_neg c_4
        have q2 : (rtV V (V j) n tc dn wr).2.1 = V j := by rw [hae]; exact if_pos (by rw [← er_2]; exact c_3)
        have q3 : (rtV V (V j) n tc dn wr).2.2 = (whT tc 1, whN tc dn 1, whW tc wr 1) := by rw [hae]
        exact hx_iret G hr hlocks ⟨⟨j, hj, rfl, by rw [q1], by rw [q2, q3]; exact ⟨P, _, _, hk3, fun m hm => by rw [up_same, va_up_ne _ _ (by omega)], up_ok hV (lgTk_ok hb0 _)⟩⟩, hw, hdn, hF3⟩ hL (Nat.le_of_ble_eq_true rfl) (Nat.le_of_ble_eq_true rfl) dX1_retain_76
    · refine hb_aload_n G dX1_retain_57 hl rfl ?_
      refine hb_iload_n G dX1_retain_58 hl rfl ?_
      refine hb_callV (As := [.int (nI j)]) (rest := []) G hml (c_putDraftInPlaceOf g l d S B P _ _ _ _ _ _ hSB (up_ok hV (lgTk_ok hb0 _)) hk3 j hj) (hk3.1) rfl km_X1_113 ki_X1_putDraftInPlaceOf ks_X1_putDraftInPlaceOf kn_X1 ko_X1_putDraftInPlaceOf hd_X1_putDraftInPlaceOf ⟨Nat.le_of_ble_eq_true rfl, Nat.le_of_ble_eq_true rfl⟩ hl.size rfl (Nat.le_of_ble_eq_true rfl) dX1_retain_59 ⟨Nat.le_of_ble_eq_true rfl, Nat.le_of_ble_eq_true rfl⟩ hL (fun q h => h) (fun v1 K4 locs4 hp hL => ?_)
      obtain ⟨rfl, hk4, hF4⟩ := hp
      refine hb_aload_n G dX1_retain_62 hl rfl ?_
      refine hb_get G hk4.1 rfl inX1 5 (by decide) kf_X1_24 rfl rfl dX1_retain_63 ?_
      refine lv_if_eq (tgt := 74) G.1 G.2.1 dX1_retain_66 (by decide) (fun c_5 => ?_) (fun c_5 => ?_)
      · refine hb_iload G dX1_retain_74 hl rfl ?_
        have q1 : (rtV V (V j) n tc dn wr).1 = nI go := by rw [hae]; exact if_pos c_5
        have q2 : (rtV V (V j) n tc dn wr).2.1 = rtW V (V j) go := by rw [hae]; exact if_neg (by rw [← er_2]; exact c_3)
        have q3 : (rtV V (V j) n tc dn wr).2.2 = (whT tc 1, whN tc dn 1, whW tc wr 1) := by rw [hae]
        exact hx_iret G hr hlocks ⟨⟨j, hj, rfl, by rw [q1], by rw [q2, q3]; exact ⟨_, _, _, hk4, fun m hm => swp_up hj m hm, swp_ok hj (up_ok hV (lgTk_ok hb0 _))⟩⟩, hw, hdn, hF3.tr hF4⟩ hL (Nat.le_of_ble_eq_true rfl) (Nat.le_of_ble_eq_true rfl) dX1_retain_76
      · refine lv_bipush (v := (-3)) G.1 G.2.1 dX1_retain_69 (by decide) ?_
        refine lv_goto (tgt := 76) G.1 G.2.1 dX1_retain_71 (by decide) ?_
        have q1 : (rtV V (V j) n tc dn wr).1 = -3 := by rw [hae]; exact if_neg c_5
        have q2 : (rtV V (V j) n tc dn wr).2.1 = rtW V (V j) go := by rw [hae]; exact if_neg (by rw [← er_2]; exact c_3)
        have q3 : (rtV V (V j) n tc dn wr).2.2 = (whT tc 1, whN tc dn 1, whW tc wr 1) := by rw [hae]
        exact hx_iret G hr hlocks ⟨⟨j, hj, rfl, by rw [q1], by rw [q2, q3]; exact ⟨_, _, _, hk4, fun m hm => swp_up hj m hm, swp_ok hj (up_ok hV (lgTk_ok hb0 _))⟩⟩, hw, hdn, hF3.tr hF4⟩ hL (Nat.le_of_ble_eq_true rfl) (Nat.le_of_ble_eq_true rfl) dX1_retain_76
  · have hg0 : go = 0 := (nI_eq (by omega) (by omega)).mp c_1
    have hae : rtV V (V j) n tc dn wr = (0, V j, tc, dn, wr) := by unfold rtV; rw [hgo, if_pos hg0]
    refine lv_iconst (v := 0) G.1 G.2.1 dX1_retain_29 (by decide) ?_
    exact hx_iret G hr hlocks ⟨⟨j, hj, rfl, by rw [hae], by rw [hae]; exact ⟨P, V, _, h, fun m _ => by rw [up_same], hV⟩⟩, hw, hdn, Fr.rf⟩ hL (Nat.le_of_ble_eq_true rfl) (Nat.le_of_ble_eq_true rfl) dX1_retain_30
set_option maxHeartbeats 4000000 in
set_option maxRecDepth 100000 in
/-- thin -/
theorem c_thin (g : Gx) (z : Nat) (sa : Nat → Nat) (l : Launch) (hlt : l.stackTraces = false) (d S B : Nat) (P : Nat → Nat) (V : Nat → LV) (bu : Nat → Int32) (tc dn wr : Int32) (H : Heap) (hSB : dkB S B) (hV : ∀ j, j < 5 → lgOk (V j)) (h : dkAt g d S B P V bu tc dn wr H) (i n : Int32) : HX g z sa l yX1_thin cX1_thin 7 (some .int) 7 114 3 18 [.ref d, .int i, .int n] H (fun r H1 => (∃ j : Nat, j < 4 ∧ i = nI j ∧ r = some (.int (tnV B S V (V j) n tc dn wr).1) ∧ dkSt g d S B (va_up V j (tnV B S V (V j) n tc dn wr).2.1) (tnV B S V (V j) n tc dn wr).2.2.1 (tnV B S V (V j) n tc dn wr).2.2.2.1 (tnV B S V (V j) n tc dn wr).2.2.2.2 H1) ∧ (1 ≤ n ∧ n ≤ 1000) ∧ dn = 0 ∧ Fr d 38 H H1) (thX (dkIs i ∧ 1 ≤ n ∧ n ≤ 1000) dn H) (fB d 38) := by
  refine HX.ofW (by decide) (Nat.le_of_ble_eq_true rfl) (by simp [Value.category]) ?_
  intro p e s m args below meth c ls G hr hml hlocks htb hH hXs hl
  have hl : lh ls 7 [some (.ref d), some (.int i), some (.int n), none, none, none, none] := hl
  have hL : ∀ q ∈ ([] : List Loc), (fB d 38) q.base := fun q h => by cases h
  refine hb_aload_n G dX1_thin_0 hl rfl ?_
  refine hb_iload_n G dX1_thin_1 hl rfl ?_
  refine hx_callV (As := [.int i]) (rest := []) G hXs hml (c_existingLog g z sa l hlt d S B P V bu tc dn wr _ hSB hV h i) (h.1) rfl km_X1_47 ki_X1_existingLog ks_X1_existingLog kn_X1 ko_X1_existingLog hd_X1_existingLog ⟨Nat.le_of_ble_eq_true rfl, Nat.le_of_ble_eq_true rfl⟩ hl.size rfl (Nat.le_of_ble_eq_true rfl) dX1_thin_2 ⟨Nat.le_of_ble_eq_true rfl, Nat.le_of_ble_eq_true rfl⟩ hL (f0_in) (fun E ce q9 K9 locs9 hp hL hc1 hc2 hc3 => hx_out htb hlocks (⟨hp.2.2, Or.inl ⟨hp.1, fun q => hp.2.1 q.1⟩⟩) hL hc1 hc2 hc3 (Nat.le_of_ble_eq_true rfl) (Nat.le_of_ble_eq_true rfl)) (fun v1 H locs1 hp hL => ?_)
  obtain ⟨⟨j, hj, rfl, rfl⟩, rfl⟩ := hp
  refine hb_astore_n G dX1_thin_5 hl (by decide) (fun ls hl => ?_)
  have hl : lh ls 7 [some (.ref d), some (.int (nI j)), some (.int n), some (.ref (P j)), none, none, none] := hl
  refine hb_iload_n G dX1_thin_6 hl rfl ?_
  refine lv_iconst (v := 1) G.1 G.2.1 dX1_thin_7 (by decide) ?_
  refine lv_sipush (v := 1000) G.1 G.2.1 dX1_thin_8 (by decide) ?_
  refine hx_callS (As := [.int n, .int 1, .int 1000]) (rest := []) G hXs hml (c_requireWithin g z sa l hlt n 1 1000 _) km_X1_51 kt_X1_requireWithin kn_X1 ko_X1_requireWithin hd_X1_requireWithin ⟨Nat.le_of_ble_eq_true rfl, Nat.le_of_ble_eq_true rfl⟩ hl.size rfl (Nat.le_of_ble_eq_true rfl) dX1_thin_11 ⟨Nat.le_of_ble_eq_true rfl, Nat.le_of_ble_eq_true rfl⟩ hL (f0_in) (fun E ce q9 K9 locs9 hp hL hc1 hc2 hc3 => hx_out htb hlocks (⟨hp.2.2, Or.inl ⟨hp.1, fun q => hp.2.1 q.2⟩⟩) hL hc1 hc2 hc3 (Nat.le_of_ble_eq_true rfl) (Nat.le_of_ble_eq_true rfl)) (fun v1 H locs1 hp hL => ?_)
  obtain ⟨rfl, hw, rfl⟩ := hp
  refine hb_aload_n G dX1_thin_14 hl rfl ?_
  refine hx_callV (As := []) (rest := []) G hXs hml (c_requirePower g z sa l hlt d S (P 4) tc dn wr _ h.1) (h.1) rfl km_X1_55 ki_X1_requirePower ks_X1_requirePower kn_X1 ko_X1_requirePower hd_X1_requirePower ⟨Nat.le_of_ble_eq_true rfl, Nat.le_of_ble_eq_true rfl⟩ hl.size rfl (Nat.le_of_ble_eq_true rfl) dX1_thin_15 ⟨Nat.le_of_ble_eq_true rfl, Nat.le_of_ble_eq_true rfl⟩ hL (f0_in) (fun E ce q9 K9 locs9 hp hL hc1 hc2 hc3 => hx_out htb hlocks (⟨hp.2.2, Or.inr ⟨hp.1, ⟨dkIs_nI hj, hw⟩, hp.2.1⟩⟩) hL hc1 hc2 hc3 (Nat.le_of_ble_eq_true rfl) (Nat.le_of_ble_eq_true rfl)) (fun v1 H locs1 hp hL => ?_)
  obtain ⟨rfl, hdn, rfl⟩ := hp
  have hP4 := h.far (j := 4) (by decide)
  have hPj := h.far (j := j) (by omega)
  have h4 := h.2.2.2.1 4 (by decide)
  have hgj := h.2.2.2.1 j (by omega)
  have hjd := h.2.2.2.2.2 j 4 (by omega) (by decide) (by omega)
  have hv4 := hV 4 (by decide)
  have hvj := hV j (by omega)
  have hn0 : (0 : Int32) < n := by have h9 := hw.1; rw [i32_le] at h9; rw [i32_lt]; have e1 : (1 : Int32).toInt = 1 := rfl; have e2 : (0 : Int32).toInt = 0 := rfl; omega
  refine hb_aload_n G dX1_thin_18 hl rfl ?_
  refine hb_callV (As := []) (rest := []) G hml (c_closedEntries g l (P j) (V j) _ hvj hgj) (hgj.1) rfl km_X1_116 ki_X0_closedEntries ks_X0_closedEntries kn_X0 ko_X0_closedEntries hd_X0_closedEntries ⟨Nat.le_of_ble_eq_true rfl, Nat.le_of_ble_eq_true rfl⟩ hl.size rfl (Nat.le_of_ble_eq_true rfl) dX1_thin_19 ⟨Nat.le_of_ble_eq_true rfl, Nat.le_of_ble_eq_true rfl⟩ hL (f0_in) (fun v1 H locs1 hp hL => ?_)
  obtain ⟨rfl, rfl⟩ := hp
  have hcl := lgCl_le (V j) (V j).2.2.1
  have hv2 := hvj.2
  refine hb_istore G dX1_thin_22 hl (by decide) (fun ls hl => ?_)
  have hl : lh ls 7 [some (.ref d), some (.int (nI j)), some (.int n), some (.ref (P j)), some (.int (nI (lgCl (V j) (V j).2.2.1))), none, none] := hl
  refine hb_iload G dX1_thin_24 hl rfl ?_
  refine lv_if_ne (tgt := 31) G.1 G.2.1 dX1_thin_26 (by decide) (fun c_1 => ?_) (fun c_1 => ?_)
  · have hg0 : ¬ lgCl (V j) (V j).2.2.1 = 0 := fun q => c_1 (by rw [q]; rfl)
    refine hb_aload_n G dX1_thin_31 hl rfl ?_
    refine hb_aload_n G dX1_thin_32 hl rfl ?_
    refine hb_iload G dX1_thin_33 hl rfl ?_
    refine hb_iload_n G dX1_thin_35 hl rfl ?_
    refine hb_callV (As := [.ref (P j), .int (nI (lgCl (V j) (V j).2.2.1)), .int n]) (rest := []) G hml (c_packThinned g l d S B P V bu tc dn wr _ hSB hV h j hj (lgCl (V j) (V j).2.2.1) (by omega) n hn0) (h.1) rfl km_X1_119 ki_X1_packThinned ks_X1_packThinned kn_X1 ko_X1_packThinned hd_X1_packThinned ⟨Nat.le_of_ble_eq_true rfl, Nat.le_of_ble_eq_true rfl⟩ hl.size rfl (Nat.le_of_ble_eq_true rfl) dX1_thin_36 ⟨Nat.le_of_ble_eq_true rfl, Nat.le_of_ble_eq_true rfl⟩ hL (fun q h => h) (fun v1 K1 locs1 hp hL => ?_)
    obtain ⟨rfl, hk1, hF1⟩ := hp
    refine lv_topi (fun r_2 er_2 => ?_)
    have hk1 : dkAt g d S B P (va_up V 4 (tnR B S V (V j) n).2.1) (tnR B S V (V j) n).2.2 tc dn wr K1 := hk1
    have er_2 : r_2 = (tnR B S V (V j) n).1 := er_2
    have hokR : lgOk (tnR B S V (V j) n).2.1 := pkL_ok _ _ _ _ ⟨Nat.zero_le _, Nat.zero_le _⟩
    refine lv_if_ne (tgt := 45) G.1 G.2.1 dX1_thin_39 (by decide) (fun c_3 => ?_) (fun c_3 => ?_)
    · have hne : ¬ (tnR B S V (V j) n).1 = 0 := by rw [← er_2]; exact c_3
      have hae : tnV B S V (V j) n tc dn wr = (if whN tc dn (tnC B S V (V j) n) = 0 then nI (lgCl (V j) (V j).2.2.1) - nI (tnR B S V (V j) n).2.1.2.2.1 else -3, if whR tc (tnC B S V (V j) n) = 0 then V j else tnW B S V (V j) n, whT tc (tnC B S V (V j) n), whN tc dn (tnC B S V (V j) n), whW tc wr (tnC B S V (V j) n)) := by unfold tnV; rw [if_neg hg0, if_neg hne]
      have hg1 : lgAt g (P 4) (tnR B S V (V j) n).2.1 K1 := by have h9 := hk1.2.2.2.1 4 (by decide); rw [va_up_self] at h9; exact h9
      have hgj1 : lgAt g (P j) (V j) K1 := by have h9 := hk1.2.2.2.1 j (by omega); rw [va_up_ne _ _ (by omega)] at h9; exact h9
      refine hb_iload G dX1_thin_45 hl rfl ?_
      refine hb_aload_n G dX1_thin_47 hl rfl ?_
      refine hb_get G hk1.1 rfl inX1 3 (by decide) kf_X1_16 rfl rfl dX1_thin_48 ?_
      refine hb_get G hg1.1 rfl inX0 7 (by decide) kf_X1_123 rfl rfl dX1_thin_51 ?_
      refine lv_isub G.1 G.2.1 dX1_thin_54 ?_
      refine lv_topi (fun t_4 et_4 => ?_)
      obtain rfl : t_4 = nI (lgCl (V j) (V j).2.2.1) - nI (tnR B S V (V j) n).2.1.2.2.1 := et_4
      refine hb_istore G dX1_thin_55 hl (by decide) (fun ls hl => ?_)
      have hl : lh ls 7 [some (.ref d), some (.int (nI j)), some (.int n), some (.ref (P j)), some (.int (nI (lgCl (V j) (V j).2.2.1))), some (.int (nI (lgCl (V j) (V j).2.2.1) - nI (tnR B S V (V j) n).2.1.2.2.1)), none] := hl
      refine hb_aload_n G dX1_thin_57 hl rfl ?_
      refine hb_get G hk1.1 rfl inX1 3 (by decide) kf_X1_16 rfl rfl dX1_thin_58 ?_
      refine hb_callV (As := []) (rest := []) G hml (c_blocksFilled g l (P 4) _ _ hokR hg1) (hg1.1) rfl km_X1_126 ki_X0_blocksFilled ks_X0_blocksFilled kn_X0 ko_X0_blocksFilled hd_X0_blocksFilled ⟨Nat.le_of_ble_eq_true rfl, Nat.le_of_ble_eq_true rfl⟩ hl.size rfl (Nat.le_of_ble_eq_true rfl) dX1_thin_61 ⟨Nat.le_of_ble_eq_true rfl, Nat.le_of_ble_eq_true rfl⟩ hL (f0_in) (fun v1 K1 locs1 hp hL => ?_)
      obtain ⟨rfl, rfl⟩ := hp
      refine lv_topi (fun r_5 er_5 => ?_)
      refine lv_iconst (v := 1) G.1 G.2.1 dX1_thin_64 (by decide) ?_
      refine lv_iadd G.1 G.2.1 dX1_thin_65 ?_
      refine lv_topi (fun t_6 et_6 => ?_)
      obtain rfl : t_6 = tnC B S V (V j) n := by rw [et_6, er_5]; rfl
      refine hb_istore G dX1_thin_66 hl (by decide) (fun ls hl => ?_)
      have hl : lh ls 7 [some (.ref d), some (.int (nI j)), some (.int n), some (.ref (P j)), some (.int (nI (lgCl (V j) (V j).2.2.1))), some (.int (nI (lgCl (V j) (V j).2.2.1) - nI (tnR B S V (V j) n).2.1.2.2.1)), some (.int (tnC B S V (V j) n))] := hl
      refine hb_aload_n G dX1_thin_68 hl rfl ?_
      refine hb_get G hk1.1 rfl inX1 3 (by decide) kf_X1_16 rfl rfl dX1_thin_69 ?_
      refine hb_aload_n G dX1_thin_72 hl rfl ?_
      refine hb_aload_n G dX1_thin_73 hl rfl ?_
      refine hb_get G hgj1.1 rfl inX0 2 (by decide) kf_X1_129 rfl rfl dX1_thin_74 ?_
      refine lv_iconst (v := 1) G.1 G.2.1 dX1_thin_77 (by decide) ?_
      refine lv_isub G.1 G.2.1 dX1_thin_78 ?_
      refine lv_topi (fun t_7 et_7 => ?_)
      obtain rfl : t_7 = nI (V j).2.1 - 1 := et_7
      refine hb_callV (As := [.ref (P j), .int (nI (V j).2.1 - 1)]) (rest := []) G hml (c_takeSegments g l (P 4) _ _ hokR hg1 (P j) (V j) hvj hgj1 hjd (nI (V j).2.1 - 1)) (hg1.1) rfl km_X1_109 ki_X0_takeSegments ks_X0_takeSegments kn_X0 ko_X0_takeSegments hd_X0_takeSegments ⟨Nat.le_of_ble_eq_true rfl, Nat.le_of_ble_eq_true rfl⟩ hl.size rfl (Nat.le_of_ble_eq_true rfl) dX1_thin_79 ⟨Nat.le_of_ble_eq_true rfl, Nat.le_of_ble_eq_true rfl⟩ hL (fun q h => fB_mk (by have := h.1; omega) (by have := h.2; omega)) (fun v1 K2 locs2 hp hL => ?_)
      obtain ⟨rfl, hg2, hF2⟩ := hp
      have hk2 := hk1.lg (j := 4) (by decide) hg2 hF2
      rw [bx_uu] at hk2
      have hFp : Fr d 38 _ K2 := hF1.tr (hF2.wide (by omega) (by omega))
      refine hb_aload_n G dX1_thin_82 hl rfl ?_
      refine hb_iload G dX1_thin_83 hl rfl ?_
      refine hb_callV (As := [.int (tnC B S V (V j) n)]) (rest := []) G hml (c_writeThroughHead g l d S (P 4) tc dn wr _ hk2.1 (tnC B S V (V j) n)) (hk2.1) rfl km_X1_83 ki_X1_writeThroughHead ks_X1_writeThroughHead kn_X1 ko_X1_writeThroughHead hd_X1_writeThroughHead ⟨Nat.le_of_ble_eq_true rfl, Nat.le_of_ble_eq_true rfl⟩ hl.size rfl (Nat.le_of_ble_eq_true rfl) dX1_thin_85 ⟨Nat.le_of_ble_eq_true rfl, Nat.le_of_ble_eq_true rfl⟩ hL (f1_in (fB_mk (by omega) (by omega))) (fun v1 K3 locs3 hp hL => ?_)
      obtain ⟨rfl, hob, hFo3⟩ := hp
      have hk3 := hk2.ob hob hFo3
      have hF3 : Fr d 38 _ K3 := hFp.tr (hFo3.fr (by omega) (by omega))
      refine lv_topi (fun r_8 er_8 => ?_)
      refine lv_if_eq (tgt := 96) G.1 G.2.1 dX1_thin_88 (by decide) (fun c_9 => ?_) (fun c_9 => ?_)
      · refine hb_aload_n G dX1_thin_96 hl rfl ?_
        refine hb_get G hk3.1 rfl inX1 5 (by decide) kf_X1_24 rfl rfl dX1_thin_97 ?_
        refine lv_if_eq (tgt := 108) G.1 G.2.1 dX1_thin_100 (by decide) (fun c_10 => ?_) (fun c_10 => ?_)
        · refine hb_iload G dX1_thin_108 hl rfl ?_
          have q1 : (tnV B S V (V j) n tc dn wr).1 = nI (lgCl (V j) (V j).2.2.1) - nI (tnR B S V (V j) n).2.1.2.2.1 := by rw [hae]; exact if_pos c_10
          have q2 : (tnV B S V (V j) n tc dn wr).2.1 = V j := by rw [hae]; exact if_pos (by rw [← er_8]; exact c_9)
          have q3 : (tnV B S V (V j) n tc dn wr).2.2 = (whT tc (tnC B S V (V j) n), whN tc dn (tnC B S V (V j) n), whW tc wr (tnC B S V (V j) n)) := by rw [hae]
          exact hx_iret G hr hlocks ⟨⟨j, hj, rfl, by rw [q1], by rw [q2, q3]; exact ⟨P, _, _, hk3, fun m hm => by rw [up_same, va_up_ne _ _ (by omega)], up_ok hV (lgTk_ok hokR _)⟩⟩, hw, hdn, hF3⟩ hL (Nat.le_of_ble_eq_true rfl) (Nat.le_of_ble_eq_true rfl) dX1_thin_110
        · refine lv_bipush (v := (-3)) G.1 G.2.1 dX1_thin_103 (by decide) ?_
          refine lv_goto (tgt := 110) G.1 G.2.1 dX1_thin_105 (by decide) ?_
          have q1 : (tnV B S V (V j) n tc dn wr).1 = -3 := by rw [hae]; exact if_neg c_10
          have q2 : (tnV B S V (V j) n tc dn wr).2.1 = V j := by rw [hae]; exact if_pos (by rw [← er_8]; exact c_9)
          have q3 : (tnV B S V (V j) n tc dn wr).2.2 = (whT tc (tnC B S V (V j) n), whN tc dn (tnC B S V (V j) n), whW tc wr (tnC B S V (V j) n)) := by rw [hae]
          exact hx_iret G hr hlocks ⟨⟨j, hj, rfl, by rw [q1], by rw [q2, q3]; exact ⟨P, _, _, hk3, fun m hm => by rw [up_same, va_up_ne _ _ (by omega)], up_ok hV (lgTk_ok hokR _)⟩⟩, hw, hdn, hF3⟩ hL (Nat.le_of_ble_eq_true rfl) (Nat.le_of_ble_eq_true rfl) dX1_thin_110
      · refine hb_aload_n G dX1_thin_91 hl rfl ?_
        refine hb_iload_n G dX1_thin_92 hl rfl ?_
        refine hb_callV (As := [.int (nI j)]) (rest := []) G hml (c_putDraftInPlaceOf g l d S B P _ _ _ _ _ _ hSB (up_ok hV (lgTk_ok hokR _)) hk3 j hj) (hk3.1) rfl km_X1_113 ki_X1_putDraftInPlaceOf ks_X1_putDraftInPlaceOf kn_X1 ko_X1_putDraftInPlaceOf hd_X1_putDraftInPlaceOf ⟨Nat.le_of_ble_eq_true rfl, Nat.le_of_ble_eq_true rfl⟩ hl.size rfl (Nat.le_of_ble_eq_true rfl) dX1_thin_93 ⟨Nat.le_of_ble_eq_true rfl, Nat.le_of_ble_eq_true rfl⟩ hL (fun q h => h) (fun v1 K4 locs4 hp hL => ?_)
        obtain ⟨rfl, hk4, hF4⟩ := hp
        refine hb_aload_n G dX1_thin_96 hl rfl ?_
        refine hb_get G hk4.1 rfl inX1 5 (by decide) kf_X1_24 rfl rfl dX1_thin_97 ?_
        refine lv_if_eq (tgt := 108) G.1 G.2.1 dX1_thin_100 (by decide) (fun c_11 => ?_) (fun c_11 => ?_)
        · refine hb_iload G dX1_thin_108 hl rfl ?_
          have q1 : (tnV B S V (V j) n tc dn wr).1 = nI (lgCl (V j) (V j).2.2.1) - nI (tnR B S V (V j) n).2.1.2.2.1 := by rw [hae]; exact if_pos c_11
          have q2 : (tnV B S V (V j) n tc dn wr).2.1 = tnW B S V (V j) n := by rw [hae]; exact if_neg (by rw [← er_8]; exact c_9)
          have q3 : (tnV B S V (V j) n tc dn wr).2.2 = (whT tc (tnC B S V (V j) n), whN tc dn (tnC B S V (V j) n), whW tc wr (tnC B S V (V j) n)) := by rw [hae]
          exact hx_iret G hr hlocks ⟨⟨j, hj, rfl, by rw [q1], by rw [q2, q3]; exact ⟨_, _, _, hk4, fun m hm => swp_up hj m hm, swp_ok hj (up_ok hV (lgTk_ok hokR _))⟩⟩, hw, hdn, hF3.tr hF4⟩ hL (Nat.le_of_ble_eq_true rfl) (Nat.le_of_ble_eq_true rfl) dX1_thin_110
        · refine lv_bipush (v := (-3)) G.1 G.2.1 dX1_thin_103 (by decide) ?_
          refine lv_goto (tgt := 110) G.1 G.2.1 dX1_thin_105 (by decide) ?_
          have q1 : (tnV B S V (V j) n tc dn wr).1 = -3 := by rw [hae]; exact if_neg c_11
          have q2 : (tnV B S V (V j) n tc dn wr).2.1 = tnW B S V (V j) n := by rw [hae]; exact if_neg (by rw [← er_8]; exact c_9)
          have q3 : (tnV B S V (V j) n tc dn wr).2.2 = (whT tc (tnC B S V (V j) n), whN tc dn (tnC B S V (V j) n), whW tc wr (tnC B S V (V j) n)) := by rw [hae]
          exact hx_iret G hr hlocks ⟨⟨j, hj, rfl, by rw [q1], by rw [q2, q3]; exact ⟨_, _, _, hk4, fun m hm => swp_up hj m hm, swp_ok hj (up_ok hV (lgTk_ok hokR _))⟩⟩, hw, hdn, hF3.tr hF4⟩ hL (Nat.le_of_ble_eq_true rfl) (Nat.le_of_ble_eq_true rfl) dX1_thin_110
    · have he0 : (tnR B S V (V j) n).1 = 0 := by rw [← er_2]; exact c_3
      have hae : tnV B S V (V j) n tc dn wr = (-2, V j, tc, dn, wr) := by unfold tnV; rw [if_neg hg0, if_pos he0]
      refine lv_bipush (v := (-2)) G.1 G.2.1 dX1_thin_42 (by decide) ?_
      exact hx_iret G hr hlocks ⟨⟨j, hj, rfl, by rw [hae], by rw [hae]; exact ⟨P, _, _, hk1, fun m hm => by rw [up_same, va_up_ne _ _ (by omega)], up_ok hV hokR⟩⟩, hw, hdn, hF1⟩ hL (Nat.le_of_ble_eq_true rfl) (Nat.le_of_ble_eq_true rfl) dX1_thin_44
  · have hg0 : lgCl (V j) (V j).2.2.1 = 0 := (nI_eq (by omega) (by omega)).mp c_1
    have hae : tnV B S V (V j) n tc dn wr = (0, V j, tc, dn, wr) := by unfold tnV; rw [if_pos hg0]
    refine lv_iconst (v := 0) G.1 G.2.1 dX1_thin_29 (by decide) ?_
    exact hx_iret G hr hlocks ⟨⟨j, hj, rfl, by rw [hae], by rw [hae]; exact ⟨P, V, _, h, fun m _ => by rw [up_same], hV⟩⟩, hw, hdn, Fr.rf⟩ hL (Nat.le_of_ble_eq_true rfl) (Nat.le_of_ble_eq_true rfl) dX1_thin_30
end
section
/-! THE REFERENCE: its object at r; twelve rows (0 segments, 1 first, 2 bytes, 3 came, 4 held, 5 of, 6 size, 7 begin, 8 in, 9 at, 10 planFirst, 11 planBytes) where a says -/
def mdLen (C : Nat) : Nat → Nat
  | 0 => 4
  | 1 => 240
  | 2 => 240
  | 3 => 4
  | 4 => 256
  | 5 => C
  | 6 => C
  | 7 => C
  | 8 => C
  | 9 => C
  | _ => 60
def mdArr (g : Gx) (a k n : Nat) (f : Nat → Int32) (H : Heap) : Prop := match k with
  | 4 => za g a n f H
  | _ => ia g a n f H
theorem mdArr.kept {g : Gx} {a k n : Nat} {f : Nat → Int32} {H H1 : Heap} (h : mdArr g a k n f H) (hq : H1[a]? = H[a]?) : mdArr g a k n f H1 := by
  unfold mdArr at h ⊢
  split at h
  · exact za.kept h hq
  · exact ia.kept h hq
def mdFs (S B : Nat) (a : Nat → Nat) (cd wr lf dn : Int32) (en pl : Nat) : List Value := [.int cd, .int (nI S), .int (nI B), .int wr, .int lf, .int dn, .ref (a 0), .ref (a 1), .ref (a 2), .ref (a 3), .ref (a 4), .int (nI en), .ref (a 5), .ref (a 6), .ref (a 7), .ref (a 8), .ref (a 9), .int (nI pl), .ref (a 10), .ref (a 11)]
def mdG (r : Nat) (a : Nat → Nat) : Prop := (∀ k, k < 12 → r < a k) ∧ ∀ i j, i < 12 → j < 12 → a i = a j → i = j
def mdAt (g : Gx) (r S B C : Nat) (a : Nat → Nat) (A : Nat → Nat → Int32) (cd wr lf dn : Int32) (en pl : Nat) (H : Heap) : Prop := ob g r 2 (mdFs S B a cd wr lf dn en pl) H ∧ (∀ k, k < 12 → mdArr g (a k) k (mdLen C k) (A k) H) ∧ mdG r a
def Mo (r : Nat) (a : Nat → Nat) (H H1 : Heap) : Prop := H1.size = H.size ∧ ∀ q : Nat, q ≠ r → (∀ k, k < 12 → q ≠ a k) → H1[q]? = H[q]?
theorem Mo.rf {r : Nat} {a : Nat → Nat} {H : Heap} : Mo r a H H := ⟨rfl, fun _ _ _ => rfl⟩
theorem Mo.tr {r : Nat} {a : Nat → Nat} {H H1 H2 : Heap} (h : Mo r a H H1) (h2 : Mo r a H1 H2) : Mo r a H H2 := ⟨h2.1.trans h.1, fun q h3 h4 => (h2.2 q h3 h4).trans (h.2 q h3 h4)⟩
theorem Mo.ar {r k : Nat} {a : Nat → Nat} {H H1 : Heap} (h : Fo (a k) H H1) (hk : k < 12) : Mo r a H H1 := ⟨h.1, fun q _ h4 => h.2 q (h4 k hk)⟩
theorem Mo.fd {r : Nat} {a : Nat → Nat} {H H1 : Heap} (h : Fo r H H1) : Mo r a H H1 := ⟨h.1, fun q h3 _ => h.2 q h3⟩
def fM (r : Nat) (a : Nat → Nat) : Nat → Prop := fun q => q = r ∨ ∃ k, k < 12 ∧ q = a k
theorem fM_r {r : Nat} {a : Nat → Nat} : fM r a r := Or.inl rfl
theorem fM_a {r k : Nat} {a : Nat → Nat} (hk : k < 12) : fM r a (a k) := Or.inr ⟨k, hk, rfl⟩
section MD
variable {g : Gx} {r S B C : Nat} {a : Nat → Nat} {A : Nat → Nat → Int32} {cd wr lf dn : Int32} {en pl : Nat} {H H1 : Heap}
theorem mdAt.up (h : mdAt g r S B C a A cd wr lf dn en pl H) {k : Nat} (hk : k < 12) {f : Nat → Int32} (hf : mdArr g (a k) k (mdLen C k) f H1) (hF : Fo (a k) H H1) : mdAt g r S B C a (va_up A k f) cd wr lf dn en pl H1 := by
  refine ⟨h.1.kept (hF.2 _ (Nat.ne_of_lt (h.2.2.1 k hk))), fun i hi => ?_, h.2.2⟩
  by_cases hik : i = k
  · subst hik; rw [va_up_self]; exact hf
  · rw [va_up_ne _ _ hik]
    exact (h.2.1 i hi).kept (hF.2 _ (fun q => hik (h.2.2.2 i k hi hk q)))
theorem mdAt.fd (h : mdAt g r S B C a A cd wr lf dn en pl H) {cd2 wr2 lf2 dn2 : Int32} {en2 pl2 : Nat} (hf : ob g r 2 (mdFs S B a cd2 wr2 lf2 dn2 en2 pl2) H1) (hF : Fo r H H1) : mdAt g r S B C a A cd2 wr2 lf2 dn2 en2 pl2 H1 :=
  ⟨hf, fun i hi => (h.2.1 i hi).kept (hF.2 _ (fun q => Nat.lt_irrefl _ (q ▸ h.2.2.1 i hi))), h.2.2⟩
end MD
def tn (x : Int32) : Nat := x.toNatClampNeg
theorem tn_nI {k : Nat} (h : k < 2 ^ 31) : tn (nI k) = k := nI_clamp h
/-- the segments' rows hold numbers that fit the disk -/
def sgOk (S : Nat) (A : Nat → Nat → Int32) : Prop := ∀ i, i < 4 → A 0 i = nI (tn (A 0 i)) ∧ tn (A 0 i) ≤ 60 ∧ ∀ k, k < tn (A 0 i) → A 1 (60 * i + k) = nI (tn (A 1 (60 * i + k))) ∧ tn (A 1 (60 * i + k)) + S ≤ 256
def mHold (he : Nat → Int32) (x : Nat) : Nat → (Nat → Int32)
  | 0 => he
  | j + 1 => upd (mHold he x j) (x + j) 1
def mMk0 (he : Nat → Int32) : Nat → (Nat → Int32)
  | 0 => he
  | j + 1 => upd (mMk0 he j) j (if j < 4 then 1 else 0)
def mMkL (A : Nat → Nat → Int32) (S : Nat) (he : Nat → Int32) (i : Nat) : Nat → (Nat → Int32)
  | 0 => he
  | k + 1 => mHold (mMkL A S he i k) (tn (A 1 (60 * i + k))) S
def mMkA (A : Nat → Nat → Int32) (S B : Nat) : Nat → (Nat → Int32)
  | 0 => mMk0 (A 4) B
  | i + 1 => mMkL A S (mMkA A S B i) i (tn (A 0 i))
def mFrB (he : Nat → Int32) (b : Nat) : Nat → Bool
  | 0 => true
  | i + 1 => mFrB he b i && he (b + i) == 0
def mPl (he : Nat → Int32) (S : Nat) : Nat → Nat → Int32
  | 0, _ => -1
  | d + 1, b => if mFrB he b S = true then nI b else mPl he S d (b + 1)
abbrev spF (lf n : Int32) : Prop := 0 ≤ lf ∧ lf ≤ n
def spW (lf n : Int32) : Int32 := if spF lf n then lf else n
def spL (lf n : Int32) : Int32 := lf - (if lf < 0 then 0 else spW lf n)
def spN (lf n : Int32) : Int32 := if spF lf n then 1 else 0
def spR (lf n : Int32) : Int32 := if spW lf n = n then 1 else 0
def tcV (a b : Int32) : Int32 := if b = 0 then 0 else btV a b
def goC (right dn : Int32) : Int32 := if right = 0 then 1 else if dn = 0 then 0 else 2
set_option maxHeartbeats 4000000 in
set_option maxRecDepth 100000 in
/-- thrown -/
theorem m_thrown (g : Gx) (l : Launch) (r S B C : Nat) (a : Nat → Nat) (A : Nat → Nat → Int32) (cd wr lf dn : Int32) (en pl : Nat) (H : Heap) (h : mdAt g r S B C a A cd wr lf dn en pl H) : HM g l yX2_thrown cX2_thrown 1 (some .int) 0 0 0 0 [.ref r] H (fun v H1 => v = some (.int cd) ∧ H1 = H) (f0) := by
  refine HM.ofW (by decide) (Nat.le_of_ble_eq_true rfl) (by simp [Value.category]) ?_
  intro p e s m args below meth c ls G hr hml hlocks hnm hH hl
  have hl : lh ls 1 [some (.ref r)] := hl
  have hL : ∀ q ∈ ([] : List Loc), (f0) q.base := fun q h => by cases h
  refine hb_aload_n G dX2_thrown_0 hl rfl ?_
  refine hb_get G h.1 rfl inX2 0 (by decide) kf_X2_57 rfl rfl dX2_thrown_1 ?_
  exact hb_iret G hr hlocks ⟨rfl, rfl⟩ hL (Nat.le_refl _) (Nat.le_refl _) dX2_thrown_4
set_option maxHeartbeats 4000000 in
set_option maxRecDepth 100000 in
/-- isLog -/
theorem m_isLog (g : Gx) (l : Launch) (i : Int32) (H : Heap) : HM g l yX2_isLog cX2_isLog 1 (some .boolean) 0 0 0 0 [.int i] H (fun v H1 => v = some (.int (if 0 ≤ i ∧ i < 4 then 1 else 0)) ∧ H1 = H) (f0) := by
  refine HM.ofW (by decide) (Nat.le_of_ble_eq_true rfl) (by simp [Value.category]) ?_
  intro p e s m args below meth c ls G hr hml hlocks hnm hH hl
  have hl : lh ls 1 [some (.int i)] := hl
  have hL : ∀ q ∈ ([] : List Loc), (f0) q.base := fun q h => by cases h
  refine hb_iload_n G dX2_isLog_0 hl rfl ?_
  refine lv_if_lt (tgt := 13) G.1 G.2.1 dX2_isLog_1 (by decide) (fun c_1 => ?_) (fun c_1 => ?_)
  · refine lv_iconst (v := 0) G.1 G.2.1 dX2_isLog_13 (by decide) ?_
    exact hb_zret G hr hlocks (by decide) ⟨by rw [if_neg (fun q => i32_nlt.mpr q.1 c_1)], rfl⟩ hL (Nat.le_refl _) (Nat.le_refl _) dX2_isLog_14
  · refine hb_iload_n G dX2_isLog_4 hl rfl ?_
    refine lv_iconst (v := 4) G.1 G.2.1 dX2_isLog_5 (by decide) ?_
    refine lv_icmp_ge (tgt := 13) G.1 G.2.1 dX2_isLog_6 (by decide) (fun c_2 => ?_) (fun c_2 => ?_)
    · refine lv_iconst (v := 0) G.1 G.2.1 dX2_isLog_13 (by decide) ?_
      exact hb_zret G hr hlocks (by decide) ⟨by rw [if_neg (fun q => i32_nlt.mpr c_2 q.2)], rfl⟩ hL (Nat.le_refl _) (Nat.le_refl _) dX2_isLog_14
    · refine lv_iconst (v := 1) G.1 G.2.1 dX2_isLog_9 (by decide) ?_
      refine lv_goto (tgt := 14) G.1 G.2.1 dX2_isLog_10 (by decide) ?_
      exact hb_zret G hr hlocks (by decide) ⟨by rw [if_pos ⟨i32_nlt.mp c_1, i32_nle.mp c_2⟩], rfl⟩ hL (Nat.le_refl _) (Nat.le_refl _) dX2_isLog_14
set_option maxHeartbeats 4000000 in
set_option maxRecDepth 100000 in
/-- goes -/
theorem m_goes (g : Gx) (l : Launch) (r S B C : Nat) (a : Nat → Nat) (A : Nat → Nat → Int32) (cd wr lf dn : Int32) (en pl : Nat) (H : Heap) (h : mdAt g r S B C a A cd wr lf dn en pl H) (t : Int32) : HM g l yX2_goes cX2_goes 2 (some .boolean) 0 0 0 0 [.ref r, .int t] H (fun v H1 => v = some (.int (if goC t dn = 0 then 1 else 0)) ∧ mdAt g r S B C a A (goC t dn) wr lf dn en pl H1 ∧ Fo r H H1) (f1 r) := by
  refine HM.ofW (by decide) (Nat.le_of_ble_eq_true rfl) (by simp [Value.category]) ?_
  intro p e s m args below meth c ls G hr hml hlocks hnm hH hl
  have hl : lh ls 2 [some (.ref r), some (.int t)] := hl
  have hL : ∀ q ∈ ([] : List Loc), (f1 r) q.base := fun q h => by cases h
  refine hb_aload_n G dX2_goes_0 hl rfl ?_
  refine hb_iload_n G dX2_goes_1 hl rfl ?_
  refine lv_if_ne (tgt := 9) G.1 G.2.1 dX2_goes_2 (by decide) (fun c_1 => ?_) (fun c_1 => ?_)
  · refine hb_aload_n G dX2_goes_9 hl rfl ?_
    refine hb_get G h.1 rfl inX2 5 (by decide) kf_X2_60 rfl rfl dX2_goes_10 ?_
    refine lv_if_eq (tgt := 20) G.1 G.2.1 dX2_goes_13 (by decide) (fun c_2 => ?_) (fun c_2 => ?_)
    · refine lv_iconst (v := 0) G.1 G.2.1 dX2_goes_20 (by decide) ?_
      refine hb_put G h.1 rfl inX2 tyX2 tyX2_ok nmX2 0 (by decide) kf_X2_57 rfl rfl rfl rfl (Nat.le_of_ble_eq_true rfl) hL (rfl) dX2_goes_21 (fun K1 locs1 hf hz ho hL => ?_)
      have hv : goC t dn = 0 := by unfold goC; rw [if_neg c_1, if_pos c_2]
      have hk := h.fd (cd2 := 0) hf ⟨hz, ho⟩
      refine hb_aload_n G dX2_goes_24 hl rfl ?_
      refine hb_get G hk.1 rfl inX2 0 (by decide) kf_X2_57 rfl rfl dX2_goes_25 ?_
      refine lv_if_ne (tgt := 35) G.1 G.2.1 dX2_goes_28 (by decide) (fun c_3 => ?_) (fun c_3 => ?_)
      · exact absurd rfl c_3
      · refine lv_iconst (v := 1) G.1 G.2.1 dX2_goes_31 (by decide) ?_
        refine lv_goto (tgt := 36) G.1 G.2.1 dX2_goes_32 (by decide) ?_
        exact hb_zret G hr hlocks (by decide) ⟨by rw [hv]; rfl, by rw [hv]; exact hk, hz, ho⟩ hL (Nat.le_refl _) (Nat.le_refl _) dX2_goes_36
    · refine lv_iconst (v := 2) G.1 G.2.1 dX2_goes_16 (by decide) ?_
      refine lv_goto (tgt := 21) G.1 G.2.1 dX2_goes_17 (by decide) ?_
      refine hb_put G h.1 rfl inX2 tyX2 tyX2_ok nmX2 0 (by decide) kf_X2_57 rfl rfl rfl rfl (Nat.le_of_ble_eq_true rfl) hL (rfl) dX2_goes_21 (fun K1 locs1 hf hz ho hL => ?_)
      have hv : goC t dn = 2 := by unfold goC; rw [if_neg c_1, if_neg c_2]
      have hk := h.fd (cd2 := 2) hf ⟨hz, ho⟩
      refine hb_aload_n G dX2_goes_24 hl rfl ?_
      refine hb_get G hk.1 rfl inX2 0 (by decide) kf_X2_57 rfl rfl dX2_goes_25 ?_
      refine lv_if_ne (tgt := 35) G.1 G.2.1 dX2_goes_28 (by decide) (fun c_4 => ?_) (fun c_4 => ?_)
      · refine lv_iconst (v := 0) G.1 G.2.1 dX2_goes_35 (by decide) ?_
        exact hb_zret G hr hlocks (by decide) ⟨by rw [hv]; rfl, by rw [hv]; exact hk, hz, ho⟩ hL (Nat.le_refl _) (Nat.le_refl _) dX2_goes_36
      · exact absurd c_4 (by decide)
  · refine lv_iconst (v := 1) G.1 G.2.1 dX2_goes_5 (by decide) ?_
    refine lv_goto (tgt := 21) G.1 G.2.1 dX2_goes_6 (by decide) ?_
    refine hb_put G h.1 rfl inX2 tyX2 tyX2_ok nmX2 0 (by decide) kf_X2_57 rfl rfl rfl rfl (Nat.le_of_ble_eq_true rfl) hL (rfl) dX2_goes_21 (fun K1 locs1 hf hz ho hL => ?_)
    have hv : goC t dn = 1 := by unfold goC; rw [if_pos c_1]
    have hk := h.fd (cd2 := 1) hf ⟨hz, ho⟩
    refine hb_aload_n G dX2_goes_24 hl rfl ?_
    refine hb_get G hk.1 rfl inX2 0 (by decide) kf_X2_57 rfl rfl dX2_goes_25 ?_
    refine lv_if_ne (tgt := 35) G.1 G.2.1 dX2_goes_28 (by decide) (fun c_5 => ?_) (fun c_5 => ?_)
    · refine lv_iconst (v := 0) G.1 G.2.1 dX2_goes_35 (by decide) ?_
      exact hb_zret G hr hlocks (by decide) ⟨by rw [hv]; rfl, by rw [hv]; exact hk, hz, ho⟩ hL (Nat.le_refl _) (Nat.le_refl _) dX2_goes_36
    · exact absurd c_5 (by decide)
set_option maxHeartbeats 4000000 in
set_option maxRecDepth 100000 in
/-- hold -/
theorem m_hold (g : Gx) (l : Launch) (r S B C : Nat) (a : Nat → Nat) (A : Nat → Nat → Int32) (cd wr lf dn : Int32) (en pl : Nat) (H : Heap) (h : mdAt g r S B C a A cd wr lf dn en pl H) (hS : S ≤ 16) (x : Nat) (hx : x + S ≤ 256) : HM g l yX2_hold cX2_hold 3 none 0 0 0 0 [.ref r, .int (nI x)] H (fun v H1 => v = none ∧ mdAt g r S B C a (va_up A 4 (mHold (A 4) x S)) cd wr lf dn en pl H1 ∧ Fo (a 4) H H1) (f1 (a 4)) := by
  refine HM.ofW (by decide) (Nat.le_of_ble_eq_true rfl) (by simp [Value.category]) ?_
  intro p e s m args below meth c ls G hr hml hlocks hnm hH hl
  have hl : lh ls 3 [some (.ref r), some (.int (nI x)), none] := hl
  have hL : ∀ q ∈ ([] : List Loc), (f1 (a 4)) q.base := fun q h => by cases h
  have lp : ∀ (k j : Nat) (b : Int32) (K : Heap) (locs : List Loc) (ls : Array Slot), (S + 1 ≤ j + k) → (j ≤ S) → (b = nI j) → (mdAt g r S B C a (va_up A 4 (mHold (A 4) x j)) cd wr lf dn en pl K) → (Fo (a 4) H K) → (∀ q ∈ locs, (f1 (a 4)) q.base) → lh ls 3 [some (.ref r), some (.int (nI x)), some (.int b)] → W p l e ({ frames := 0, cells := 0, slots := 0, locals := 0 } : Room) s m args below meth c K locs 0 0 (hQ below args s (fun v H1 => v = none ∧ mdAt g r S B C a (va_up A 4 (mHold (A 4) x S)) cd wr lf dn en pl H1 ∧ Fo (a 4) H H1) 0 0 (f1 (a 4))) (F0 m 2 ls []) := by
    intro k
    induction k with
    | zero =>
      intro j b K locs ls hd9 hj eb hk hF hL hl
      exfalso; omega
    | succ k ih =>
      intro j b K locs ls hd9 hj eb hk hF hL hl
      refine hb_iload_n G dX2_hold_2 hl rfl ?_
      refine hb_aload_n G dX2_hold_3 hl rfl ?_
      refine hb_get G hk.1 rfl inX2 1 (by decide) kf_X2_51 rfl rfl dX2_hold_4 ?_
      refine lv_icmp_ge (tgt := 25) G.1 G.2.1 dX2_hold_7 (by decide) (fun c_1 => ?_) (fun c_1 => ?_)
      · have hj2 : j = S := by have := (ic_le rfl eb (by omega) (by omega)).mp c_1; omega
        subst hj2
        exact hb_vret G hr hlocks ⟨rfl, hk, hF⟩ hL (Nat.le_refl _) (Nat.le_refl _) dX2_hold_25
      · have hj2 : j < S := by have := mt (ic_le rfl eb (by omega) (by omega)).mpr c_1; omega
        refine hb_aload_n G dX2_hold_10 hl rfl ?_
        refine hb_get G hk.1 rfl inX2 10 (by decide) kf_X2_26 rfl rfl dX2_hold_11 ?_
        refine hb_iload_n G dX2_hold_14 hl rfl ?_
        refine hb_iload_n G dX2_hold_15 hl rfl ?_
        refine lv_iadd G.1 G.2.1 dX2_hold_16 ?_
        refine lv_topi (fun t_2 et_2 => ?_)
        refine lv_iconst (v := 1) G.1 G.2.1 dX2_hold_17 (by decide) ?_
        have hix : t_2 = nI (x + j) := by rw [et_2, eb]; exact nI_add _ _
        have h4 : za g (a 4) 256 (mHold (A 4) x j) K := by have h9 := hk.2.1 4 (by decide); rw [va_up_self] at h9; exact h9
        refine hb_zast G h4 (by rw [hix]; exact vp_in_nI (by omega) (by decide)) rfl hL rfl dX2_hold_18 (fun K1 locs1 hK1 hz1 ho1 hL => ?_)
        rw [show t_2.toNatClampNeg = x + j by rw [hix]; exact nI_clamp (by omega)] at hK1
        have hk1 := hk.up (k := 4) (by decide) hK1 ⟨hz1, ho1⟩
        rw [bx_uu] at hk1
        obtain ⟨t_3, et_3⟩ : ∃ z : Int32, z = b + 1 := ⟨_, rfl⟩
        refine hb_iinc (v := t_3) G dX2_hold_19 hl rfl (by rw [et_3]; rfl) (by decide) (fun ls hl => ?_)
        have hl : lh ls 3 [some (.ref r), some (.int (nI x)), some (.int t_3)] := hl
        refine lv_goto (tgt := 2) G.1 G.2.1 dX2_hold_22 (by decide) ?_
        exact ih (j + 1) t_3 K1 locs1 ls (by omega) (by omega) (by rw [et_3, eb]; exact nI_1 j) hk1 (hF.tr ⟨hz1, ho1⟩) hL hl
  refine lv_iconst (v := 0) G.1 G.2.1 dX2_hold_0 (by decide) ?_
  refine hb_istore_n G dX2_hold_1 hl (by decide) (fun ls hl => ?_)
  have hl : lh ls 3 [some (.ref r), some (.int (nI x)), some (.int 0)] := hl
  exact lp (S + 1) 0 0 H [] ls (by omega) (by omega) rfl (by rw [show va_up A 4 (mHold (A 4) x 0) = A from up_same A 4]; exact h) Fo.rf hL hl
set_option maxHeartbeats 4000000 in
set_option maxRecDepth 100000 in
/-- touched -/
theorem m_touched (g : Gx) (l : Launch) (x y : Int32) (H : Heap) : HM g l yX2_touched cX2_touched 2 (some .int) 0 0 0 0 [.int x, .int y] H (fun v H1 => v = some (.int (tcV x y)) ∧ H1 = H) (f0) := by
  refine HM.ofW (by decide) (Nat.le_of_ble_eq_true rfl) (by simp [Value.category]) ?_
  intro p e s m args below meth c ls G hr hml hlocks hnm hH hl
  have hl : lh ls 2 [some (.int x), some (.int y)] := hl
  have hL : ∀ q ∈ ([] : List Loc), (f0) q.base := fun q h => by cases h
  refine hb_iload_n G dX2_touched_0 hl rfl ?_
  refine lv_if_ne (tgt := 8) G.1 G.2.1 dX2_touched_1 (by decide) (fun c_1 => ?_) (fun c_1 => ?_)
  · refine hb_iload_n G dX2_touched_8 hl rfl ?_
    refine hb_iload_n G dX2_touched_9 hl rfl ?_
    refine lv_iadd G.1 G.2.1 dX2_touched_10 ?_
    refine lv_topi (fun t_2 et_2 => ?_)
    refine lv_iconst (v := 1) G.1 G.2.1 dX2_touched_11 (by decide) ?_
    refine lv_isub G.1 G.2.1 dX2_touched_12 ?_
    refine lv_topi (fun t_3 et_3 => ?_)
    refine lv_sipush (v := 1024) G.1 G.2.1 dX2_touched_13 (by decide) ?_
    refine lv_idiv G.1 G.2.1 dX2_touched_16 (by decide) ?_
    refine lv_topi (fun t_4 et_4 => ?_)
    refine hb_iload_n G dX2_touched_17 hl rfl ?_
    refine lv_sipush (v := 1024) G.1 G.2.1 dX2_touched_18 (by decide) ?_
    refine lv_idiv G.1 G.2.1 dX2_touched_21 (by decide) ?_
    refine lv_topi (fun t_5 et_5 => ?_)
    refine lv_isub G.1 G.2.1 dX2_touched_22 ?_
    refine lv_topi (fun t_6 et_6 => ?_)
    refine lv_iconst (v := 1) G.1 G.2.1 dX2_touched_23 (by decide) ?_
    refine lv_iadd G.1 G.2.1 dX2_touched_24 ?_
    refine lv_topi (fun t_7 et_7 => ?_)
    exact hb_iret G hr hlocks ⟨by unfold tcV; rw [if_neg c_1]; simp only [*]; rfl, rfl⟩ hL (Nat.le_refl _) (Nat.le_refl _) dX2_touched_25
  · refine lv_iconst (v := 0) G.1 G.2.1 dX2_touched_4 (by decide) ?_
    refine lv_goto (tgt := 25) G.1 G.2.1 dX2_touched_5 (by decide) ?_
    exact hb_iret G hr hlocks ⟨by unfold tcV; rw [if_pos c_1], rfl⟩ hL (Nat.le_refl _) (Nat.le_refl _) dX2_touched_25
end
section
def mCnt (f : Nat → Int32) (x : Int32) : Nat → Nat
  | 0 => 0
  | e + 1 => mCnt f x e + (if f e = x then 1 else 0)
theorem mCnt_le (f : Nat → Int32) (x : Int32) : ∀ e, mCnt f x e ≤ e
  | 0 => Nat.le_refl 0
  | e + 1 => by
    have := mCnt_le f x e
    simp only [mCnt]
    split <;> omega
theorem mCnt_mono (f : Nat → Int32) (x : Int32) {a b : Nat} (h : a ≤ b) : mCnt f x a ≤ mCnt f x b := by
  induction b with
  | zero => rw [show a = 0 by omega]; exact Nat.le_refl _
  | succ b ih =>
    by_cases hb : a = b + 1
    · rw [hb]; exact Nat.le_refl _
    · have := ih (by omega)
      simp only [mCnt]; omega
def mIn (A : Nat → Nat → Int32) (x y : Int32) : Nat → Nat
  | 0 => 0
  | e + 1 => mIn A x y e + (if A 5 e = x ∧ A 8 e = y then 1 else 0)
theorem mIn_le (A : Nat → Nat → Int32) (x y : Int32) : ∀ e, mIn A x y e ≤ e
  | 0 => Nat.le_refl 0
  | e + 1 => by
    have := mIn_le A x y e
    simp only [mIn]
    split <;> omega
def mCl (A : Nat → Nat → Int32) (i en : Nat) : Int32 := if A 0 i = 0 then 0 else nI (mCnt (A 5) (nI i) en) - nI (mIn A (nI i) (A 1 (60 * i + (tn (A 0 i) - 1))) en)
theorem nI_60 (i k : Nat) : (60 : Int32) * nI i + nI k = nI (60 * i + k) := by
  rw [show (60 : Int32) = nI 60 from rfl, pk_mul, nI_add]
/-- the reference's lasting bounds -/
def mdB (S B C en : Nat) : Prop := dkB S B ∧ en ≤ C ∧ C ≤ 512
set_option maxHeartbeats 4000000 in
set_option maxRecDepth 100000 in
/-- mark -/
theorem m_mark (g : Gx) (l : Launch) (r S B C : Nat) (a : Nat → Nat) (A : Nat → Nat → Int32) (cd wr lf dn : Int32) (en pl : Nat) (H : Heap) (h : mdAt g r S B C a A cd wr lf dn en pl H) (hSB : dkB S B) (hA : sgOk S A) : HM g l yX2_mark cX2_mark 3 none 1 22 0 0 [.ref r] H (fun v H1 => v = none ∧ mdAt g r S B C a (va_up A 4 (mMkA A S B 4)) cd wr lf dn en pl H1 ∧ Fo (a 4) H H1) (f1 (a 4)) := by
  refine HM.ofW (by decide) (Nat.le_of_ble_eq_true rfl) (by simp [Value.category]) ?_
  intro p e s m args below meth c ls G hr hml hlocks hnm hH hl
  have hl : lh ls 3 [some (.ref r), none, none] := hl
  have hL : ∀ q ∈ ([] : List Loc), (f1 (a 4)) q.base := fun q h => by cases h
  obtain ⟨hS1, hS2, hB1, hB2⟩ := hSB
  have lp2 : ∀ (k j : Nat) (b : Int32) (K : Heap) (locs : List Loc) (ls : Array Slot), (4 + 1 ≤ j + k) → (j ≤ 4) → (b = nI j) → (mdAt g r S B C a (va_up A 4 (mMkA A S B j)) cd wr lf dn en pl K) → (Fo (a 4) H K) → (∀ q ∈ locs, (f1 (a 4)) q.base) → lh ls 3 [some (.ref r), some (.int b), none] → W p l e ({ frames := 1, cells := 0, slots := 0, locals := 22 } : Room) s m args below meth c K locs 0 0 (hQ below args s (fun v H1 => v = none ∧ mdAt g r S B C a (va_up A 4 (mMkA A S B 4)) cd wr lf dn en pl H1 ∧ Fo (a 4) H H1) 0 0 (f1 (a 4))) (F0 m 34 ls []) := by
    intro k
    induction k with
    | zero =>
      intro j b K locs ls hd9 hj eb hk hF hL hl
      exfalso; omega
    | succ k ih =>
      intro j b K locs ls hd9 hj eb hk hF hL hl
      have ihO := ih
      refine hb_iload_n G dX2_mark_34 hl rfl ?_
      refine lv_iconst (v := 4) G.1 G.2.1 dX2_mark_35 (by decide) ?_
      refine lv_icmp_ge (tgt := 78) G.1 G.2.1 dX2_mark_36 (by decide) (fun c_1 => ?_) (fun c_1 => ?_)
      · have hj2 : j = 4 := by have := (ic_le (a := 4) (b := j) rfl eb (by omega) (by omega)).mp c_1; omega
        subst hj2
        exact hb_vret G hr hlocks ⟨rfl, hk, hF⟩ hL (Nat.le_refl _) (Nat.le_refl _) dX2_mark_78
      · have hj2 : j < 4 := by have := mt (ic_le (a := 4) (b := j) rfl eb (by omega) (by omega)).mpr c_1; omega
        obtain ⟨hs0, hs1, hs2⟩ := hA j hj2
        have lpi : ∀ (k2 i2 : Nat) (b2 : Int32) (K : Heap) (locs : List Loc) (ls : Array Slot), (tn (A 0 j) + 1 ≤ i2 + k2) → (i2 ≤ tn (A 0 j)) → (b2 = nI i2) → (mdAt g r S B C a (va_up A 4 (mMkL A S (mMkA A S B j) j i2)) cd wr lf dn en pl K) → (Fo (a 4) H K) → (∀ q ∈ locs, (f1 (a 4)) q.base) → lh ls 3 [some (.ref r), some (.int b), some (.int b2)] → W p l e ({ frames := 1, cells := 0, slots := 0, locals := 22 } : Room) s m args below meth c K locs 0 0 (hQ below args s (fun v H1 => v = none ∧ mdAt g r S B C a (va_up A 4 (mMkA A S B 4)) cd wr lf dn en pl H1 ∧ Fo (a 4) H H1) 0 0 (f1 (a 4))) (F0 m 41 ls []) := by
          intro k2
          induction k2 with
          | zero =>
            intro i2 b2 K locs ls hd8 hi2 eb2 hk hF hL hl
            exfalso; omega
          | succ k2 ih =>
            intro i2 b2 K locs ls hd8 hi2 eb2 hk hF hL hl
            refine hb_iload_n G dX2_mark_41 hl rfl ?_
            refine hb_aload_n G dX2_mark_42 hl rfl ?_
            refine hb_get G hk.1 rfl inX2 6 (by decide) kf_X2_13 rfl rfl dX2_mark_43 ?_
            refine hb_iload_n G dX2_mark_46 hl rfl ?_
            refine hb_iald G (show ia g (a 0) 4 ((va_up A 4 (mMkL A S (mMkA A S B j) j i2)) 0) _ from hk.2.1 0 (by decide)) (by rw [eb]; exact vp_in_nI (by omega) (by decide)) dX2_mark_47 ?_
            refine lv_topi (fun r_2 er_2 => ?_)
            have er_2 : r_2 = (va_up A 4 (mMkL A S (mMkA A S B j) j i2)) 0 (j) := by rw [er_2, show (b).toNatClampNeg = j by rw [eb]; exact nI_clamp (by omega)]
            have er_2 : r_2 = nI (tn (A 0 j)) := by rw [er_2]; exact hs0
            refine lv_icmp_ge (tgt := 72) G.1 G.2.1 dX2_mark_48 (by decide) (fun c_3 => ?_) (fun c_3 => ?_)
            · have hi3 : i2 = tn (A 0 j) := by have := (ic_le er_2 eb2 (by omega) (by omega)).mp c_3; omega
              subst hi3
              obtain ⟨t_4, et_4⟩ : ∃ z : Int32, z = b + 1 := ⟨_, rfl⟩
              refine hb_iinc (v := t_4) G dX2_mark_72 hl rfl (by rw [et_4]; rfl) (by decide) (fun ls hl => ?_)
              have hl : lh ls 3 [some (.ref r), some (.int t_4), some (.int b2)] := hl
              refine lv_goto (tgt := 34) G.1 G.2.1 dX2_mark_75 (by decide) ?_
              exact ihO (j + 1) t_4 K locs ls (by omega) (by omega) (by rw [et_4, eb]; exact nI_1 j) hk hF hL (hl.drop 2)
            · have hi3 : i2 < tn (A 0 j) := by have := mt (ic_le er_2 eb2 (by omega) (by omega)).mpr c_3; omega
              obtain ⟨hx1, hx2⟩ := hs2 i2 hi3
              refine hb_aload_n G dX2_mark_51 hl rfl ?_
              refine hb_aload_n G dX2_mark_52 hl rfl ?_
              refine hb_get G hk.1 rfl inX2 7 (by decide) kf_X2_17 rfl rfl dX2_mark_53 ?_
              refine lv_bipush (v := 60) G.1 G.2.1 dX2_mark_56 (by decide) ?_
              refine hb_iload_n G dX2_mark_58 hl rfl ?_
              refine lv_imul G.1 G.2.1 dX2_mark_59 ?_
              refine lv_topi (fun t_5 et_5 => ?_)
              refine hb_iload_n G dX2_mark_60 hl rfl ?_
              refine lv_iadd G.1 G.2.1 dX2_mark_61 ?_
              refine lv_topi (fun t_6 et_6 => ?_)
              have hix : t_6 = nI (60 * j + i2) := by rw [et_6, et_5, eb, eb2]; exact nI_60 _ _
              refine hb_iald G (show ia g (a 1) 240 ((va_up A 4 (mMkL A S (mMkA A S B j) j i2)) 1) _ from hk.2.1 1 (by decide)) (by rw [hix]; exact vp_in_nI (by omega) (by decide)) dX2_mark_62 ?_
              refine lv_topi (fun r_7 er_7 => ?_)
              have er_7 : r_7 = (va_up A 4 (mMkL A S (mMkA A S B j) j i2)) 1 (60 * j + i2) := by rw [er_7, show (t_6).toNatClampNeg = 60 * j + i2 by rw [hix]; exact nI_clamp (by omega)]
              obtain rfl : r_7 = nI (tn (A 1 (60 * j + i2))) := by rw [er_7]; exact hx1
              refine hb_callV (As := [.int (nI (tn (A 1 (60 * j + i2))))]) (rest := []) G hml (m_hold g l r S B C a _ cd wr lf dn en pl _ hk hS2 _ hx2) (hk.1) rfl km_X2_64 ki_X2_hold ks_X2_hold kn_X2 ko_X2_hold hd_X2_hold ⟨Nat.le_of_ble_eq_true rfl, Nat.le_of_ble_eq_true rfl⟩ hl.size rfl (Nat.le_of_ble_eq_true rfl) dX2_mark_63 ⟨Nat.le_of_ble_eq_true rfl, Nat.le_of_ble_eq_true rfl⟩ hL (fun q h => h) (fun v1 K1 locs1 hp hL => ?_)
              obtain ⟨rfl, hk1, hF1⟩ := hp
              rw [va_up_self, bx_uu] at hk1
              obtain ⟨t_8, et_8⟩ : ∃ z : Int32, z = b2 + 1 := ⟨_, rfl⟩
              refine hb_iinc (v := t_8) G dX2_mark_66 hl rfl (by rw [et_8]; rfl) (by decide) (fun ls hl => ?_)
              have hl : lh ls 3 [some (.ref r), some (.int b), some (.int t_8)] := hl
              refine lv_goto (tgt := 41) G.1 G.2.1 dX2_mark_69 (by decide) ?_
              exact ih (i2 + 1) t_8 K1 locs1 ls (by omega) (by omega) (by rw [et_8, eb2]; exact nI_1 i2) hk1 (hF.tr hF1) hL hl
        refine lv_iconst (v := 0) G.1 G.2.1 dX2_mark_39 (by decide) ?_
        refine hb_istore_n G dX2_mark_40 hl (by decide) (fun ls hl => ?_)
        have hl : lh ls 3 [some (.ref r), some (.int b), some (.int 0)] := hl
        exact lpi (tn (A 0 j) + 1) 0 0 K locs ls (by omega) (by omega) rfl hk hF hL hl
  have lp1 : ∀ (k j : Nat) (b : Int32) (K : Heap) (locs : List Loc) (ls : Array Slot), (B + 1 ≤ j + k) → (j ≤ B) → (b = nI j) → (mdAt g r S B C a (va_up A 4 (mMk0 (A 4) j)) cd wr lf dn en pl K) → (Fo (a 4) H K) → (∀ q ∈ locs, (f1 (a 4)) q.base) → lh ls 3 [some (.ref r), some (.int b), none] → W p l e ({ frames := 1, cells := 0, slots := 0, locals := 22 } : Room) s m args below meth c K locs 0 0 (hQ below args s (fun v H1 => v = none ∧ mdAt g r S B C a (va_up A 4 (mMkA A S B 4)) cd wr lf dn en pl H1 ∧ Fo (a 4) H H1) 0 0 (f1 (a 4))) (F0 m 2 ls []) := by
    intro k
    induction k with
    | zero =>
      intro j b K locs ls hd9 hj eb hk hF hL hl
      exfalso; omega
    | succ k ih =>
      intro j b K locs ls hd9 hj eb hk hF hL hl
      refine hb_iload_n G dX2_mark_2 hl rfl ?_
      refine hb_aload_n G dX2_mark_3 hl rfl ?_
      refine hb_get G hk.1 rfl inX2 2 (by decide) kf_X2_54 rfl rfl dX2_mark_4 ?_
      refine lv_icmp_ge (tgt := 32) G.1 G.2.1 dX2_mark_7 (by decide) (fun c_9 => ?_) (fun c_9 => ?_)
      · have hj2 : j = B := by have := (ic_le rfl eb (by omega) (by omega)).mp c_9; omega
        subst hj2
        refine lv_iconst (v := 0) G.1 G.2.1 dX2_mark_32 (by decide) ?_
        refine hb_istore_n G dX2_mark_33 hl (by decide) (fun ls hl => ?_)
        have hl : lh ls 3 [some (.ref r), some (.int 0), none] := hl
        exact lp2 5 0 0 K locs ls (by omega) (by omega) rfl hk hF hL hl
      · have hj2 : j < B := by have := mt (ic_le rfl eb (by omega) (by omega)).mpr c_9; omega
        have h4 : za g (a 4) 256 (mMk0 (A 4) j) K := by have h9 := hk.2.1 4 (by decide); rw [va_up_self] at h9; exact h9
        refine hb_aload_n G dX2_mark_10 hl rfl ?_
        refine hb_get G hk.1 rfl inX2 10 (by decide) kf_X2_26 rfl rfl dX2_mark_11 ?_
        refine hb_iload_n G dX2_mark_14 hl rfl ?_
        refine hb_iload_n G dX2_mark_15 hl rfl ?_
        refine lv_iconst (v := 4) G.1 G.2.1 dX2_mark_16 (by decide) ?_
        refine lv_icmp_ge (tgt := 24) G.1 G.2.1 dX2_mark_17 (by decide) (fun c_10 => ?_) (fun c_10 => ?_)
        · refine lv_iconst (v := 0) G.1 G.2.1 dX2_mark_24 (by decide) ?_
          refine hb_zast G h4 (by rw [eb]; exact vp_in_nI (by omega) (by decide)) rfl hL rfl dX2_mark_25 (fun K1 locs1 hK1 hz1 ho1 hL => ?_)
          rw [show b.toNatClampNeg = j by rw [eb]; exact nI_clamp (by omega)] at hK1
          have hk1 := hk.up (k := 4) (by decide) hK1 ⟨hz1, ho1⟩
          rw [bx_uu] at hk1
          obtain ⟨t_11, et_11⟩ : ∃ z : Int32, z = b + 1 := ⟨_, rfl⟩
          refine hb_iinc (v := t_11) G dX2_mark_26 hl rfl (by rw [et_11]; rfl) (by decide) (fun ls hl => ?_)
          have hl : lh ls 3 [some (.ref r), some (.int t_11), none] := hl
          refine lv_goto (tgt := 2) G.1 G.2.1 dX2_mark_29 (by decide) ?_
          exact ih (j + 1) t_11 K1 locs1 ls (by omega) (by omega) (by rw [et_11, eb]; exact nI_1 j) (by simp only [mMk0]; rw [if_neg (by have := (ic_le (a := 4) (b := j) rfl eb (by omega) (by omega)).mp c_10; omega)]; exact hk1) (hF.tr ⟨hz1, ho1⟩) hL hl
        · refine lv_iconst (v := 1) G.1 G.2.1 dX2_mark_20 (by decide) ?_
          refine lv_goto (tgt := 25) G.1 G.2.1 dX2_mark_21 (by decide) ?_
          refine hb_zast G h4 (by rw [eb]; exact vp_in_nI (by omega) (by decide)) rfl hL rfl dX2_mark_25 (fun K1 locs1 hK1 hz1 ho1 hL => ?_)
          rw [show b.toNatClampNeg = j by rw [eb]; exact nI_clamp (by omega)] at hK1
          have hk1 := hk.up (k := 4) (by decide) hK1 ⟨hz1, ho1⟩
          rw [bx_uu] at hk1
          obtain ⟨t_12, et_12⟩ : ∃ z : Int32, z = b + 1 := ⟨_, rfl⟩
          refine hb_iinc (v := t_12) G dX2_mark_26 hl rfl (by rw [et_12]; rfl) (by decide) (fun ls hl => ?_)
          have hl : lh ls 3 [some (.ref r), some (.int t_12), none] := hl
          refine lv_goto (tgt := 2) G.1 G.2.1 dX2_mark_29 (by decide) ?_
          exact ih (j + 1) t_12 K1 locs1 ls (by omega) (by omega) (by rw [et_12, eb]; exact nI_1 j) (by simp only [mMk0]; rw [if_pos (by have := mt (ic_le (a := 4) (b := j) rfl eb (by omega) (by omega)).mpr c_10; omega)]; exact hk1) (hF.tr ⟨hz1, ho1⟩) hL hl
  refine lv_iconst (v := 0) G.1 G.2.1 dX2_mark_0 (by decide) ?_
  refine hb_istore_n G dX2_mark_1 hl (by decide) (fun ls hl => ?_)
  have hl : lh ls 3 [some (.ref r), some (.int 0), none] := hl
  exact lp1 (B + 1) 0 0 H [] ls (by omega) (by omega) rfl (by rw [show va_up A 4 (mMk0 (A 4) 0) = A from up_same A 4]; exact h) Fo.rf hL hl
set_option maxHeartbeats 4000000 in
set_option maxRecDepth 100000 in
/-- place -/
theorem m_place (g : Gx) (l : Launch) (r S B C : Nat) (a : Nat → Nat) (A : Nat → Nat → Int32) (cd wr lf dn : Int32) (en pl : Nat) (H : Heap) (h : mdAt g r S B C a A cd wr lf dn en pl H) (hSB : dkB S B) : HM g l yX2_place cX2_place 4 (some .int) 0 0 0 0 [.ref r] H (fun v H1 => v = some (.int (mPl (A 4) S (B + 1 - S - 4) 4)) ∧ H1 = H) (f0) := by
  refine HM.ofW (by decide) (Nat.le_of_ble_eq_true rfl) (by simp [Value.category]) ?_
  intro p e s m args below meth c ls G hr hml hlocks hnm hH hl
  have hl : lh ls 4 [some (.ref r), none, none, none] := hl
  have hL : ∀ q ∈ ([] : List Loc), (f0) q.base := fun q h => by cases h
  obtain ⟨hS1, hS2, hB1, hB2⟩ := hSB
  have lp : ∀ (k j : Nat) (b : Int32)  (locs : List Loc) (ls : Array Slot), (B + 1 - S - 4 + 1 ≤ j + k) → (j ≤ B + 1 - S - 4) → (b = nI (4 + j)) → (mPl (A 4) S (B + 1 - S - 4) 4 = mPl (A 4) S (B + 1 - S - 4 - j) (4 + j)) → (∀ q ∈ locs, (f0) q.base) → lh ls 4 [some (.ref r), some (.int b), none, none] → W p l e ({ frames := 0, cells := 0, slots := 0, locals := 0 } : Room) s m args below meth c H locs 0 0 (hQ below args s (fun v H1 => v = some (.int (mPl (A 4) S (B + 1 - S - 4) 4)) ∧ H1 = H) 0 0 (f0)) (F0 m 2 ls []) := by
    intro k
    induction k with
    | zero =>
      intro j b  locs ls hd9 hj eb hI hL hl
      exfalso; omega
    | succ k ih =>
      intro j b  locs ls hd9 hj eb hI hL hl
      have ihO := ih
      refine hb_iload_n G dX2_place_2 hl rfl ?_
      refine hb_aload_n G dX2_place_3 hl rfl ?_
      refine hb_get G h.1 rfl inX2 1 (by decide) kf_X2_51 rfl rfl dX2_place_4 ?_
      refine lv_iadd G.1 G.2.1 dX2_place_7 ?_
      refine lv_topi (fun t_1 et_1 => ?_)
      refine hb_aload_n G dX2_place_8 hl rfl ?_
      refine hb_get G h.1 rfl inX2 2 (by decide) kf_X2_54 rfl rfl dX2_place_9 ?_
      have hbs : t_1 = nI (4 + j + S) := by rw [et_1, eb]; exact nI_add _ _
      refine lv_icmp_gt (tgt := 66) G.1 G.2.1 dX2_place_12 (by decide) (fun c_2 => ?_) (fun c_2 => ?_)
      · have hj2 : B < 4 + j + S := by have := (ic_lt rfl hbs (by omega) (by omega)).mp c_2; omega
        refine lv_iconst (v := (-1)) G.1 G.2.1 dX2_place_66 (by decide) ?_
        exact hb_iret G hr hlocks ⟨by rw [hI, show B + 1 - S - 4 - j = 0 by omega]; rfl, rfl⟩ hL (Nat.le_refl _) (Nat.le_refl _) dX2_place_67
      · have hj2 : 4 + j + S ≤ B := by have := mt (ic_lt rfl hbs (by omega) (by omega)).mpr c_2; omega
        have hs9 : mPl (A 4) S (B + 1 - S - 4 - j) (4 + j) = if mFrB (A 4) (4 + j) S = true then nI (4 + j) else mPl (A 4) S (B + 1 - S - 4 - (j + 1)) (4 + (j + 1)) := by rw [show B + 1 - S - 4 - j = (B + 1 - S - 4 - (j + 1)) + 1 by omega]; rfl
        have lpi : ∀ (k2 i2 : Nat) (b2 b3 : Int32)  (locs : List Loc) (ls : Array Slot), (S + 1 ≤ i2 + k2) → (i2 ≤ S) → (b2 = if mFrB (A 4) (4 + j) i2 = true then 1 else 0) → (b3 = nI (4 + j + i2)) → (∀ q ∈ locs, (f0) q.base) → lh ls 4 [some (.ref r), some (.int b), some (.int b2), some (.int b3)] → W p l e ({ frames := 0, cells := 0, slots := 0, locals := 0 } : Room) s m args below meth c H locs 0 0 (hQ below args s (fun v H1 => v = some (.int (mPl (A 4) S (B + 1 - S - 4) 4)) ∧ H1 = H) 0 0 (f0)) (F0 m 19 ls []) := by
          intro k2
          induction k2 with
          | zero =>
            intro i2 b2 b3  locs ls hd8 hi2 eb2 eb3 hL hl
            exfalso; omega
          | succ k2 ih =>
            intro i2 b2 b3  locs ls hd8 hi2 eb2 eb3 hL hl
            refine hb_iload_n G dX2_place_19 hl rfl ?_
            refine hb_iload_n G dX2_place_20 hl rfl ?_
            refine hb_aload_n G dX2_place_21 hl rfl ?_
            refine hb_get G h.1 rfl inX2 1 (by decide) kf_X2_51 rfl rfl dX2_place_22 ?_
            refine lv_iadd G.1 G.2.1 dX2_place_25 ?_
            refine lv_topi (fun t_3 et_3 => ?_)
            have hbs2 : t_3 = nI (4 + j + S) := by rw [et_3, eb]; exact nI_add _ _
            refine lv_icmp_ge (tgt := 54) G.1 G.2.1 dX2_place_26 (by decide) (fun c_4 => ?_) (fun c_4 => ?_)
            · have hi3 : i2 = S := by have := (ic_le hbs2 eb3 (by omega) (by omega)).mp c_4; omega
              subst hi3
              refine hb_iload_n G dX2_place_54 hl rfl ?_
              refine lv_if_eq (tgt := 60) G.1 G.2.1 dX2_place_55 (by decide) (fun c_5 => ?_) (fun c_5 => ?_)
              · have hfr : ¬ mFrB (A 4) (4 + j) i2 = true := (it0 eb2).mp c_5
                obtain ⟨t_6, et_6⟩ : ∃ z : Int32, z = b + 1 := ⟨_, rfl⟩
                refine hb_iinc (v := t_6) G dX2_place_60 hl rfl (by rw [et_6]; rfl) (by decide) (fun ls hl => ?_)
                have hl : lh ls 4 [some (.ref r), some (.int t_6), some (.int b2), some (.int b3)] := hl
                refine lv_goto (tgt := 2) G.1 G.2.1 dX2_place_63 (by decide) ?_
                exact ihO (j + 1) t_6 locs ls (by omega) (by omega) (by rw [et_6, eb]; exact nI_1 _) (by rw [hI, hs9, if_neg hfr]) hL ((hl.drop 2).drop 3)
              · have hfr : mFrB (A 4) (4 + j) i2 = true := Decidable.not_not.mp (fun q => c_5 ((it0 eb2).mpr q))
                refine hb_iload_n G dX2_place_58 hl rfl ?_
                exact hb_iret G hr hlocks ⟨by rw [hI, hs9, if_pos hfr, eb], rfl⟩ hL (Nat.le_refl _) (Nat.le_refl _) dX2_place_59
            · have hi3 : i2 < S := by have := mt (ic_le hbs2 eb3 (by omega) (by omega)).mpr c_4; omega
              refine hb_iload_n G dX2_place_29 hl rfl ?_
              refine lv_if_eq (tgt := 46) G.1 G.2.1 dX2_place_30 (by decide) (fun c_7 => ?_) (fun c_7 => ?_)
              · refine lv_iconst (v := 0) G.1 G.2.1 dX2_place_46 (by decide) ?_
                refine hb_istore_n G dX2_place_47 hl (by decide) (fun ls hl => ?_)
                have hl : lh ls 4 [some (.ref r), some (.int b), some (.int 0), some (.int b3)] := hl
                obtain ⟨t_8, et_8⟩ : ∃ z : Int32, z = b3 + 1 := ⟨_, rfl⟩
                refine hb_iinc (v := t_8) G dX2_place_48 hl rfl (by rw [et_8]; rfl) (by decide) (fun ls hl => ?_)
                have hl : lh ls 4 [some (.ref r), some (.int b), some (.int 0), some (.int t_8)] := hl
                refine lv_goto (tgt := 19) G.1 G.2.1 dX2_place_51 (by decide) ?_
                exact ih (i2 + 1) 0 t_8 locs ls (by omega) (by omega) ((if_neg (show ¬ (mFrB (A 4) (4 + j) i2 && A 4 (4 + j + i2) == 0) = true by simp [(it0 eb2).mp c_7])).symm) (by rw [et_8, eb3]; exact nI_1 _) hL hl
              · have hfr : mFrB (A 4) (4 + j) i2 = true := Decidable.not_not.mp (fun q => c_7 ((it0 eb2).mpr q))
                refine hb_aload_n G dX2_place_33 hl rfl ?_
                refine hb_get G h.1 rfl inX2 10 (by decide) kf_X2_26 rfl rfl dX2_place_34 ?_
                refine hb_iload_n G dX2_place_37 hl rfl ?_
                refine hb_zald G (show za g (a 4) 256 (A 4) _ from h.2.1 4 (by decide)) (by rw [eb3]; exact vp_in_nI (by omega) (by decide)) dX2_place_38 ?_
                refine lv_topi (fun r_9 er_9 => ?_)
                have er_9 : r_9 = A 4 (4 + j + i2) := by rw [er_9, show (b3).toNatClampNeg = 4 + j + i2 by rw [eb3]; exact nI_clamp (by omega)]
                refine lv_if_ne (tgt := 46) G.1 G.2.1 dX2_place_39 (by decide) (fun c_10 => ?_) (fun c_10 => ?_)
                · refine lv_iconst (v := 0) G.1 G.2.1 dX2_place_46 (by decide) ?_
                  refine hb_istore_n G dX2_place_47 hl (by decide) (fun ls hl => ?_)
                  have hl : lh ls 4 [some (.ref r), some (.int b), some (.int 0), some (.int b3)] := hl
                  obtain ⟨t_11, et_11⟩ : ∃ z : Int32, z = b3 + 1 := ⟨_, rfl⟩
                  refine hb_iinc (v := t_11) G dX2_place_48 hl rfl (by rw [et_11]; rfl) (by decide) (fun ls hl => ?_)
                  have hl : lh ls 4 [some (.ref r), some (.int b), some (.int 0), some (.int t_11)] := hl
                  refine lv_goto (tgt := 19) G.1 G.2.1 dX2_place_51 (by decide) ?_
                  exact ih (i2 + 1) 0 t_11 locs ls (by omega) (by omega) ((if_neg (show ¬ (mFrB (A 4) (4 + j) i2 && A 4 (4 + j + i2) == 0) = true by rw [← er_9]; simp [c_10])).symm) (by rw [et_11, eb3]; exact nI_1 _) hL hl
                · refine lv_iconst (v := 1) G.1 G.2.1 dX2_place_42 (by decide) ?_
                  refine lv_goto (tgt := 47) G.1 G.2.1 dX2_place_43 (by decide) ?_
                  refine hb_istore_n G dX2_place_47 hl (by decide) (fun ls hl => ?_)
                  have hl : lh ls 4 [some (.ref r), some (.int b), some (.int 1), some (.int b3)] := hl
                  obtain ⟨t_12, et_12⟩ : ∃ z : Int32, z = b3 + 1 := ⟨_, rfl⟩
                  refine hb_iinc (v := t_12) G dX2_place_48 hl rfl (by rw [et_12]; rfl) (by decide) (fun ls hl => ?_)
                  have hl : lh ls 4 [some (.ref r), some (.int b), some (.int 1), some (.int t_12)] := hl
                  refine lv_goto (tgt := 19) G.1 G.2.1 dX2_place_51 (by decide) ?_
                  exact ih (i2 + 1) 1 t_12 locs ls (by omega) (by omega) ((if_pos (show (mFrB (A 4) (4 + j) i2 && A 4 (4 + j + i2) == 0) = true by rw [← er_9]; simp [hfr, c_10])).symm) (by rw [et_12, eb3]; exact nI_1 _) hL hl
        refine lv_iconst (v := 1) G.1 G.2.1 dX2_place_15 (by decide) ?_
        refine hb_istore_n G dX2_place_16 hl (by decide) (fun ls hl => ?_)
        have hl : lh ls 4 [some (.ref r), some (.int b), some (.int 1), none] := hl
        refine hb_iload_n G dX2_place_17 hl rfl ?_
        refine hb_istore_n G dX2_place_18 hl (by decide) (fun ls hl => ?_)
        have hl : lh ls 4 [some (.ref r), some (.int b), some (.int 1), some (.int b)] := hl
        exact lpi (S + 1) 0 1 b locs ls (by omega) (by omega) rfl eb hL hl
  refine lv_iconst (v := 4) G.1 G.2.1 dX2_place_0 (by decide) ?_
  refine hb_istore_n G dX2_place_1 hl (by decide) (fun ls hl => ?_)
  have hl : lh ls 4 [some (.ref r), some (.int 4), none, none] := hl
  exact lp (B + 1 - S - 4 + 1) 0 4 [] ls (by omega) (by omega) rfl rfl hL hl
set_option maxHeartbeats 4000000 in
set_option maxRecDepth 100000 in
/-- spend -/
theorem m_spend (g : Gx) (l : Launch) (r S B C : Nat) (a : Nat → Nat) (A : Nat → Nat → Int32) (cd wr lf dn : Int32) (en pl : Nat) (H : Heap) (h : mdAt g r S B C a A cd wr lf dn en pl H) (n : Int32) : HM g l yX2_spend cX2_spend 4 (some .boolean) 0 0 0 0 [.ref r, .int n] H (fun v H1 => v = some (.int (spR lf n)) ∧ mdAt g r S B C a A cd (wr + spW lf n) (spL lf n) (spN lf n) en pl H1 ∧ Fo r H H1) (f1 r) := by
  refine HM.ofW (by decide) (Nat.le_of_ble_eq_true rfl) (by simp [Value.category]) ?_
  intro p e s m args below meth c ls G hr hml hlocks hnm hH hl
  have hl : lh ls 4 [some (.ref r), some (.int n), none, none] := hl
  have hL : ∀ q ∈ ([] : List Loc), (f1 r) q.base := fun q h => by cases h
  refine hb_aload_n G dX2_spend_0 hl rfl ?_
  refine hb_get G h.1 rfl inX2 4 (by decide) kf_X2_7 rfl rfl dX2_spend_1 ?_
  refine lv_if_lt (tgt := 19) G.1 G.2.1 dX2_spend_4 (by decide) (fun c_1 => ?_) (fun c_1 => ?_)
  · have hsp : ¬ spF lf n := fun q => i32_nlt.mpr q.1 c_1
    have hW : spW lf n = n := by unfold spW; rw [if_neg hsp]
    have hN : spN lf n = 0 := by unfold spN; rw [if_neg hsp]
    refine lv_iconst (v := 0) G.1 G.2.1 dX2_spend_19 (by decide) ?_
    refine hb_istore_n G dX2_spend_20 hl (by decide) (fun ls hl => ?_)
    have hl : lh ls 4 [some (.ref r), some (.int n), some (.int 0), none] := hl
    refine hb_iload_n G dX2_spend_21 hl rfl ?_
    refine lv_if_eq (tgt := 32) G.1 G.2.1 dX2_spend_22 (by decide) (fun c_2 => ?_) (fun c_2 => ?_)
    · refine hb_iload_n G dX2_spend_32 hl rfl ?_
      refine hb_istore_n G dX2_spend_33 hl (by decide) (fun ls hl => ?_)
      have hl : lh ls 4 [some (.ref r), some (.int n), some (.int 0), some (.int n)] := hl
      refine hb_aload_n G dX2_spend_34 hl rfl ?_
      refine lv_dup G.1 G.2.1 dX2_spend_35 rfl ?_
      refine hb_get G h.1 rfl inX2 3 (by decide) kf_X2_68 rfl rfl dX2_spend_36 ?_
      refine hb_iload_n G dX2_spend_39 hl rfl ?_
      refine lv_iadd G.1 G.2.1 dX2_spend_40 ?_
      refine lv_topi (fun t_3 et_3 => ?_)
      refine hb_put G h.1 rfl inX2 tyX2 tyX2_ok nmX2 3 (by decide) kf_X2_68 rfl rfl rfl rfl (Nat.le_of_ble_eq_true rfl) hL (rfl) dX2_spend_41 (fun K1 locs1 hf1 hz1 ho1 hL => ?_)
      have hk1 := h.fd (wr2 := t_3) hf1 ⟨hz1, ho1⟩
      refine hb_aload_n G dX2_spend_44 hl rfl ?_
      refine lv_dup G.1 G.2.1 dX2_spend_45 rfl ?_
      refine hb_get G hk1.1 rfl inX2 4 (by decide) kf_X2_7 rfl rfl dX2_spend_46 ?_
      refine hb_aload_n G dX2_spend_49 hl rfl ?_
      refine hb_get G hk1.1 rfl inX2 4 (by decide) kf_X2_7 rfl rfl dX2_spend_50 ?_
      refine lv_if_ge (tgt := 60) G.1 G.2.1 dX2_spend_53 (by decide) (fun c_4 => ?_) (fun c_4 => ?_)
      · have hlf : spL lf n = lf - spW lf n := by unfold spL; rw [if_neg (i32_nlt.mpr c_4)]
        refine hb_iload_n G dX2_spend_60 hl rfl ?_
        refine lv_isub G.1 G.2.1 dX2_spend_61 ?_
        refine lv_topi (fun t_5 et_5 => ?_)
        refine hb_put G hk1.1 rfl inX2 tyX2 tyX2_ok nmX2 4 (by decide) kf_X2_7 rfl rfl rfl rfl (Nat.le_of_ble_eq_true rfl) hL (rfl) dX2_spend_62 (fun K2 locs2 hf2 hz2 ho2 hL => ?_)
        have hk2 := hk1.fd (lf2 := t_5) hf2 ⟨hz2, ho2⟩
        refine hb_aload_n G dX2_spend_65 hl rfl ?_
        refine hb_iload_n G dX2_spend_66 hl rfl ?_
        refine hb_put G hk2.1 rfl inX2 tyX2 tyX2_ok nmX2 5 (by decide) kf_X2_60 rfl rfl rfl rfl (Nat.le_of_ble_eq_true rfl) hL (rfl) dX2_spend_67 (fun K3 locs3 hf3 hz3 ho3 hL => ?_)
        have hk3 := hk2.fd (dn2 := 0) hf3 ⟨hz3, ho3⟩
        have hkk : mdAt g r S B C a A cd (wr + spW lf n) (spL lf n) (spN lf n) en pl K3 := by
          rw [hlf, hN, hW, ← et_3]
          have h9 : t_5 = lf - n := et_5
          first | (rw [← h9]; exact hk3) | (rw [show lf - 0 = lf - 0 from rfl, ← h9]; exact hk3)
        have hF : Fo r H K3 := Fo.tr ⟨hz1, ho1⟩ (Fo.tr ⟨hz2, ho2⟩ ⟨hz3, ho3⟩)
        refine hb_iload_n G dX2_spend_70 hl rfl ?_
        refine hb_iload_n G dX2_spend_71 hl rfl ?_
        refine lv_icmp_ne (tgt := 79) G.1 G.2.1 dX2_spend_72 (by decide) (fun c_6 => ?_) (fun c_6 => ?_)
        · refine lv_iconst (v := 0) G.1 G.2.1 dX2_spend_79 (by decide) ?_
          exact hb_zret G hr hlocks (by decide) ⟨by unfold spR; rw [if_neg (by rw [hW]; exact c_6)], hkk, hF⟩ hL (Nat.le_refl _) (Nat.le_refl _) dX2_spend_80
        · refine lv_iconst (v := 1) G.1 G.2.1 dX2_spend_75 (by decide) ?_
          refine lv_goto (tgt := 80) G.1 G.2.1 dX2_spend_76 (by decide) ?_
          exact hb_zret G hr hlocks (by decide) ⟨by unfold spR; rw [if_pos (by first | (rw [hW]; done) | (rw [hW]; exact c_6))], hkk, hF⟩ hL (Nat.le_refl _) (Nat.le_refl _) dX2_spend_80
      · have hlf : spL lf n = lf - 0 := by unfold spL; rw [if_pos (i32_nle.mp c_4)]
        refine lv_iconst (v := 0) G.1 G.2.1 dX2_spend_56 (by decide) ?_
        refine lv_goto (tgt := 61) G.1 G.2.1 dX2_spend_57 (by decide) ?_
        refine lv_isub G.1 G.2.1 dX2_spend_61 ?_
        refine lv_topi (fun t_7 et_7 => ?_)
        refine hb_put G hk1.1 rfl inX2 tyX2 tyX2_ok nmX2 4 (by decide) kf_X2_7 rfl rfl rfl rfl (Nat.le_of_ble_eq_true rfl) hL (rfl) dX2_spend_62 (fun K2 locs2 hf2 hz2 ho2 hL => ?_)
        have hk2 := hk1.fd (lf2 := t_7) hf2 ⟨hz2, ho2⟩
        refine hb_aload_n G dX2_spend_65 hl rfl ?_
        refine hb_iload_n G dX2_spend_66 hl rfl ?_
        refine hb_put G hk2.1 rfl inX2 tyX2 tyX2_ok nmX2 5 (by decide) kf_X2_60 rfl rfl rfl rfl (Nat.le_of_ble_eq_true rfl) hL (rfl) dX2_spend_67 (fun K3 locs3 hf3 hz3 ho3 hL => ?_)
        have hk3 := hk2.fd (dn2 := 0) hf3 ⟨hz3, ho3⟩
        have hkk : mdAt g r S B C a A cd (wr + spW lf n) (spL lf n) (spN lf n) en pl K3 := by
          rw [hlf, hN, hW, ← et_3]
          have h9 : t_7 = lf - 0 := et_7
          first | (rw [← h9]; exact hk3) | (rw [show lf - 0 = lf - 0 from rfl, ← h9]; exact hk3)
        have hF : Fo r H K3 := Fo.tr ⟨hz1, ho1⟩ (Fo.tr ⟨hz2, ho2⟩ ⟨hz3, ho3⟩)
        refine hb_iload_n G dX2_spend_70 hl rfl ?_
        refine hb_iload_n G dX2_spend_71 hl rfl ?_
        refine lv_icmp_ne (tgt := 79) G.1 G.2.1 dX2_spend_72 (by decide) (fun c_8 => ?_) (fun c_8 => ?_)
        · refine lv_iconst (v := 0) G.1 G.2.1 dX2_spend_79 (by decide) ?_
          exact hb_zret G hr hlocks (by decide) ⟨by unfold spR; rw [if_neg (by rw [hW]; exact c_8)], hkk, hF⟩ hL (Nat.le_refl _) (Nat.le_refl _) dX2_spend_80
        · refine lv_iconst (v := 1) G.1 G.2.1 dX2_spend_75 (by decide) ?_
          refine lv_goto (tgt := 80) G.1 G.2.1 dX2_spend_76 (by decide) ?_
          exact hb_zret G hr hlocks (by decide) ⟨by unfold spR; rw [if_pos (by first | (rw [hW]; done) | (rw [hW]; exact c_8))], hkk, hF⟩ hL (Nat.le_refl _) (Nat.le_refl _) dX2_spend_80
    · exact absurd rfl c_2
  · refine hb_aload_n G dX2_spend_7 hl rfl ?_
    refine hb_get G h.1 rfl inX2 4 (by decide) kf_X2_7 rfl rfl dX2_spend_8 ?_
    refine hb_iload_n G dX2_spend_11 hl rfl ?_
    refine lv_icmp_gt (tgt := 19) G.1 G.2.1 dX2_spend_12 (by decide) (fun c_9 => ?_) (fun c_9 => ?_)
    · have hsp : ¬ spF lf n := fun q => i32_nlt.mpr q.2 c_9
      have hW : spW lf n = n := by unfold spW; rw [if_neg hsp]
      have hN : spN lf n = 0 := by unfold spN; rw [if_neg hsp]
      refine lv_iconst (v := 0) G.1 G.2.1 dX2_spend_19 (by decide) ?_
      refine hb_istore_n G dX2_spend_20 hl (by decide) (fun ls hl => ?_)
      have hl : lh ls 4 [some (.ref r), some (.int n), some (.int 0), none] := hl
      refine hb_iload_n G dX2_spend_21 hl rfl ?_
      refine lv_if_eq (tgt := 32) G.1 G.2.1 dX2_spend_22 (by decide) (fun c_10 => ?_) (fun c_10 => ?_)
      · refine hb_iload_n G dX2_spend_32 hl rfl ?_
        refine hb_istore_n G dX2_spend_33 hl (by decide) (fun ls hl => ?_)
        have hl : lh ls 4 [some (.ref r), some (.int n), some (.int 0), some (.int n)] := hl
        refine hb_aload_n G dX2_spend_34 hl rfl ?_
        refine lv_dup G.1 G.2.1 dX2_spend_35 rfl ?_
        refine hb_get G h.1 rfl inX2 3 (by decide) kf_X2_68 rfl rfl dX2_spend_36 ?_
        refine hb_iload_n G dX2_spend_39 hl rfl ?_
        refine lv_iadd G.1 G.2.1 dX2_spend_40 ?_
        refine lv_topi (fun t_11 et_11 => ?_)
        refine hb_put G h.1 rfl inX2 tyX2 tyX2_ok nmX2 3 (by decide) kf_X2_68 rfl rfl rfl rfl (Nat.le_of_ble_eq_true rfl) hL (rfl) dX2_spend_41 (fun K1 locs1 hf1 hz1 ho1 hL => ?_)
        have hk1 := h.fd (wr2 := t_11) hf1 ⟨hz1, ho1⟩
        refine hb_aload_n G dX2_spend_44 hl rfl ?_
        refine lv_dup G.1 G.2.1 dX2_spend_45 rfl ?_
        refine hb_get G hk1.1 rfl inX2 4 (by decide) kf_X2_7 rfl rfl dX2_spend_46 ?_
        refine hb_aload_n G dX2_spend_49 hl rfl ?_
        refine hb_get G hk1.1 rfl inX2 4 (by decide) kf_X2_7 rfl rfl dX2_spend_50 ?_
        refine lv_if_ge (tgt := 60) G.1 G.2.1 dX2_spend_53 (by decide) (fun c_12 => ?_) (fun c_12 => ?_)
        · have hlf : spL lf n = lf - spW lf n := by unfold spL; rw [if_neg (i32_nlt.mpr c_12)]
          refine hb_iload_n G dX2_spend_60 hl rfl ?_
          refine lv_isub G.1 G.2.1 dX2_spend_61 ?_
          refine lv_topi (fun t_13 et_13 => ?_)
          refine hb_put G hk1.1 rfl inX2 tyX2 tyX2_ok nmX2 4 (by decide) kf_X2_7 rfl rfl rfl rfl (Nat.le_of_ble_eq_true rfl) hL (rfl) dX2_spend_62 (fun K2 locs2 hf2 hz2 ho2 hL => ?_)
          have hk2 := hk1.fd (lf2 := t_13) hf2 ⟨hz2, ho2⟩
          refine hb_aload_n G dX2_spend_65 hl rfl ?_
          refine hb_iload_n G dX2_spend_66 hl rfl ?_
          refine hb_put G hk2.1 rfl inX2 tyX2 tyX2_ok nmX2 5 (by decide) kf_X2_60 rfl rfl rfl rfl (Nat.le_of_ble_eq_true rfl) hL (rfl) dX2_spend_67 (fun K3 locs3 hf3 hz3 ho3 hL => ?_)
          have hk3 := hk2.fd (dn2 := 0) hf3 ⟨hz3, ho3⟩
          have hkk : mdAt g r S B C a A cd (wr + spW lf n) (spL lf n) (spN lf n) en pl K3 := by
            rw [hlf, hN, hW, ← et_11]
            have h9 : t_13 = lf - n := et_13
            first | (rw [← h9]; exact hk3) | (rw [show lf - 0 = lf - 0 from rfl, ← h9]; exact hk3)
          have hF : Fo r H K3 := Fo.tr ⟨hz1, ho1⟩ (Fo.tr ⟨hz2, ho2⟩ ⟨hz3, ho3⟩)
          refine hb_iload_n G dX2_spend_70 hl rfl ?_
          refine hb_iload_n G dX2_spend_71 hl rfl ?_
          refine lv_icmp_ne (tgt := 79) G.1 G.2.1 dX2_spend_72 (by decide) (fun c_14 => ?_) (fun c_14 => ?_)
          · refine lv_iconst (v := 0) G.1 G.2.1 dX2_spend_79 (by decide) ?_
            exact hb_zret G hr hlocks (by decide) ⟨by unfold spR; rw [if_neg (by rw [hW]; exact c_14)], hkk, hF⟩ hL (Nat.le_refl _) (Nat.le_refl _) dX2_spend_80
          · refine lv_iconst (v := 1) G.1 G.2.1 dX2_spend_75 (by decide) ?_
            refine lv_goto (tgt := 80) G.1 G.2.1 dX2_spend_76 (by decide) ?_
            exact hb_zret G hr hlocks (by decide) ⟨by unfold spR; rw [if_pos (by first | (rw [hW]; done) | (rw [hW]; exact c_14))], hkk, hF⟩ hL (Nat.le_refl _) (Nat.le_refl _) dX2_spend_80
        · have hlf : spL lf n = lf - 0 := by unfold spL; rw [if_pos (i32_nle.mp c_12)]
          refine lv_iconst (v := 0) G.1 G.2.1 dX2_spend_56 (by decide) ?_
          refine lv_goto (tgt := 61) G.1 G.2.1 dX2_spend_57 (by decide) ?_
          refine lv_isub G.1 G.2.1 dX2_spend_61 ?_
          refine lv_topi (fun t_15 et_15 => ?_)
          refine hb_put G hk1.1 rfl inX2 tyX2 tyX2_ok nmX2 4 (by decide) kf_X2_7 rfl rfl rfl rfl (Nat.le_of_ble_eq_true rfl) hL (rfl) dX2_spend_62 (fun K2 locs2 hf2 hz2 ho2 hL => ?_)
          have hk2 := hk1.fd (lf2 := t_15) hf2 ⟨hz2, ho2⟩
          refine hb_aload_n G dX2_spend_65 hl rfl ?_
          refine hb_iload_n G dX2_spend_66 hl rfl ?_
          refine hb_put G hk2.1 rfl inX2 tyX2 tyX2_ok nmX2 5 (by decide) kf_X2_60 rfl rfl rfl rfl (Nat.le_of_ble_eq_true rfl) hL (rfl) dX2_spend_67 (fun K3 locs3 hf3 hz3 ho3 hL => ?_)
          have hk3 := hk2.fd (dn2 := 0) hf3 ⟨hz3, ho3⟩
          have hkk : mdAt g r S B C a A cd (wr + spW lf n) (spL lf n) (spN lf n) en pl K3 := by
            rw [hlf, hN, hW, ← et_11]
            have h9 : t_15 = lf - 0 := et_15
            first | (rw [← h9]; exact hk3) | (rw [show lf - 0 = lf - 0 from rfl, ← h9]; exact hk3)
          have hF : Fo r H K3 := Fo.tr ⟨hz1, ho1⟩ (Fo.tr ⟨hz2, ho2⟩ ⟨hz3, ho3⟩)
          refine hb_iload_n G dX2_spend_70 hl rfl ?_
          refine hb_iload_n G dX2_spend_71 hl rfl ?_
          refine lv_icmp_ne (tgt := 79) G.1 G.2.1 dX2_spend_72 (by decide) (fun c_16 => ?_) (fun c_16 => ?_)
          · refine lv_iconst (v := 0) G.1 G.2.1 dX2_spend_79 (by decide) ?_
            exact hb_zret G hr hlocks (by decide) ⟨by unfold spR; rw [if_neg (by rw [hW]; exact c_16)], hkk, hF⟩ hL (Nat.le_refl _) (Nat.le_refl _) dX2_spend_80
          · refine lv_iconst (v := 1) G.1 G.2.1 dX2_spend_75 (by decide) ?_
            refine lv_goto (tgt := 80) G.1 G.2.1 dX2_spend_76 (by decide) ?_
            exact hb_zret G hr hlocks (by decide) ⟨by unfold spR; rw [if_pos (by first | (rw [hW]; done) | (rw [hW]; exact c_16))], hkk, hF⟩ hL (Nat.le_refl _) (Nat.le_refl _) dX2_spend_80
      · exact absurd rfl c_10
    · have hsp : spF lf n := ⟨i32_nlt.mp c_1, i32_nlt.mp c_9⟩
      have hW : spW lf n = lf := by unfold spW; rw [if_pos hsp]
      have hN : spN lf n = 1 := by unfold spN; rw [if_pos hsp]
      refine lv_iconst (v := 1) G.1 G.2.1 dX2_spend_15 (by decide) ?_
      refine lv_goto (tgt := 20) G.1 G.2.1 dX2_spend_16 (by decide) ?_
      refine hb_istore_n G dX2_spend_20 hl (by decide) (fun ls hl => ?_)
      have hl : lh ls 4 [some (.ref r), some (.int n), some (.int 1), none] := hl
      refine hb_iload_n G dX2_spend_21 hl rfl ?_
      refine lv_if_eq (tgt := 32) G.1 G.2.1 dX2_spend_22 (by decide) (fun c_17 => ?_) (fun c_17 => ?_)
      · exact absurd c_17 (by decide)
      · refine hb_aload_n G dX2_spend_25 hl rfl ?_
        refine hb_get G h.1 rfl inX2 4 (by decide) kf_X2_7 rfl rfl dX2_spend_26 ?_
        refine lv_goto (tgt := 33) G.1 G.2.1 dX2_spend_29 (by decide) ?_
        refine hb_istore_n G dX2_spend_33 hl (by decide) (fun ls hl => ?_)
        have hl : lh ls 4 [some (.ref r), some (.int n), some (.int 1), some (.int lf)] := hl
        refine hb_aload_n G dX2_spend_34 hl rfl ?_
        refine lv_dup G.1 G.2.1 dX2_spend_35 rfl ?_
        refine hb_get G h.1 rfl inX2 3 (by decide) kf_X2_68 rfl rfl dX2_spend_36 ?_
        refine hb_iload_n G dX2_spend_39 hl rfl ?_
        refine lv_iadd G.1 G.2.1 dX2_spend_40 ?_
        refine lv_topi (fun t_18 et_18 => ?_)
        refine hb_put G h.1 rfl inX2 tyX2 tyX2_ok nmX2 3 (by decide) kf_X2_68 rfl rfl rfl rfl (Nat.le_of_ble_eq_true rfl) hL (rfl) dX2_spend_41 (fun K1 locs1 hf1 hz1 ho1 hL => ?_)
        have hk1 := h.fd (wr2 := t_18) hf1 ⟨hz1, ho1⟩
        refine hb_aload_n G dX2_spend_44 hl rfl ?_
        refine lv_dup G.1 G.2.1 dX2_spend_45 rfl ?_
        refine hb_get G hk1.1 rfl inX2 4 (by decide) kf_X2_7 rfl rfl dX2_spend_46 ?_
        refine hb_aload_n G dX2_spend_49 hl rfl ?_
        refine hb_get G hk1.1 rfl inX2 4 (by decide) kf_X2_7 rfl rfl dX2_spend_50 ?_
        refine lv_if_ge (tgt := 60) G.1 G.2.1 dX2_spend_53 (by decide) (fun c_19 => ?_) (fun c_19 => ?_)
        · have hlf : spL lf n = lf - spW lf n := by unfold spL; rw [if_neg (i32_nlt.mpr c_19)]
          refine hb_iload_n G dX2_spend_60 hl rfl ?_
          refine lv_isub G.1 G.2.1 dX2_spend_61 ?_
          refine lv_topi (fun t_20 et_20 => ?_)
          refine hb_put G hk1.1 rfl inX2 tyX2 tyX2_ok nmX2 4 (by decide) kf_X2_7 rfl rfl rfl rfl (Nat.le_of_ble_eq_true rfl) hL (rfl) dX2_spend_62 (fun K2 locs2 hf2 hz2 ho2 hL => ?_)
          have hk2 := hk1.fd (lf2 := t_20) hf2 ⟨hz2, ho2⟩
          refine hb_aload_n G dX2_spend_65 hl rfl ?_
          refine hb_iload_n G dX2_spend_66 hl rfl ?_
          refine hb_put G hk2.1 rfl inX2 tyX2 tyX2_ok nmX2 5 (by decide) kf_X2_60 rfl rfl rfl rfl (Nat.le_of_ble_eq_true rfl) hL (rfl) dX2_spend_67 (fun K3 locs3 hf3 hz3 ho3 hL => ?_)
          have hk3 := hk2.fd (dn2 := 1) hf3 ⟨hz3, ho3⟩
          have hkk : mdAt g r S B C a A cd (wr + spW lf n) (spL lf n) (spN lf n) en pl K3 := by
            rw [hlf, hN, hW, ← et_18]
            have h9 : t_20 = lf - lf := et_20
            first | (rw [← h9]; exact hk3) | (rw [show lf - 0 = lf - 0 from rfl, ← h9]; exact hk3)
          have hF : Fo r H K3 := Fo.tr ⟨hz1, ho1⟩ (Fo.tr ⟨hz2, ho2⟩ ⟨hz3, ho3⟩)
          refine hb_iload_n G dX2_spend_70 hl rfl ?_
          refine hb_iload_n G dX2_spend_71 hl rfl ?_
          refine lv_icmp_ne (tgt := 79) G.1 G.2.1 dX2_spend_72 (by decide) (fun c_21 => ?_) (fun c_21 => ?_)
          · refine lv_iconst (v := 0) G.1 G.2.1 dX2_spend_79 (by decide) ?_
            exact hb_zret G hr hlocks (by decide) ⟨by unfold spR; rw [if_neg (by rw [hW]; exact c_21)], hkk, hF⟩ hL (Nat.le_refl _) (Nat.le_refl _) dX2_spend_80
          · refine lv_iconst (v := 1) G.1 G.2.1 dX2_spend_75 (by decide) ?_
            refine lv_goto (tgt := 80) G.1 G.2.1 dX2_spend_76 (by decide) ?_
            exact hb_zret G hr hlocks (by decide) ⟨by unfold spR; rw [if_pos (by first | (rw [hW]; done) | (rw [hW]; exact c_21))], hkk, hF⟩ hL (Nat.le_refl _) (Nat.le_refl _) dX2_spend_80
        · have hlf : spL lf n = lf - 0 := by unfold spL; rw [if_pos (i32_nle.mp c_19)]
          refine lv_iconst (v := 0) G.1 G.2.1 dX2_spend_56 (by decide) ?_
          refine lv_goto (tgt := 61) G.1 G.2.1 dX2_spend_57 (by decide) ?_
          refine lv_isub G.1 G.2.1 dX2_spend_61 ?_
          refine lv_topi (fun t_22 et_22 => ?_)
          refine hb_put G hk1.1 rfl inX2 tyX2 tyX2_ok nmX2 4 (by decide) kf_X2_7 rfl rfl rfl rfl (Nat.le_of_ble_eq_true rfl) hL (rfl) dX2_spend_62 (fun K2 locs2 hf2 hz2 ho2 hL => ?_)
          have hk2 := hk1.fd (lf2 := t_22) hf2 ⟨hz2, ho2⟩
          refine hb_aload_n G dX2_spend_65 hl rfl ?_
          refine hb_iload_n G dX2_spend_66 hl rfl ?_
          refine hb_put G hk2.1 rfl inX2 tyX2 tyX2_ok nmX2 5 (by decide) kf_X2_60 rfl rfl rfl rfl (Nat.le_of_ble_eq_true rfl) hL (rfl) dX2_spend_67 (fun K3 locs3 hf3 hz3 ho3 hL => ?_)
          have hk3 := hk2.fd (dn2 := 1) hf3 ⟨hz3, ho3⟩
          have hkk : mdAt g r S B C a A cd (wr + spW lf n) (spL lf n) (spN lf n) en pl K3 := by
            rw [hlf, hN, hW, ← et_18]
            have h9 : t_22 = lf - 0 := et_22
            first | (rw [← h9]; exact hk3) | (rw [show lf - 0 = lf - 0 from rfl, ← h9]; exact hk3)
          have hF : Fo r H K3 := Fo.tr ⟨hz1, ho1⟩ (Fo.tr ⟨hz2, ho2⟩ ⟨hz3, ho3⟩)
          refine hb_iload_n G dX2_spend_70 hl rfl ?_
          refine hb_iload_n G dX2_spend_71 hl rfl ?_
          refine lv_icmp_ne (tgt := 79) G.1 G.2.1 dX2_spend_72 (by decide) (fun c_23 => ?_) (fun c_23 => ?_)
          · refine lv_iconst (v := 0) G.1 G.2.1 dX2_spend_79 (by decide) ?_
            exact hb_zret G hr hlocks (by decide) ⟨by unfold spR; rw [if_neg (by rw [hW]; exact c_23)], hkk, hF⟩ hL (Nat.le_refl _) (Nat.le_refl _) dX2_spend_80
          · refine lv_iconst (v := 1) G.1 G.2.1 dX2_spend_75 (by decide) ?_
            refine lv_goto (tgt := 80) G.1 G.2.1 dX2_spend_76 (by decide) ?_
            exact hb_zret G hr hlocks (by decide) ⟨by unfold spR; rw [if_pos (by first | (rw [hW]; done) | (rw [hW]; exact c_23))], hkk, hF⟩ hL (Nat.le_refl _) (Nat.le_refl _) dX2_spend_80
end
section
set_option maxHeartbeats 4000000 in
set_option maxRecDepth 100000 in
/-- count -/
theorem m_count (g : Gx) (l : Launch) (r S B C : Nat) (a : Nat → Nat) (A : Nat → Nat → Int32) (cd wr lf dn : Int32) (en pl : Nat) (H : Heap) (h : mdAt g r S B C a A cd wr lf dn en pl H) (hB : mdB S B C en) (x : Int32) : HM g l yX2_count cX2_count 4 (some .int) 0 0 0 0 [.ref r, .int x] H (fun v H1 => v = some (.int (nI (mCnt (A 5) x en))) ∧ H1 = H) (f0) := by
  refine HM.ofW (by decide) (Nat.le_of_ble_eq_true rfl) (by simp [Value.category]) ?_
  intro p e s m args below meth c ls G hr hml hlocks hnm hH hl
  have hl : lh ls 4 [some (.ref r), some (.int x), none, none] := hl
  have hL : ∀ q ∈ ([] : List Loc), (f0) q.base := fun q h => by cases h
  obtain ⟨-, hC1, hC2⟩ := hB
  have lp : ∀ (k j : Nat) (s2 b : Int32)  (locs : List Loc) (ls : Array Slot), (en + 1 ≤ j + k) → (j ≤ en) → (s2 = nI (mCnt (A 5) x j)) → (b = nI j) → (∀ q ∈ locs, (f0) q.base) → lh ls 4 [some (.ref r), some (.int x), some (.int s2), some (.int b)] → W p l e ({ frames := 0, cells := 0, slots := 0, locals := 0 } : Room) s m args below meth c H locs 0 0 (hQ below args s (fun v H1 => v = some (.int (nI (mCnt (A 5) x en))) ∧ H1 = H) 0 0 (f0)) (F0 m 4 ls []) := by
    intro k
    induction k with
    | zero =>
      intro j s2 b  locs ls hd9 hj es eb hL hl
      exfalso; omega
    | succ k ih =>
      intro j s2 b  locs ls hd9 hj es eb hL hl
      refine hb_iload_n G dX2_count_4 hl rfl ?_
      refine hb_aload_n G dX2_count_5 hl rfl ?_
      refine hb_get G h.1 rfl inX2 11 (by decide) kf_X2_71 rfl rfl dX2_count_6 ?_
      refine lv_icmp_ge (tgt := 36) G.1 G.2.1 dX2_count_9 (by decide) (fun c_1 => ?_) (fun c_1 => ?_)
      · have hj2 : j = en := by have := (ic_le rfl eb (by omega) (by omega)).mp c_1; omega
        subst hj2
        refine hb_iload_n G dX2_count_36 hl rfl ?_
        exact hb_iret G hr hlocks ⟨by rw [es], rfl⟩ hL (Nat.le_refl _) (Nat.le_refl _) dX2_count_37
      · have hj2 : j < en := by have := mt (ic_le rfl eb (by omega) (by omega)).mpr c_1; omega
        refine hb_iload_n G dX2_count_12 hl rfl ?_
        refine hb_aload_n G dX2_count_13 hl rfl ?_
        refine hb_get G h.1 rfl inX2 12 (by decide) kf_X2_30 rfl rfl dX2_count_14 ?_
        refine hb_iload_n G dX2_count_17 hl rfl ?_
        refine hb_iald G (show ia g (a 5) C (A 5) _ from h.2.1 5 (by decide)) (by rw [eb]; exact vp_in_nI (by omega) (by omega)) dX2_count_18 ?_
        refine lv_topi (fun r_2 er_2 => ?_)
        have er_2 : r_2 = A 5 (j) := by rw [er_2, show (b).toNatClampNeg = j by rw [eb]; exact nI_clamp (by omega)]
        refine hb_iload_n G dX2_count_19 hl rfl ?_
        refine lv_icmp_ne (tgt := 27) G.1 G.2.1 dX2_count_20 (by decide) (fun c_3 => ?_) (fun c_3 => ?_)
        · refine lv_iconst (v := 0) G.1 G.2.1 dX2_count_27 (by decide) ?_
          refine lv_iadd G.1 G.2.1 dX2_count_28 ?_
          refine lv_topi (fun t_4 et_4 => ?_)
          refine hb_istore_n G dX2_count_29 hl (by decide) (fun ls hl => ?_)
          have hl : lh ls 4 [some (.ref r), some (.int x), some (.int t_4), some (.int b)] := hl
          obtain ⟨t_5, et_5⟩ : ∃ z : Int32, z = b + 1 := ⟨_, rfl⟩
          refine hb_iinc (v := t_5) G dX2_count_30 hl rfl (by rw [et_5]; rfl) (by decide) (fun ls hl => ?_)
          have hl : lh ls 4 [some (.ref r), some (.int x), some (.int t_4), some (.int t_5)] := hl
          refine lv_goto (tgt := 4) G.1 G.2.1 dX2_count_33 (by decide) ?_
          exact ih (j + 1) t_4 t_5 locs ls (by omega) (by omega) (by simp only [mCnt]; rw [if_neg (by rw [← er_2]; exact c_3), et_4, es]; exact by rw [Nat.add_zero]; exact nI_add _ 0) (by rw [et_5, eb]; exact nI_1 j) hL hl
        · refine lv_iconst (v := 1) G.1 G.2.1 dX2_count_23 (by decide) ?_
          refine lv_goto (tgt := 28) G.1 G.2.1 dX2_count_24 (by decide) ?_
          refine lv_iadd G.1 G.2.1 dX2_count_28 ?_
          refine lv_topi (fun t_6 et_6 => ?_)
          refine hb_istore_n G dX2_count_29 hl (by decide) (fun ls hl => ?_)
          have hl : lh ls 4 [some (.ref r), some (.int x), some (.int t_6), some (.int b)] := hl
          obtain ⟨t_7, et_7⟩ : ∃ z : Int32, z = b + 1 := ⟨_, rfl⟩
          refine hb_iinc (v := t_7) G dX2_count_30 hl rfl (by rw [et_7]; rfl) (by decide) (fun ls hl => ?_)
          have hl : lh ls 4 [some (.ref r), some (.int x), some (.int t_6), some (.int t_7)] := hl
          refine lv_goto (tgt := 4) G.1 G.2.1 dX2_count_33 (by decide) ?_
          exact ih (j + 1) t_6 t_7 locs ls (by omega) (by omega) (by simp only [mCnt]; rw [if_pos (by rw [← er_2]; exact c_3), et_6, es]; exact nI_1 _) (by rw [et_7, eb]; exact nI_1 j) hL hl
  refine lv_iconst (v := 0) G.1 G.2.1 dX2_count_0 (by decide) ?_
  refine hb_istore_n G dX2_count_1 hl (by decide) (fun ls hl => ?_)
  have hl : lh ls 4 [some (.ref r), some (.int x), some (.int 0), none] := hl
  refine lv_iconst (v := 0) G.1 G.2.1 dX2_count_2 (by decide) ?_
  refine hb_istore_n G dX2_count_3 hl (by decide) (fun ls hl => ?_)
  have hl : lh ls 4 [some (.ref r), some (.int x), some (.int 0), some (.int 0)] := hl
  exact lp (en + 1) 0 0 0 [] ls (by omega) (by omega) rfl rfl hL hl
set_option maxHeartbeats 4000000 in
set_option maxRecDepth 100000 in
/-- inSegment -/
theorem m_inSegment (g : Gx) (l : Launch) (r S B C : Nat) (a : Nat → Nat) (A : Nat → Nat → Int32) (cd wr lf dn : Int32) (en pl : Nat) (H : Heap) (h : mdAt g r S B C a A cd wr lf dn en pl H) (hB : mdB S B C en) (i kk : Nat) (hi : i < 4) (hkk : kk < 60) : HM g l yX2_inSegment cX2_inSegment 5 (some .int) 0 0 0 0 [.ref r, .int (nI i), .int (nI kk)] H (fun v H1 => v = some (.int (nI (mIn A (nI i) (A 1 (60 * i + kk)) en))) ∧ H1 = H) (f0) := by
  refine HM.ofW (by decide) (Nat.le_of_ble_eq_true rfl) (by simp [Value.category]) ?_
  intro p e s m args below meth c ls G hr hml hlocks hnm hH hl
  have hl : lh ls 5 [some (.ref r), some (.int (nI i)), some (.int (nI kk)), none, none] := hl
  have hL : ∀ q ∈ ([] : List Loc), (f0) q.base := fun q h => by cases h
  obtain ⟨-, hC1, hC2⟩ := hB
  have lp : ∀ (k j : Nat) (s2 b : Int32)  (locs : List Loc) (ls : Array Slot), (en + 1 ≤ j + k) → (j ≤ en) → (s2 = nI (mIn A (nI i) (A 1 (60 * i + kk)) j)) → (b = nI j) → (∀ q ∈ locs, (f0) q.base) → lh ls 5 [some (.ref r), some (.int (nI i)), some (.int (nI kk)), some (.int s2), some (.int b)] → W p l e ({ frames := 0, cells := 0, slots := 0, locals := 0 } : Room) s m args below meth c H locs 0 0 (hQ below args s (fun v H1 => v = some (.int (nI (mIn A (nI i) (A 1 (60 * i + kk)) en))) ∧ H1 = H) 0 0 (f0)) (F0 m 5 ls []) := by
    intro k
    induction k with
    | zero =>
      intro j s2 b  locs ls hd9 hj es eb hL hl
      exfalso; omega
    | succ k ih =>
      intro j s2 b  locs ls hd9 hj es eb hL hl
      refine hb_iload G dX2_inSegment_5 hl rfl ?_
      refine hb_aload_n G dX2_inSegment_7 hl rfl ?_
      refine hb_get G h.1 rfl inX2 11 (by decide) kf_X2_71 rfl rfl dX2_inSegment_8 ?_
      refine lv_icmp_ge (tgt := 60) G.1 G.2.1 dX2_inSegment_11 (by decide) (fun c_1 => ?_) (fun c_1 => ?_)
      · have hj2 : j = en := by have := (ic_le rfl eb (by omega) (by omega)).mp c_1; omega
        subst hj2
        refine hb_iload_n G dX2_inSegment_60 hl rfl ?_
        exact hb_iret G hr hlocks ⟨by rw [es], rfl⟩ hL (Nat.le_refl _) (Nat.le_refl _) dX2_inSegment_61
      · have hj2 : j < en := by have := mt (ic_le rfl eb (by omega) (by omega)).mpr c_1; omega
        refine hb_iload_n G dX2_inSegment_14 hl rfl ?_
        refine hb_aload_n G dX2_inSegment_15 hl rfl ?_
        refine hb_get G h.1 rfl inX2 12 (by decide) kf_X2_30 rfl rfl dX2_inSegment_16 ?_
        refine hb_iload G dX2_inSegment_19 hl rfl ?_
        refine hb_iald G (show ia g (a 5) C (A 5) _ from h.2.1 5 (by decide)) (by rw [eb]; exact vp_in_nI (by omega) (by omega)) dX2_inSegment_21 ?_
        refine lv_topi (fun r_2 er_2 => ?_)
        have er_2 : r_2 = A 5 (j) := by rw [er_2, show (b).toNatClampNeg = j by rw [eb]; exact nI_clamp (by omega)]
        refine hb_iload_n G dX2_inSegment_22 hl rfl ?_
        refine lv_icmp_ne (tgt := 51) G.1 G.2.1 dX2_inSegment_23 (by decide) (fun c_3 => ?_) (fun c_3 => ?_)
        · refine lv_iconst (v := 0) G.1 G.2.1 dX2_inSegment_51 (by decide) ?_
          refine lv_iadd G.1 G.2.1 dX2_inSegment_52 ?_
          refine lv_topi (fun t_4 et_4 => ?_)
          refine hb_istore_n G dX2_inSegment_53 hl (by decide) (fun ls hl => ?_)
          have hl : lh ls 5 [some (.ref r), some (.int (nI i)), some (.int (nI kk)), some (.int t_4), some (.int b)] := hl
          obtain ⟨t_5, et_5⟩ : ∃ z : Int32, z = b + 1 := ⟨_, rfl⟩
          refine hb_iinc (v := t_5) G dX2_inSegment_54 hl rfl (by rw [et_5]; rfl) (by decide) (fun ls hl => ?_)
          have hl : lh ls 5 [some (.ref r), some (.int (nI i)), some (.int (nI kk)), some (.int t_4), some (.int t_5)] := hl
          refine lv_goto (tgt := 5) G.1 G.2.1 dX2_inSegment_57 (by decide) ?_
          exact ih (j + 1) t_4 t_5 locs ls (by omega) (by omega) (by simp only [mIn]; rw [if_neg (fun q => c_3 (by rw [er_2]; exact q.1)), et_4, es]; exact by rw [Nat.add_zero]; exact nI_add _ 0) (by rw [et_5, eb]; exact nI_1 j) hL hl
        · refine hb_aload_n G dX2_inSegment_26 hl rfl ?_
          refine hb_get G h.1 rfl inX2 15 (by decide) kf_X2_39 rfl rfl dX2_inSegment_27 ?_
          refine hb_iload G dX2_inSegment_30 hl rfl ?_
          refine hb_iald G (show ia g (a 8) C (A 8) _ from h.2.1 8 (by decide)) (by rw [eb]; exact vp_in_nI (by omega) (by omega)) dX2_inSegment_32 ?_
          refine lv_topi (fun r_6 er_6 => ?_)
          have er_6 : r_6 = A 8 (j) := by rw [er_6, show (b).toNatClampNeg = j by rw [eb]; exact nI_clamp (by omega)]
          refine hb_aload_n G dX2_inSegment_33 hl rfl ?_
          refine hb_get G h.1 rfl inX2 7 (by decide) kf_X2_17 rfl rfl dX2_inSegment_34 ?_
          refine lv_bipush (v := 60) G.1 G.2.1 dX2_inSegment_37 (by decide) ?_
          refine hb_iload_n G dX2_inSegment_39 hl rfl ?_
          refine lv_imul G.1 G.2.1 dX2_inSegment_40 ?_
          refine lv_topi (fun t_7 et_7 => ?_)
          refine hb_iload_n G dX2_inSegment_41 hl rfl ?_
          refine lv_iadd G.1 G.2.1 dX2_inSegment_42 ?_
          refine lv_topi (fun t_8 et_8 => ?_)
          have hix : t_8 = nI (60 * i + kk) := by rw [et_8, et_7]; exact nI_60 _ _
          refine hb_iald G (show ia g (a 1) 240 (A 1) _ from h.2.1 1 (by decide)) (by rw [hix]; exact vp_in_nI (by omega) (by decide)) dX2_inSegment_43 ?_
          refine lv_topi (fun r_9 er_9 => ?_)
          have er_9 : r_9 = A 1 (60 * i + kk) := by rw [er_9, show (t_8).toNatClampNeg = 60 * i + kk by rw [hix]; exact nI_clamp (by omega)]
          refine lv_icmp_ne (tgt := 51) G.1 G.2.1 dX2_inSegment_44 (by decide) (fun c_10 => ?_) (fun c_10 => ?_)
          · refine lv_iconst (v := 0) G.1 G.2.1 dX2_inSegment_51 (by decide) ?_
            refine lv_iadd G.1 G.2.1 dX2_inSegment_52 ?_
            refine lv_topi (fun t_11 et_11 => ?_)
            refine hb_istore_n G dX2_inSegment_53 hl (by decide) (fun ls hl => ?_)
            have hl : lh ls 5 [some (.ref r), some (.int (nI i)), some (.int (nI kk)), some (.int t_11), some (.int b)] := hl
            obtain ⟨t_12, et_12⟩ : ∃ z : Int32, z = b + 1 := ⟨_, rfl⟩
            refine hb_iinc (v := t_12) G dX2_inSegment_54 hl rfl (by rw [et_12]; rfl) (by decide) (fun ls hl => ?_)
            have hl : lh ls 5 [some (.ref r), some (.int (nI i)), some (.int (nI kk)), some (.int t_11), some (.int t_12)] := hl
            refine lv_goto (tgt := 5) G.1 G.2.1 dX2_inSegment_57 (by decide) ?_
            exact ih (j + 1) t_11 t_12 locs ls (by omega) (by omega) (by simp only [mIn]; rw [if_neg (fun q => c_10 (by rw [er_6, er_9]; exact q.2)), et_11, es]; exact by rw [Nat.add_zero]; exact nI_add _ 0) (by rw [et_12, eb]; exact nI_1 j) hL hl
          · refine lv_iconst (v := 1) G.1 G.2.1 dX2_inSegment_47 (by decide) ?_
            refine lv_goto (tgt := 52) G.1 G.2.1 dX2_inSegment_48 (by decide) ?_
            refine lv_iadd G.1 G.2.1 dX2_inSegment_52 ?_
            refine lv_topi (fun t_13 et_13 => ?_)
            refine hb_istore_n G dX2_inSegment_53 hl (by decide) (fun ls hl => ?_)
            have hl : lh ls 5 [some (.ref r), some (.int (nI i)), some (.int (nI kk)), some (.int t_13), some (.int b)] := hl
            obtain ⟨t_14, et_14⟩ : ∃ z : Int32, z = b + 1 := ⟨_, rfl⟩
            refine hb_iinc (v := t_14) G dX2_inSegment_54 hl rfl (by rw [et_14]; rfl) (by decide) (fun ls hl => ?_)
            have hl : lh ls 5 [some (.ref r), some (.int (nI i)), some (.int (nI kk)), some (.int t_13), some (.int t_14)] := hl
            refine lv_goto (tgt := 5) G.1 G.2.1 dX2_inSegment_57 (by decide) ?_
            exact ih (j + 1) t_13 t_14 locs ls (by omega) (by omega) (by simp only [mIn]; rw [if_pos ⟨by rw [← er_2]; exact c_3, by rw [← er_6, ← er_9]; exact c_10⟩, et_13, es]; exact nI_1 _) (by rw [et_14, eb]; exact nI_1 j) hL hl
  refine lv_iconst (v := 0) G.1 G.2.1 dX2_inSegment_0 (by decide) ?_
  refine hb_istore_n G dX2_inSegment_1 hl (by decide) (fun ls hl => ?_)
  have hl : lh ls 5 [some (.ref r), some (.int (nI i)), some (.int (nI kk)), some (.int 0), none] := hl
  refine lv_iconst (v := 0) G.1 G.2.1 dX2_inSegment_2 (by decide) ?_
  refine hb_istore G dX2_inSegment_3 hl (by decide) (fun ls hl => ?_)
  have hl : lh ls 5 [some (.ref r), some (.int (nI i)), some (.int (nI kk)), some (.int 0), some (.int 0)] := hl
  exact lp (en + 1) 0 0 0 [] ls (by omega) (by omega) rfl rfl hL hl
set_option maxHeartbeats 4000000 in
set_option maxRecDepth 100000 in
/-- entryOf -/
theorem m_entryOf (g : Gx) (l : Launch) (r S B C : Nat) (a : Nat → Nat) (A : Nat → Nat → Int32) (cd wr lf dn : Int32) (en pl : Nat) (H : Heap) (h : mdAt g r S B C a A cd wr lf dn en pl H) (hB : mdB S B C en) (x : Int32) (n : Nat) (hn : n < mCnt (A 5) x en) : HM g l yX2_entryOf cX2_entryOf 5 (some .int) 0 0 0 0 [.ref r, .int x, .int (nI n)] H (fun v H1 => (∃ e, e < en ∧ A 5 e = x ∧ mCnt (A 5) x e = n ∧ v = some (.int (nI e))) ∧ H1 = H) (f0) := by
  refine HM.ofW (by decide) (Nat.le_of_ble_eq_true rfl) (by simp [Value.category]) ?_
  intro p e s m args below meth c ls G hr hml hlocks hnm hH hl
  have hl : lh ls 5 [some (.ref r), some (.int x), some (.int (nI n)), none, none] := hl
  have hL : ∀ q ∈ ([] : List Loc), (f0) q.base := fun q h => by cases h
  obtain ⟨-, hC1, hC2⟩ := hB
  have hle := mCnt_le (A 5) x en
  have lp : ∀ (k j : Nat) (s2 b : Int32) (rm : Nat) (locs : List Loc) (ls : Array Slot), (en + 1 ≤ j + k) → (j ≤ en) → (s2 = nI rm) → (b = nI j) → (mCnt (A 5) x j + rm = n) → (∀ q ∈ locs, (f0) q.base) → lh ls 5 [some (.ref r), some (.int x), some (.int (nI n)), some (.int s2), some (.int b)] → W p l e ({ frames := 0, cells := 0, slots := 0, locals := 0 } : Room) s m args below meth c H locs 0 0 (hQ below args s (fun v H1 => (∃ e, e < en ∧ A 5 e = x ∧ mCnt (A 5) x e = n ∧ v = some (.int (nI e))) ∧ H1 = H) 0 0 (f0)) (F0 m 5 ls []) := by
    intro k
    induction k with
    | zero =>
      intro j s2 b rm locs ls hd9 hj es eb hI hL hl
      exfalso; omega
    | succ k ih =>
      intro j s2 b rm locs ls hd9 hj es eb hI hL hl
      have hj2 : j < en := by
        rcases Nat.lt_or_ge j en with q | q
        · exact q
        · have : j = en := by omega
          subst this; omega
      refine hb_aload_n G dX2_entryOf_5 hl rfl ?_
      refine hb_get G h.1 rfl inX2 12 (by decide) kf_X2_30 rfl rfl dX2_entryOf_6 ?_
      refine hb_iload G dX2_entryOf_9 hl rfl ?_
      refine hb_iald G (show ia g (a 5) C (A 5) _ from h.2.1 5 (by decide)) (by rw [eb]; exact vp_in_nI (by omega) (by omega)) dX2_entryOf_11 ?_
      refine lv_topi (fun r_1 er_1 => ?_)
      have er_1 : r_1 = A 5 (j) := by rw [er_1, show (b).toNatClampNeg = j by rw [eb]; exact nI_clamp (by omega)]
      refine hb_iload_n G dX2_entryOf_12 hl rfl ?_
      refine lv_icmp_ne (tgt := 20) G.1 G.2.1 dX2_entryOf_13 (by decide) (fun c_2 => ?_) (fun c_2 => ?_)
      · refine hb_iload_n G dX2_entryOf_20 hl rfl ?_
        refine hb_aload_n G dX2_entryOf_21 hl rfl ?_
        refine hb_get G h.1 rfl inX2 12 (by decide) kf_X2_30 rfl rfl dX2_entryOf_22 ?_
        refine hb_iload G dX2_entryOf_25 hl rfl ?_
        refine hb_iald G (show ia g (a 5) C (A 5) _ from h.2.1 5 (by decide)) (by rw [eb]; exact vp_in_nI (by omega) (by omega)) dX2_entryOf_27 ?_
        refine lv_topi (fun r_3 er_3 => ?_)
        have er_3 : r_3 = A 5 (j) := by rw [er_3, show (b).toNatClampNeg = j by rw [eb]; exact nI_clamp (by omega)]
        refine hb_iload_n G dX2_entryOf_28 hl rfl ?_
        refine lv_icmp_ne (tgt := 36) G.1 G.2.1 dX2_entryOf_29 (by decide) (fun c_4 => ?_) (fun c_4 => ?_)
        · refine lv_iconst (v := 0) G.1 G.2.1 dX2_entryOf_36 (by decide) ?_
          refine lv_isub G.1 G.2.1 dX2_entryOf_37 ?_
          refine lv_topi (fun t_5 et_5 => ?_)
          refine hb_istore_n G dX2_entryOf_38 hl (by decide) (fun ls hl => ?_)
          have hl : lh ls 5 [some (.ref r), some (.int x), some (.int (nI n)), some (.int t_5), some (.int b)] := hl
          obtain ⟨t_6, et_6⟩ : ∃ z : Int32, z = b + 1 := ⟨_, rfl⟩
          refine hb_iinc (v := t_6) G dX2_entryOf_39 hl rfl (by rw [et_6]; rfl) (by decide) (fun ls hl => ?_)
          have hl : lh ls 5 [some (.ref r), some (.int x), some (.int (nI n)), some (.int t_5), some (.int t_6)] := hl
          refine lv_goto (tgt := 5) G.1 G.2.1 dX2_entryOf_42 (by decide) ?_
          exact ih (j + 1) t_5 t_6 rm locs ls (by omega) (by omega) (by rw [et_5, es]; exact pk_sub (b := 0) (Nat.zero_le _)) (by rw [et_6, eb]; exact nI_1 j) (by simp only [mCnt]; rw [if_neg (by rw [← er_3]; exact c_4)]; omega) hL hl
        · exact absurd (by rw [er_1, ← er_3]; exact c_4) c_2
      · refine hb_iload_n G dX2_entryOf_16 hl rfl ?_
        refine lv_if_le (tgt := 45) G.1 G.2.1 dX2_entryOf_17 (by decide) (fun c_7 => ?_) (fun c_7 => ?_)
        · have hr0 : rm = 0 := by have := (ic_le es (show (0 : Int32) = nI 0 from rfl) (by omega) (by omega)).mp c_7; omega
          refine hb_iload G dX2_entryOf_45 hl rfl ?_
          exact hb_iret G hr hlocks ⟨⟨j, hj2, by rw [← er_1]; exact c_2, by omega, by rw [eb]⟩, rfl⟩ hL (Nat.le_refl _) (Nat.le_refl _) dX2_entryOf_47
        · have hr0 : 0 < rm := by have := mt (ic_le es (show (0 : Int32) = nI 0 from rfl) (by omega) (by omega)).mpr c_7; omega
          refine hb_iload_n G dX2_entryOf_20 hl rfl ?_
          refine hb_aload_n G dX2_entryOf_21 hl rfl ?_
          refine hb_get G h.1 rfl inX2 12 (by decide) kf_X2_30 rfl rfl dX2_entryOf_22 ?_
          refine hb_iload G dX2_entryOf_25 hl rfl ?_
          refine hb_iald G (show ia g (a 5) C (A 5) _ from h.2.1 5 (by decide)) (by rw [eb]; exact vp_in_nI (by omega) (by omega)) dX2_entryOf_27 ?_
          refine lv_topi (fun r_8 er_8 => ?_)
          have er_8 : r_8 = A 5 (j) := by rw [er_8, show (b).toNatClampNeg = j by rw [eb]; exact nI_clamp (by omega)]
          refine hb_iload_n G dX2_entryOf_28 hl rfl ?_
          refine lv_icmp_ne (tgt := 36) G.1 G.2.1 dX2_entryOf_29 (by decide) (fun c_9 => ?_) (fun c_9 => ?_)
          · exact absurd (by rw [er_8, ← er_1]; exact c_2) c_9
          · refine lv_iconst (v := 1) G.1 G.2.1 dX2_entryOf_32 (by decide) ?_
            refine lv_goto (tgt := 37) G.1 G.2.1 dX2_entryOf_33 (by decide) ?_
            refine lv_isub G.1 G.2.1 dX2_entryOf_37 ?_
            refine lv_topi (fun t_10 et_10 => ?_)
            refine hb_istore_n G dX2_entryOf_38 hl (by decide) (fun ls hl => ?_)
            have hl : lh ls 5 [some (.ref r), some (.int x), some (.int (nI n)), some (.int t_10), some (.int b)] := hl
            obtain ⟨t_11, et_11⟩ : ∃ z : Int32, z = b + 1 := ⟨_, rfl⟩
            refine hb_iinc (v := t_11) G dX2_entryOf_39 hl rfl (by rw [et_11]; rfl) (by decide) (fun ls hl => ?_)
            have hl : lh ls 5 [some (.ref r), some (.int x), some (.int (nI n)), some (.int t_10), some (.int t_11)] := hl
            refine lv_goto (tgt := 5) G.1 G.2.1 dX2_entryOf_42 (by decide) ?_
            exact ih (j + 1) t_10 t_11 (rm - 1) locs ls (by omega) (by omega) (by rw [et_10, es]; exact nI_m1 hr0) (by rw [et_11, eb]; exact nI_1 j) (by simp only [mCnt]; rw [if_pos (by rw [← er_8]; exact c_9)]; omega) hL hl
  refine hb_iload_n G dX2_entryOf_0 hl rfl ?_
  refine hb_istore_n G dX2_entryOf_1 hl (by decide) (fun ls hl => ?_)
  have hl : lh ls 5 [some (.ref r), some (.int x), some (.int (nI n)), some (.int (nI n)), none] := hl
  refine lv_iconst (v := 0) G.1 G.2.1 dX2_entryOf_2 (by decide) ?_
  refine hb_istore G dX2_entryOf_3 hl (by decide) (fun ls hl => ?_)
  have hl : lh ls 5 [some (.ref r), some (.int x), some (.int (nI n)), some (.int (nI n)), some (.int 0)] := hl
  exact lp (en + 1) 0 (nI n) 0 n [] ls (by omega) (by omega) rfl rfl (by simp only [mCnt]; omega) hL hl
set_option maxHeartbeats 4000000 in
set_option maxRecDepth 100000 in
/-- sum -/
theorem m_sum (g : Gx) (l : Launch) (r S B C : Nat) (a : Nat → Nat) (A : Nat → Nat → Int32) (cd wr lf dn : Int32) (en pl : Nat) (H : Heap) (h : mdAt g r S B C a A cd wr lf dn en pl H) (hB : mdB S B C en) (hA : sgOk S A) (i : Nat) (hi : i < 4) : HM g l yX2_sum cX2_sum 4 (some .int) 0 0 0 0 [.ref r, .int (nI i)] H (fun v H1 => v = some (.int (lgSm (A 2) (60 * i) (tn (A 0 i)))) ∧ H1 = H) (f0) := by
  refine HM.ofW (by decide) (Nat.le_of_ble_eq_true rfl) (by simp [Value.category]) ?_
  intro p e s m args below meth c ls G hr hml hlocks hnm hH hl
  have hl : lh ls 4 [some (.ref r), some (.int (nI i)), none, none] := hl
  have hL : ∀ q ∈ ([] : List Loc), (f0) q.base := fun q h => by cases h
  obtain ⟨hs0, hs1, hs2⟩ := hA i hi
  have lp : ∀ (k j : Nat) (s2 b : Int32)  (locs : List Loc) (ls : Array Slot), (tn (A 0 i) + 1 ≤ j + k) → (j ≤ tn (A 0 i)) → (s2 = lgSm (A 2) (60 * i) j) → (b = nI j) → (∀ q ∈ locs, (f0) q.base) → lh ls 4 [some (.ref r), some (.int (nI i)), some (.int s2), some (.int b)] → W p l e ({ frames := 0, cells := 0, slots := 0, locals := 0 } : Room) s m args below meth c H locs 0 0 (hQ below args s (fun v H1 => v = some (.int (lgSm (A 2) (60 * i) (tn (A 0 i)))) ∧ H1 = H) 0 0 (f0)) (F0 m 4 ls []) := by
    intro k
    induction k with
    | zero =>
      intro j s2 b  locs ls hd9 hj es eb hL hl
      exfalso; omega
    | succ k ih =>
      intro j s2 b  locs ls hd9 hj es eb hL hl
      refine hb_iload_n G dX2_sum_4 hl rfl ?_
      refine hb_aload_n G dX2_sum_5 hl rfl ?_
      refine hb_get G h.1 rfl inX2 6 (by decide) kf_X2_13 rfl rfl dX2_sum_6 ?_
      refine hb_iload_n G dX2_sum_9 hl rfl ?_
      refine hb_iald G (show ia g (a 0) 4 (A 0) _ from h.2.1 0 (by decide)) (by rw [show nI i = nI i from rfl]; exact vp_in_nI (by omega) (by decide)) dX2_sum_10 ?_
      refine lv_topi (fun r_1 er_1 => ?_)
      have er_1 : r_1 = A 0 (i) := by rw [er_1, show ((nI i)).toNatClampNeg = i by rw [show nI i = nI i from rfl]; exact nI_clamp (by omega)]
      have er_1 : r_1 = nI (tn (A 0 i)) := by rw [er_1]; exact hs0
      refine lv_icmp_ge (tgt := 34) G.1 G.2.1 dX2_sum_11 (by decide) (fun c_2 => ?_) (fun c_2 => ?_)
      · have hj2 : j = tn (A 0 i) := by have := (ic_le er_1 eb (by omega) (by omega)).mp c_2; omega
        subst hj2
        refine hb_iload_n G dX2_sum_34 hl rfl ?_
        exact hb_iret G hr hlocks ⟨by rw [es], rfl⟩ hL (Nat.le_refl _) (Nat.le_refl _) dX2_sum_35
      · have hj2 : j < tn (A 0 i) := by have := mt (ic_le er_1 eb (by omega) (by omega)).mpr c_2; omega
        refine hb_iload_n G dX2_sum_14 hl rfl ?_
        refine hb_aload_n G dX2_sum_15 hl rfl ?_
        refine hb_get G h.1 rfl inX2 8 (by decide) kf_X2_20 rfl rfl dX2_sum_16 ?_
        refine lv_bipush (v := 60) G.1 G.2.1 dX2_sum_19 (by decide) ?_
        refine hb_iload_n G dX2_sum_21 hl rfl ?_
        refine lv_imul G.1 G.2.1 dX2_sum_22 ?_
        refine lv_topi (fun t_3 et_3 => ?_)
        refine hb_iload_n G dX2_sum_23 hl rfl ?_
        refine lv_iadd G.1 G.2.1 dX2_sum_24 ?_
        refine lv_topi (fun t_4 et_4 => ?_)
        have hix : t_4 = nI (60 * i + j) := by rw [et_4, et_3, eb]; exact nI_60 _ _
        refine hb_iald G (show ia g (a 2) 240 (A 2) _ from h.2.1 2 (by decide)) (by rw [hix]; exact vp_in_nI (by omega) (by decide)) dX2_sum_25 ?_
        refine lv_topi (fun r_5 er_5 => ?_)
        have er_5 : r_5 = A 2 (60 * i + j) := by rw [er_5, show (t_4).toNatClampNeg = 60 * i + j by rw [hix]; exact nI_clamp (by omega)]
        refine lv_iadd G.1 G.2.1 dX2_sum_26 ?_
        refine lv_topi (fun t_6 et_6 => ?_)
        refine hb_istore_n G dX2_sum_27 hl (by decide) (fun ls hl => ?_)
        have hl : lh ls 4 [some (.ref r), some (.int (nI i)), some (.int t_6), some (.int b)] := hl
        obtain ⟨t_7, et_7⟩ : ∃ z : Int32, z = b + 1 := ⟨_, rfl⟩
        refine hb_iinc (v := t_7) G dX2_sum_28 hl rfl (by rw [et_7]; rfl) (by decide) (fun ls hl => ?_)
        have hl : lh ls 4 [some (.ref r), some (.int (nI i)), some (.int t_6), some (.int t_7)] := hl
        refine lv_goto (tgt := 4) G.1 G.2.1 dX2_sum_31 (by decide) ?_
        exact ih (j + 1) t_6 t_7 locs ls (by omega) (by omega) (by rw [et_6, es, er_5]; rfl) (by rw [et_7, eb]; exact nI_1 j) hL hl
  refine lv_iconst (v := 0) G.1 G.2.1 dX2_sum_0 (by decide) ?_
  refine hb_istore_n G dX2_sum_1 hl (by decide) (fun ls hl => ?_)
  have hl : lh ls 4 [some (.ref r), some (.int (nI i)), some (.int 0), none] := hl
  refine lv_iconst (v := 0) G.1 G.2.1 dX2_sum_2 (by decide) ?_
  refine hb_istore_n G dX2_sum_3 hl (by decide) (fun ls hl => ?_)
  have hl : lh ls 4 [some (.ref r), some (.int (nI i)), some (.int 0), some (.int 0)] := hl
  exact lp (tn (A 0 i) + 1) 0 0 0 [] ls (by omega) (by omega) rfl rfl hL hl
set_option maxHeartbeats 4000000 in
set_option maxRecDepth 100000 in
/-- closed -/
theorem m_closed (g : Gx) (l : Launch) (r S B C : Nat) (a : Nat → Nat) (A : Nat → Nat → Int32) (cd wr lf dn : Int32) (en pl : Nat) (H : Heap) (h : mdAt g r S B C a A cd wr lf dn en pl H) (hB : mdB S B C en) (hA : sgOk S A) (i : Nat) (hi : i < 4) : HM g l yX2_closed cX2_closed 2 (some .int) 1 24 0 0 [.ref r, .int (nI i)] H (fun v H1 => v = some (.int (mCl A i en)) ∧ H1 = H) (f0) := by
  refine HM.ofW (by decide) (Nat.le_of_ble_eq_true rfl) (by simp [Value.category]) ?_
  intro p e s m args below meth c ls G hr hml hlocks hnm hH hl
  have hl : lh ls 2 [some (.ref r), some (.int (nI i))] := hl
  have hL : ∀ q ∈ ([] : List Loc), (f0) q.base := fun q h => by cases h
  obtain ⟨hs0, hs1, hs2⟩ := hA i hi
  refine hb_aload_n G dX2_closed_0 hl rfl ?_
  refine hb_get G h.1 rfl inX2 6 (by decide) kf_X2_13 rfl rfl dX2_closed_1 ?_
  refine hb_iload_n G dX2_closed_4 hl rfl ?_
  refine hb_iald G (show ia g (a 0) 4 (A 0) _ from h.2.1 0 (by decide)) (by rw [show nI i = nI i from rfl]; exact vp_in_nI (by omega) (by decide)) dX2_closed_5 ?_
  refine lv_topi (fun r_1 er_1 => ?_)
  have er_1 : r_1 = A 0 (i) := by rw [er_1, show ((nI i)).toNatClampNeg = i by rw [show nI i = nI i from rfl]; exact nI_clamp (by omega)]
  refine lv_if_ne (tgt := 13) G.1 G.2.1 dX2_closed_6 (by decide) (fun c_2 => ?_) (fun c_2 => ?_)
  · have hne : ¬ A 0 i = 0 := by rw [← er_1]; exact c_2
    have hpos : 0 < tn (A 0 i) := Nat.pos_of_ne_zero (fun q => hne (by rw [hs0, q]; rfl))
    refine hb_aload_n G dX2_closed_13 hl rfl ?_
    refine hb_iload_n G dX2_closed_14 hl rfl ?_
    refine hb_callV (As := [.int (nI i)]) (rest := []) G hml (m_count g l r S B C a A cd wr lf dn en pl _ h hB (nI i)) (h.1) rfl km_X2_115 ki_X2_count ks_X2_count kn_X2 ko_X2_count hd_X2_count ⟨Nat.le_of_ble_eq_true rfl, Nat.le_of_ble_eq_true rfl⟩ hl.size rfl (Nat.le_of_ble_eq_true rfl) dX2_closed_15 ⟨Nat.le_of_ble_eq_true rfl, Nat.le_of_ble_eq_true rfl⟩ hL (f0_in) (fun v1 H locs1 hp hL => ?_)
    obtain ⟨rfl, rfl⟩ := hp
    refine lv_topi (fun r_3 er_3 => ?_)
    refine hb_aload_n G dX2_closed_18 hl rfl ?_
    refine hb_iload_n G dX2_closed_19 hl rfl ?_
    refine hb_aload_n G dX2_closed_20 hl rfl ?_
    refine hb_get G h.1 rfl inX2 6 (by decide) kf_X2_13 rfl rfl dX2_closed_21 ?_
    refine hb_iload_n G dX2_closed_24 hl rfl ?_
    refine hb_iald G (show ia g (a 0) 4 (A 0) _ from h.2.1 0 (by decide)) (by rw [show nI i = nI i from rfl]; exact vp_in_nI (by omega) (by decide)) dX2_closed_25 ?_
    refine lv_topi (fun r_4 er_4 => ?_)
    have er_4 : r_4 = A 0 (i) := by rw [er_4, show ((nI i)).toNatClampNeg = i by rw [show nI i = nI i from rfl]; exact nI_clamp (by omega)]
    refine lv_iconst (v := 1) G.1 G.2.1 dX2_closed_26 (by decide) ?_
    refine lv_isub G.1 G.2.1 dX2_closed_27 ?_
    refine lv_topi (fun t_5 et_5 => ?_)
    obtain rfl : t_5 = nI (tn (A 0 i) - 1) := by rw [et_5, er_4, hs0, tn_nI (by omega)]; exact nI_m1 hpos
    refine hb_callV (As := [.int (nI i), .int (nI (tn (A 0 i) - 1))]) (rest := [.int r_3]) G hml (m_inSegment g l r S B C a A cd wr lf dn en pl _ h hB i (tn (A 0 i) - 1) hi (by omega)) (h.1) rfl km_X2_108 ki_X2_inSegment ks_X2_inSegment kn_X2 ko_X2_inSegment hd_X2_inSegment ⟨Nat.le_of_ble_eq_true rfl, Nat.le_of_ble_eq_true rfl⟩ hl.size rfl (Nat.le_of_ble_eq_true rfl) dX2_closed_28 ⟨Nat.le_of_ble_eq_true rfl, Nat.le_of_ble_eq_true rfl⟩ hL (f0_in) (fun v1 H locs1 hp hL => ?_)
    obtain ⟨rfl, rfl⟩ := hp
    refine lv_topi (fun r_6 er_6 => ?_)
    refine lv_isub G.1 G.2.1 dX2_closed_31 ?_
    refine lv_topi (fun t_7 et_7 => ?_)
    exact hb_iret G hr hlocks ⟨by unfold mCl; rw [if_neg hne, et_7, er_3, er_6], rfl⟩ hL (Nat.le_refl _) (Nat.le_refl _) dX2_closed_32
  · refine lv_iconst (v := 0) G.1 G.2.1 dX2_closed_9 (by decide) ?_
    refine lv_goto (tgt := 32) G.1 G.2.1 dX2_closed_10 (by decide) ?_
    exact hb_iret G hr hlocks ⟨by unfold mCl; rw [if_pos (by rw [← er_1]; exact c_2)], rfl⟩ hL (Nat.le_refl _) (Nat.le_refl _) dX2_closed_32
abbrev mIsE (A : Nat → Nat → Int32) (dn : Int32) (en : Nat) (x n : Int32) : Prop := (0 ≤ x ∧ x < 4) ∧ (¬ dn = 0 ∨ (0 ≤ n ∧ n < nI (mCnt (A 5) x en)))
set_option maxHeartbeats 4000000 in
set_option maxRecDepth 100000 in
/-- isEntry -/
theorem m_isEntry (g : Gx) (l : Launch) (r S B C : Nat) (a : Nat → Nat) (A : Nat → Nat → Int32) (cd wr lf dn : Int32) (en pl : Nat) (H : Heap) (h : mdAt g r S B C a A cd wr lf dn en pl H) (hB : mdB S B C en) (x n : Int32) : HM g l yX2_isEntry cX2_isEntry 3 (some .boolean) 1 23 0 0 [.ref r, .int x, .int n] H (fun v H1 => v = some (.int (if mIsE A dn en x n then 1 else 0)) ∧ H1 = H) (f0) := by
  refine HM.ofW (by decide) (Nat.le_of_ble_eq_true rfl) (by simp [Value.category]) ?_
  intro p e s m args below meth c ls G hr hml hlocks hnm hH hl
  have hl : lh ls 3 [some (.ref r), some (.int x), some (.int n)] := hl
  have hL : ∀ q ∈ ([] : List Loc), (f0) q.base := fun q h => by cases h
  refine hb_iload_n G dX2_isEntry_0 hl rfl ?_
  refine hb_callS (As := [.int x]) (rest := []) G hml (m_isLog g l x _) km_X2_78 kt_X2_isLog kn_X2 ko_X2_isLog hd_X2_isLog ⟨Nat.le_of_ble_eq_true rfl, Nat.le_of_ble_eq_true rfl⟩ hl.size rfl (Nat.le_of_ble_eq_true rfl) dX2_isEntry_1 ⟨Nat.le_of_ble_eq_true rfl, Nat.le_of_ble_eq_true rfl⟩ hL (f0_in) (fun v1 H locs1 hp hL => ?_)
  obtain ⟨rfl, rfl⟩ := hp
  refine lv_topi (fun r_1 er_1 => ?_)
  refine lv_if_eq (tgt := 31) G.1 G.2.1 dX2_isEntry_4 (by decide) (fun c_2 => ?_) (fun c_2 => ?_)
  · refine lv_iconst (v := 0) G.1 G.2.1 dX2_isEntry_31 (by decide) ?_
    exact hb_zret G hr hlocks (by decide) ⟨by rw [if_neg (fun q => (it0 er_1).mp c_2 q.1)], rfl⟩ hL (Nat.le_refl _) (Nat.le_refl _) dX2_isEntry_32
  · have hlg : 0 ≤ x ∧ x < 4 := Decidable.not_not.mp (fun q => c_2 ((it0 er_1).mpr q))
    refine hb_aload_n G dX2_isEntry_7 hl rfl ?_
    refine hb_get G h.1 rfl inX2 5 (by decide) kf_X2_60 rfl rfl dX2_isEntry_8 ?_
    refine lv_if_ne (tgt := 27) G.1 G.2.1 dX2_isEntry_11 (by decide) (fun c_3 => ?_) (fun c_3 => ?_)
    · refine lv_iconst (v := 1) G.1 G.2.1 dX2_isEntry_27 (by decide) ?_
      refine lv_goto (tgt := 32) G.1 G.2.1 dX2_isEntry_28 (by decide) ?_
      exact hb_zret G hr hlocks (by decide) ⟨by rw [if_pos ⟨hlg, Or.inl c_3⟩], rfl⟩ hL (Nat.le_refl _) (Nat.le_refl _) dX2_isEntry_32
    · refine hb_iload_n G dX2_isEntry_14 hl rfl ?_
      refine lv_if_lt (tgt := 31) G.1 G.2.1 dX2_isEntry_15 (by decide) (fun c_4 => ?_) (fun c_4 => ?_)
      · refine lv_iconst (v := 0) G.1 G.2.1 dX2_isEntry_31 (by decide) ?_
        exact hb_zret G hr hlocks (by decide) ⟨by rw [if_neg (fun q => q.2.elim (fun q1 => q1 c_3) (fun q2 => i32_nlt.mpr q2.1 c_4))], rfl⟩ hL (Nat.le_refl _) (Nat.le_refl _) dX2_isEntry_32
      · refine hb_iload_n G dX2_isEntry_18 hl rfl ?_
        refine hb_aload_n G dX2_isEntry_19 hl rfl ?_
        refine hb_iload_n G dX2_isEntry_20 hl rfl ?_
        refine hb_callV (As := [.int x]) (rest := [.int n]) G hml (m_count g l r S B C a A cd wr lf dn en pl _ h hB x) (h.1) rfl km_X2_115 ki_X2_count ks_X2_count kn_X2 ko_X2_count hd_X2_count ⟨Nat.le_of_ble_eq_true rfl, Nat.le_of_ble_eq_true rfl⟩ hl.size rfl (Nat.le_of_ble_eq_true rfl) dX2_isEntry_21 ⟨Nat.le_of_ble_eq_true rfl, Nat.le_of_ble_eq_true rfl⟩ hL (f0_in) (fun v1 H locs1 hp hL => ?_)
        obtain ⟨rfl, rfl⟩ := hp
        refine lv_topi (fun r_5 er_5 => ?_)
        refine lv_icmp_ge (tgt := 31) G.1 G.2.1 dX2_isEntry_24 (by decide) (fun c_6 => ?_) (fun c_6 => ?_)
        · refine lv_iconst (v := 0) G.1 G.2.1 dX2_isEntry_31 (by decide) ?_
          exact hb_zret G hr hlocks (by decide) ⟨by rw [if_neg (fun q => q.2.elim (fun q1 => q1 c_3) (fun q2 => i32_nlt.mpr (by rw [← er_5]; exact c_6) q2.2))], rfl⟩ hL (Nat.le_refl _) (Nat.le_refl _) dX2_isEntry_32
        · refine lv_iconst (v := 1) G.1 G.2.1 dX2_isEntry_27 (by decide) ?_
          refine lv_goto (tgt := 32) G.1 G.2.1 dX2_isEntry_28 (by decide) ?_
          exact hb_zret G hr hlocks (by decide) ⟨by rw [if_pos ⟨hlg, Or.inr ⟨i32_nlt.mp c_4, by rw [← er_5]; exact i32_nle.mp c_6⟩⟩], rfl⟩ hL (Nat.le_refl _) (Nat.le_refl _) dX2_isEntry_32
def mCp (A : Nat → Nat → Int32) (f t : Nat) : Nat → Nat → Int32 := va_up (va_up (va_up (va_up (va_up A 5 (upd (A 5) t (A 5 f))) 6 (upd (A 6) t (A 6 f))) 7 (upd (A 7) t (A 7 f))) 8 (upd (A 8) t (A 8 f))) 9 (upd (A 9) t (A 9 f))
theorem mCp_ne {A : Nat → Nat → Int32} {f t k : Nat} (h : k < 5 ∨ 9 < k) : mCp A f t k = A k := by
  unfold mCp
  rw [va_up_ne _ _ (by omega), va_up_ne _ _ (by omega), va_up_ne _ _ (by omega), va_up_ne _ _ (by omega), va_up_ne _ _ (by omega)]
theorem mCp_in {A : Nat → Nat → Int32} {f t k : Nat} (h1 : 5 ≤ k) (h2 : k ≤ 9) : mCp A f t k = upd (A k) t (A k f) := by
  rcases (show k = 5 ∨ k = 6 ∨ k = 7 ∨ k = 8 ∨ k = 9 by omega) with rfl | rfl | rfl | rfl | rfl <;> rfl
set_option maxHeartbeats 4000000 in
set_option maxRecDepth 100000 in
/-- copy -/
theorem m_copy (g : Gx) (l : Launch) (r S B C : Nat) (a : Nat → Nat) (A : Nat → Nat → Int32) (cd wr lf dn : Int32) (en pl : Nat) (H : Heap) (h : mdAt g r S B C a A cd wr lf dn en pl H) (hC : C ≤ 512) (f t : Nat) (hf : f < C) (ht : t < C) : HM g l yX2_copy cX2_copy 3 none 0 0 0 0 [.ref r, .int (nI f), .int (nI t)] H (fun v H1 => v = none ∧ mdAt g r S B C a (mCp A f t) cd wr lf dn en pl H1 ∧ Mo r a H H1) (fM r a) := by
  refine HM.ofW (by decide) (Nat.le_of_ble_eq_true rfl) (by simp [Value.category]) ?_
  intro p e s m args below meth c ls G hr hml hlocks hnm hH hl
  have hl : lh ls 3 [some (.ref r), some (.int (nI f)), some (.int (nI t))] := hl
  have hL : ∀ q ∈ ([] : List Loc), (fM r a) q.base := fun q h => by cases h
  refine hb_aload_n G dX2_copy_0 hl rfl ?_
  refine hb_get G h.1 rfl inX2 12 (by decide) kf_X2_30 rfl rfl dX2_copy_1 ?_
  refine hb_iload_n G dX2_copy_4 hl rfl ?_
  refine hb_aload_n G dX2_copy_5 hl rfl ?_
  refine hb_get G h.1 rfl inX2 12 (by decide) kf_X2_30 rfl rfl dX2_copy_6 ?_
  refine hb_iload_n G dX2_copy_9 hl rfl ?_
  refine hb_iald G (show ia g (a 5) C (A 5) _ from h.2.1 5 (by decide)) (by rw [show nI f = nI f from rfl]; exact vp_in_nI (by omega) (by omega)) dX2_copy_10 ?_
  refine lv_topi (fun r_1 er_1 => ?_)
  have er_1 : r_1 = A 5 (f) := by rw [er_1, show ((nI f)).toNatClampNeg = f by rw [show nI f = nI f from rfl]; exact nI_clamp (by omega)]
  refine hb_iast G (show ia g (a 5) C (A 5) _ from h.2.1 5 (by decide)) (by rw [show nI t = nI t from rfl]; exact vp_in_nI (by omega) (by omega)) hL (fM_a (by decide)) dX2_copy_11 (fun K5 locs5 hg5 hz5 ho5 hL => ?_)
  rw [show ((nI t)).toNatClampNeg = t by rw [show nI t = nI t from rfl]; exact nI_clamp (by omega)] at hg5
  rw [er_1] at hg5
  have hk5 := h.up (k := 5) (by decide) hg5 ⟨hz5, ho5⟩
  have hm5 : Mo r a H K5 := (Mo.rf).tr (Mo.ar (k := 5) ⟨hz5, ho5⟩ (by decide))
  refine hb_aload_n G dX2_copy_12 hl rfl ?_
  refine hb_get G hk5.1 rfl inX2 13 (by decide) kf_X2_33 rfl rfl dX2_copy_13 ?_
  refine hb_iload_n G dX2_copy_16 hl rfl ?_
  refine hb_aload_n G dX2_copy_17 hl rfl ?_
  refine hb_get G hk5.1 rfl inX2 13 (by decide) kf_X2_33 rfl rfl dX2_copy_18 ?_
  refine hb_iload_n G dX2_copy_21 hl rfl ?_
  refine hb_iald G (show ia g (a 6) C (A 6) _ from hk5.2.1 6 (by decide)) (by rw [show nI f = nI f from rfl]; exact vp_in_nI (by omega) (by omega)) dX2_copy_22 ?_
  refine lv_topi (fun r_2 er_2 => ?_)
  have er_2 : r_2 = A 6 (f) := by rw [er_2, show ((nI f)).toNatClampNeg = f by rw [show nI f = nI f from rfl]; exact nI_clamp (by omega)]
  refine hb_iast G (show ia g (a 6) C (A 6) _ from hk5.2.1 6 (by decide)) (by rw [show nI t = nI t from rfl]; exact vp_in_nI (by omega) (by omega)) hL (fM_a (by decide)) dX2_copy_23 (fun K6 locs6 hg6 hz6 ho6 hL => ?_)
  rw [show ((nI t)).toNatClampNeg = t by rw [show nI t = nI t from rfl]; exact nI_clamp (by omega)] at hg6
  rw [er_2] at hg6
  have hk6 := hk5.up (k := 6) (by decide) hg6 ⟨hz6, ho6⟩
  have hm6 : Mo r a H K6 := (hm5).tr (Mo.ar (k := 6) ⟨hz6, ho6⟩ (by decide))
  refine hb_aload_n G dX2_copy_24 hl rfl ?_
  refine hb_get G hk6.1 rfl inX2 14 (by decide) kf_X2_36 rfl rfl dX2_copy_25 ?_
  refine hb_iload_n G dX2_copy_28 hl rfl ?_
  refine hb_aload_n G dX2_copy_29 hl rfl ?_
  refine hb_get G hk6.1 rfl inX2 14 (by decide) kf_X2_36 rfl rfl dX2_copy_30 ?_
  refine hb_iload_n G dX2_copy_33 hl rfl ?_
  refine hb_iald G (show ia g (a 7) C (A 7) _ from hk6.2.1 7 (by decide)) (by rw [show nI f = nI f from rfl]; exact vp_in_nI (by omega) (by omega)) dX2_copy_34 ?_
  refine lv_topi (fun r_3 er_3 => ?_)
  have er_3 : r_3 = A 7 (f) := by rw [er_3, show ((nI f)).toNatClampNeg = f by rw [show nI f = nI f from rfl]; exact nI_clamp (by omega)]
  refine hb_iast G (show ia g (a 7) C (A 7) _ from hk6.2.1 7 (by decide)) (by rw [show nI t = nI t from rfl]; exact vp_in_nI (by omega) (by omega)) hL (fM_a (by decide)) dX2_copy_35 (fun K7 locs7 hg7 hz7 ho7 hL => ?_)
  rw [show ((nI t)).toNatClampNeg = t by rw [show nI t = nI t from rfl]; exact nI_clamp (by omega)] at hg7
  rw [er_3] at hg7
  have hk7 := hk6.up (k := 7) (by decide) hg7 ⟨hz7, ho7⟩
  have hm7 : Mo r a H K7 := (hm6).tr (Mo.ar (k := 7) ⟨hz7, ho7⟩ (by decide))
  refine hb_aload_n G dX2_copy_36 hl rfl ?_
  refine hb_get G hk7.1 rfl inX2 15 (by decide) kf_X2_39 rfl rfl dX2_copy_37 ?_
  refine hb_iload_n G dX2_copy_40 hl rfl ?_
  refine hb_aload_n G dX2_copy_41 hl rfl ?_
  refine hb_get G hk7.1 rfl inX2 15 (by decide) kf_X2_39 rfl rfl dX2_copy_42 ?_
  refine hb_iload_n G dX2_copy_45 hl rfl ?_
  refine hb_iald G (show ia g (a 8) C (A 8) _ from hk7.2.1 8 (by decide)) (by rw [show nI f = nI f from rfl]; exact vp_in_nI (by omega) (by omega)) dX2_copy_46 ?_
  refine lv_topi (fun r_4 er_4 => ?_)
  have er_4 : r_4 = A 8 (f) := by rw [er_4, show ((nI f)).toNatClampNeg = f by rw [show nI f = nI f from rfl]; exact nI_clamp (by omega)]
  refine hb_iast G (show ia g (a 8) C (A 8) _ from hk7.2.1 8 (by decide)) (by rw [show nI t = nI t from rfl]; exact vp_in_nI (by omega) (by omega)) hL (fM_a (by decide)) dX2_copy_47 (fun K8 locs8 hg8 hz8 ho8 hL => ?_)
  rw [show ((nI t)).toNatClampNeg = t by rw [show nI t = nI t from rfl]; exact nI_clamp (by omega)] at hg8
  rw [er_4] at hg8
  have hk8 := hk7.up (k := 8) (by decide) hg8 ⟨hz8, ho8⟩
  have hm8 : Mo r a H K8 := (hm7).tr (Mo.ar (k := 8) ⟨hz8, ho8⟩ (by decide))
  refine hb_aload_n G dX2_copy_48 hl rfl ?_
  refine hb_get G hk8.1 rfl inX2 16 (by decide) kf_X2_42 rfl rfl dX2_copy_49 ?_
  refine hb_iload_n G dX2_copy_52 hl rfl ?_
  refine hb_aload_n G dX2_copy_53 hl rfl ?_
  refine hb_get G hk8.1 rfl inX2 16 (by decide) kf_X2_42 rfl rfl dX2_copy_54 ?_
  refine hb_iload_n G dX2_copy_57 hl rfl ?_
  refine hb_iald G (show ia g (a 9) C (A 9) _ from hk8.2.1 9 (by decide)) (by rw [show nI f = nI f from rfl]; exact vp_in_nI (by omega) (by omega)) dX2_copy_58 ?_
  refine lv_topi (fun r_5 er_5 => ?_)
  have er_5 : r_5 = A 9 (f) := by rw [er_5, show ((nI f)).toNatClampNeg = f by rw [show nI f = nI f from rfl]; exact nI_clamp (by omega)]
  refine hb_iast G (show ia g (a 9) C (A 9) _ from hk8.2.1 9 (by decide)) (by rw [show nI t = nI t from rfl]; exact vp_in_nI (by omega) (by omega)) hL (fM_a (by decide)) dX2_copy_59 (fun K9 locs9 hg9 hz9 ho9 hL => ?_)
  rw [show ((nI t)).toNatClampNeg = t by rw [show nI t = nI t from rfl]; exact nI_clamp (by omega)] at hg9
  rw [er_5] at hg9
  have hk9 := hk8.up (k := 9) (by decide) hg9 ⟨hz9, ho9⟩
  have hm9 : Mo r a H K9 := (hm8).tr (Mo.ar (k := 9) ⟨hz9, ho9⟩ (by decide))
  exact hb_vret G hr hlocks ⟨rfl, hk9, hm9⟩ hL (Nat.le_refl _) (Nat.le_refl _) dX2_copy_60
end
section
theorem Gr.rf {H : Heap} : Gr H H := ⟨Nat.le_refl _, fun _ _ => rfl⟩
def lgr (f : Nat → Int32) (k : Nat) : Nat → Int32 := fun j => if j < k then f j else 0
set_option maxHeartbeats 4000000 in
set_option maxRecDepth 100000 in
/-- longer: twice as long, the rest 0 -/
theorem m_longer (g : Gx) (l : Launch) (b k z : Nat) (f : Nat → Int32) (H : Heap) (hk : k ≤ 256) (hz : H.size = z) (hb : ia g b k f H) : HM g l yX2_longer cX2_longer 3 (some (.array .int)) 0 0 1 512 [.ref b] H (fun v H1 => v = some (.ref z) ∧ ia g z (2 * k) (lgr f k) H1 ∧ H1.size = z + 1 ∧ ∀ q : Nat, q < z → H1[q]? = H[q]?) (fG z) := by
  refine HM.ofW (by decide) (Nat.le_of_ble_eq_true rfl) (by simp [Value.category]) ?_
  intro p e s m args below meth c ls G hr hml hlocks hnm hH hl
  have hl : lh ls 3 [some (.ref b), none, none] := hl
  have hL : ∀ q ∈ ([] : List Loc), (fG z) q.base := fun q h => by cases h
  have hbl := hb.lt
  have lp : ∀ (n9 j : Nat) (c2 : Int32) (u : Nat → Int32) (K : Heap) (locs : List Loc) (ls : Array Slot), (k + 1 ≤ j + n9) → (j ≤ k) → (c2 = nI j) → (ia g z (2 * k) u K) → (∀ i, i < j → u i = f i) → (∀ i, j ≤ i → u i = 0) → (K.size = z + 1) → (∀ q : Nat, q < z → K[q]? = H[q]?) → (∀ q ∈ locs, (fG z) q.base) → lh ls 3 [some (.ref b), some (.ref z), some (.int c2)] → W p l e ({ frames := 0, cells := 1, slots := 512, locals := 0 } : Room) s m args below meth c K locs 1 512 (hQ below args s (fun v H1 => v = some (.ref z) ∧ ia g z (2 * k) (lgr f k) H1 ∧ H1.size = z + 1 ∧ ∀ q : Nat, q < z → H1[q]? = H[q]?) 1 512 (fG z)) (F0 m 9 ls []) := by
    intro n9
    induction n9 with
    | zero =>
      intro j c2 u K locs ls hd9 hj ec hu hu1 hu2 hzK hq hL hl
      exfalso; omega
    | succ n9 ih =>
      intro j c2 u K locs ls hd9 hj ec hu hu1 hu2 hzK hq hL hl
      have hbK := hb.kept (hq b (by omega))
      refine hb_iload_n G dX2_longer_9 hl rfl ?_
      refine hb_aload_n G dX2_longer_10 hl rfl ?_
      refine hb_alen_i G hbK dX2_longer_11 ?_
      refine lv_icmp_ge (tgt := 27) G.1 G.2.1 dX2_longer_12 (by decide) (fun c_1 => ?_) (fun c_1 => ?_)
      · have hj2 : j = k := by have := (ic_le rfl ec (by omega) (by omega)).mp c_1; omega
        subst hj2
        refine hb_aload_n G dX2_longer_27 hl rfl ?_
        exact hb_aret G hr (Or.inr ⟨_, rfl⟩) hlocks ⟨rfl, hu.ext (fun i hi => by unfold lgr; split; exact hu1 i (by assumption); exact hu2 i (by omega)), hzK, hq⟩ hL (Nat.le_of_ble_eq_true rfl) (Nat.le_of_ble_eq_true rfl) dX2_longer_28
      · have hj2 : j < k := by have := mt (ic_le rfl ec (by omega) (by omega)).mpr c_1; omega
        refine hb_aload_n G dX2_longer_15 hl rfl ?_
        refine hb_iload_n G dX2_longer_16 hl rfl ?_
        refine hb_aload_n G dX2_longer_17 hl rfl ?_
        refine hb_iload_n G dX2_longer_18 hl rfl ?_
        refine hb_iald G hbK (by rw [ec]; exact vp_in_nI hj2 (by omega)) dX2_longer_19 ?_
        refine lv_topi (fun r_2 er_2 => ?_)
        have er_2 : r_2 = f j := by rw [er_2, show c2.toNatClampNeg = j by rw [ec]; exact nI_clamp (by omega)]
        refine hb_iast G hu (by rw [ec]; exact vp_in_nI (by omega) (by omega)) hL (fG_mk (Nat.le_refl z)) dX2_longer_20 (fun K1 locs1 hu3 hz1 ho1 hL => ?_)
        rw [show c2.toNatClampNeg = j by rw [ec]; exact nI_clamp (by omega), er_2] at hu3
        obtain ⟨t_3, et_3⟩ : ∃ z : Int32, z = c2 + 1 := ⟨_, rfl⟩
        refine hb_iinc (v := t_3) G dX2_longer_21 hl rfl (by rw [et_3]; rfl) (by decide) (fun ls hl => ?_)
        have hl : lh ls 3 [some (.ref b), some (.ref z), some (.int t_3)] := hl
        refine lv_goto (tgt := 9) G.1 G.2.1 dX2_longer_24 (by decide) ?_
        exact ih (j + 1) t_3 _ K1 locs1 ls (by omega) (by omega) (by rw [et_3, ec]; exact nI_1 j) hu3 (fun i hi => by
            by_cases hij : i = j
            · subst hij; exact pk_us
            · rw [pk_un hij]; exact hu1 i (by omega)) (fun i hi => by rw [pk_un (by omega)]; exact hu2 i (by omega)) (hz1.trans hzK) (fun q h => (ho1 q (by omega)).trans (hq q h)) hL hl
  refine lv_iconst (v := 2) G.1 G.2.1 dX2_longer_0 (by decide) ?_
  refine hb_aload_n G dX2_longer_1 hl rfl ?_
  refine hb_alen_i G hb dX2_longer_2 ?_
  refine lv_imul G.1 G.2.1 dX2_longer_3 ?_
  refine lv_topi (fun t_4 et_4 => ?_)
  obtain rfl : t_4 = nI (2 * k) := by rw [et_4, show (2 : Int32) = nI 2 from rfl, pk_mul]
  refine hb_newi (z := z) (N := 2 * k) G hz (nI_pos (by omega)) (nI_clamp (by omega)) (by omega) (Nat.le_of_ble_eq_true rfl) (show 0 + 2 * k ≤ 512 by omega) dX2_longer_4 (fun K1 hu hz1 ho1 => ?_)
  refine W.widen (k := 1) (n := 512) (Nat.le_of_ble_eq_true rfl) (by omega) ?_
  refine hb_astore_n G dX2_longer_6 hl (by decide) (fun ls hl => ?_)
  have hl : lh ls 3 [some (.ref b), some (.ref z), none] := hl
  refine lv_iconst (v := 0) G.1 G.2.1 dX2_longer_7 (by decide) ?_
  refine hb_istore_n G dX2_longer_8 hl (by decide) (fun ls hl => ?_)
  have hl : lh ls 3 [some (.ref b), some (.ref z), some (.int 0)] := hl
  exact lp (k + 1) 0 0 _ K1 [] ls (by omega) (by omega) rfl hu (fun i hi => absurd hi (by omega)) (fun i _ => rfl) hz1 ho1 hL hl
def fN (r : Nat) (a : Nat → Nat) (z : Nat) : Nat → Prop := fun q => fM r a q ∨ z ≤ q
/-- like before but for the reference's own cells; its rows may have gone to new ones -/
def Mg (r : Nat) (a a2 : Nat → Nat) (H H1 : Heap) : Prop := H.size ≤ H1.size ∧ (∀ q : Nat, q < H.size → q ≠ r → (∀ k, k < 12 → q ≠ a k) → H1[q]? = H[q]?) ∧ ∀ k, k < 12 → a2 k = a k ∨ H.size ≤ a2 k
theorem Mg.of {r : Nat} {a : Nat → Nat} {H H1 : Heap} (h : Mo r a H H1) : Mg r a a H H1 := ⟨Nat.le_of_eq h.1.symm, fun q _ h2 h3 => h.2 q h2 h3, fun _ _ => Or.inl rfl⟩
theorem Mg.tr {r : Nat} {a a2 a3 : Nat → Nat} {H H1 H2 : Heap} (h : Mg r a a2 H H1) (h2 : Mg r a2 a3 H1 H2) : Mg r a a3 H H2 := by
  refine ⟨Nat.le_trans h.1 h2.1, fun q h3 h4 h5 => (h2.2.1 q (Nat.lt_of_lt_of_le h3 h.1) h4 (fun k hk he => ?_)).trans (h.2.1 q h3 h4 h5), fun k hk => ?_⟩
  · rcases h.2.2 k hk with h6 | h6
    · exact h5 k hk (by rw [he, h6])
    · omega
  · rcases h2.2.2 k hk with h6 | h6
    · rw [h6]; exact h.2.2 k hk
    · exact Or.inr (Nat.le_trans h.1 h6)
def mGa (a : Nat → Nat) (z : Nat) : Nat → Nat := fun k => if 5 ≤ k ∧ k ≤ 9 then z + (k - 5) else a k
def mGA (A : Nat → Nat → Int32) (C : Nat) : Nat → Nat → Int32 := fun k => if 5 ≤ k ∧ k ≤ 9 then lgr (A k) C else A k
/-- rows 5 .. 9 hold the new entry at en, and what they held before it -/
def mAdded (A A2 : Nat → Nat → Int32) (en : Nat) (x n b s q : Int32) : Prop := (∀ k, k < 5 ∨ 9 < k → A2 k = A k) ∧ (∀ k j, 5 ≤ k → k ≤ 9 → j < en → A2 k j = A k j) ∧ A2 5 en = x ∧ A2 6 en = n ∧ A2 7 en = b ∧ A2 8 en = s ∧ A2 9 en = q
set_option maxHeartbeats 4000000 in
set_option maxRecDepth 100000 in
/-- add -/
theorem m_add (g : Gx) (l : Launch) (r S B C : Nat) (a : Nat → Nat) (A : Nat → Nat → Int32) (cd wr lf dn : Int32) (en pl : Nat) (H : Heap) (h : mdAt g r S B C a A cd wr lf dn en pl H) (hC0 : 64 ≤ C) (hC1 : en ≤ C) (hC2 : C ≤ 512) (hen : en < 512) (hC3 : en = C → C ≤ 256) (x n b s9 q9 : Int32) : HM g l yX2_add cX2_add 6 none 1 22 5 2560 [.ref r, .int x, .int n, .int b, .int s9, .int q9] H (fun v H1 => v = none ∧ ∃ (C2 : Nat) (a2 : Nat → Nat) (A2 : Nat → Nat → Int32), mdAt g r S B C2 a2 A2 cd wr lf dn (en + 1) pl H1 ∧ (C2 = C ∧ en < C ∨ C2 = 2 * C ∧ en = C) ∧ mAdded A A2 en x n b s9 q9 ∧ Mg r a a2 H H1) (fN r a H.size) := by
  refine HM.ofW (by decide) (Nat.le_of_ble_eq_true rfl) (by simp [Value.category]) ?_
  intro p e s m args below meth c ls G hr hml hlocks hnm hH hl
  have hl : lh ls 6 [some (.ref r), some (.int x), some (.int n), some (.int b), some (.int s9), some (.int q9)] := hl
  have hL : ∀ q ∈ ([] : List Loc), (fN r a H.size) q.base := fun q h => by cases h
  have tail : ∀ (C2 : Nat) (a2 : Nat → Nat) (A2 : Nat → Nat → Int32) (K : Heap) (cs sl : Nat) (locs : List Loc), mdAt g r S B C2 a2 A2 cd wr lf dn en pl K → en < C2 → C2 ≤ 512 → (C2 = C ∧ en < C ∨ C2 = 2 * C ∧ en = C) → (∀ k, k < 5 ∨ 9 < k → A2 k = A k) → (∀ k j, 5 ≤ k → k ≤ 9 → j < en → A2 k j = A k j) → Mg r a a2 H K → cs ≤ 5 → sl ≤ 2560 → (∀ q ∈ locs, fN r a H.size q.base) → W p l e ({ frames := 1, cells := 5, slots := 2560, locals := 22 } : Room) s m args below meth c K locs cs sl (hQ below args s (fun v H1 => v = none ∧ ∃ (C2 : Nat) (a2 : Nat → Nat) (A2 : Nat → Nat → Int32), mdAt g r S B C2 a2 A2 cd wr lf dn (en + 1) pl H1 ∧ (C2 = C ∧ en < C ∨ C2 = 2 * C ∧ en = C) ∧ mAdded A A2 en x n b s9 q9 ∧ Mg r a a2 H H1) 5 2560 (fN r a H.size)) (F0 m 67 ls []) := by
    intro C2 a2 A2 K cs sl locs h2 h3 h4 h5 h6 h7 h8 h9 h10 hL
    have hA2 : ∀ k, k < 12 → fN r a H.size (a2 k) := fun k hk => (h8.2.2 k hk).elim (fun q => Or.inl (by rw [q]; exact fM_a hk)) Or.inr
    refine hb_aload_n G dX2_add_67 hl rfl ?_
    refine hb_get G h2.1 rfl inX2 12 (by decide) kf_X2_30 rfl rfl dX2_add_68 ?_
    refine hb_aload_n G dX2_add_71 hl rfl ?_
    refine hb_get G h2.1 rfl inX2 11 (by decide) kf_X2_71 rfl rfl dX2_add_72 ?_
    refine hb_iload_n G dX2_add_75 hl rfl ?_
    refine hb_iast G (show ia g (a2 5) C2 (A2 5) _ from h2.2.1 5 (by decide)) (vp_in_nI h3 (by omega)) hL (hA2 5 (by decide)) dX2_add_76 (fun K5 locs hg5 hz5 ho5 hL => ?_)
    rw [nI_clamp (by omega)] at hg5
    have hk5 := h2.up (k := 5) (by decide) hg5 ⟨hz5, ho5⟩
    have hm5 : Mo r a2 K K5 := (Mo.rf).tr (Mo.ar (k := 5) ⟨hz5, ho5⟩ (by decide))
    refine hb_aload_n G dX2_add_77 hl rfl ?_
    refine hb_get G hk5.1 rfl inX2 13 (by decide) kf_X2_33 rfl rfl dX2_add_78 ?_
    refine hb_aload_n G dX2_add_81 hl rfl ?_
    refine hb_get G hk5.1 rfl inX2 11 (by decide) kf_X2_71 rfl rfl dX2_add_82 ?_
    refine hb_iload_n G dX2_add_85 hl rfl ?_
    refine hb_iast G (show ia g (a2 6) C2 (A2 6) _ from hk5.2.1 6 (by decide)) (vp_in_nI h3 (by omega)) hL (hA2 6 (by decide)) dX2_add_86 (fun K6 locs hg6 hz6 ho6 hL => ?_)
    rw [nI_clamp (by omega)] at hg6
    have hk6 := hk5.up (k := 6) (by decide) hg6 ⟨hz6, ho6⟩
    have hm6 : Mo r a2 K K6 := (hm5).tr (Mo.ar (k := 6) ⟨hz6, ho6⟩ (by decide))
    refine hb_aload_n G dX2_add_87 hl rfl ?_
    refine hb_get G hk6.1 rfl inX2 14 (by decide) kf_X2_36 rfl rfl dX2_add_88 ?_
    refine hb_aload_n G dX2_add_91 hl rfl ?_
    refine hb_get G hk6.1 rfl inX2 11 (by decide) kf_X2_71 rfl rfl dX2_add_92 ?_
    refine hb_iload_n G dX2_add_95 hl rfl ?_
    refine hb_iast G (show ia g (a2 7) C2 (A2 7) _ from hk6.2.1 7 (by decide)) (vp_in_nI h3 (by omega)) hL (hA2 7 (by decide)) dX2_add_96 (fun K7 locs hg7 hz7 ho7 hL => ?_)
    rw [nI_clamp (by omega)] at hg7
    have hk7 := hk6.up (k := 7) (by decide) hg7 ⟨hz7, ho7⟩
    have hm7 : Mo r a2 K K7 := (hm6).tr (Mo.ar (k := 7) ⟨hz7, ho7⟩ (by decide))
    refine hb_aload_n G dX2_add_97 hl rfl ?_
    refine hb_get G hk7.1 rfl inX2 15 (by decide) kf_X2_39 rfl rfl dX2_add_98 ?_
    refine hb_aload_n G dX2_add_101 hl rfl ?_
    refine hb_get G hk7.1 rfl inX2 11 (by decide) kf_X2_71 rfl rfl dX2_add_102 ?_
    refine hb_iload G dX2_add_105 hl rfl ?_
    refine hb_iast G (show ia g (a2 8) C2 (A2 8) _ from hk7.2.1 8 (by decide)) (vp_in_nI h3 (by omega)) hL (hA2 8 (by decide)) dX2_add_107 (fun K8 locs hg8 hz8 ho8 hL => ?_)
    rw [nI_clamp (by omega)] at hg8
    have hk8 := hk7.up (k := 8) (by decide) hg8 ⟨hz8, ho8⟩
    have hm8 : Mo r a2 K K8 := (hm7).tr (Mo.ar (k := 8) ⟨hz8, ho8⟩ (by decide))
    refine hb_aload_n G dX2_add_108 hl rfl ?_
    refine hb_get G hk8.1 rfl inX2 16 (by decide) kf_X2_42 rfl rfl dX2_add_109 ?_
    refine hb_aload_n G dX2_add_112 hl rfl ?_
    refine hb_get G hk8.1 rfl inX2 11 (by decide) kf_X2_71 rfl rfl dX2_add_113 ?_
    refine hb_iload G dX2_add_116 hl rfl ?_
    refine hb_iast G (show ia g (a2 9) C2 (A2 9) _ from hk8.2.1 9 (by decide)) (vp_in_nI h3 (by omega)) hL (hA2 9 (by decide)) dX2_add_118 (fun K9 locs hg9 hz9 ho9 hL => ?_)
    rw [nI_clamp (by omega)] at hg9
    have hk9 := hk8.up (k := 9) (by decide) hg9 ⟨hz9, ho9⟩
    have hm9 : Mo r a2 K K9 := (hm8).tr (Mo.ar (k := 9) ⟨hz9, ho9⟩ (by decide))
    refine hb_aload_n G dX2_add_119 hl rfl ?_
    refine lv_dup G.1 G.2.1 dX2_add_120 rfl ?_
    refine hb_get G hk9.1 rfl inX2 11 (by decide) kf_X2_71 rfl rfl dX2_add_121 ?_
    refine lv_iconst (v := 1) G.1 G.2.1 dX2_add_124 (by decide) ?_
    refine lv_iadd G.1 G.2.1 dX2_add_125 ?_
    refine lv_topi (fun t_1 et_1 => ?_)
    refine hb_put G hk9.1 rfl inX2 tyX2 tyX2_ok nmX2 11 (by decide) kf_X2_71 rfl rfl rfl rfl (Nat.le_of_ble_eq_true rfl) hL (Or.inl fM_r) dX2_add_126 (fun K10 locs hf10 hz10 ho10 hL => ?_)
    have hf10 : ob g r 2 (mdFs S B a2 cd wr lf dn (en + 1) pl) K10 := by rw [et_1, nI_1] at hf10; exact hf10
    have hk10 := hk9.fd hf10 ⟨hz10, ho10⟩
    have hm10 : Mo r a2 K K10 := hm9.tr (Mo.fd ⟨hz10, ho10⟩)
    refine hb_vret G hr hlocks ⟨rfl, C2, a2, _, hk10, h5, ⟨fun k hk => ?_, fun k j g1 g2 g3 => ?_, pk_us, pk_us, pk_us, pk_us, pk_us⟩, h8.tr (Mg.of hm10)⟩ hL h9 h10 dX2_add_129
    · rw [va_up_ne _ _ (by omega), va_up_ne _ _ (by omega), va_up_ne _ _ (by omega), va_up_ne _ _ (by omega), va_up_ne _ _ (by omega)]; exact h6 k hk
    · rcases (show k = 5 ∨ k = 6 ∨ k = 7 ∨ k = 8 ∨ k = 9 by omega) with rfl | rfl | rfl | rfl | rfl
      all_goals exact (pk_un (by omega)).trans (h7 _ j g1 g2 g3)
  refine hb_aload_n G dX2_add_0 hl rfl ?_
  refine hb_get G h.1 rfl inX2 11 (by decide) kf_X2_71 rfl rfl dX2_add_1 ?_
  refine hb_aload_n G dX2_add_4 hl rfl ?_
  refine hb_get G h.1 rfl inX2 13 (by decide) kf_X2_33 rfl rfl dX2_add_5 ?_
  refine hb_alen_i G (show ia g (a 6) C (A 6) _ from h.2.1 6 (by decide)) dX2_add_8 ?_
  refine lv_icmp_ne (tgt := 67) G.1 G.2.1 dX2_add_9 (by decide) (fun c_2 => ?_) (fun c_2 => ?_)
  · have hne : en < C := by rcases Nat.lt_or_ge en C with q | q; exact q; exact absurd (by rw [show en = C by omega]) c_2
    exact tail C a A H 0 0 [] h hne hC2 (Or.inl ⟨rfl, hne⟩) (fun _ _ => rfl) (fun _ _ _ _ _ => rfl) (Mg.of Mo.rf) (by omega) (by omega) hL
  · have heq : en = C := (nI_eq (by omega) (by omega)).mp c_2
    have hC4 := hC3 heq
    have hrs := h.1.lt
    have hal : ∀ k, k < 12 → a k < H.size := fun k hk => by
      have h9 := h.2.1 k hk
      unfold mdArr at h9
      split at h9
      · exact za.lt h9
      · exact ia.lt h9
    have ar0 := h.2.1
    have he0 := h.1
    have hz0 : H.size = H.size + 0 := rfl
    have hq0 : ∀ q : Nat, q < H.size → q ≠ r → H[q]? = H[q]? := fun _ _ _ => rfl
    refine hb_aload_n G dX2_add_12 hl rfl ?_
    refine hb_aload_n G dX2_add_13 hl rfl ?_
    refine hb_get G he0 rfl inX2 12 (by decide) kf_X2_30 rfl rfl dX2_add_14 ?_
    refine hb_callS (As := [.ref (a 5)]) (rest := [.ref r]) G hml (m_longer g l (a 5) C (H.size + 0) (A 5) _ hC4 hz0 (show ia g (a 5) C (A 5) _ from ar0 5 (by decide))) km_X2_74 kt_X2_longer kn_X2 ko_X2_longer hd_X2_longer ⟨Nat.le_of_ble_eq_true rfl, Nat.le_of_ble_eq_true rfl⟩ hl.size rfl (Nat.le_of_ble_eq_true rfl) dX2_add_17 ⟨Nat.le_of_ble_eq_true rfl, Nat.le_of_ble_eq_true rfl⟩ hL (fun q h => Or.inr (Nat.le_trans (Nat.le_add_right _ _) h)) (fun v1 L0 locs0 hp hL => ?_)
    obtain ⟨rfl, hn, hzl, hql⟩ := hp
    have he100 := he0.kept (hql r (by omega))
    refine hb_put G he100 rfl inX2 tyX2 tyX2_ok nmX2 12 (by decide) kf_X2_30 rfl rfl rfl rfl (Nat.le_of_ble_eq_true rfl) hL (Or.inl fM_r) dX2_add_20 (fun N0 locs0 he1 hzp hop hL => ?_)
    have hn0 := hn.kept (hop (H.size + 0) (by omega))
    have hz1 : N0.size = H.size + 1 := hzp.trans hzl
    have hq1 : ∀ q : Nat, q < H.size → q ≠ r → N0[q]? = H[q]? := fun q g1 g2 => (hop q g2).trans ((hql q (by omega)).trans (hq0 q g1 g2))
    have ar1 : ∀ k, k < 12 → mdArr g (a k) k (mdLen C k) (A k) N0 := fun k hk => (h.2.1 k hk).kept (hq1 _ (hal k hk) (fun q => by have := h.2.2.1 k hk; omega))
    clear hn hzl hql hzp hop he100 ar0 hz0
    refine hb_aload_n G dX2_add_23 hl rfl ?_
    refine hb_aload_n G dX2_add_24 hl rfl ?_
    refine hb_get G he1 rfl inX2 13 (by decide) kf_X2_33 rfl rfl dX2_add_25 ?_
    refine hb_callS (As := [.ref (a 6)]) (rest := [.ref r]) G hml (m_longer g l (a 6) C (H.size + 1) (A 6) _ hC4 hz1 (show ia g (a 6) C (A 6) _ from ar1 6 (by decide))) km_X2_74 kt_X2_longer kn_X2 ko_X2_longer hd_X2_longer ⟨Nat.le_of_ble_eq_true rfl, Nat.le_of_ble_eq_true rfl⟩ hl.size rfl (Nat.le_of_ble_eq_true rfl) dX2_add_28 ⟨Nat.le_of_ble_eq_true rfl, Nat.le_of_ble_eq_true rfl⟩ hL (fun q h => Or.inr (Nat.le_trans (Nat.le_add_right _ _) h)) (fun v1 L1 locs1 hp hL => ?_)
    obtain ⟨rfl, hn, hzl, hql⟩ := hp
    have he101 := he1.kept (hql r (by omega))
    refine hb_put G he101 rfl inX2 tyX2 tyX2_ok nmX2 13 (by decide) kf_X2_33 rfl rfl rfl rfl (Nat.le_of_ble_eq_true rfl) hL (Or.inl fM_r) dX2_add_31 (fun N1 locs1 he2 hzp hop hL => ?_)
    have hn1 := hn.kept (hop (H.size + 1) (by omega))
    have hz2 : N1.size = H.size + 2 := hzp.trans hzl
    have hq2 : ∀ q : Nat, q < H.size → q ≠ r → N1[q]? = H[q]? := fun q g1 g2 => (hop q g2).trans ((hql q (by omega)).trans (hq1 q g1 g2))
    have ar2 : ∀ k, k < 12 → mdArr g (a k) k (mdLen C k) (A k) N1 := fun k hk => (h.2.1 k hk).kept (hq2 _ (hal k hk) (fun q => by have := h.2.2.1 k hk; omega))
    have hn0 := hn0.kept ((hop (H.size + 0) (by omega)).trans (hql (H.size + 0) (by omega)))
    clear hn hzl hql hzp hop he101 ar1 hz1
    refine hb_aload_n G dX2_add_34 hl rfl ?_
    refine hb_aload_n G dX2_add_35 hl rfl ?_
    refine hb_get G he2 rfl inX2 14 (by decide) kf_X2_36 rfl rfl dX2_add_36 ?_
    refine hb_callS (As := [.ref (a 7)]) (rest := [.ref r]) G hml (m_longer g l (a 7) C (H.size + 2) (A 7) _ hC4 hz2 (show ia g (a 7) C (A 7) _ from ar2 7 (by decide))) km_X2_74 kt_X2_longer kn_X2 ko_X2_longer hd_X2_longer ⟨Nat.le_of_ble_eq_true rfl, Nat.le_of_ble_eq_true rfl⟩ hl.size rfl (Nat.le_of_ble_eq_true rfl) dX2_add_39 ⟨Nat.le_of_ble_eq_true rfl, Nat.le_of_ble_eq_true rfl⟩ hL (fun q h => Or.inr (Nat.le_trans (Nat.le_add_right _ _) h)) (fun v1 L2 locs2 hp hL => ?_)
    obtain ⟨rfl, hn, hzl, hql⟩ := hp
    have he102 := he2.kept (hql r (by omega))
    refine hb_put G he102 rfl inX2 tyX2 tyX2_ok nmX2 14 (by decide) kf_X2_36 rfl rfl rfl rfl (Nat.le_of_ble_eq_true rfl) hL (Or.inl fM_r) dX2_add_42 (fun N2 locs2 he3 hzp hop hL => ?_)
    have hn2 := hn.kept (hop (H.size + 2) (by omega))
    have hz3 : N2.size = H.size + 3 := hzp.trans hzl
    have hq3 : ∀ q : Nat, q < H.size → q ≠ r → N2[q]? = H[q]? := fun q g1 g2 => (hop q g2).trans ((hql q (by omega)).trans (hq2 q g1 g2))
    have ar3 : ∀ k, k < 12 → mdArr g (a k) k (mdLen C k) (A k) N2 := fun k hk => (h.2.1 k hk).kept (hq3 _ (hal k hk) (fun q => by have := h.2.2.1 k hk; omega))
    have hn0 := hn0.kept ((hop (H.size + 0) (by omega)).trans (hql (H.size + 0) (by omega)))
    have hn1 := hn1.kept ((hop (H.size + 1) (by omega)).trans (hql (H.size + 1) (by omega)))
    clear hn hzl hql hzp hop he102 ar2 hz2
    refine hb_aload_n G dX2_add_45 hl rfl ?_
    refine hb_aload_n G dX2_add_46 hl rfl ?_
    refine hb_get G he3 rfl inX2 15 (by decide) kf_X2_39 rfl rfl dX2_add_47 ?_
    refine hb_callS (As := [.ref (a 8)]) (rest := [.ref r]) G hml (m_longer g l (a 8) C (H.size + 3) (A 8) _ hC4 hz3 (show ia g (a 8) C (A 8) _ from ar3 8 (by decide))) km_X2_74 kt_X2_longer kn_X2 ko_X2_longer hd_X2_longer ⟨Nat.le_of_ble_eq_true rfl, Nat.le_of_ble_eq_true rfl⟩ hl.size rfl (Nat.le_of_ble_eq_true rfl) dX2_add_50 ⟨Nat.le_of_ble_eq_true rfl, Nat.le_of_ble_eq_true rfl⟩ hL (fun q h => Or.inr (Nat.le_trans (Nat.le_add_right _ _) h)) (fun v1 L3 locs3 hp hL => ?_)
    obtain ⟨rfl, hn, hzl, hql⟩ := hp
    have he103 := he3.kept (hql r (by omega))
    refine hb_put G he103 rfl inX2 tyX2 tyX2_ok nmX2 15 (by decide) kf_X2_39 rfl rfl rfl rfl (Nat.le_of_ble_eq_true rfl) hL (Or.inl fM_r) dX2_add_53 (fun N3 locs3 he4 hzp hop hL => ?_)
    have hn3 := hn.kept (hop (H.size + 3) (by omega))
    have hz4 : N3.size = H.size + 4 := hzp.trans hzl
    have hq4 : ∀ q : Nat, q < H.size → q ≠ r → N3[q]? = H[q]? := fun q g1 g2 => (hop q g2).trans ((hql q (by omega)).trans (hq3 q g1 g2))
    have ar4 : ∀ k, k < 12 → mdArr g (a k) k (mdLen C k) (A k) N3 := fun k hk => (h.2.1 k hk).kept (hq4 _ (hal k hk) (fun q => by have := h.2.2.1 k hk; omega))
    have hn0 := hn0.kept ((hop (H.size + 0) (by omega)).trans (hql (H.size + 0) (by omega)))
    have hn1 := hn1.kept ((hop (H.size + 1) (by omega)).trans (hql (H.size + 1) (by omega)))
    have hn2 := hn2.kept ((hop (H.size + 2) (by omega)).trans (hql (H.size + 2) (by omega)))
    clear hn hzl hql hzp hop he103 ar3 hz3
    refine hb_aload_n G dX2_add_56 hl rfl ?_
    refine hb_aload_n G dX2_add_57 hl rfl ?_
    refine hb_get G he4 rfl inX2 16 (by decide) kf_X2_42 rfl rfl dX2_add_58 ?_
    refine hb_callS (As := [.ref (a 9)]) (rest := [.ref r]) G hml (m_longer g l (a 9) C (H.size + 4) (A 9) _ hC4 hz4 (show ia g (a 9) C (A 9) _ from ar4 9 (by decide))) km_X2_74 kt_X2_longer kn_X2 ko_X2_longer hd_X2_longer ⟨Nat.le_of_ble_eq_true rfl, Nat.le_of_ble_eq_true rfl⟩ hl.size rfl (Nat.le_of_ble_eq_true rfl) dX2_add_61 ⟨Nat.le_of_ble_eq_true rfl, Nat.le_of_ble_eq_true rfl⟩ hL (fun q h => Or.inr (Nat.le_trans (Nat.le_add_right _ _) h)) (fun v1 L4 locs4 hp hL => ?_)
    obtain ⟨rfl, hn, hzl, hql⟩ := hp
    have he104 := he4.kept (hql r (by omega))
    refine hb_put G he104 rfl inX2 tyX2 tyX2_ok nmX2 16 (by decide) kf_X2_42 rfl rfl rfl rfl (Nat.le_of_ble_eq_true rfl) hL (Or.inl fM_r) dX2_add_64 (fun N4 locs4 he5 hzp hop hL => ?_)
    have hn4 := hn.kept (hop (H.size + 4) (by omega))
    have hz5 : N4.size = H.size + 5 := hzp.trans hzl
    have hq5 : ∀ q : Nat, q < H.size → q ≠ r → N4[q]? = H[q]? := fun q g1 g2 => (hop q g2).trans ((hql q (by omega)).trans (hq4 q g1 g2))
    have ar5 : ∀ k, k < 12 → mdArr g (a k) k (mdLen C k) (A k) N4 := fun k hk => (h.2.1 k hk).kept (hq5 _ (hal k hk) (fun q => by have := h.2.2.1 k hk; omega))
    have hn0 := hn0.kept ((hop (H.size + 0) (by omega)).trans (hql (H.size + 0) (by omega)))
    have hn1 := hn1.kept ((hop (H.size + 1) (by omega)).trans (hql (H.size + 1) (by omega)))
    have hn2 := hn2.kept ((hop (H.size + 2) (by omega)).trans (hql (H.size + 2) (by omega)))
    have hn3 := hn3.kept ((hop (H.size + 3) (by omega)).trans (hql (H.size + 3) (by omega)))
    clear hn hzl hql hzp hop he104 ar4 hz4
    have hmd : mdAt g r S B (2 * C) (mGa a H.size) (mGA A C) cd wr lf dn en pl N4 := by
      refine ⟨he5, fun k hk => ?_, ⟨fun k hk => ?_, fun i j hi hj hij => ?_⟩⟩
      · unfold mGa mGA
        by_cases hk5 : 5 ≤ k ∧ k ≤ 9
        · rw [if_pos hk5, if_pos hk5]
          rcases (show k = 5 ∨ k = 6 ∨ k = 7 ∨ k = 8 ∨ k = 9 by omega) with rfl | rfl | rfl | rfl | rfl
          · exact hn0
          · exact hn1
          · exact hn2
          · exact hn3
          · exact hn4
        · rw [if_neg hk5, if_neg hk5]
          have h9 := ar5 k hk
          rcases (show k = 0 ∨ k = 1 ∨ k = 2 ∨ k = 3 ∨ k = 4 ∨ k = 10 ∨ k = 11 by omega) with rfl | rfl | rfl | rfl | rfl | rfl | rfl <;> exact h9
      · unfold mGa
        have := h.2.2.1 k hk
        split <;> omega
      · unfold mGa at hij
        have h1 := hal i hi
        have h2 := hal j hj
        split at hij <;> split at hij
        · omega
        · omega
        · omega
        · exact h.2.2.2 i j hi hj hij
    have hmg : Mg r a (mGa a H.size) H N4 := ⟨by omega, fun q g1 g2 _ => hq5 q g1 g2, fun k _ => by unfold mGa; split; exact Or.inr (by omega); exact Or.inl rfl⟩
    exact tail (2 * C) (mGa a H.size) (mGA A C) N4 _ _ locs4 hmd (by omega) (by omega) (Or.inr ⟨rfl, heq⟩) (fun k hk => by unfold mGA; rw [if_neg (by omega)]) (fun k j g1 g2 g3 => by unfold mGA lgr; rw [if_pos ⟨g1, g2⟩, if_pos (by omega)]) hmg (Nat.le_of_ble_eq_true rfl) (Nat.le_of_ble_eq_true rfl) hL
end
section
abbrev mOkA (x n : Int32) : Prop := (0 ≤ x ∧ x < 4) ∧ 1 ≤ n ∧ n ≤ 20000
/-- the reference's rows behind mark() -/
def mH (A : Nat → Nat → Int32) (S B : Nat) : Nat → Nat → Int32 := va_up A 4 (mMkA A S B 4)
abbrev mFit (A : Nat → Nat → Int32) (S i : Nat) (n : Int32) : Prop := 0 < tn (A 0 i) ∧ A 2 (60 * i + (tn (A 0 i) - 1)) + (n + 4) ≤ 1024 * nI S
def mWh (A : Nat → Nat → Int32) (S B i : Nat) (n : Int32) : Int32 := if mFit A S i n then A 1 (60 * i + (tn (A 0 i) - 1)) else if tn (A 0 i) = 60 then -1 else mPl (mMkA A S B 4) S (B + 1 - S - 4) 4
def mFrm (A : Nat → Nat → Int32) (S i : Nat) (n : Int32) : Int32 := if mFit A S i n then A 2 (60 * i + (tn (A 0 i) - 1)) else 0
def mCn (A : Nat → Nat → Int32) (S i : Nat) (n : Int32) : Int32 := tcV (mFrm A S i n) (n + 4) + 1
/-- rows 0 .. 3 when an entry has come -/
def mAp (A : Nat → Nat → Int32) (S B i : Nat) (n : Int32) : Nat → Nat → Int32 :=
  if mFit A S i n then va_up (va_up (mH A S B) 2 (upd (A 2) (60 * i + (tn (A 0 i) - 1)) (A 2 (60 * i + (tn (A 0 i) - 1)) + (n + 4)))) 3 (upd (A 3) i (A 3 i + 1))
  else va_up (va_up (va_up (va_up (va_up (mH A S B) 1 (upd (A 1) (60 * i + tn (A 0 i)) (mWh A S B i n))) 2 (upd (A 2) (60 * i + tn (A 0 i)) 0)) 0 (upd (A 0) i (A 0 i + 1))) 2 (upd (upd (A 2) (60 * i + tn (A 0 i)) 0) (60 * i + tn (A 0 i)) (0 + (n + 4)))) 3 (upd (A 3) i (A 3 i + 1))
/-- what append answers, and the state behind it -/
def mAppd (g : Gx) (r S B C : Nat) (a : Nat → Nat) (A : Nat → Nat → Int32) (cd wr lf dn : Int32) (en pl : Nat) (x n b : Int32) (H : Heap) (v : Option Value) (H1 : Heap) : Prop :=
  (¬ goC (if mOkA x n then 1 else 0) dn = 0 ∧ v = some (.int 0) ∧ mdAt g r S B C a A (goC (if mOkA x n then 1 else 0) dn) wr lf dn en pl H1 ∧ Mg r a a H H1) ∨
  (∃ i, i < 4 ∧ x = nI i ∧ 1 ≤ n ∧ n ≤ 20000 ∧ dn = 0 ∧
    ((1024 * nI S < n + 4 ∧ v = some (.int (-5)) ∧ mdAt g r S B C a A 0 wr lf dn en pl H1 ∧ Mg r a a H H1) ∨
     (¬ 1024 * nI S < n + 4 ∧ mWh A S B i n < 0 ∧ v = some (.int (-2)) ∧ mdAt g r S B C a (mH A S B) 0 wr lf dn en pl H1 ∧ Mg r a a H H1) ∨
     (¬ 1024 * nI S < n + 4 ∧ ¬ mWh A S B i n < 0 ∧ v = some (.int (if spN lf (mCn A S i n) = 0 then mCn A S i n else -3)) ∧
       ((spR lf (mCn A S i n) = 0 ∧ mdAt g r S B C a (mH A S B) 0 (wr + spW lf (mCn A S i n)) (spL lf (mCn A S i n)) (spN lf (mCn A S i n)) en pl H1 ∧ Mg r a a H H1) ∨
        (¬ spR lf (mCn A S i n) = 0 ∧ ∃ (C2 : Nat) (a2 : Nat → Nat) (A2 : Nat → Nat → Int32), mdAt g r S B C2 a2 A2 0 (wr + spW lf (mCn A S i n)) (spL lf (mCn A S i n)) (spN lf (mCn A S i n)) (en + 1) pl H1 ∧ (C2 = C ∧ en < C ∨ C2 = 2 * C ∧ en = C) ∧ mAdded (mAp A S B i n) A2 en x n b (mWh A S B i n) (mFrm A S i n) ∧ Mg r a a2 H H1)))))
set_option maxHeartbeats 4000000 in
set_option maxRecDepth 100000 in
/-- append -/
theorem m_append (g : Gx) (l : Launch) (r S B C : Nat) (a : Nat → Nat) (A : Nat → Nat → Int32) (cd wr lf dn : Int32) (en pl : Nat) (H : Heap) (h : mdAt g r S B C a A cd wr lf dn en pl H) (hSB : dkB S B) (hA : sgOk S A) (hC0 : 64 ≤ C) (hC1 : en ≤ C) (hC2 : C ≤ 512) (hen : en < 512) (hC3 : en = C → C ≤ 256) (x n b : Int32) : HM g l yX2_append cX2_append 10 (some .int) 2 66 5 2560 [.ref r, .int x, .int n, .int b] H (mAppd g r S B C a A cd wr lf dn en pl x n b H) (fN r a H.size) := by
  refine HM.ofW (by decide) (Nat.le_of_ble_eq_true rfl) (by simp [Value.category]) ?_
  intro p e s m args below meth c ls G hr hml hlocks hnm hH hl
  have hl : lh ls 10 [some (.ref r), some (.int x), some (.int n), some (.int b), none, none, none, none, none, none] := hl
  have hL : ∀ q ∈ ([] : List Loc), (fN r a H.size) q.base := fun q h => by cases h
  have hMr : ∀ q, f1 r q → fN r a H.size q := fun q h9 => Or.inl (Or.inl h9)
  have hM4 : ∀ q, f1 (a 4) q → fN r a H.size q := fun q h9 => Or.inl (Or.inr ⟨4, by decide, h9⟩)
  refine hb_aload_n G dX2_append_0 hl rfl ?_
  refine hb_iload_n G dX2_append_1 hl rfl ?_
  refine hb_callS (As := [.int x]) (rest := [.ref r]) G hml (m_isLog g l x _) km_X2_78 kt_X2_isLog kn_X2 ko_X2_isLog hd_X2_isLog ⟨Nat.le_of_ble_eq_true rfl, Nat.le_of_ble_eq_true rfl⟩ hl.size rfl (Nat.le_of_ble_eq_true rfl) dX2_append_2 ⟨Nat.le_of_ble_eq_true rfl, Nat.le_of_ble_eq_true rfl⟩ hL (f0_in) (fun v1 H locs1 hp hL => ?_)
  obtain ⟨rfl, rfl⟩ := hp
  refine lv_topi (fun r_1 er_1 => ?_)
  refine lv_if_eq (tgt := 24) G.1 G.2.1 dX2_append_5 (by decide) (fun c_2 => ?_) (fun c_2 => ?_)
  · refine lv_iconst (v := 0) G.1 G.2.1 dX2_append_24 (by decide) ?_
    have hok : ¬ mOkA x n := fun q => (it0 er_1).mp c_2 q.1
    refine hb_callV (As := [.int 0]) (rest := []) G hml (m_goes g l r S B C a A cd wr lf dn en pl _ h 0) (h.1) rfl km_X2_82 ki_X2_goes ks_X2_goes kn_X2 ko_X2_goes hd_X2_goes ⟨Nat.le_of_ble_eq_true rfl, Nat.le_of_ble_eq_true rfl⟩ hl.size rfl (Nat.le_of_ble_eq_true rfl) dX2_append_25 ⟨Nat.le_of_ble_eq_true rfl, Nat.le_of_ble_eq_true rfl⟩ hL (hMr) (fun v1 K1 locs1 hp hL => ?_)
    obtain ⟨rfl, hk, hF⟩ := hp
    refine lv_topi (fun r_3 er_3 => ?_)
    refine lv_if_ne (tgt := 33) G.1 G.2.1 dX2_append_28 (by decide) (fun c_4 => ?_) (fun c_4 => ?_)
    · exact absurd (by rw [er_3]; rfl) c_4
    · refine lv_iconst (v := 0) G.1 G.2.1 dX2_append_31 (by decide) ?_
      exact hb_iret G hr hlocks (Or.inl ⟨by rw [if_neg hok]; show ¬ goC 0 dn = 0; unfold goC; rw [if_pos rfl]; decide, rfl, by rw [if_neg hok]; exact hk, Mg.of (Mo.fd hF)⟩) hL (Nat.le_of_ble_eq_true rfl) (Nat.le_of_ble_eq_true rfl) dX2_append_32
  · have hlg : 0 ≤ x ∧ x < 4 := Decidable.not_not.mp (fun q => c_2 ((it0 er_1).mpr q))
    refine hb_iload_n G dX2_append_8 hl rfl ?_
    refine lv_iconst (v := 1) G.1 G.2.1 dX2_append_9 (by decide) ?_
    refine lv_icmp_lt (tgt := 24) G.1 G.2.1 dX2_append_10 (by decide) (fun c_5 => ?_) (fun c_5 => ?_)
    · refine lv_iconst (v := 0) G.1 G.2.1 dX2_append_24 (by decide) ?_
      have hok : ¬ mOkA x n := fun q => i32_nlt.mpr q.2.1 c_5
      refine hb_callV (As := [.int 0]) (rest := []) G hml (m_goes g l r S B C a A cd wr lf dn en pl _ h 0) (h.1) rfl km_X2_82 ki_X2_goes ks_X2_goes kn_X2 ko_X2_goes hd_X2_goes ⟨Nat.le_of_ble_eq_true rfl, Nat.le_of_ble_eq_true rfl⟩ hl.size rfl (Nat.le_of_ble_eq_true rfl) dX2_append_25 ⟨Nat.le_of_ble_eq_true rfl, Nat.le_of_ble_eq_true rfl⟩ hL (hMr) (fun v1 K1 locs1 hp hL => ?_)
      obtain ⟨rfl, hk, hF⟩ := hp
      refine lv_topi (fun r_6 er_6 => ?_)
      refine lv_if_ne (tgt := 33) G.1 G.2.1 dX2_append_28 (by decide) (fun c_7 => ?_) (fun c_7 => ?_)
      · exact absurd (by rw [er_6]; rfl) c_7
      · refine lv_iconst (v := 0) G.1 G.2.1 dX2_append_31 (by decide) ?_
        exact hb_iret G hr hlocks (Or.inl ⟨by rw [if_neg hok]; show ¬ goC 0 dn = 0; unfold goC; rw [if_pos rfl]; decide, rfl, by rw [if_neg hok]; exact hk, Mg.of (Mo.fd hF)⟩) hL (Nat.le_of_ble_eq_true rfl) (Nat.le_of_ble_eq_true rfl) dX2_append_32
    · refine hb_iload_n G dX2_append_13 hl rfl ?_
      refine lv_sipush (v := 20000) G.1 G.2.1 dX2_append_14 (by decide) ?_
      refine lv_icmp_gt (tgt := 24) G.1 G.2.1 dX2_append_17 (by decide) (fun c_8 => ?_) (fun c_8 => ?_)
      · refine lv_iconst (v := 0) G.1 G.2.1 dX2_append_24 (by decide) ?_
        have hok : ¬ mOkA x n := fun q => i32_nlt.mpr q.2.2 c_8
        refine hb_callV (As := [.int 0]) (rest := []) G hml (m_goes g l r S B C a A cd wr lf dn en pl _ h 0) (h.1) rfl km_X2_82 ki_X2_goes ks_X2_goes kn_X2 ko_X2_goes hd_X2_goes ⟨Nat.le_of_ble_eq_true rfl, Nat.le_of_ble_eq_true rfl⟩ hl.size rfl (Nat.le_of_ble_eq_true rfl) dX2_append_25 ⟨Nat.le_of_ble_eq_true rfl, Nat.le_of_ble_eq_true rfl⟩ hL (hMr) (fun v1 K1 locs1 hp hL => ?_)
        obtain ⟨rfl, hk, hF⟩ := hp
        refine lv_topi (fun r_9 er_9 => ?_)
        refine lv_if_ne (tgt := 33) G.1 G.2.1 dX2_append_28 (by decide) (fun c_10 => ?_) (fun c_10 => ?_)
        · exact absurd (by rw [er_9]; rfl) c_10
        · refine lv_iconst (v := 0) G.1 G.2.1 dX2_append_31 (by decide) ?_
          exact hb_iret G hr hlocks (Or.inl ⟨by rw [if_neg hok]; show ¬ goC 0 dn = 0; unfold goC; rw [if_pos rfl]; decide, rfl, by rw [if_neg hok]; exact hk, Mg.of (Mo.fd hF)⟩) hL (Nat.le_of_ble_eq_true rfl) (Nat.le_of_ble_eq_true rfl) dX2_append_32
      · have hok : mOkA x n := ⟨hlg, i32_nlt.mp c_5, i32_nlt.mp c_8⟩
        refine lv_iconst (v := 1) G.1 G.2.1 dX2_append_20 (by decide) ?_
        refine lv_goto (tgt := 25) G.1 G.2.1 dX2_append_21 (by decide) ?_
        refine hb_callV (As := [.int 1]) (rest := []) G hml (m_goes g l r S B C a A cd wr lf dn en pl _ h 1) (h.1) rfl km_X2_82 ki_X2_goes ks_X2_goes kn_X2 ko_X2_goes hd_X2_goes ⟨Nat.le_of_ble_eq_true rfl, Nat.le_of_ble_eq_true rfl⟩ hl.size rfl (Nat.le_of_ble_eq_true rfl) dX2_append_25 ⟨Nat.le_of_ble_eq_true rfl, Nat.le_of_ble_eq_true rfl⟩ hL (hMr) (fun v1 K1 locs1 hp hL => ?_)
        obtain ⟨rfl, hk, hF⟩ := hp
        have hg1 : goC 1 dn = if dn = 0 then 0 else 2 := by unfold goC; rw [if_neg (by decide)]
        refine lv_topi (fun r_11 er_11 => ?_)
        refine lv_if_ne (tgt := 33) G.1 G.2.1 dX2_append_28 (by decide) (fun c_12 => ?_) (fun c_12 => ?_)
        · have hg0 : goC 1 dn = 0 := Decidable.not_not.mp (fun q => c_12 ((it0 er_11).mpr q))
          have hdn : dn = 0 := Decidable.not_not.mp (fun q => by rw [hg1, if_neg q] at hg0; exact absurd hg0 (by decide))
          rw [hg0] at hk
          obtain ⟨i, hi, rfl⟩ := dkIs_of hlg
          obtain ⟨hs0, hs1, hs2⟩ := hA i hi
          have hB4 := hSB.2.2.2
          have hS2 := hSB.2.1
          refine hb_iload_n G dX2_append_33 hl rfl ?_
          refine lv_iconst (v := 4) G.1 G.2.1 dX2_append_34 (by decide) ?_
          refine lv_iadd G.1 G.2.1 dX2_append_35 ?_
          refine lv_topi (fun t_13 et_13 => ?_)
          obtain rfl : t_13 = n + 4 := et_13
          refine hb_istore G dX2_append_36 hl (by decide) (fun ls hl => ?_)
          have hl : lh ls 10 [some (.ref r), some (.int (nI i)), some (.int n), some (.int b), some (.int (n + 4)), none, none, none, none, none] := hl
          refine hb_iload G dX2_append_38 hl rfl ?_
          refine lv_sipush (v := 1024) G.1 G.2.1 dX2_append_40 (by decide) ?_
          refine hb_aload_n G dX2_append_43 hl rfl ?_
          refine hb_get G hk.1 rfl inX2 1 (by decide) kf_X2_51 rfl rfl dX2_append_44 ?_
          refine lv_imul G.1 G.2.1 dX2_append_47 ?_
          refine lv_topi (fun t_14 et_14 => ?_)
          obtain rfl : t_14 = 1024 * nI S := et_14
          refine lv_icmp_le (tgt := 54) G.1 G.2.1 dX2_append_48 (by decide) (fun c_15 => ?_) (fun c_15 => ?_)
          · have hla : ¬ 1024 * nI S < n + 4 := i32_nlt.mpr c_15
            refine lv_bipush (v := 60) G.1 G.2.1 dX2_append_54 (by decide) ?_
            refine hb_iload_n G dX2_append_56 hl rfl ?_
            refine lv_imul G.1 G.2.1 dX2_append_57 ?_
            refine lv_topi (fun t_16 et_16 => ?_)
            refine hb_aload_n G dX2_append_58 hl rfl ?_
            refine hb_get G hk.1 rfl inX2 6 (by decide) kf_X2_13 rfl rfl dX2_append_59 ?_
            refine hb_iload_n G dX2_append_62 hl rfl ?_
            refine hb_iald G (show ia g (a 0) 4 (A 0) _ from hk.2.1 0 (by decide)) (by rw [show nI i = nI i from rfl]; exact vp_in_nI (by omega) (by decide)) dX2_append_63 ?_
            refine lv_topi (fun r_17 er_17 => ?_)
            have er_17 : r_17 = A 0 (i) := by rw [er_17, show ((nI i)).toNatClampNeg = i by rw [show nI i = nI i from rfl]; exact nI_clamp (by omega)]
            have hrs : r_17 = nI (tn (A 0 i)) := by rw [er_17]; exact hs0
            refine lv_iadd G.1 G.2.1 dX2_append_64 ?_
            refine lv_topi (fun t_18 et_18 => ?_)
            refine lv_iconst (v := 1) G.1 G.2.1 dX2_append_65 (by decide) ?_
            refine lv_isub G.1 G.2.1 dX2_append_66 ?_
            refine lv_topi (fun t_19 et_19 => ?_)
            have h5 : 0 < tn (A 0 i) → t_19 = nI (60 * i + (tn (A 0 i) - 1)) := fun q => by rw [et_19, et_18, et_16, hrs, nI_60, nI_m1 (by omega), show 60 * i + tn (A 0 i) - 1 = 60 * i + (tn (A 0 i) - 1) by omega]
            refine hb_istore G dX2_append_67 hl (by decide) (fun ls hl => ?_)
            have hl : lh ls 10 [some (.ref r), some (.int (nI i)), some (.int n), some (.int b), some (.int (n + 4)), some (.int t_19), none, none, none, none] := hl
            refine hb_aload_n G dX2_append_69 hl rfl ?_
            refine hb_get G hk.1 rfl inX2 6 (by decide) kf_X2_13 rfl rfl dX2_append_70 ?_
            refine hb_iload_n G dX2_append_73 hl rfl ?_
            refine hb_iald G (show ia g (a 0) 4 (A 0) _ from hk.2.1 0 (by decide)) (by rw [show nI i = nI i from rfl]; exact vp_in_nI (by omega) (by decide)) dX2_append_74 ?_
            refine lv_topi (fun r_20 er_20 => ?_)
            have er_20 : r_20 = A 0 (i) := by rw [er_20, show ((nI i)).toNatClampNeg = i by rw [show nI i = nI i from rfl]; exact nI_clamp (by omega)]
            have hrs2 : r_20 = nI (tn (A 0 i)) := by rw [er_20]; exact hs0
            refine lv_if_le (tgt := 103) G.1 G.2.1 dX2_append_75 (by decide) (fun c_21 => ?_) (fun c_21 => ?_)
            · have hfit : ¬ mFit A S i n := fun q => by have := (ic_le hrs2 (show (0 : Int32) = nI 0 from rfl) (by omega) (by decide)).mp c_21; have := q.1; omega
              refine lv_iconst (v := 0) G.1 G.2.1 dX2_append_103 (by decide) ?_
              refine hb_istore G dX2_append_104 hl (by decide) (fun ls hl => ?_)
              have hl : lh ls 10 [some (.ref r), some (.int (nI i)), some (.int n), some (.int b), some (.int (n + 4)), some (.int t_19), some (.int 0), none, none, none] := hl
              refine hb_aload_n G dX2_append_106 hl rfl ?_
              refine hb_callV (As := []) (rest := []) G hml (m_mark g l r S B C a A 0 wr lf dn en pl _ hk hSB hA) (hk.1) rfl km_X2_86 ki_X2_mark ks_X2_mark kn_X2 ko_X2_mark hd_X2_mark ⟨Nat.le_of_ble_eq_true rfl, Nat.le_of_ble_eq_true rfl⟩ hl.size rfl (Nat.le_of_ble_eq_true rfl) dX2_append_107 ⟨Nat.le_of_ble_eq_true rfl, Nat.le_of_ble_eq_true rfl⟩ hL (hM4) (fun v1 K2 locs2 hp hL => ?_)
              obtain ⟨rfl, hk2, hF2⟩ := hp
              have hk2 : mdAt g r S B C a (mH A S B) 0 wr lf dn en pl K2 := hk2
              have hm2 : Mo r a _ K2 := (Mo.fd hF).tr (Mo.ar (k := 4) hF2 (by decide))
              refine hb_iload G dX2_append_110 hl rfl ?_
              refine lv_if_eq (tgt := 125) G.1 G.2.1 dX2_append_112 (by decide) (fun c_22 => ?_) (fun c_22 => ?_)
              · refine hb_aload_n G dX2_append_125 hl rfl ?_
                refine hb_get G hk2.1 rfl inX2 6 (by decide) kf_X2_13 rfl rfl dX2_append_126 ?_
                refine hb_iload_n G dX2_append_129 hl rfl ?_
                refine hb_iald G (show ia g (a 0) 4 ((mH A S B) 0) _ from hk2.2.1 0 (by decide)) (by rw [show nI i = nI i from rfl]; exact vp_in_nI (by omega) (by decide)) dX2_append_130 ?_
                refine lv_topi (fun r_23 er_23 => ?_)
                have er_23 : r_23 = (mH A S B) 0 (i) := by rw [er_23, show ((nI i)).toNatClampNeg = i by rw [show nI i = nI i from rfl]; exact nI_clamp (by omega)]
                have hr3 : r_23 = nI (tn (A 0 i)) := by rw [er_23]; exact hs0
                refine lv_bipush (v := 60) G.1 G.2.1 dX2_append_131 (by decide) ?_
                refine lv_icmp_ne (tgt := 140) G.1 G.2.1 dX2_append_133 (by decide) (fun c_24 => ?_) (fun c_24 => ?_)
                · have hn60 : ¬ tn (A 0 i) = 60 := fun q => c_24 (by rw [hr3, q]; rfl)
                  refine hb_aload_n G dX2_append_140 hl rfl ?_
                  refine hb_callV (As := []) (rest := []) G hml (m_place g l r S B C a (mH A S B) 0 wr lf dn en pl _ hk2 hSB) (hk2.1) rfl km_X2_89 ki_X2_place ks_X2_place kn_X2 ko_X2_place hd_X2_place ⟨Nat.le_of_ble_eq_true rfl, Nat.le_of_ble_eq_true rfl⟩ hl.size rfl (Nat.le_of_ble_eq_true rfl) dX2_append_141 ⟨Nat.le_of_ble_eq_true rfl, Nat.le_of_ble_eq_true rfl⟩ hL (f0_in) (fun v1 K2 locs2 hp hL => ?_)
                  obtain ⟨rfl, rfl⟩ := hp
                  refine lv_topi (fun r_25 er_25 => ?_)
                  have hwh : mWh A S B i n = r_25 := by unfold mWh; rw [if_neg hfit, if_neg hn60, er_25]; rfl
                  refine hb_istore G dX2_append_144 hl (by decide) (fun ls hl => ?_)
                  have hl : lh ls 10 [some (.ref r), some (.int (nI i)), some (.int n), some (.int b), some (.int (n + 4)), some (.int t_19), some (.int 0), some (.int r_25), none, none] := hl
                  refine hb_iload G dX2_append_146 hl rfl ?_
                  refine lv_if_ge (tgt := 154) G.1 G.2.1 dX2_append_148 (by decide) (fun c_26 => ?_) (fun c_26 => ?_)
                  · have hwn : ¬ mWh A S B i n < 0 := by rw [hwh]; exact i32_nlt.mpr c_26
                    refine hb_iload G dX2_append_154 hl rfl ?_
                    refine lv_if_eq (tgt := 169) G.1 G.2.1 dX2_append_156 (by decide) (fun c_27 => ?_) (fun c_27 => ?_)
                    · refine lv_iconst (v := 0) G.1 G.2.1 dX2_append_169 (by decide) ?_
                      have hfz : (0 : Int32) = mFrm A S i n := by unfold mFrm; rw [if_neg hfit]
                      refine hb_istore G dX2_append_170 hl (by decide) (fun ls hl => ?_)
                      have hl : lh ls 10 [some (.ref r), some (.int (nI i)), some (.int n), some (.int b), some (.int (n + 4)), some (.int t_19), some (.int 0), some (.int r_25), some (.int 0), none] := hl
                      refine hb_iload G dX2_append_172 hl rfl ?_
                      refine hb_iload G dX2_append_174 hl rfl ?_
                      refine hb_callS (As := [.int 0, .int (n + 4)]) (rest := []) G hml (m_touched g l 0 (n + 4) _) km_X2_93 kt_X2_touched kn_X2 ko_X2_touched hd_X2_touched ⟨Nat.le_of_ble_eq_true rfl, Nat.le_of_ble_eq_true rfl⟩ hl.size rfl (Nat.le_of_ble_eq_true rfl) dX2_append_176 ⟨Nat.le_of_ble_eq_true rfl, Nat.le_of_ble_eq_true rfl⟩ hL (f0_in) (fun v1 K2 locs2 hp hL => ?_)
                      obtain ⟨rfl, rfl⟩ := hp
                      refine lv_topi (fun r_28 er_28 => ?_)
                      refine lv_iconst (v := 1) G.1 G.2.1 dX2_append_179 (by decide) ?_
                      refine lv_iadd G.1 G.2.1 dX2_append_180 ?_
                      refine lv_topi (fun t_29 et_29 => ?_)
                      obtain rfl : t_29 = mCn A S i n := by rw [et_29, er_28]; unfold mCn; rw [← hfz]
                      refine hb_istore G dX2_append_181 hl (by decide) (fun ls hl => ?_)
                      have hl : lh ls 10 [some (.ref r), some (.int (nI i)), some (.int n), some (.int b), some (.int (n + 4)), some (.int t_19), some (.int 0), some (.int r_25), some (.int 0), some (.int (mCn A S i n))] := hl
                      refine hb_aload_n G dX2_append_183 hl rfl ?_
                      refine hb_iload G dX2_append_184 hl rfl ?_
                      refine hb_callV (As := [.int (mCn A S i n)]) (rest := []) G hml (m_spend g l r S B C a (mH A S B) 0 wr lf dn en pl _ hk2 (mCn A S i n)) (hk2.1) rfl km_X2_97 ki_X2_spend ks_X2_spend kn_X2 ko_X2_spend hd_X2_spend ⟨Nat.le_of_ble_eq_true rfl, Nat.le_of_ble_eq_true rfl⟩ hl.size rfl (Nat.le_of_ble_eq_true rfl) dX2_append_186 ⟨Nat.le_of_ble_eq_true rfl, Nat.le_of_ble_eq_true rfl⟩ hL (hMr) (fun v1 K3 locs3 hp hL => ?_)
                      obtain ⟨rfl, hk3, hF3⟩ := hp
                      have hm3 : Mo r a _ K3 := hm2.tr (Mo.fd hF3)
                      refine lv_topi (fun r_30 er_30 => ?_)
                      refine lv_if_eq (tgt := 270) G.1 G.2.1 dX2_append_189 (by decide) (fun c_31 => ?_) (fun c_31 => ?_)
                      · refine hb_aload_n G dX2_append_270 hl rfl ?_
                        refine hb_get G hk3.1 rfl inX2 5 (by decide) kf_X2_60 rfl rfl dX2_append_271 ?_
                        refine lv_if_eq (tgt := 282) G.1 G.2.1 dX2_append_274 (by decide) (fun c_32 => ?_) (fun c_32 => ?_)
                        · refine hb_iload G dX2_append_282 hl rfl ?_
                          exact hb_iret G hr hlocks (Or.inr ⟨i, hi, rfl, hok.2.1, hok.2.2, hdn, Or.inr (Or.inr ⟨hla, hwn, by rw [if_pos c_32], Or.inl ⟨by rw [← er_30]; exact c_31, hk3, Mg.of hm3⟩⟩)⟩) hL (Nat.le_of_ble_eq_true rfl) (Nat.le_of_ble_eq_true rfl) dX2_append_284
                        · refine lv_bipush (v := (-3)) G.1 G.2.1 dX2_append_277 (by decide) ?_
                          refine lv_goto (tgt := 284) G.1 G.2.1 dX2_append_279 (by decide) ?_
                          exact hb_iret G hr hlocks (Or.inr ⟨i, hi, rfl, hok.2.1, hok.2.2, hdn, Or.inr (Or.inr ⟨hla, hwn, by rw [if_neg c_32], Or.inl ⟨by rw [← er_30]; exact c_31, hk3, Mg.of hm3⟩⟩)⟩) hL (Nat.le_of_ble_eq_true rfl) (Nat.le_of_ble_eq_true rfl) dX2_append_284
                      · refine hb_iload G dX2_append_192 hl rfl ?_
                        refine lv_if_ne (tgt := 237) G.1 G.2.1 dX2_append_194 (by decide) (fun c_33 => ?_) (fun c_33 => ?_)
                        · exact absurd (by decide) c_33
                        · have hlt : tn (A 0 i) < 60 := by rcases Nat.lt_or_ge (tn (A 0 i)) 60 with q | q; exact q; exact absurd (by omega) hn60
                          refine lv_bipush (v := 60) G.1 G.2.1 dX2_append_197 (by decide) ?_
                          refine hb_iload_n G dX2_append_199 hl rfl ?_
                          refine lv_imul G.1 G.2.1 dX2_append_200 ?_
                          refine lv_topi (fun t_34 et_34 => ?_)
                          refine hb_aload_n G dX2_append_201 hl rfl ?_
                          refine hb_get G hk3.1 rfl inX2 6 (by decide) kf_X2_13 rfl rfl dX2_append_202 ?_
                          refine hb_iload_n G dX2_append_205 hl rfl ?_
                          refine hb_iald G (show ia g (a 0) 4 ((mH A S B) 0) _ from hk3.2.1 0 (by decide)) (by rw [show nI i = nI i from rfl]; exact vp_in_nI (by omega) (by decide)) dX2_append_206 ?_
                          refine lv_topi (fun r_35 er_35 => ?_)
                          have er_35 : r_35 = (mH A S B) 0 (i) := by rw [er_35, show ((nI i)).toNatClampNeg = i by rw [show nI i = nI i from rfl]; exact nI_clamp (by omega)]
                          have hr4 : r_35 = nI (tn (A 0 i)) := by rw [er_35]; exact hs0
                          refine lv_iadd G.1 G.2.1 dX2_append_207 ?_
                          refine lv_topi (fun t_36 et_36 => ?_)
                          refine hb_istore G dX2_append_208 hl (by decide) (fun ls hl => ?_)
                          have hl : lh ls 10 [some (.ref r), some (.int (nI i)), some (.int n), some (.int b), some (.int (n + 4)), some (.int t_36), some (.int 0), some (.int r_25), some (.int 0), some (.int (mCn A S i n))] := hl
                          refine hb_aload_n G dX2_append_210 hl rfl ?_
                          refine hb_get G hk3.1 rfl inX2 7 (by decide) kf_X2_17 rfl rfl dX2_append_211 ?_
                          refine hb_iload G dX2_append_214 hl rfl ?_
                          refine hb_iload G dX2_append_216 hl rfl ?_
                          have h6 : t_36 = nI (60 * i + tn (A 0 i)) := by rw [et_36, et_34, hr4]; exact nI_60 _ _
                          refine hb_iast G (show ia g (a 1) 240 ((mH A S B) 1) _ from hk3.2.1 1 (by decide)) (by rw [h6]; exact vp_in_nI (by omega) (by decide)) hL (Or.inl (fM_a (by decide))) dX2_append_218 (fun N1 locs hg1 hz1 ho1 hL => ?_)
                          rw [show (t_36).toNatClampNeg = 60 * i + tn (A 0 i) by rw [h6]; exact nI_clamp (by omega)] at hg1
                          have hn1 := hk3.up (k := 1) (by decide) hg1 ⟨hz1, ho1⟩
                          have hn1 : mdAt g r S B C a (va_up (mH A S B) 1 (upd (A 1) (60 * i + tn (A 0 i)) (mWh A S B i n))) 0 (wr + spW lf (mCn A S i n)) (spL lf (mCn A S i n)) (spN lf (mCn A S i n)) en pl N1 := by rw [hwh]; exact hn1
                          refine hb_aload_n G dX2_append_219 hl rfl ?_
                          refine hb_get G hn1.1 rfl inX2 8 (by decide) kf_X2_20 rfl rfl dX2_append_220 ?_
                          refine hb_iload G dX2_append_223 hl rfl ?_
                          refine lv_iconst (v := 0) G.1 G.2.1 dX2_append_225 (by decide) ?_
                          refine hb_iast G (show ia g (a 2) 240 ((va_up (mH A S B) 1 (upd (A 1) (60 * i + tn (A 0 i)) (mWh A S B i n))) 2) _ from hn1.2.1 2 (by decide)) (by rw [h6]; exact vp_in_nI (by omega) (by decide)) hL (Or.inl (fM_a (by decide))) dX2_append_226 (fun N2 locs hg2 hz2 ho2 hL => ?_)
                          rw [show (t_36).toNatClampNeg = 60 * i + tn (A 0 i) by rw [h6]; exact nI_clamp (by omega)] at hg2
                          have hn2 := hn1.up (k := 2) (by decide) hg2 ⟨hz2, ho2⟩
                          have hn2 : mdAt g r S B C a (va_up (va_up (mH A S B) 1 (upd (A 1) (60 * i + tn (A 0 i)) (mWh A S B i n))) 2 (upd (A 2) (60 * i + tn (A 0 i)) 0)) 0 (wr + spW lf (mCn A S i n)) (spL lf (mCn A S i n)) (spN lf (mCn A S i n)) en pl N2 := hn2
                          refine hb_aload_n G dX2_append_227 hl rfl ?_
                          refine hb_get G hn2.1 rfl inX2 6 (by decide) kf_X2_13 rfl rfl dX2_append_228 ?_
                          refine hb_iload_n G dX2_append_231 hl rfl ?_
                          refine lv_dup2_11 G.1 G.2.1 dX2_append_232 rfl rfl ?_
                          refine hb_iald G (show ia g (a 0) 4 ((va_up (va_up (mH A S B) 1 (upd (A 1) (60 * i + tn (A 0 i)) (mWh A S B i n))) 2 (upd (A 2) (60 * i + tn (A 0 i)) 0)) 0) _ from hn2.2.1 0 (by decide)) (by rw [show nI i = nI i from rfl]; exact vp_in_nI (by omega) (by decide)) dX2_append_233 ?_
                          refine lv_topi (fun r_37 er_37 => ?_)
                          have er_37 : r_37 = (va_up (va_up (mH A S B) 1 (upd (A 1) (60 * i + tn (A 0 i)) (mWh A S B i n))) 2 (upd (A 2) (60 * i + tn (A 0 i)) 0)) 0 (i) := by rw [er_37, show ((nI i)).toNatClampNeg = i by rw [show nI i = nI i from rfl]; exact nI_clamp (by omega)]
                          refine lv_iconst (v := 1) G.1 G.2.1 dX2_append_234 (by decide) ?_
                          refine lv_iadd G.1 G.2.1 dX2_append_235 ?_
                          refine lv_topi (fun t_38 et_38 => ?_)
                          refine hb_iast G (show ia g (a 0) 4 ((va_up (va_up (mH A S B) 1 (upd (A 1) (60 * i + tn (A 0 i)) (mWh A S B i n))) 2 (upd (A 2) (60 * i + tn (A 0 i)) 0)) 0) _ from hn2.2.1 0 (by decide)) (by rw [show nI i = nI i from rfl]; exact vp_in_nI (by omega) (by decide)) hL (Or.inl (fM_a (by decide))) dX2_append_236 (fun N3 locs hg3 hz3 ho3 hL => ?_)
                          rw [show ((nI i)).toNatClampNeg = i by rw [show nI i = nI i from rfl]; exact nI_clamp (by omega)] at hg3
                          have hn3 := hn2.up (k := 0) (by decide) hg3 ⟨hz3, ho3⟩
                          have hn3 : mdAt g r S B C a (va_up (va_up (va_up (mH A S B) 1 (upd (A 1) (60 * i + tn (A 0 i)) (mWh A S B i n))) 2 (upd (A 2) (60 * i + tn (A 0 i)) 0)) 0 (upd (A 0) i (A 0 i + 1))) 0 (wr + spW lf (mCn A S i n)) (spL lf (mCn A S i n)) (spN lf (mCn A S i n)) en pl N3 := by rw [et_38, er_37] at hn3; exact hn3
                          have hm4 : Mo r a _ N3 := hm3.tr ((Mo.ar (k := 1) ⟨hz1, ho1⟩ (by decide)).tr ((Mo.ar (k := 2) ⟨hz2, ho2⟩ (by decide)).tr (Mo.ar (k := 0) ⟨hz3, ho3⟩ (by decide))))
                          refine hb_aload_n G dX2_append_237 hl rfl ?_
                          refine hb_get G hn3.1 rfl inX2 8 (by decide) kf_X2_20 rfl rfl dX2_append_238 ?_
                          refine hb_iload G dX2_append_241 hl rfl ?_
                          refine lv_dup2_11 G.1 G.2.1 dX2_append_243 rfl rfl ?_
                          refine hb_iald G (show ia g (a 2) 240 ((va_up (va_up (va_up (mH A S B) 1 (upd (A 1) (60 * i + tn (A 0 i)) (mWh A S B i n))) 2 (upd (A 2) (60 * i + tn (A 0 i)) 0)) 0 (upd (A 0) i (A 0 i + 1))) 2) _ from hn3.2.1 2 (by decide)) (by rw [h6]; exact vp_in_nI (by omega) (by decide)) dX2_append_244 ?_
                          refine lv_topi (fun r_39 er_39 => ?_)
                          have er_39 : r_39 = (va_up (va_up (va_up (mH A S B) 1 (upd (A 1) (60 * i + tn (A 0 i)) (mWh A S B i n))) 2 (upd (A 2) (60 * i + tn (A 0 i)) 0)) 0 (upd (A 0) i (A 0 i + 1))) 2 (60 * i + tn (A 0 i)) := by rw [er_39, show (t_36).toNatClampNeg = 60 * i + tn (A 0 i) by rw [h6]; exact nI_clamp (by omega)]
                          refine hb_iload G dX2_append_245 hl rfl ?_
                          refine lv_iadd G.1 G.2.1 dX2_append_247 ?_
                          refine lv_topi (fun t_40 et_40 => ?_)
                          have hv6 : t_40 = (0 + (n + 4)) := by rw [et_40, er_39]; show (upd (A 2) (60 * i + tn (A 0 i)) 0 (60 * i + tn (A 0 i))) + (n + 4) = 0 + (n + 4); rw [pk_us]
                          refine hb_iast G (show ia g (a 2) 240 ((va_up (va_up (va_up (mH A S B) 1 (upd (A 1) (60 * i + tn (A 0 i)) (mWh A S B i n))) 2 (upd (A 2) (60 * i + tn (A 0 i)) 0)) 0 (upd (A 0) i (A 0 i + 1))) 2) _ from hn3.2.1 2 (by decide)) (by rw [h6]; exact vp_in_nI (by omega) (by decide)) hL (Or.inl (fM_a (by decide))) dX2_append_248 (fun N5 locs hg5 hz5 ho5 hL => ?_)
                          rw [show (t_36).toNatClampNeg = 60 * i + tn (A 0 i) by rw [h6]; exact nI_clamp (by omega), hv6] at hg5
                          have hn5 := hn3.up (k := 2) (by decide) hg5 ⟨hz5, ho5⟩
                          have hn5 : mdAt g r S B C a (va_up (va_up (va_up (va_up (mH A S B) 1 (upd (A 1) (60 * i + tn (A 0 i)) (mWh A S B i n))) 2 (upd (A 2) (60 * i + tn (A 0 i)) 0)) 0 (upd (A 0) i (A 0 i + 1))) 2 (upd (upd (A 2) (60 * i + tn (A 0 i)) 0) (60 * i + tn (A 0 i)) (0 + (n + 4)))) 0 (wr + spW lf (mCn A S i n)) (spL lf (mCn A S i n)) (spN lf (mCn A S i n)) en pl N5 := hn5
                          refine hb_aload_n G dX2_append_249 hl rfl ?_
                          refine hb_get G hn5.1 rfl inX2 9 (by decide) kf_X2_23 rfl rfl dX2_append_250 ?_
                          refine hb_iload_n G dX2_append_253 hl rfl ?_
                          refine lv_dup2_11 G.1 G.2.1 dX2_append_254 rfl rfl ?_
                          refine hb_iald G (show ia g (a 3) 4 ((va_up (va_up (va_up (va_up (mH A S B) 1 (upd (A 1) (60 * i + tn (A 0 i)) (mWh A S B i n))) 2 (upd (A 2) (60 * i + tn (A 0 i)) 0)) 0 (upd (A 0) i (A 0 i + 1))) 2 (upd (upd (A 2) (60 * i + tn (A 0 i)) 0) (60 * i + tn (A 0 i)) (0 + (n + 4)))) 3) _ from hn5.2.1 3 (by decide)) (by rw [show nI i = nI i from rfl]; exact vp_in_nI (by omega) (by decide)) dX2_append_255 ?_
                          refine lv_topi (fun r_41 er_41 => ?_)
                          have er_41 : r_41 = (va_up (va_up (va_up (va_up (mH A S B) 1 (upd (A 1) (60 * i + tn (A 0 i)) (mWh A S B i n))) 2 (upd (A 2) (60 * i + tn (A 0 i)) 0)) 0 (upd (A 0) i (A 0 i + 1))) 2 (upd (upd (A 2) (60 * i + tn (A 0 i)) 0) (60 * i + tn (A 0 i)) (0 + (n + 4)))) 3 (i) := by rw [er_41, show ((nI i)).toNatClampNeg = i by rw [show nI i = nI i from rfl]; exact nI_clamp (by omega)]
                          refine lv_iconst (v := 1) G.1 G.2.1 dX2_append_256 (by decide) ?_
                          refine lv_iadd G.1 G.2.1 dX2_append_257 ?_
                          refine lv_topi (fun t_42 et_42 => ?_)
                          refine hb_iast G (show ia g (a 3) 4 ((va_up (va_up (va_up (va_up (mH A S B) 1 (upd (A 1) (60 * i + tn (A 0 i)) (mWh A S B i n))) 2 (upd (A 2) (60 * i + tn (A 0 i)) 0)) 0 (upd (A 0) i (A 0 i + 1))) 2 (upd (upd (A 2) (60 * i + tn (A 0 i)) 0) (60 * i + tn (A 0 i)) (0 + (n + 4)))) 3) _ from hn5.2.1 3 (by decide)) (by rw [show nI i = nI i from rfl]; exact vp_in_nI (by omega) (by decide)) hL (Or.inl (fM_a (by decide))) dX2_append_258 (fun N6 locs hg6 hz6 ho6 hL => ?_)
                          rw [show ((nI i)).toNatClampNeg = i by rw [show nI i = nI i from rfl]; exact nI_clamp (by omega)] at hg6
                          have hn6 := hn5.up (k := 3) (by decide) hg6 ⟨hz6, ho6⟩
                          have hn6 : mdAt g r S B C a (mAp A S B i n) 0 (wr + spW lf (mCn A S i n)) (spL lf (mCn A S i n)) (spN lf (mCn A S i n)) en pl N6 := by unfold mAp; rw [if_neg hfit]; rw [et_42, er_41] at hn6; exact hn6
                          have hm6 : Mo r a _ N6 := hm4.tr ((Mo.ar (k := 2) ⟨hz5, ho5⟩ (by decide)).tr (Mo.ar (k := 3) ⟨hz6, ho6⟩ (by decide)))
                          refine hb_aload_n G dX2_append_259 hl rfl ?_
                          refine hb_iload_n G dX2_append_260 hl rfl ?_
                          refine hb_iload_n G dX2_append_261 hl rfl ?_
                          refine hb_iload_n G dX2_append_262 hl rfl ?_
                          refine hb_iload G dX2_append_263 hl rfl ?_
                          refine hb_iload G dX2_append_265 hl rfl ?_
                          have hsz6 : N6.size = _ := hm6.1
                          refine hb_callV (As := [.int (nI i), .int n, .int b, .int r_25, .int 0]) (rest := []) G hml (m_add g l r S B C a (mAp A S B i n) 0 _ _ _ en pl _ hn6 hC0 hC1 hC2 hen hC3 (nI i) n b r_25 0) (hn6.1) rfl km_X2_100 ki_X2_add ks_X2_add kn_X2 ko_X2_add hd_X2_add ⟨Nat.le_of_ble_eq_true rfl, Nat.le_of_ble_eq_true rfl⟩ hl.size rfl (Nat.le_of_ble_eq_true rfl) dX2_append_267 ⟨Nat.le_of_ble_eq_true rfl, Nat.le_of_ble_eq_true rfl⟩ hL (fun q h9 => h9.elim Or.inl (fun h8 => Or.inr (by rw [← hsz6]; exact h8))) (fun v1 K9 locs9 hp hL => ?_)
                          obtain ⟨rfl, C2, a2, A2, hk9, hc9, had, hmg⟩ := hp
                          refine hb_aload_n G dX2_append_270 hl rfl ?_
                          refine hb_get G hk9.1 rfl inX2 5 (by decide) kf_X2_60 rfl rfl dX2_append_271 ?_
                          refine lv_if_eq (tgt := 282) G.1 G.2.1 dX2_append_274 (by decide) (fun c_43 => ?_) (fun c_43 => ?_)
                          · refine hb_iload G dX2_append_282 hl rfl ?_
                            exact hb_iret G hr hlocks (Or.inr ⟨i, hi, rfl, hok.2.1, hok.2.2, hdn, Or.inr (Or.inr ⟨hla, hwn, by rw [if_pos c_43], Or.inr ⟨by rw [← er_30]; exact c_31, C2, a2, A2, hk9, hc9, by rw [hwh, ← hfz]; exact had, (Mg.of hm6).tr hmg⟩⟩)⟩) hL (Nat.le_of_ble_eq_true rfl) (Nat.le_of_ble_eq_true rfl) dX2_append_284
                          · refine lv_bipush (v := (-3)) G.1 G.2.1 dX2_append_277 (by decide) ?_
                            refine lv_goto (tgt := 284) G.1 G.2.1 dX2_append_279 (by decide) ?_
                            exact hb_iret G hr hlocks (Or.inr ⟨i, hi, rfl, hok.2.1, hok.2.2, hdn, Or.inr (Or.inr ⟨hla, hwn, by rw [if_neg c_43], Or.inr ⟨by rw [← er_30]; exact c_31, C2, a2, A2, hk9, hc9, by rw [hwh, ← hfz]; exact had, (Mg.of hm6).tr hmg⟩⟩)⟩) hL (Nat.le_of_ble_eq_true rfl) (Nat.le_of_ble_eq_true rfl) dX2_append_284
                    · exact absurd rfl c_27
                  · have hwn : mWh A S B i n < 0 := by rw [hwh]; exact i32_nle.mp c_26
                    refine lv_bipush (v := (-2)) G.1 G.2.1 dX2_append_151 (by decide) ?_
                    exact hb_iret G hr hlocks (Or.inr ⟨i, hi, rfl, hok.2.1, hok.2.2, hdn, Or.inr (Or.inl ⟨hla, hwn, rfl, hk2, Mg.of hm2⟩)⟩) hL (Nat.le_of_ble_eq_true rfl) (Nat.le_of_ble_eq_true rfl) dX2_append_153
                · have h60 : tn (A 0 i) = 60 := (nI_eq (by omega) (by decide)).mp (hr3.symm.trans c_24)
                  have hwh : mWh A S B i n = -1 := by unfold mWh; rw [if_neg hfit, if_pos h60]
                  refine lv_iconst (v := (-1)) G.1 G.2.1 dX2_append_136 (by decide) ?_
                  refine lv_goto (tgt := 144) G.1 G.2.1 dX2_append_137 (by decide) ?_
                  refine hb_istore G dX2_append_144 hl (by decide) (fun ls hl => ?_)
                  have hl : lh ls 10 [some (.ref r), some (.int (nI i)), some (.int n), some (.int b), some (.int (n + 4)), some (.int t_19), some (.int 0), some (.int (-1)), none, none] := hl
                  refine hb_iload G dX2_append_146 hl rfl ?_
                  refine lv_if_ge (tgt := 154) G.1 G.2.1 dX2_append_148 (by decide) (fun c_44 => ?_) (fun c_44 => ?_)
                  · exact absurd c_44 (by decide)
                  · refine lv_bipush (v := (-2)) G.1 G.2.1 dX2_append_151 (by decide) ?_
                    exact hb_iret G hr hlocks (Or.inr ⟨i, hi, rfl, hok.2.1, hok.2.2, hdn, Or.inr (Or.inl ⟨hla, by rw [hwh]; decide, rfl, hk2, Mg.of hm2⟩)⟩) hL (Nat.le_of_ble_eq_true rfl) (Nat.le_of_ble_eq_true rfl) dX2_append_153
              · exact absurd rfl c_22
            · have hpos : 0 < tn (A 0 i) := by have := mt (ic_le hrs2 (show (0 : Int32) = nI 0 from rfl) (by omega) (by decide)).mpr c_21; omega
              refine hb_aload_n G dX2_append_78 hl rfl ?_
              refine hb_get G hk.1 rfl inX2 8 (by decide) kf_X2_20 rfl rfl dX2_append_79 ?_
              refine hb_iload G dX2_append_82 hl rfl ?_
              refine hb_iald G (show ia g (a 2) 240 (A 2) _ from hk.2.1 2 (by decide)) (by rw [h5 hpos]; exact vp_in_nI (by omega) (by decide)) dX2_append_84 ?_
              refine lv_topi (fun r_45 er_45 => ?_)
              have er_45 : r_45 = A 2 (60 * i + (tn (A 0 i) - 1)) := by rw [er_45, show (t_19).toNatClampNeg = 60 * i + (tn (A 0 i) - 1) by rw [h5 hpos]; exact nI_clamp (by omega)]
              refine hb_iload G dX2_append_85 hl rfl ?_
              refine lv_iadd G.1 G.2.1 dX2_append_87 ?_
              refine lv_topi (fun t_46 et_46 => ?_)
              refine lv_sipush (v := 1024) G.1 G.2.1 dX2_append_88 (by decide) ?_
              refine hb_aload_n G dX2_append_91 hl rfl ?_
              refine hb_get G hk.1 rfl inX2 1 (by decide) kf_X2_51 rfl rfl dX2_append_92 ?_
              refine lv_imul G.1 G.2.1 dX2_append_95 ?_
              refine lv_topi (fun t_47 et_47 => ?_)
              refine lv_icmp_gt (tgt := 103) G.1 G.2.1 dX2_append_96 (by decide) (fun c_48 => ?_) (fun c_48 => ?_)
              · have hfit : ¬ mFit A S i n := fun q => by have q2 := q.2; rw [← er_45, ← et_46, ← et_47] at q2; exact i32_nlt.mpr q2 c_48
                refine lv_iconst (v := 0) G.1 G.2.1 dX2_append_103 (by decide) ?_
                refine hb_istore G dX2_append_104 hl (by decide) (fun ls hl => ?_)
                have hl : lh ls 10 [some (.ref r), some (.int (nI i)), some (.int n), some (.int b), some (.int (n + 4)), some (.int t_19), some (.int 0), none, none, none] := hl
                refine hb_aload_n G dX2_append_106 hl rfl ?_
                refine hb_callV (As := []) (rest := []) G hml (m_mark g l r S B C a A 0 wr lf dn en pl _ hk hSB hA) (hk.1) rfl km_X2_86 ki_X2_mark ks_X2_mark kn_X2 ko_X2_mark hd_X2_mark ⟨Nat.le_of_ble_eq_true rfl, Nat.le_of_ble_eq_true rfl⟩ hl.size rfl (Nat.le_of_ble_eq_true rfl) dX2_append_107 ⟨Nat.le_of_ble_eq_true rfl, Nat.le_of_ble_eq_true rfl⟩ hL (hM4) (fun v1 K2 locs2 hp hL => ?_)
                obtain ⟨rfl, hk2, hF2⟩ := hp
                have hk2 : mdAt g r S B C a (mH A S B) 0 wr lf dn en pl K2 := hk2
                have hm2 : Mo r a _ K2 := (Mo.fd hF).tr (Mo.ar (k := 4) hF2 (by decide))
                refine hb_iload G dX2_append_110 hl rfl ?_
                refine lv_if_eq (tgt := 125) G.1 G.2.1 dX2_append_112 (by decide) (fun c_49 => ?_) (fun c_49 => ?_)
                · refine hb_aload_n G dX2_append_125 hl rfl ?_
                  refine hb_get G hk2.1 rfl inX2 6 (by decide) kf_X2_13 rfl rfl dX2_append_126 ?_
                  refine hb_iload_n G dX2_append_129 hl rfl ?_
                  refine hb_iald G (show ia g (a 0) 4 ((mH A S B) 0) _ from hk2.2.1 0 (by decide)) (by rw [show nI i = nI i from rfl]; exact vp_in_nI (by omega) (by decide)) dX2_append_130 ?_
                  refine lv_topi (fun r_50 er_50 => ?_)
                  have er_50 : r_50 = (mH A S B) 0 (i) := by rw [er_50, show ((nI i)).toNatClampNeg = i by rw [show nI i = nI i from rfl]; exact nI_clamp (by omega)]
                  have hr3 : r_50 = nI (tn (A 0 i)) := by rw [er_50]; exact hs0
                  refine lv_bipush (v := 60) G.1 G.2.1 dX2_append_131 (by decide) ?_
                  refine lv_icmp_ne (tgt := 140) G.1 G.2.1 dX2_append_133 (by decide) (fun c_51 => ?_) (fun c_51 => ?_)
                  · have hn60 : ¬ tn (A 0 i) = 60 := fun q => c_51 (by rw [hr3, q]; rfl)
                    refine hb_aload_n G dX2_append_140 hl rfl ?_
                    refine hb_callV (As := []) (rest := []) G hml (m_place g l r S B C a (mH A S B) 0 wr lf dn en pl _ hk2 hSB) (hk2.1) rfl km_X2_89 ki_X2_place ks_X2_place kn_X2 ko_X2_place hd_X2_place ⟨Nat.le_of_ble_eq_true rfl, Nat.le_of_ble_eq_true rfl⟩ hl.size rfl (Nat.le_of_ble_eq_true rfl) dX2_append_141 ⟨Nat.le_of_ble_eq_true rfl, Nat.le_of_ble_eq_true rfl⟩ hL (f0_in) (fun v1 K2 locs2 hp hL => ?_)
                    obtain ⟨rfl, rfl⟩ := hp
                    refine lv_topi (fun r_52 er_52 => ?_)
                    have hwh : mWh A S B i n = r_52 := by unfold mWh; rw [if_neg hfit, if_neg hn60, er_52]; rfl
                    refine hb_istore G dX2_append_144 hl (by decide) (fun ls hl => ?_)
                    have hl : lh ls 10 [some (.ref r), some (.int (nI i)), some (.int n), some (.int b), some (.int (n + 4)), some (.int t_19), some (.int 0), some (.int r_52), none, none] := hl
                    refine hb_iload G dX2_append_146 hl rfl ?_
                    refine lv_if_ge (tgt := 154) G.1 G.2.1 dX2_append_148 (by decide) (fun c_53 => ?_) (fun c_53 => ?_)
                    · have hwn : ¬ mWh A S B i n < 0 := by rw [hwh]; exact i32_nlt.mpr c_53
                      refine hb_iload G dX2_append_154 hl rfl ?_
                      refine lv_if_eq (tgt := 169) G.1 G.2.1 dX2_append_156 (by decide) (fun c_54 => ?_) (fun c_54 => ?_)
                      · refine lv_iconst (v := 0) G.1 G.2.1 dX2_append_169 (by decide) ?_
                        have hfz : (0 : Int32) = mFrm A S i n := by unfold mFrm; rw [if_neg hfit]
                        refine hb_istore G dX2_append_170 hl (by decide) (fun ls hl => ?_)
                        have hl : lh ls 10 [some (.ref r), some (.int (nI i)), some (.int n), some (.int b), some (.int (n + 4)), some (.int t_19), some (.int 0), some (.int r_52), some (.int 0), none] := hl
                        refine hb_iload G dX2_append_172 hl rfl ?_
                        refine hb_iload G dX2_append_174 hl rfl ?_
                        refine hb_callS (As := [.int 0, .int (n + 4)]) (rest := []) G hml (m_touched g l 0 (n + 4) _) km_X2_93 kt_X2_touched kn_X2 ko_X2_touched hd_X2_touched ⟨Nat.le_of_ble_eq_true rfl, Nat.le_of_ble_eq_true rfl⟩ hl.size rfl (Nat.le_of_ble_eq_true rfl) dX2_append_176 ⟨Nat.le_of_ble_eq_true rfl, Nat.le_of_ble_eq_true rfl⟩ hL (f0_in) (fun v1 K2 locs2 hp hL => ?_)
                        obtain ⟨rfl, rfl⟩ := hp
                        refine lv_topi (fun r_55 er_55 => ?_)
                        refine lv_iconst (v := 1) G.1 G.2.1 dX2_append_179 (by decide) ?_
                        refine lv_iadd G.1 G.2.1 dX2_append_180 ?_
                        refine lv_topi (fun t_56 et_56 => ?_)
                        obtain rfl : t_56 = mCn A S i n := by rw [et_56, er_55]; unfold mCn; rw [← hfz]
                        refine hb_istore G dX2_append_181 hl (by decide) (fun ls hl => ?_)
                        have hl : lh ls 10 [some (.ref r), some (.int (nI i)), some (.int n), some (.int b), some (.int (n + 4)), some (.int t_19), some (.int 0), some (.int r_52), some (.int 0), some (.int (mCn A S i n))] := hl
                        refine hb_aload_n G dX2_append_183 hl rfl ?_
                        refine hb_iload G dX2_append_184 hl rfl ?_
                        refine hb_callV (As := [.int (mCn A S i n)]) (rest := []) G hml (m_spend g l r S B C a (mH A S B) 0 wr lf dn en pl _ hk2 (mCn A S i n)) (hk2.1) rfl km_X2_97 ki_X2_spend ks_X2_spend kn_X2 ko_X2_spend hd_X2_spend ⟨Nat.le_of_ble_eq_true rfl, Nat.le_of_ble_eq_true rfl⟩ hl.size rfl (Nat.le_of_ble_eq_true rfl) dX2_append_186 ⟨Nat.le_of_ble_eq_true rfl, Nat.le_of_ble_eq_true rfl⟩ hL (hMr) (fun v1 K3 locs3 hp hL => ?_)
                        obtain ⟨rfl, hk3, hF3⟩ := hp
                        have hm3 : Mo r a _ K3 := hm2.tr (Mo.fd hF3)
                        refine lv_topi (fun r_57 er_57 => ?_)
                        refine lv_if_eq (tgt := 270) G.1 G.2.1 dX2_append_189 (by decide) (fun c_58 => ?_) (fun c_58 => ?_)
                        · refine hb_aload_n G dX2_append_270 hl rfl ?_
                          refine hb_get G hk3.1 rfl inX2 5 (by decide) kf_X2_60 rfl rfl dX2_append_271 ?_
                          refine lv_if_eq (tgt := 282) G.1 G.2.1 dX2_append_274 (by decide) (fun c_59 => ?_) (fun c_59 => ?_)
                          · refine hb_iload G dX2_append_282 hl rfl ?_
                            exact hb_iret G hr hlocks (Or.inr ⟨i, hi, rfl, hok.2.1, hok.2.2, hdn, Or.inr (Or.inr ⟨hla, hwn, by rw [if_pos c_59], Or.inl ⟨by rw [← er_57]; exact c_58, hk3, Mg.of hm3⟩⟩)⟩) hL (Nat.le_of_ble_eq_true rfl) (Nat.le_of_ble_eq_true rfl) dX2_append_284
                          · refine lv_bipush (v := (-3)) G.1 G.2.1 dX2_append_277 (by decide) ?_
                            refine lv_goto (tgt := 284) G.1 G.2.1 dX2_append_279 (by decide) ?_
                            exact hb_iret G hr hlocks (Or.inr ⟨i, hi, rfl, hok.2.1, hok.2.2, hdn, Or.inr (Or.inr ⟨hla, hwn, by rw [if_neg c_59], Or.inl ⟨by rw [← er_57]; exact c_58, hk3, Mg.of hm3⟩⟩)⟩) hL (Nat.le_of_ble_eq_true rfl) (Nat.le_of_ble_eq_true rfl) dX2_append_284
                        · refine hb_iload G dX2_append_192 hl rfl ?_
                          refine lv_if_ne (tgt := 237) G.1 G.2.1 dX2_append_194 (by decide) (fun c_60 => ?_) (fun c_60 => ?_)
                          · exact absurd (by decide) c_60
                          · have hlt : tn (A 0 i) < 60 := by rcases Nat.lt_or_ge (tn (A 0 i)) 60 with q | q; exact q; exact absurd (by omega) hn60
                            refine lv_bipush (v := 60) G.1 G.2.1 dX2_append_197 (by decide) ?_
                            refine hb_iload_n G dX2_append_199 hl rfl ?_
                            refine lv_imul G.1 G.2.1 dX2_append_200 ?_
                            refine lv_topi (fun t_61 et_61 => ?_)
                            refine hb_aload_n G dX2_append_201 hl rfl ?_
                            refine hb_get G hk3.1 rfl inX2 6 (by decide) kf_X2_13 rfl rfl dX2_append_202 ?_
                            refine hb_iload_n G dX2_append_205 hl rfl ?_
                            refine hb_iald G (show ia g (a 0) 4 ((mH A S B) 0) _ from hk3.2.1 0 (by decide)) (by rw [show nI i = nI i from rfl]; exact vp_in_nI (by omega) (by decide)) dX2_append_206 ?_
                            refine lv_topi (fun r_62 er_62 => ?_)
                            have er_62 : r_62 = (mH A S B) 0 (i) := by rw [er_62, show ((nI i)).toNatClampNeg = i by rw [show nI i = nI i from rfl]; exact nI_clamp (by omega)]
                            have hr4 : r_62 = nI (tn (A 0 i)) := by rw [er_62]; exact hs0
                            refine lv_iadd G.1 G.2.1 dX2_append_207 ?_
                            refine lv_topi (fun t_63 et_63 => ?_)
                            refine hb_istore G dX2_append_208 hl (by decide) (fun ls hl => ?_)
                            have hl : lh ls 10 [some (.ref r), some (.int (nI i)), some (.int n), some (.int b), some (.int (n + 4)), some (.int t_63), some (.int 0), some (.int r_52), some (.int 0), some (.int (mCn A S i n))] := hl
                            refine hb_aload_n G dX2_append_210 hl rfl ?_
                            refine hb_get G hk3.1 rfl inX2 7 (by decide) kf_X2_17 rfl rfl dX2_append_211 ?_
                            refine hb_iload G dX2_append_214 hl rfl ?_
                            refine hb_iload G dX2_append_216 hl rfl ?_
                            have h6 : t_63 = nI (60 * i + tn (A 0 i)) := by rw [et_63, et_61, hr4]; exact nI_60 _ _
                            refine hb_iast G (show ia g (a 1) 240 ((mH A S B) 1) _ from hk3.2.1 1 (by decide)) (by rw [h6]; exact vp_in_nI (by omega) (by decide)) hL (Or.inl (fM_a (by decide))) dX2_append_218 (fun N1 locs hg1 hz1 ho1 hL => ?_)
                            rw [show (t_63).toNatClampNeg = 60 * i + tn (A 0 i) by rw [h6]; exact nI_clamp (by omega)] at hg1
                            have hn1 := hk3.up (k := 1) (by decide) hg1 ⟨hz1, ho1⟩
                            have hn1 : mdAt g r S B C a (va_up (mH A S B) 1 (upd (A 1) (60 * i + tn (A 0 i)) (mWh A S B i n))) 0 (wr + spW lf (mCn A S i n)) (spL lf (mCn A S i n)) (spN lf (mCn A S i n)) en pl N1 := by rw [hwh]; exact hn1
                            refine hb_aload_n G dX2_append_219 hl rfl ?_
                            refine hb_get G hn1.1 rfl inX2 8 (by decide) kf_X2_20 rfl rfl dX2_append_220 ?_
                            refine hb_iload G dX2_append_223 hl rfl ?_
                            refine lv_iconst (v := 0) G.1 G.2.1 dX2_append_225 (by decide) ?_
                            refine hb_iast G (show ia g (a 2) 240 ((va_up (mH A S B) 1 (upd (A 1) (60 * i + tn (A 0 i)) (mWh A S B i n))) 2) _ from hn1.2.1 2 (by decide)) (by rw [h6]; exact vp_in_nI (by omega) (by decide)) hL (Or.inl (fM_a (by decide))) dX2_append_226 (fun N2 locs hg2 hz2 ho2 hL => ?_)
                            rw [show (t_63).toNatClampNeg = 60 * i + tn (A 0 i) by rw [h6]; exact nI_clamp (by omega)] at hg2
                            have hn2 := hn1.up (k := 2) (by decide) hg2 ⟨hz2, ho2⟩
                            have hn2 : mdAt g r S B C a (va_up (va_up (mH A S B) 1 (upd (A 1) (60 * i + tn (A 0 i)) (mWh A S B i n))) 2 (upd (A 2) (60 * i + tn (A 0 i)) 0)) 0 (wr + spW lf (mCn A S i n)) (spL lf (mCn A S i n)) (spN lf (mCn A S i n)) en pl N2 := hn2
                            refine hb_aload_n G dX2_append_227 hl rfl ?_
                            refine hb_get G hn2.1 rfl inX2 6 (by decide) kf_X2_13 rfl rfl dX2_append_228 ?_
                            refine hb_iload_n G dX2_append_231 hl rfl ?_
                            refine lv_dup2_11 G.1 G.2.1 dX2_append_232 rfl rfl ?_
                            refine hb_iald G (show ia g (a 0) 4 ((va_up (va_up (mH A S B) 1 (upd (A 1) (60 * i + tn (A 0 i)) (mWh A S B i n))) 2 (upd (A 2) (60 * i + tn (A 0 i)) 0)) 0) _ from hn2.2.1 0 (by decide)) (by rw [show nI i = nI i from rfl]; exact vp_in_nI (by omega) (by decide)) dX2_append_233 ?_
                            refine lv_topi (fun r_64 er_64 => ?_)
                            have er_64 : r_64 = (va_up (va_up (mH A S B) 1 (upd (A 1) (60 * i + tn (A 0 i)) (mWh A S B i n))) 2 (upd (A 2) (60 * i + tn (A 0 i)) 0)) 0 (i) := by rw [er_64, show ((nI i)).toNatClampNeg = i by rw [show nI i = nI i from rfl]; exact nI_clamp (by omega)]
                            refine lv_iconst (v := 1) G.1 G.2.1 dX2_append_234 (by decide) ?_
                            refine lv_iadd G.1 G.2.1 dX2_append_235 ?_
                            refine lv_topi (fun t_65 et_65 => ?_)
                            refine hb_iast G (show ia g (a 0) 4 ((va_up (va_up (mH A S B) 1 (upd (A 1) (60 * i + tn (A 0 i)) (mWh A S B i n))) 2 (upd (A 2) (60 * i + tn (A 0 i)) 0)) 0) _ from hn2.2.1 0 (by decide)) (by rw [show nI i = nI i from rfl]; exact vp_in_nI (by omega) (by decide)) hL (Or.inl (fM_a (by decide))) dX2_append_236 (fun N3 locs hg3 hz3 ho3 hL => ?_)
                            rw [show ((nI i)).toNatClampNeg = i by rw [show nI i = nI i from rfl]; exact nI_clamp (by omega)] at hg3
                            have hn3 := hn2.up (k := 0) (by decide) hg3 ⟨hz3, ho3⟩
                            have hn3 : mdAt g r S B C a (va_up (va_up (va_up (mH A S B) 1 (upd (A 1) (60 * i + tn (A 0 i)) (mWh A S B i n))) 2 (upd (A 2) (60 * i + tn (A 0 i)) 0)) 0 (upd (A 0) i (A 0 i + 1))) 0 (wr + spW lf (mCn A S i n)) (spL lf (mCn A S i n)) (spN lf (mCn A S i n)) en pl N3 := by rw [et_65, er_64] at hn3; exact hn3
                            have hm4 : Mo r a _ N3 := hm3.tr ((Mo.ar (k := 1) ⟨hz1, ho1⟩ (by decide)).tr ((Mo.ar (k := 2) ⟨hz2, ho2⟩ (by decide)).tr (Mo.ar (k := 0) ⟨hz3, ho3⟩ (by decide))))
                            refine hb_aload_n G dX2_append_237 hl rfl ?_
                            refine hb_get G hn3.1 rfl inX2 8 (by decide) kf_X2_20 rfl rfl dX2_append_238 ?_
                            refine hb_iload G dX2_append_241 hl rfl ?_
                            refine lv_dup2_11 G.1 G.2.1 dX2_append_243 rfl rfl ?_
                            refine hb_iald G (show ia g (a 2) 240 ((va_up (va_up (va_up (mH A S B) 1 (upd (A 1) (60 * i + tn (A 0 i)) (mWh A S B i n))) 2 (upd (A 2) (60 * i + tn (A 0 i)) 0)) 0 (upd (A 0) i (A 0 i + 1))) 2) _ from hn3.2.1 2 (by decide)) (by rw [h6]; exact vp_in_nI (by omega) (by decide)) dX2_append_244 ?_
                            refine lv_topi (fun r_66 er_66 => ?_)
                            have er_66 : r_66 = (va_up (va_up (va_up (mH A S B) 1 (upd (A 1) (60 * i + tn (A 0 i)) (mWh A S B i n))) 2 (upd (A 2) (60 * i + tn (A 0 i)) 0)) 0 (upd (A 0) i (A 0 i + 1))) 2 (60 * i + tn (A 0 i)) := by rw [er_66, show (t_63).toNatClampNeg = 60 * i + tn (A 0 i) by rw [h6]; exact nI_clamp (by omega)]
                            refine hb_iload G dX2_append_245 hl rfl ?_
                            refine lv_iadd G.1 G.2.1 dX2_append_247 ?_
                            refine lv_topi (fun t_67 et_67 => ?_)
                            have hv6 : t_67 = (0 + (n + 4)) := by rw [et_67, er_66]; show (upd (A 2) (60 * i + tn (A 0 i)) 0 (60 * i + tn (A 0 i))) + (n + 4) = 0 + (n + 4); rw [pk_us]
                            refine hb_iast G (show ia g (a 2) 240 ((va_up (va_up (va_up (mH A S B) 1 (upd (A 1) (60 * i + tn (A 0 i)) (mWh A S B i n))) 2 (upd (A 2) (60 * i + tn (A 0 i)) 0)) 0 (upd (A 0) i (A 0 i + 1))) 2) _ from hn3.2.1 2 (by decide)) (by rw [h6]; exact vp_in_nI (by omega) (by decide)) hL (Or.inl (fM_a (by decide))) dX2_append_248 (fun N5 locs hg5 hz5 ho5 hL => ?_)
                            rw [show (t_63).toNatClampNeg = 60 * i + tn (A 0 i) by rw [h6]; exact nI_clamp (by omega), hv6] at hg5
                            have hn5 := hn3.up (k := 2) (by decide) hg5 ⟨hz5, ho5⟩
                            have hn5 : mdAt g r S B C a (va_up (va_up (va_up (va_up (mH A S B) 1 (upd (A 1) (60 * i + tn (A 0 i)) (mWh A S B i n))) 2 (upd (A 2) (60 * i + tn (A 0 i)) 0)) 0 (upd (A 0) i (A 0 i + 1))) 2 (upd (upd (A 2) (60 * i + tn (A 0 i)) 0) (60 * i + tn (A 0 i)) (0 + (n + 4)))) 0 (wr + spW lf (mCn A S i n)) (spL lf (mCn A S i n)) (spN lf (mCn A S i n)) en pl N5 := hn5
                            refine hb_aload_n G dX2_append_249 hl rfl ?_
                            refine hb_get G hn5.1 rfl inX2 9 (by decide) kf_X2_23 rfl rfl dX2_append_250 ?_
                            refine hb_iload_n G dX2_append_253 hl rfl ?_
                            refine lv_dup2_11 G.1 G.2.1 dX2_append_254 rfl rfl ?_
                            refine hb_iald G (show ia g (a 3) 4 ((va_up (va_up (va_up (va_up (mH A S B) 1 (upd (A 1) (60 * i + tn (A 0 i)) (mWh A S B i n))) 2 (upd (A 2) (60 * i + tn (A 0 i)) 0)) 0 (upd (A 0) i (A 0 i + 1))) 2 (upd (upd (A 2) (60 * i + tn (A 0 i)) 0) (60 * i + tn (A 0 i)) (0 + (n + 4)))) 3) _ from hn5.2.1 3 (by decide)) (by rw [show nI i = nI i from rfl]; exact vp_in_nI (by omega) (by decide)) dX2_append_255 ?_
                            refine lv_topi (fun r_68 er_68 => ?_)
                            have er_68 : r_68 = (va_up (va_up (va_up (va_up (mH A S B) 1 (upd (A 1) (60 * i + tn (A 0 i)) (mWh A S B i n))) 2 (upd (A 2) (60 * i + tn (A 0 i)) 0)) 0 (upd (A 0) i (A 0 i + 1))) 2 (upd (upd (A 2) (60 * i + tn (A 0 i)) 0) (60 * i + tn (A 0 i)) (0 + (n + 4)))) 3 (i) := by rw [er_68, show ((nI i)).toNatClampNeg = i by rw [show nI i = nI i from rfl]; exact nI_clamp (by omega)]
                            refine lv_iconst (v := 1) G.1 G.2.1 dX2_append_256 (by decide) ?_
                            refine lv_iadd G.1 G.2.1 dX2_append_257 ?_
                            refine lv_topi (fun t_69 et_69 => ?_)
                            refine hb_iast G (show ia g (a 3) 4 ((va_up (va_up (va_up (va_up (mH A S B) 1 (upd (A 1) (60 * i + tn (A 0 i)) (mWh A S B i n))) 2 (upd (A 2) (60 * i + tn (A 0 i)) 0)) 0 (upd (A 0) i (A 0 i + 1))) 2 (upd (upd (A 2) (60 * i + tn (A 0 i)) 0) (60 * i + tn (A 0 i)) (0 + (n + 4)))) 3) _ from hn5.2.1 3 (by decide)) (by rw [show nI i = nI i from rfl]; exact vp_in_nI (by omega) (by decide)) hL (Or.inl (fM_a (by decide))) dX2_append_258 (fun N6 locs hg6 hz6 ho6 hL => ?_)
                            rw [show ((nI i)).toNatClampNeg = i by rw [show nI i = nI i from rfl]; exact nI_clamp (by omega)] at hg6
                            have hn6 := hn5.up (k := 3) (by decide) hg6 ⟨hz6, ho6⟩
                            have hn6 : mdAt g r S B C a (mAp A S B i n) 0 (wr + spW lf (mCn A S i n)) (spL lf (mCn A S i n)) (spN lf (mCn A S i n)) en pl N6 := by unfold mAp; rw [if_neg hfit]; rw [et_69, er_68] at hn6; exact hn6
                            have hm6 : Mo r a _ N6 := hm4.tr ((Mo.ar (k := 2) ⟨hz5, ho5⟩ (by decide)).tr (Mo.ar (k := 3) ⟨hz6, ho6⟩ (by decide)))
                            refine hb_aload_n G dX2_append_259 hl rfl ?_
                            refine hb_iload_n G dX2_append_260 hl rfl ?_
                            refine hb_iload_n G dX2_append_261 hl rfl ?_
                            refine hb_iload_n G dX2_append_262 hl rfl ?_
                            refine hb_iload G dX2_append_263 hl rfl ?_
                            refine hb_iload G dX2_append_265 hl rfl ?_
                            have hsz6 : N6.size = _ := hm6.1
                            refine hb_callV (As := [.int (nI i), .int n, .int b, .int r_52, .int 0]) (rest := []) G hml (m_add g l r S B C a (mAp A S B i n) 0 _ _ _ en pl _ hn6 hC0 hC1 hC2 hen hC3 (nI i) n b r_52 0) (hn6.1) rfl km_X2_100 ki_X2_add ks_X2_add kn_X2 ko_X2_add hd_X2_add ⟨Nat.le_of_ble_eq_true rfl, Nat.le_of_ble_eq_true rfl⟩ hl.size rfl (Nat.le_of_ble_eq_true rfl) dX2_append_267 ⟨Nat.le_of_ble_eq_true rfl, Nat.le_of_ble_eq_true rfl⟩ hL (fun q h9 => h9.elim Or.inl (fun h8 => Or.inr (by rw [← hsz6]; exact h8))) (fun v1 K9 locs9 hp hL => ?_)
                            obtain ⟨rfl, C2, a2, A2, hk9, hc9, had, hmg⟩ := hp
                            refine hb_aload_n G dX2_append_270 hl rfl ?_
                            refine hb_get G hk9.1 rfl inX2 5 (by decide) kf_X2_60 rfl rfl dX2_append_271 ?_
                            refine lv_if_eq (tgt := 282) G.1 G.2.1 dX2_append_274 (by decide) (fun c_70 => ?_) (fun c_70 => ?_)
                            · refine hb_iload G dX2_append_282 hl rfl ?_
                              exact hb_iret G hr hlocks (Or.inr ⟨i, hi, rfl, hok.2.1, hok.2.2, hdn, Or.inr (Or.inr ⟨hla, hwn, by rw [if_pos c_70], Or.inr ⟨by rw [← er_57]; exact c_58, C2, a2, A2, hk9, hc9, by rw [hwh, ← hfz]; exact had, (Mg.of hm6).tr hmg⟩⟩)⟩) hL (Nat.le_of_ble_eq_true rfl) (Nat.le_of_ble_eq_true rfl) dX2_append_284
                            · refine lv_bipush (v := (-3)) G.1 G.2.1 dX2_append_277 (by decide) ?_
                              refine lv_goto (tgt := 284) G.1 G.2.1 dX2_append_279 (by decide) ?_
                              exact hb_iret G hr hlocks (Or.inr ⟨i, hi, rfl, hok.2.1, hok.2.2, hdn, Or.inr (Or.inr ⟨hla, hwn, by rw [if_neg c_70], Or.inr ⟨by rw [← er_57]; exact c_58, C2, a2, A2, hk9, hc9, by rw [hwh, ← hfz]; exact had, (Mg.of hm6).tr hmg⟩⟩)⟩) hL (Nat.le_of_ble_eq_true rfl) (Nat.le_of_ble_eq_true rfl) dX2_append_284
                      · exact absurd rfl c_54
                    · have hwn : mWh A S B i n < 0 := by rw [hwh]; exact i32_nle.mp c_53
                      refine lv_bipush (v := (-2)) G.1 G.2.1 dX2_append_151 (by decide) ?_
                      exact hb_iret G hr hlocks (Or.inr ⟨i, hi, rfl, hok.2.1, hok.2.2, hdn, Or.inr (Or.inl ⟨hla, hwn, rfl, hk2, Mg.of hm2⟩)⟩) hL (Nat.le_of_ble_eq_true rfl) (Nat.le_of_ble_eq_true rfl) dX2_append_153
                  · have h60 : tn (A 0 i) = 60 := (nI_eq (by omega) (by decide)).mp (hr3.symm.trans c_51)
                    have hwh : mWh A S B i n = -1 := by unfold mWh; rw [if_neg hfit, if_pos h60]
                    refine lv_iconst (v := (-1)) G.1 G.2.1 dX2_append_136 (by decide) ?_
                    refine lv_goto (tgt := 144) G.1 G.2.1 dX2_append_137 (by decide) ?_
                    refine hb_istore G dX2_append_144 hl (by decide) (fun ls hl => ?_)
                    have hl : lh ls 10 [some (.ref r), some (.int (nI i)), some (.int n), some (.int b), some (.int (n + 4)), some (.int t_19), some (.int 0), some (.int (-1)), none, none] := hl
                    refine hb_iload G dX2_append_146 hl rfl ?_
                    refine lv_if_ge (tgt := 154) G.1 G.2.1 dX2_append_148 (by decide) (fun c_71 => ?_) (fun c_71 => ?_)
                    · exact absurd c_71 (by decide)
                    · refine lv_bipush (v := (-2)) G.1 G.2.1 dX2_append_151 (by decide) ?_
                      exact hb_iret G hr hlocks (Or.inr ⟨i, hi, rfl, hok.2.1, hok.2.2, hdn, Or.inr (Or.inl ⟨hla, by rw [hwh]; decide, rfl, hk2, Mg.of hm2⟩)⟩) hL (Nat.le_of_ble_eq_true rfl) (Nat.le_of_ble_eq_true rfl) dX2_append_153
                · exact absurd rfl c_49
              · have hfit : mFit A S i n := ⟨hpos, by rw [← er_45, ← et_46, ← et_47]; exact i32_nlt.mp c_48⟩
                refine lv_iconst (v := 1) G.1 G.2.1 dX2_append_99 (by decide) ?_
                refine lv_goto (tgt := 104) G.1 G.2.1 dX2_append_100 (by decide) ?_
                refine hb_istore G dX2_append_104 hl (by decide) (fun ls hl => ?_)
                have hl : lh ls 10 [some (.ref r), some (.int (nI i)), some (.int n), some (.int b), some (.int (n + 4)), some (.int t_19), some (.int 1), none, none, none] := hl
                refine hb_aload_n G dX2_append_106 hl rfl ?_
                refine hb_callV (As := []) (rest := []) G hml (m_mark g l r S B C a A 0 wr lf dn en pl _ hk hSB hA) (hk.1) rfl km_X2_86 ki_X2_mark ks_X2_mark kn_X2 ko_X2_mark hd_X2_mark ⟨Nat.le_of_ble_eq_true rfl, Nat.le_of_ble_eq_true rfl⟩ hl.size rfl (Nat.le_of_ble_eq_true rfl) dX2_append_107 ⟨Nat.le_of_ble_eq_true rfl, Nat.le_of_ble_eq_true rfl⟩ hL (hM4) (fun v1 K2 locs2 hp hL => ?_)
                obtain ⟨rfl, hk2, hF2⟩ := hp
                have hk2 : mdAt g r S B C a (mH A S B) 0 wr lf dn en pl K2 := hk2
                have hm2 : Mo r a _ K2 := (Mo.fd hF).tr (Mo.ar (k := 4) hF2 (by decide))
                refine hb_iload G dX2_append_110 hl rfl ?_
                refine lv_if_eq (tgt := 125) G.1 G.2.1 dX2_append_112 (by decide) (fun c_72 => ?_) (fun c_72 => ?_)
                · exact absurd c_72 (by decide)
                · refine hb_aload_n G dX2_append_115 hl rfl ?_
                  refine hb_get G hk2.1 rfl inX2 7 (by decide) kf_X2_17 rfl rfl dX2_append_116 ?_
                  refine hb_iload G dX2_append_119 hl rfl ?_
                  refine hb_iald G (show ia g (a 1) 240 ((mH A S B) 1) _ from hk2.2.1 1 (by decide)) (by rw [h5 hfit.1]; exact vp_in_nI (by omega) (by decide)) dX2_append_121 ?_
                  refine lv_topi (fun r_73 er_73 => ?_)
                  have er_73 : r_73 = (mH A S B) 1 (60 * i + (tn (A 0 i) - 1)) := by rw [er_73, show (t_19).toNatClampNeg = 60 * i + (tn (A 0 i) - 1) by rw [h5 hfit.1]; exact nI_clamp (by omega)]
                  have hwh : mWh A S B i n = r_73 := by unfold mWh; rw [if_pos hfit, er_73]; rfl
                  have hw0 : ¬ r_73 < 0 := by rw [er_73]; show ¬ A 1 (60 * i + (tn (A 0 i) - 1)) < 0; rw [(hs2 (tn (A 0 i) - 1) (by have := hfit.1; omega)).1]; exact nI_pos (by have := (hs2 (tn (A 0 i) - 1) (by have := hfit.1; omega)).2; omega)
                  refine lv_goto (tgt := 144) G.1 G.2.1 dX2_append_122 (by decide) ?_
                  refine hb_istore G dX2_append_144 hl (by decide) (fun ls hl => ?_)
                  have hl : lh ls 10 [some (.ref r), some (.int (nI i)), some (.int n), some (.int b), some (.int (n + 4)), some (.int t_19), some (.int 1), some (.int r_73), none, none] := hl
                  refine hb_iload G dX2_append_146 hl rfl ?_
                  refine lv_if_ge (tgt := 154) G.1 G.2.1 dX2_append_148 (by decide) (fun c_74 => ?_) (fun c_74 => ?_)
                  · have hwn : ¬ mWh A S B i n < 0 := by rw [hwh]; exact i32_nlt.mpr c_74
                    refine hb_iload G dX2_append_154 hl rfl ?_
                    refine lv_if_eq (tgt := 169) G.1 G.2.1 dX2_append_156 (by decide) (fun c_75 => ?_) (fun c_75 => ?_)
                    · exact absurd c_75 (by decide)
                    · refine hb_aload_n G dX2_append_159 hl rfl ?_
                      refine hb_get G hk2.1 rfl inX2 8 (by decide) kf_X2_20 rfl rfl dX2_append_160 ?_
                      refine hb_iload G dX2_append_163 hl rfl ?_
                      refine hb_iald G (show ia g (a 2) 240 ((mH A S B) 2) _ from hk2.2.1 2 (by decide)) (by rw [h5 hfit.1]; exact vp_in_nI (by omega) (by decide)) dX2_append_165 ?_
                      refine lv_topi (fun r_76 er_76 => ?_)
                      have er_76 : r_76 = (mH A S B) 2 (60 * i + (tn (A 0 i) - 1)) := by rw [er_76, show (t_19).toNatClampNeg = 60 * i + (tn (A 0 i) - 1) by rw [h5 hfit.1]; exact nI_clamp (by omega)]
                      obtain rfl : r_76 = mFrm A S i n := by rw [er_76]; unfold mFrm; rw [if_pos hfit]; rfl
                      refine lv_goto (tgt := 170) G.1 G.2.1 dX2_append_166 (by decide) ?_
                      refine hb_istore G dX2_append_170 hl (by decide) (fun ls hl => ?_)
                      have hl : lh ls 10 [some (.ref r), some (.int (nI i)), some (.int n), some (.int b), some (.int (n + 4)), some (.int t_19), some (.int 1), some (.int r_73), some (.int (mFrm A S i n)), none] := hl
                      refine hb_iload G dX2_append_172 hl rfl ?_
                      refine hb_iload G dX2_append_174 hl rfl ?_
                      refine hb_callS (As := [.int (mFrm A S i n), .int (n + 4)]) (rest := []) G hml (m_touched g l (mFrm A S i n) (n + 4) _) km_X2_93 kt_X2_touched kn_X2 ko_X2_touched hd_X2_touched ⟨Nat.le_of_ble_eq_true rfl, Nat.le_of_ble_eq_true rfl⟩ hl.size rfl (Nat.le_of_ble_eq_true rfl) dX2_append_176 ⟨Nat.le_of_ble_eq_true rfl, Nat.le_of_ble_eq_true rfl⟩ hL (f0_in) (fun v1 K2 locs2 hp hL => ?_)
                      obtain ⟨rfl, rfl⟩ := hp
                      refine lv_topi (fun r_77 er_77 => ?_)
                      refine lv_iconst (v := 1) G.1 G.2.1 dX2_append_179 (by decide) ?_
                      refine lv_iadd G.1 G.2.1 dX2_append_180 ?_
                      refine lv_topi (fun t_78 et_78 => ?_)
                      obtain rfl : t_78 = mCn A S i n := by rw [et_78, er_77]; unfold mCn; rfl
                      refine hb_istore G dX2_append_181 hl (by decide) (fun ls hl => ?_)
                      have hl : lh ls 10 [some (.ref r), some (.int (nI i)), some (.int n), some (.int b), some (.int (n + 4)), some (.int t_19), some (.int 1), some (.int r_73), some (.int (mFrm A S i n)), some (.int (mCn A S i n))] := hl
                      refine hb_aload_n G dX2_append_183 hl rfl ?_
                      refine hb_iload G dX2_append_184 hl rfl ?_
                      refine hb_callV (As := [.int (mCn A S i n)]) (rest := []) G hml (m_spend g l r S B C a (mH A S B) 0 wr lf dn en pl _ hk2 (mCn A S i n)) (hk2.1) rfl km_X2_97 ki_X2_spend ks_X2_spend kn_X2 ko_X2_spend hd_X2_spend ⟨Nat.le_of_ble_eq_true rfl, Nat.le_of_ble_eq_true rfl⟩ hl.size rfl (Nat.le_of_ble_eq_true rfl) dX2_append_186 ⟨Nat.le_of_ble_eq_true rfl, Nat.le_of_ble_eq_true rfl⟩ hL (hMr) (fun v1 K3 locs3 hp hL => ?_)
                      obtain ⟨rfl, hk3, hF3⟩ := hp
                      have hm3 : Mo r a _ K3 := hm2.tr (Mo.fd hF3)
                      refine lv_topi (fun r_79 er_79 => ?_)
                      refine lv_if_eq (tgt := 270) G.1 G.2.1 dX2_append_189 (by decide) (fun c_80 => ?_) (fun c_80 => ?_)
                      · refine hb_aload_n G dX2_append_270 hl rfl ?_
                        refine hb_get G hk3.1 rfl inX2 5 (by decide) kf_X2_60 rfl rfl dX2_append_271 ?_
                        refine lv_if_eq (tgt := 282) G.1 G.2.1 dX2_append_274 (by decide) (fun c_81 => ?_) (fun c_81 => ?_)
                        · refine hb_iload G dX2_append_282 hl rfl ?_
                          exact hb_iret G hr hlocks (Or.inr ⟨i, hi, rfl, hok.2.1, hok.2.2, hdn, Or.inr (Or.inr ⟨hla, hwn, by rw [if_pos c_81], Or.inl ⟨by rw [← er_79]; exact c_80, hk3, Mg.of hm3⟩⟩)⟩) hL (Nat.le_of_ble_eq_true rfl) (Nat.le_of_ble_eq_true rfl) dX2_append_284
                        · refine lv_bipush (v := (-3)) G.1 G.2.1 dX2_append_277 (by decide) ?_
                          refine lv_goto (tgt := 284) G.1 G.2.1 dX2_append_279 (by decide) ?_
                          exact hb_iret G hr hlocks (Or.inr ⟨i, hi, rfl, hok.2.1, hok.2.2, hdn, Or.inr (Or.inr ⟨hla, hwn, by rw [if_neg c_81], Or.inl ⟨by rw [← er_79]; exact c_80, hk3, Mg.of hm3⟩⟩)⟩) hL (Nat.le_of_ble_eq_true rfl) (Nat.le_of_ble_eq_true rfl) dX2_append_284
                      · refine hb_iload G dX2_append_192 hl rfl ?_
                        refine lv_if_ne (tgt := 237) G.1 G.2.1 dX2_append_194 (by decide) (fun c_82 => ?_) (fun c_82 => ?_)
                        · have hft := hfit.1
                          refine hb_aload_n G dX2_append_237 hl rfl ?_
                          refine hb_get G hk3.1 rfl inX2 8 (by decide) kf_X2_20 rfl rfl dX2_append_238 ?_
                          refine hb_iload G dX2_append_241 hl rfl ?_
                          refine lv_dup2_11 G.1 G.2.1 dX2_append_243 rfl rfl ?_
                          refine hb_iald G (show ia g (a 2) 240 ((mH A S B) 2) _ from hk3.2.1 2 (by decide)) (by rw [h5 hfit.1]; exact vp_in_nI (by omega) (by decide)) dX2_append_244 ?_
                          refine lv_topi (fun r_83 er_83 => ?_)
                          have er_83 : r_83 = (mH A S B) 2 (60 * i + (tn (A 0 i) - 1)) := by rw [er_83, show (t_19).toNatClampNeg = 60 * i + (tn (A 0 i) - 1) by rw [h5 hfit.1]; exact nI_clamp (by omega)]
                          refine hb_iload G dX2_append_245 hl rfl ?_
                          refine lv_iadd G.1 G.2.1 dX2_append_247 ?_
                          refine lv_topi (fun t_84 et_84 => ?_)
                          have hv6 : t_84 = (A 2 (60 * i + (tn (A 0 i) - 1)) + (n + 4)) := by rw [et_84, er_83]; rfl
                          refine hb_iast G (show ia g (a 2) 240 ((mH A S B) 2) _ from hk3.2.1 2 (by decide)) (by rw [h5 hfit.1]; exact vp_in_nI (by omega) (by decide)) hL (Or.inl (fM_a (by decide))) dX2_append_248 (fun N5 locs hg5 hz5 ho5 hL => ?_)
                          rw [show (t_19).toNatClampNeg = 60 * i + (tn (A 0 i) - 1) by rw [h5 hfit.1]; exact nI_clamp (by omega), hv6] at hg5
                          have hn5 := hk3.up (k := 2) (by decide) hg5 ⟨hz5, ho5⟩
                          have hn5 : mdAt g r S B C a (va_up (mH A S B) 2 (upd (A 2) (60 * i + (tn (A 0 i) - 1)) (A 2 (60 * i + (tn (A 0 i) - 1)) + (n + 4)))) 0 (wr + spW lf (mCn A S i n)) (spL lf (mCn A S i n)) (spN lf (mCn A S i n)) en pl N5 := hn5
                          refine hb_aload_n G dX2_append_249 hl rfl ?_
                          refine hb_get G hn5.1 rfl inX2 9 (by decide) kf_X2_23 rfl rfl dX2_append_250 ?_
                          refine hb_iload_n G dX2_append_253 hl rfl ?_
                          refine lv_dup2_11 G.1 G.2.1 dX2_append_254 rfl rfl ?_
                          refine hb_iald G (show ia g (a 3) 4 ((va_up (mH A S B) 2 (upd (A 2) (60 * i + (tn (A 0 i) - 1)) (A 2 (60 * i + (tn (A 0 i) - 1)) + (n + 4)))) 3) _ from hn5.2.1 3 (by decide)) (by rw [show nI i = nI i from rfl]; exact vp_in_nI (by omega) (by decide)) dX2_append_255 ?_
                          refine lv_topi (fun r_85 er_85 => ?_)
                          have er_85 : r_85 = (va_up (mH A S B) 2 (upd (A 2) (60 * i + (tn (A 0 i) - 1)) (A 2 (60 * i + (tn (A 0 i) - 1)) + (n + 4)))) 3 (i) := by rw [er_85, show ((nI i)).toNatClampNeg = i by rw [show nI i = nI i from rfl]; exact nI_clamp (by omega)]
                          refine lv_iconst (v := 1) G.1 G.2.1 dX2_append_256 (by decide) ?_
                          refine lv_iadd G.1 G.2.1 dX2_append_257 ?_
                          refine lv_topi (fun t_86 et_86 => ?_)
                          refine hb_iast G (show ia g (a 3) 4 ((va_up (mH A S B) 2 (upd (A 2) (60 * i + (tn (A 0 i) - 1)) (A 2 (60 * i + (tn (A 0 i) - 1)) + (n + 4)))) 3) _ from hn5.2.1 3 (by decide)) (by rw [show nI i = nI i from rfl]; exact vp_in_nI (by omega) (by decide)) hL (Or.inl (fM_a (by decide))) dX2_append_258 (fun N6 locs hg6 hz6 ho6 hL => ?_)
                          rw [show ((nI i)).toNatClampNeg = i by rw [show nI i = nI i from rfl]; exact nI_clamp (by omega)] at hg6
                          have hn6 := hn5.up (k := 3) (by decide) hg6 ⟨hz6, ho6⟩
                          have hn6 : mdAt g r S B C a (mAp A S B i n) 0 (wr + spW lf (mCn A S i n)) (spL lf (mCn A S i n)) (spN lf (mCn A S i n)) en pl N6 := by unfold mAp; rw [if_pos hfit]; rw [et_86, er_85] at hn6; exact hn6
                          have hm6 : Mo r a _ N6 := hm3.tr ((Mo.ar (k := 2) ⟨hz5, ho5⟩ (by decide)).tr (Mo.ar (k := 3) ⟨hz6, ho6⟩ (by decide)))
                          refine hb_aload_n G dX2_append_259 hl rfl ?_
                          refine hb_iload_n G dX2_append_260 hl rfl ?_
                          refine hb_iload_n G dX2_append_261 hl rfl ?_
                          refine hb_iload_n G dX2_append_262 hl rfl ?_
                          refine hb_iload G dX2_append_263 hl rfl ?_
                          refine hb_iload G dX2_append_265 hl rfl ?_
                          have hsz6 : N6.size = _ := hm6.1
                          refine hb_callV (As := [.int (nI i), .int n, .int b, .int r_73, .int (mFrm A S i n)]) (rest := []) G hml (m_add g l r S B C a (mAp A S B i n) 0 _ _ _ en pl _ hn6 hC0 hC1 hC2 hen hC3 (nI i) n b r_73 (mFrm A S i n)) (hn6.1) rfl km_X2_100 ki_X2_add ks_X2_add kn_X2 ko_X2_add hd_X2_add ⟨Nat.le_of_ble_eq_true rfl, Nat.le_of_ble_eq_true rfl⟩ hl.size rfl (Nat.le_of_ble_eq_true rfl) dX2_append_267 ⟨Nat.le_of_ble_eq_true rfl, Nat.le_of_ble_eq_true rfl⟩ hL (fun q h9 => h9.elim Or.inl (fun h8 => Or.inr (by rw [← hsz6]; exact h8))) (fun v1 K9 locs9 hp hL => ?_)
                          obtain ⟨rfl, C2, a2, A2, hk9, hc9, had, hmg⟩ := hp
                          refine hb_aload_n G dX2_append_270 hl rfl ?_
                          refine hb_get G hk9.1 rfl inX2 5 (by decide) kf_X2_60 rfl rfl dX2_append_271 ?_
                          refine lv_if_eq (tgt := 282) G.1 G.2.1 dX2_append_274 (by decide) (fun c_87 => ?_) (fun c_87 => ?_)
                          · refine hb_iload G dX2_append_282 hl rfl ?_
                            exact hb_iret G hr hlocks (Or.inr ⟨i, hi, rfl, hok.2.1, hok.2.2, hdn, Or.inr (Or.inr ⟨hla, hwn, by rw [if_pos c_87], Or.inr ⟨by rw [← er_79]; exact c_80, C2, a2, A2, hk9, hc9, by rw [hwh]; exact had, (Mg.of hm6).tr hmg⟩⟩)⟩) hL (Nat.le_of_ble_eq_true rfl) (Nat.le_of_ble_eq_true rfl) dX2_append_284
                          · refine lv_bipush (v := (-3)) G.1 G.2.1 dX2_append_277 (by decide) ?_
                            refine lv_goto (tgt := 284) G.1 G.2.1 dX2_append_279 (by decide) ?_
                            exact hb_iret G hr hlocks (Or.inr ⟨i, hi, rfl, hok.2.1, hok.2.2, hdn, Or.inr (Or.inr ⟨hla, hwn, by rw [if_neg c_87], Or.inr ⟨by rw [← er_79]; exact c_80, C2, a2, A2, hk9, hc9, by rw [hwh]; exact had, (Mg.of hm6).tr hmg⟩⟩)⟩) hL (Nat.le_of_ble_eq_true rfl) (Nat.le_of_ble_eq_true rfl) dX2_append_284
                        · exact absurd c_82 (by decide)
                  · exact absurd (i32_nle.mp c_74) hw0
          · refine lv_bipush (v := (-5)) G.1 G.2.1 dX2_append_51 (by decide) ?_
            exact hb_iret G hr hlocks (Or.inr ⟨i, hi, rfl, hok.2.1, hok.2.2, hdn, Or.inl ⟨i32_nle.mp c_15, rfl, hk, Mg.of (Mo.fd hF)⟩⟩) hL (Nat.le_of_ble_eq_true rfl) (Nat.le_of_ble_eq_true rfl) dX2_append_53
        · have hg2 := (it0 er_11).mp c_12
          refine lv_iconst (v := 0) G.1 G.2.1 dX2_append_31 (by decide) ?_
          exact hb_iret G hr hlocks (Or.inl ⟨by rw [if_pos hok]; exact hg2, rfl, by rw [if_pos hok]; exact hk, Mg.of (Mo.fd hF)⟩) hL (Nat.le_of_ble_eq_true rfl) (Nat.le_of_ble_eq_true rfl) dX2_append_32
end
