/-! THROWING: what a throw asks of the tables and of the heap's start -/
abbrev nIA : String := "java/lang/IllegalArgumentException"
abbrev nIS : String := "java/lang/IllegalStateException"
abbrev nUp : List String := ["java/lang/RuntimeException", "java/lang/Exception"]
def nbIA : List Cond := [.castable nIA nIA, .declares ⟨"java/lang/RuntimeException", "<init>", "()V"⟩, .declares ⟨"java/lang/RuntimeException", "<init>", "(Ljava/lang/String;)V"⟩, .declares ⟨"java/lang/Exception", "<init>", "()V"⟩, .declares ⟨"java/lang/Exception", "<init>", "(Ljava/lang/String;)V"⟩, .declares ⟨"java/lang/Throwable", "<init>", "()V"⟩, .declares ⟨"java/lang/Throwable", "<init>", "(Ljava/lang/String;)V"⟩]
def nbIS : List Cond := [.castable nIS nIS, .declares ⟨"java/lang/RuntimeException", "<init>", "()V"⟩, .declares ⟨"java/lang/RuntimeException", "<init>", "(Ljava/lang/String;)V"⟩, .declares ⟨"java/lang/Exception", "<init>", "()V"⟩, .declares ⟨"java/lang/Exception", "<init>", "(Ljava/lang/String;)V"⟩, .declares ⟨"java/lang/Throwable", "<init>", "()V"⟩, .declares ⟨"java/lang/Throwable", "<init>", "(Ljava/lang/String;)V"⟩]
theorem nbIA_ok : ∀ w ∈ (vx_atS RX1 158 nIA nUp).filter (fun w => !goodWord w), w ∈ nbIA := by decide +kernel
theorem nbIS_ok : ∀ w ∈ (vx_atS RX1 165 nIS nUp).filter (fun w => !goodWord w), w ∈ nbIS := by decide +kernel
theorem gdIA_ok : ∀ w ∈ (vx_atS RX1 158 nIA nUp).filter goodWord, w ∈ tb := by decide +kernel
theorem gdIS_ok : ∀ w ∈ (vx_atS RX1 165 nIS nUp).filter goodWord, w ∈ tb := by decide +kernel
theorem otIA : ∀ w ∈ Cond.classLink RX1 154 nIA :: Cond.initialized nIA :: vx_atS RX1 158 nIA nUp, vx_ot w = true := by decide +kernel
theorem otIS : ∀ w ∈ Cond.classLink RX1 161 nIS :: Cond.initialized nIS :: vx_atS RX1 165 nIS nUp, vx_ot w = true := by decide +kernel
/-- the words of a throw that aren't good ones -/
def thW (U : State) : Prop := (∀ w ∈ nbIA, va_Nw w U) ∧ (∀ w ∈ nbIS, va_Nw w U)
theorem nbIA_ot : ∀ w ∈ nbIA, w.onTables = true := by decide +kernel
theorem nbIS_ot : ∀ w ∈ nbIS, w.onTables = true := by decide +kernel
theorem thW.warm {s U : State} (hW : s.WarmedH U.vm) (h : thW s) : thW U := by
  refine ⟨fun w hw => ?_, fun w hw => ?_⟩
  · have h1 := h.1 w hw
    simp only [nbIA, List.mem_cons, List.not_mem_nil, or_false] at hw
    rcases hw with rfl | rfl | rfl | rfl | rfl | rfl | rfl
    · exact va_Nw.warmC hW h1
    all_goals exact va_Nw.warmD hW h1
  · have h1 := h.2 w hw
    simp only [nbIS, List.mem_cons, List.not_mem_nil, or_false] at hw
    rcases hw with rfl | rfl | rfl | rfl | rfl | rfl | rfl
    · exact va_Nw.warmC hW h1
    all_goals exact va_Nw.warmD hW h1
theorem thW.same {s U : State} (hv : s.vm = U.vm) (h : thW s) : thW U := ⟨fun w hw => va_Nw.same (nbIA_ot w hw) hv (h.1 w hw), fun w hw => va_Nw.same (nbIS_ot w hw) hv (h.2 w hw)⟩
/-- strings, words, and the two statics of Throwable, which lie below z; sa: where the strings lie -/
def XX (z : Nat) (sa : Nat → Nat) (U : State) (H : Heap) : Prop := vk_R RX1 156 "there is no such log" (sa 0) U ∧ vk_R RX1 166 "a number is out of its bounds" (sa 1) U ∧ vk_R RX1 163 "the disk is down" (sa 2) U ∧ thW U ∧ vx_Zq Bundle.tN "UNASSIGNED_STACK" Bundle.steD (fG z) U H ∧ vx_Zq Bundle.tN "SUPPRESSED_SENTINEL" Bundle.listD (fG z) U H
theorem XX.warm {z : Nat} {sa : Nat → Nat} {s U : State} {H : Heap} (hW : s.WarmedH U.vm) (h : XX z sa s H) : XX z sa U H := ⟨vk_R.warm hW h.1, vk_R.warm hW h.2.1, vk_R.warm hW h.2.2.1, h.2.2.2.1.warm hW, vx_Zq.moved hW.alike h.2.2.2.2.1, vx_Zq.moved hW.alike h.2.2.2.2.2⟩
theorem XX.calling {z : Nat} {sa : Nat → Nat} {U : State} {H : Heap} (gf : JFrame) (mk : MethodId) (a : Array Value) (h : XX z sa U H) : XX z sa (U.calling gf mk a) H := ⟨vk_R.same rfl h.1, vk_R.same rfl h.2.1, vk_R.same rfl h.2.2.1, thW.same (s := U) (U := U.calling gf mk a) rfl h.2.2.2.1, vx_Zq.moved (u := U) (U := U.calling gf mk a) (Vm.Alike.refl U.vm) h.2.2.2.2.1, vx_Zq.moved (u := U) (U := U.calling gf mk a) (Vm.Alike.refl U.vm) h.2.2.2.2.2⟩
theorem XX.kept {z : Nat} {sa : Nat → Nat} {U : State} {H H1 : Heap} (h : XX z sa U H) (hq : ∀ q : Nat, q < z → q < H.size → H1[q]? = H[q]?) : XX z sa U H1 := ⟨h.1, h.2.1, h.2.2.1, h.2.2.2.1, h.2.2.2.2.1.kept (fun a h1 h2 => hq a (Nat.not_le.mp h2) h1), h.2.2.2.2.2.kept (fun a h1 h2 => hq a (Nat.not_le.mp h2) h1)⟩
/-- a contract of a method that may throw: px says which, and the heap then -/
def HX (g : Gx) (z : Nat) (sa : Nat → Nat) (l : Launch) (y : MethodName) (cy : ByteArray) (ny : Nat) (ry : Option FieldType) (fr lo mc ms : Nat) (av : List Value) (H : Heap) (post : Option Value → Heap → Prop) (px : String → Heap → Prop) (F : Nat → Prop) : Prop :=
  vx_Met l y (Cond.code y cy ny ry :: tb) { frames := fr, cells := mc, slots := ms, locals := lo } (fun v U => v = av.toArray ∧ U.heap = H ∧ KK g U ∧ XX z sa U H) (fun _ _ o t => ∃ v, o = .returned v ∧ post v t.heap) (fun E _ t => px E t.heap) mc ms F
def hX (below : List Frame) (args : Array Value) (s : State) (post : Option Value → Heap → Prop) (px : String → Heap → Prop) (mc ms : Nat) (F : Nat → Prop) : State → Prop := vx_MQ below (fun _ _ o t => ∃ v, o = .returned v ∧ post v t.heap) (fun E _ t => px E t.heap) args s mc ms F
theorem HX.ofW {g : Gx} {z : Nat} {sa : Nat → Nat} {l : Launch} {y : MethodName} {cy : ByteArray} {ny : Nat} {ry : Option FieldType} {fr lo mc ms : Nat} {av : List Value} {H : Heap} {post : Option Value → Heap → Prop} {px : String → Heap → Prop} {F : Nat → Prop} (hy : plainName y.cls = true) (hn : av.length ≤ ny) (hc : ∀ v ∈ av, v.category = 1)
    (body : ∀ (p : Program) (e : Env) (s : State) (m : MethodId) (args : Array Value) (below : List Frame) (meth : Method) (c : Code) (ls : Array Slot), Cx g p s m args c cy y.cls → meth.sig.returnType = ry → c.maxLocals = ny → meth.locks = false → (∀ x ∈ c.exceptionTable.toList, False) → s.heap = H → XX z sa s H → lh ls ny (av.map some ++ List.replicate (ny - av.length) none) →
      W p l e { frames := fr, cells := mc, slots := ms, locals := lo } s m args below meth c H [] 0 0 (hX below args s post px mc ms F) (F0 m 0 ls [])) : HX g z sa l y cy ny ry fr lo mc ms av H post px F := by
  refine vx_ofW (cc := cy) (maxL := ny) (ret := ry) hy rfl ?_
  intro p e s m args below meth c s₁ B hml htb hv
  obtain ⟨rfl, hH, hK, hX9⟩ := hv
  have hts := atoms_spec (ws := Cond.code y cy ny ry :: tb) B.pre
  have G : Cx g p s m av.toArray c cy y.cls := ⟨B.exec, B.bytes, findClass_of_methodNamed B.named, fun w h => hts w (List.mem_cons_of_mem _ h), hK⟩
  rw [lg_entry_eq, hH]
  exact body p e s m _ below meth c _ G B.returns hml B.notSynchronized htb hH hX9 (lh.entry hn hc)
theorem hx_blind {g : Gx} {z : Nat} {sa : Nat → Nat} {av : List Value} {H : Heap} : FrameBlind (fun (v : Array Value) (U : State) => v = av.toArray ∧ U.heap = H ∧ KK g U ∧ XX z sa U H) := fun a U gf mk h => ⟨h.1, h.2.1, KK.calling gf mk a h.2.2.1, XX.calling gf mk a h.2.2.2⟩
section HXC
variable {p : Program} {l : Launch} {e : Env} {R : Room} {s : State} {m : MethodId} {args : Array Value} {below : List Frame} {meth : Method} {c : Code} {H : Heap} {locs : List Loc} {cells slots : Nat} {Q : State → Prop}
variable {g : Gx} {z : Nat} {sa : Nat → Nat} {cc : ByteArray} {own : String} {pc n : Nat} {ls : Array Slot} {rest st : List Value} {A : Nat → Prop} {a : Nat}
variable {y : MethodName} {cy : ByteArray} {ny : Nat} {ry : Option FieldType} {fr lo mc ms index : Nat} {As : List Value} {post : Option Value → Heap → Prop} {px : String → Heap → Prop} {F : Nat → Prop}
theorem hx_goes (hr : vx_Run p l e R s m args below meth c H locs cells slots mc ms (F0 m pc ls st) rest (fun _ o t => ∃ v, o = .returned v ∧ post v t.heap) (fun E _ t => px E t.heap) F) (hL : ∀ q ∈ locs, A q.base) (hF : ∀ q, F q → A q)
    (kx : ∀ (E : String) (ce : Cell) (q9 : Addr) (H1 : Heap) (locs1 : List Loc), px E H1 → (∀ q ∈ locs1, A q.base) → H1[q9]? = some ce → ce.vm = .none → s.vm.findClass E = some ce.cls → vx_W p l e R s m args below meth c H1 locs1 (cells + mc) (slots + ms) Q (F0 m pc ls rest) q9)
    (kk : ∀ (v : Option Value) (H1 : Heap) (locs1 : List Loc), post v H1 → (∀ q ∈ locs1, A q.base) → W p l e R s m args below meth c H1 locs1 (cells + mc) (slots + ms) Q (F0 m (pc + 3) ls (v.toList ++ rest))) : W p l e R s m args below meth c H locs cells slots Q (F0 m pc ls st) := by
  intro T hT X
  rcases hr T hT X with ⟨v, st0, t, T', L, h0, X', hLL, e1, e2, ⟨v', hv, hp⟩, st⟩ | ⟨q, st0, t, T', L, E, ce, h0, X', hLL, e1, e2, hp, hce, hcv, hcl, st⟩
  · cases hv
    obtain ⟨t2, a1, b1⟩ := kk v T'.heap (locs ++ L) (by rw [e1]; exact hp) (t_lL hL (fun q h => hF _ (hLL q h))) T' rfl X'
    exact ⟨t2, st t2 a1, b1⟩
  · obtain ⟨t2, a1, b1⟩ := kx E ce q T'.heap (locs ++ L) (by rw [e1]; exact hp) (t_lL hL (fun q h => hF _ (hLL q h))) (by rw [e1]; exact hce) hcv hcl T' rfl X'
    exact ⟨t2, st.trans a1, b1⟩
theorem hx_callS (G : Cx g p s m args c cc own) (hXs : XX z sa s H) (hml : c.maxLocals = n) (hM : HX g z sa l y cy ny ry fr lo mc ms As H post px F) (kl : Cond.methodLink own index y ∈ tb) (kt : Cond.static y ∈ tb) (kn : Cond.initialized y.cls ∈ tb) (ko : Cond.code y cy ny ry ∈ tb) (hd : hmd y As.length)
    (hR : fr + 1 ≤ R.frames ∧ 8 + (ny + 11) + lo ≤ R.locals) (hs : ls.size = n) (hst : st = As.reverse ++ rest) (hW : (rest.map fun v => v.category).sum ≤ 8) (hdg : decode cc pc = .ok (.invokestatic index, 3)) (hf : cells + mc ≤ R.cells ∧ slots + ms ≤ R.slots) (hL : ∀ q ∈ locs, A q.base) (hF : ∀ q, F q → A q)
    (kx : ∀ (E : String) (ce : Cell) (q9 : Addr) (H1 : Heap) (locs1 : List Loc), px E H1 → (∀ q ∈ locs1, A q.base) → H1[q9]? = some ce → ce.vm = .none → s.vm.findClass E = some ce.cls → vx_W p l e R s m args below meth c H1 locs1 (cells + mc) (slots + ms) Q (F0 m pc ls rest) q9)
    (kk : ∀ (v : Option Value) (H1 : Heap) (locs1 : List Loc), post v H1 → (∀ q ∈ locs1, A q.base) → W p l e R s m args below meth c H1 locs1 (cells + mc) (slots + ms) Q (F0 m (pc + 3) ls (v.toList ++ rest))) : W p l e R s m args below meth c H locs cells slots Q (F0 m pc ls st) :=
  hx_goes (vx_runS (As := As) (rest := rest) ⟨G.1, G.2.1, hml, G.2.2.1, G.2.2.2.1⟩ hM ⟨callB_of As.length G.2.2.2.1 (hm_good ko) rfl rfl rfl (G.2.2.2.1 _ kn) (G.2.2.2.1 _ kl) hd hR, G.2.2.2.1 _ kt⟩ ⟨hx_blind, fun U hU hW => ⟨rfl, hU, KK.warm hW G.2.2.2.2, XX.warm hW hXs⟩⟩ rfl rfl hs hst (lv_room hW) hdg hf) hL hF kx kk
theorem hx_callV (G : Cx g p s m args c cc own) (hXs : XX z sa s H) (hml : c.maxLocals = n) {b ci N : Nat} {fs : List Value} {T : u_T} (hM : HX g z sa l y cy ny ry fr lo mc ms (.ref b :: As) H post px F) (he : ob g b ci fs H) (hc : vwCl[ci]? = some (y.cls, T, N)) (kl : Cond.methodLink own index y ∈ tb) (ki : Cond.instanceMethod y ∈ tb) (ks : Cond.selects y.cls y y ∈ tb) (kn : Cond.initialized y.cls ∈ tb) (ko : Cond.code y cy ny ry ∈ tb) (hd : hmd y As.length)
    (hR : fr + 1 ≤ R.frames ∧ 8 + (ny + 11) + lo ≤ R.locals) (hs : ls.size = n) (hst : st = As.reverse ++ .ref b :: rest) (hW : (rest.map fun v => v.category).sum ≤ 8) (hdg : decode cc pc = .ok (.invokevirtual index, 3)) (hf : cells + mc ≤ R.cells ∧ slots + ms ≤ R.slots) (hL : ∀ q ∈ locs, A q.base) (hF : ∀ q, F q → A q)
    (kx : ∀ (E : String) (ce : Cell) (q9 : Addr) (H1 : Heap) (locs1 : List Loc), px E H1 → (∀ q ∈ locs1, A q.base) → H1[q9]? = some ce → ce.vm = .none → s.vm.findClass E = some ce.cls → vx_W p l e R s m args below meth c H1 locs1 (cells + mc) (slots + ms) Q (F0 m pc ls rest) q9)
    (kk : ∀ (v : Option Value) (H1 : Heap) (locs1 : List Loc), post v H1 → (∀ q ∈ locs1, A q.base) → W p l e R s m args below meth c H1 locs1 (cells + mc) (slots + ms) Q (F0 m (pc + 3) ls (v.toList ++ rest))) : W p l e R s m args below meth c H locs cells slots Q (F0 m pc ls st) :=
  hx_goes (vx_runV (As := As) (rest := rest) ⟨G.1, G.2.1, hml, G.2.2.1, G.2.2.2.1⟩ hM ⟨callB_of As.length G.2.2.2.1 (hm_good ko) rfl rfl rfl (G.2.2.2.1 _ kn) (G.2.2.2.1 _ kl) hd hR, G.2.2.2.1 _ ki, G.2.2.2.1 _ ks⟩ ⟨hx_blind, va_recv G.2.2.2.2.1 (hb_P he) (q0 := 0) hc rfl, fun U hU hW => ⟨rfl, hU, KK.warm hW G.2.2.2.2, XX.warm hW hXs⟩⟩ rfl rfl hs hst (lv_room hW) hdg hf) hL hF kx kk
/-- what was thrown goes on to the caller -/
theorem hx_out {E : String} {ce : Cell} {q : Addr} (htb : ∀ x ∈ c.exceptionTable.toList, False) (hlocks : meth.locks = false) (hp : px E H) (hL : ∀ z ∈ locs, F z.base) (hcell : H[q]? = some ce) (hv : ce.vm = .none) (hcl : s.vm.findClass E = some ce.cls) (h1 : cells ≤ mc) (h2 : slots ≤ ms) : vx_W p l e R s m args below meth c H locs cells slots (hX below args s post px mc ms F) (F0 m pc ls rest) q :=
  vx_out (fun x hx => (htb x hx).elim) hlocks hcell hv hcl (fun t ht _ => by rw [ht]; exact hp) hL h1 h2
theorem hx_iret (G : Cx g p s m args c cc own) (hr : meth.sig.returnType = some .int) (hlocks : meth.locks = false) {v : Int32} (hp : post (some (.int v)) H) (hL : ∀ q ∈ locs, F q.base) (h1 : cells ≤ mc) (h2 : slots ≤ ms) (hdg : decode cc pc = .ok (.ireturn, 1)) : W p l e R s m args below meth c H locs cells slots (hX below args s post px mc ms F) (F0 m pc ls [.int v]) := vx_ret (hb_iret G hr hlocks hp hL h1 h2 hdg)
theorem hx_vret (G : Cx g p s m args c cc own) (hr : meth.sig.returnType = none) (hlocks : meth.locks = false) (hp : post none H) (hL : ∀ q ∈ locs, F q.base) (h1 : cells ≤ mc) (h2 : slots ≤ ms) (hdg : decode cc pc = .ok (.return_, 1)) : W p l e R s m args below meth c H locs cells slots (hX below args s post px mc ms F) (F0 m pc ls []) := vx_ret (hb_vret G hr hlocks hp hL h1 h2 hdg)
theorem hx_aret (G : Cx g p s m args c cc own) {rt : FieldType} (hr : meth.sig.returnType = some rt) (hrt : (∃ n, rt = .object n) ∨ ∃ t, rt = .array t) (hlocks : meth.locks = false) (hp : post (some (.ref a)) H) (hL : ∀ q ∈ locs, F q.base) (h1 : cells ≤ mc) (h2 : slots ≤ ms) (hdg : decode cc pc = .ok (.areturn, 1)) : W p l e R s m args below meth c H locs cells slots (hX below args s post px mc ms F) (F0 m pc ls [.ref a]) := vx_ret (hb_aret G hr hrt hlocks hp hL h1 h2 hdg)
theorem hx_IA (G : Cx g p s m args c cc RX1) (hXs : XX z sa s H) (hH : s.heap = H) (hml : c.maxLocals = n) (hs : ls.size = n) (hl : l.stackTraces = false) {is : Nat} {tx : String} {sb : Nat} (hstr : vk_R RX1 is tx sb s) (htb : ∀ x ∈ c.exceptionTable.toList, False) (hlocks : meth.locks = false)
    (d0 : decode cc pc = .ok (.new 154, 3)) (d3 : decode cc (pc + 3) = .ok (.dup, 1)) (d4 : decode cc (pc + 4) = .ok (.ldc is, 2)) (d6 : decode cc (pc + 6) = .ok (.invokespecial 158, 3)) (d9 : decode cc (pc + 9) = .ok (.athrow, 1))
    (hf : 5 < R.frames) (hlo : (rest.map fun v => v.category).sum + 82 ≤ R.locals) (hc : 1 ≤ R.cells) (hsl : 6 ≤ R.slots) (hp : ∀ H1 : Heap, H.size ≤ H1.size → (∀ q : Nat, q < H.size → H1[q]? = H[q]?) → px nIA H1) (h1 : 1 ≤ mc) (h2 : 6 ≤ ms) : W p l e R s m args below meth c H [] 0 0 (hX below args s post px mc ms F) (F0 m pc ls rest) := by
  subst hH
  exact vx_throwS (A := fG z) (names := nUp) G.1 G.2.1 hl G.2.2.1 (by decide +kernel) (by decide +kernel) (G.2.2.2.1 _ kc_X1_154) (G.2.2.2.1 _ kn_IA) hstr (vx_hat (fun w h => G.2.2.2.1 w (gdIA_ok w h)) nbIA_ok (fun w h => va_Nw.use (nbIA_ot w h) (hXs.2.2.2.1.1 w h))) otIA hXs.2.2.2.2.1 hXs.2.2.2.2.2 va_S.rf (hs.trans hml.symm) d0 d3 d4 d6 d9 (fun x hx => (htb x hx).elim) hf hlo (by omega) (by omega) hlocks (fun t _ h3 h4 => hp _ h3 h4) (fun z h => by cases h) (by omega) (by omega)
theorem hx_IS (G : Cx g p s m args c cc RX1) (hXs : XX z sa s H) (hH : s.heap = H) (hml : c.maxLocals = n) (hs : ls.size = n) (hl : l.stackTraces = false) {is : Nat} {tx : String} {sb : Nat} (hstr : vk_R RX1 is tx sb s) (htb : ∀ x ∈ c.exceptionTable.toList, False) (hlocks : meth.locks = false)
    (d0 : decode cc pc = .ok (.new 161, 3)) (d3 : decode cc (pc + 3) = .ok (.dup, 1)) (d4 : decode cc (pc + 4) = .ok (.ldc is, 2)) (d6 : decode cc (pc + 6) = .ok (.invokespecial 165, 3)) (d9 : decode cc (pc + 9) = .ok (.athrow, 1))
    (hf : 5 < R.frames) (hlo : (rest.map fun v => v.category).sum + 82 ≤ R.locals) (hc : 1 ≤ R.cells) (hsl : 6 ≤ R.slots) (hp : ∀ H1 : Heap, H.size ≤ H1.size → (∀ q : Nat, q < H.size → H1[q]? = H[q]?) → px nIS H1) (h1 : 1 ≤ mc) (h2 : 6 ≤ ms) : W p l e R s m args below meth c H [] 0 0 (hX below args s post px mc ms F) (F0 m pc ls rest) := by
  subst hH
  exact vx_throwS (A := fG z) (names := nUp) G.1 G.2.1 hl G.2.2.1 (by decide +kernel) (by decide +kernel) (G.2.2.2.1 _ kc_X1_161) (G.2.2.2.1 _ kn_IS) hstr (vx_hat (fun w h => G.2.2.2.1 w (gdIS_ok w h)) nbIS_ok (fun w h => va_Nw.use (nbIS_ot w h) (hXs.2.2.2.1.2 w h))) otIS hXs.2.2.2.2.1 hXs.2.2.2.2.2 va_S.rf (hs.trans hml.symm) d0 d3 d4 d6 d9 (fun x hx => (htb x hx).elim) hf hlo (by omega) (by omega) hlocks (fun t _ h3 h4 => hp _ h3 h4) (fun z h => by cases h) (by omega) (by omega)
end HXC
