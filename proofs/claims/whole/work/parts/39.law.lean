/-! THE LAW'S OWN ROWS: its row of longs, its helpers that catch -/
section LJ
variable {p : Program} {l : Launch} {e : Env} {R : Room} {s : State} {m : MethodId} {args : Array Value} {below : List Frame} {meth : Method} {c : Code} {H : Heap} {locs : List Loc} {cells slots : Nat} {Q : State → Prop}
variable {g : Gx} {z : Nat} {sa : Nat → Nat} {cc : ByteArray} {own : String} {pc n : Nat} {ls : Array Slot} {rest st : List Value} {A : Nat → Prop} {a : Nat}
theorem hb_jald (G : Cx g p s m args c cc own) {k : Nat} {f : Nat → Int64} (ha : ja g a k f H) {i : Int32} (hin : vp_in i k) (hdg : decode cc pc = .ok (.laload, 1)) (kk : W p l e R s m args below meth c H locs cells slots Q (F0 m (pc + 1) ls (.long (f i.toNatClampNeg) :: rest))) : W p l e R s m args below meth c H locs cells slots Q (F0 m pc ls (.int i :: .ref a :: rest)) :=
  va_lald G.1 G.2.1 G.2.2.2.2.1 (hb_P ha) 0 3 rfl rfl hin hdg kk
theorem hb_jast (G : Cx g p s m args c cc own) {k : Nat} {f : Nat → Int64} (ha : ja g a k f H) {i : Int32} {x : Int64} (hin : vp_in i k) (hL : ∀ q ∈ locs, A q.base) (hA : A a) (hdg : decode cc pc = .ok (.lastore, 1))
    (kk : ∀ (H1 : Heap) (locs1 : List Loc), ja g a k (vp_updL f i.toNatClampNeg x) H1 → H1.size = H.size → (∀ q : Nat, q ≠ a → H1[q]? = H[q]?) → (∀ q ∈ locs1, A q.base) → W p l e R s m args below meth c H1 locs1 cells slots Q (F0 m (pc + 1) ls rest)) : W p l e R s m args below meth c H locs cells slots Q (F0 m pc ls (.long x :: .int i :: .ref a :: rest)) := by
  refine W.last G.1 G.2.1 ha ((G.2.2.2.2.1.2 3 _ rfl).1 k (fun j => .long (f j))) (fun q => by cases q) (by show ¬ (i < 0 ∨ (arrV _ _ _).slots.size ≤ _); rw [arrV_size]; exact hin) rfl rfl hdg fun H1 e z oq => ?_
  refine kk H1 _ ?_ z oq (t_lc hL hA)
  show H1[a]? = some (vp_cell _ _)
  rw [e, vp_cell_l, vp_cell_l, arrV_store]
  congr 2
  funext q
  by_cases hq : q = i.toNatClampNeg
  · subst hq
    simp [updV, vp_updL]
  · simp [updV, vp_updL, hq]
/-- a contract of a method with an exception table, which catches what comes -/
def HL (g : Gx) (z : Nat) (sa : Nat → Nat) (l : Launch) (y : MethodName) (cy : ByteArray) (ny : Nat) (hh : List (Nat × Nat × Nat × Nat)) (fr lo mc ms : Nat) (av : List Value) (H : Heap) (post : Option Value → Heap → Prop) (F : Nat → Prop) : Prop :=
  vx_Met l y (Cond.codeWith y cy ny (some .int) hh :: tb) { frames := fr, cells := mc, slots := ms, locals := lo } (fun v U => v = av.toArray ∧ U.heap = H ∧ KK g U ∧ XX z sa U H ∧ va_Nc nIS nIA U) (fun _ _ o t => ∃ v, o = .returned v ∧ post v t.heap) (fun _ _ _ => False) mc ms F
theorem HL.ofW {y : MethodName} {cy : ByteArray} {ny : Nat} {hh : List (Nat × Nat × Nat × Nat)} {fr lo mc ms : Nat} {av : List Value} {post : Option Value → Heap → Prop} {F : Nat → Prop} (hy : plainName y.cls = true) (hn : av.length ≤ ny) (hc : ∀ v ∈ av, v.category = 1)
    (body : ∀ (p : Program) (e : Env) (s : State) (m : MethodId) (args : Array Value) (below : List Frame) (meth : Method) (c : Code) (ls : Array Slot), Cx g p s m args c cy y.cls → meth.sig.returnType = some .int → c.maxLocals = ny → meth.locks = false → c.exceptionTable.toList = tableOf hh → s.heap = H → XX z sa s H → va_Nc nIS nIA s → lh ls ny (av.map some ++ List.replicate (ny - av.length) none) →
      W p l e { frames := fr, cells := mc, slots := ms, locals := lo } s m args below meth c H [] 0 0 (hX below args s post (fun _ _ => False) mc ms F) (F0 m 0 ls [])) : HL g z sa l y cy ny hh fr lo mc ms av H post F := by
  refine vx_ofWH (cc := cy) (maxL := ny) (ret := some .int) (hh := hh) hy rfl ?_
  intro p e s m args below meth c s₁ B hml hv
  obtain ⟨rfl, hH, hK, hX9, hN⟩ := hv
  have hts := atoms_spec (ws := Cond.codeWith y cy ny (some .int) hh :: tb) B.pre
  have G : Cx g p s m av.toArray c cy y.cls := ⟨B.exec, B.bytes, findClass_of_methodNamed B.named, fun w h => hts w (List.mem_cons_of_mem _ h), hK⟩
  have htb := vx_table (x := y) B (hts _ List.mem_cons_self)
  rw [lg_entry_eq, hH]
  exact body p e s m _ below meth c _ G B.returns hml B.notSynchronized htb hH hX9 hN (lh.entry hn hc)
theorem hl_blind {av : List Value} : FrameBlind (fun (v : Array Value) (U : State) => v = av.toArray ∧ U.heap = H ∧ KK g U ∧ XX z sa U H ∧ va_Nc nIS nIA U) := fun a U gf mk h => ⟨h.1, h.2.1, KK.calling gf mk a h.2.2.1, XX.calling gf mk a h.2.2.2.1, va_Nc.moved (u := U) (U := U.calling gf mk a) (Vm.Alike.refl U.vm) h.2.2.2.2⟩
theorem hl_good {y : MethodName} {cy : ByteArray} {ny : Nat} {ry : Option FieldType} {hh : List (Nat × Nat × Nat × Nat)} (ko : Cond.codeWith y cy ny ry hh ∈ tb) : GoodIn tb (Cond.codeWith y cy ny ry hh :: tb) := fun w h => (List.mem_cons.mp h).elim (fun e => by rw [e]; exact ⟨ko, tb_good ko⟩) (fun h => ⟨h, tb_good h⟩)
theorem hl_callS {y : MethodName} {cy : ByteArray} {ny : Nat} {hh : List (Nat × Nat × Nat × Nat)} {fr lo mc ms index : Nat} {As : List Value} {post : Option Value → Heap → Prop} {F : Nat → Prop} (G : Cx g p s m args c cc own) (hXs : XX z sa s H) (hN : va_Nc nIS nIA s) (hml : c.maxLocals = n) (hM : HL g z sa l y cy ny hh fr lo mc ms As H post F) (kl : Cond.methodLink own index y ∈ tb) (kt : Cond.static y ∈ tb) (kn : Cond.initialized y.cls ∈ tb) (ko : Cond.codeWith y cy ny (some .int) hh ∈ tb) (hd : hmd y As.length)
    (hR : fr + 1 ≤ R.frames ∧ 8 + (ny + 11) + lo ≤ R.locals) (hs : ls.size = n) (hst : st = As.reverse ++ rest) (hW : (rest.map fun v => v.category).sum ≤ 8) (hdg : decode cc pc = .ok (.invokestatic index, 3)) (hf : cells + mc ≤ R.cells ∧ slots + ms ≤ R.slots) (hL : ∀ q ∈ locs, A q.base) (hF : ∀ q, F q → A q)
    (kk : ∀ (v : Option Value) (H1 : Heap) (locs1 : List Loc), post v H1 → (∀ q ∈ locs1, A q.base) → W p l e R s m args below meth c H1 locs1 (cells + mc) (slots + ms) Q (F0 m (pc + 3) ls (v.toList ++ rest))) : W p l e R s m args below meth c H locs cells slots Q (F0 m pc ls st) :=
  hx_goes (px := fun _ _ => False) (vx_runSX (hh := hh) (n := As.length) (As := As) (rest := rest) ⟨G.1, G.2.1, hml, G.2.2.1, G.2.2.2.1⟩ hM ⟨⟨rfl, rfl, hR.1, hR.2, pay_in G.2.2.2.1 (hl_good ko), List.mem_cons_self⟩, G.2.2.2.1 _ ko, G.2.2.2.1 _ kn, ⟨hd.1, hd.2.1⟩, fun sig h => by have h2 := hd.2.2; rw [h] at h2; exact (Option.some.inj h2).symm, G.2.2.2.1 _ kl, G.2.2.2.1 _ kt⟩ ⟨hl_blind, fun U hU hW => ⟨rfl, hU, KK.warm hW G.2.2.2.2, XX.warm hW hXs, va_Nc.moved hW.alike hN⟩⟩ rfl rfl hs hst (lv_room hW) hdg hf) hL hF (fun _ _ _ _ _ h => h.elim) kk
/-- a cell of the script -/
def HC (g : Gx) (l : Launch) (b L : Nat) (xs : Nat → Int32) (k : Int32) (H : Heap) (post : Option Value → Heap → Prop) : Prop :=
  Met l yL_cell (Cond.code yL_cell cL_cell 2 (some .int) :: tb) { frames := 0, cells := 0, slots := 0, locals := 0 } (fun v U => v = [Value.ref b, .int k].toArray ∧ U.heap = H ∧ KK g U ∧ va_X b L xs U H) (fun _ _ o t => ∃ v, o = .returned v ∧ post v t.heap) 0 0 f0
theorem hc_blind {b L : Nat} {xs : Nat → Int32} {av : List Value} : FrameBlind (fun (v : Array Value) (U : State) => v = av.toArray ∧ U.heap = H ∧ KK g U ∧ va_X b L xs U H) := fun a U gf mk h => ⟨h.1, h.2.1, KK.calling gf mk a h.2.2.1, va_X.moved (u := U) (U := U.calling gf mk a) (Vm.Alike.refl U.vm) h.2.2.2⟩
theorem hc_callS {b L index : Nat} {xs : Nat → Int32} {k : Int32} {post : Option Value → Heap → Prop} (G : Cx g p s m args c cc own) (hXx : va_X b L xs s H) (hml : c.maxLocals = n) (hM : HC g l b L xs k H post) (kl : Cond.methodLink own index yL_cell ∈ tb)
    (hR : 0 + 1 ≤ R.frames ∧ 8 + (2 + 11) + 0 ≤ R.locals) (hs : ls.size = n) (hst : st = .int k :: .ref b :: rest) (hW : (rest.map fun v => v.category).sum ≤ 8) (hdg : decode cc pc = .ok (.invokestatic index, 3)) (hf : cells + 0 ≤ R.cells ∧ slots + 0 ≤ R.slots) (hL : ∀ q ∈ locs, A q.base)
    (kk : ∀ (v : Option Value) (H1 : Heap) (locs1 : List Loc), post v H1 → (∀ q ∈ locs1, A q.base) → W p l e R s m args below meth c H1 locs1 (cells + 0) (slots + 0) Q (F0 m (pc + 3) ls (v.toList ++ rest))) : W p l e R s m args below meth c H locs cells slots Q (F0 m pc ls st) :=
  hb_goes (va_runS (As := [.ref b, .int k]) (rest := rest) ⟨G.1, G.2.1, hml, G.2.2.1, G.2.2.2.1⟩ hM ⟨callB_of 2 G.2.2.2.1 (hm_good ko_L_cell) rfl rfl rfl (G.2.2.2.1 _ kn_L) (G.2.2.2.1 _ kl) hd_L_cell hR, G.2.2.2.1 _ kt_L_cell⟩ ⟨hc_blind, fun U hU hW => ⟨rfl, hU, KK.warm hW G.2.2.2.2, va_X.moved hW.alike hXx⟩⟩ rfl rfl hs hst (lv_room hW) hdg hf) hL (fun _ h => h.elim) kk
end LJ
theorem c_cell (g : Gx) (l : Launch) (b L : Nat) (xs : Nat → Int32) (hL3 : L < 2 ^ 31) (k : Nat) (hk : k < 2 ^ 31) (H : Heap) : HC g l b L xs (nI k) H (fun v H1 => v = some (.int (if k < L then xs k else 0)) ∧ H1 = H) := by
  refine Met.ofW (cc := cL_cell) (maxL := 2) (ret := some .int) (by decide) rfl ?_
  intro p e s m args below meth c s₁ B hml hv
  obtain ⟨rfl, hH, hK, hXx⟩ := hv
  have hts := atoms_spec (ws := Cond.code yL_cell cL_cell 2 (some .int) :: tb) B.pre
  have G : Cx g p s m [Value.ref b, .int (nI k)].toArray c cL_cell RL := ⟨B.exec, B.bytes, findClass_of_methodNamed B.named, fun w h => hts w (List.mem_cons_of_mem _ h), hK⟩
  have hr := B.returns
  have hlocks := B.notSynchronized
  have hbl : b < H.size := by obtain ⟨scr, h1, _⟩ := hXx; exact (Array.getElem?_eq_some_iff.mp h1).1
  rw [lg_entry_eq, hH]
  have hl : lh _ 2 [some (.ref b), some (.int (nI k))] := lh.entry (av := [Value.ref b, .int (nI k)]) (n := 2) (Nat.le_refl _) (by simp [Value.category])
  generalize (([Value.ref b, .int (nI k)] : List Value).toArray) = args at *
  show W p l e _ s m args below meth c H [] 0 0 (hQ below args s (fun v H1 => v = some (.int (if k < L then xs k else 0)) ∧ H1 = H) 0 0 f0) _
  refine hb_iload_n G dL_cell_0 hl rfl ?_
  refine hb_aload_n G dL_cell_1 hl rfl ?_
  refine va_slen (A := fun _ => False) G.1 G.2.1 hXx hbl (fun q => q) va_S.rf dL_cell_2 ?_
  refine lv_icmp_ge (tgt := 12) G.1 G.2.1 dL_cell_3 (by decide) (fun c1 => ?_) (fun c1 => ?_)
  · have h1 : ¬ k < L := by have := (nI_leI hL3 hk).mp c1; omega
    refine lv_iconst (v := 0) G.1 G.2.1 dL_cell_12 (by decide) ?_
    exact hb_iret G hr hlocks ⟨by rw [if_neg h1], rfl⟩ (fun q h => by cases h) (Nat.le_refl _) (Nat.le_refl _) dL_cell_13
  · have h1 : k < L := by
      rcases Nat.lt_or_ge k L with q | q
      · exact q
      · exact absurd ((nI_leI hL3 hk).mpr q) c1
    refine hb_aload_n G dL_cell_6 hl rfl ?_
    refine hb_iload_n G dL_cell_7 hl rfl ?_
    refine va_sld (A := fun _ => False) G.1 G.2.1 hXx hbl (fun q => q) va_S.rf (vp_in_nI h1 hL3) dL_cell_8 ?_
    refine lv_goto (tgt := 13) G.1 G.2.1 dL_cell_9 (by decide) ?_
    exact hb_iret G hr hlocks ⟨by rw [if_pos h1, nI_clamp hk], rfl⟩ (fun q h => by cases h) (Nat.le_refl _) (Nat.le_refl _) dL_cell_13
