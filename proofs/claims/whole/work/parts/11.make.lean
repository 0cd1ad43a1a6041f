/-! ROWS THAT MAKE CELLS: a new cell lies at the heap's end -/
def fG (x : Nat) : Nat → Prop := fun q => x ≤ q
theorem fG_mk {x q : Nat} (h : x ≤ q) : fG x q := h
section HN
variable {p : Program} {l : Launch} {e : Env} {R : Room} {s : State} {m : MethodId} {args : Array Value} {below : List Frame} {meth : Method} {c : Code} {H : Heap} {locs : List Loc} {cells slots : Nat} {Q : State → Prop}
variable {g : Gx} {cc : ByteArray} {own : String} {pc n z : Nat} {ls : Array Slot} {rest : List Value} {A : Nat → Prop} {a : Nat}
theorem hb_newi (G : Cx g p s m args c cc own) (hz : H.size = z) {k : Int32} {N : Nat} (hn : ¬ k < 0) (hN : k.toNatClampNeg = N) (hbytes : N * 4 ≤ 536870912) (hcells : cells + 1 ≤ R.cells) (hslots : slots + N ≤ R.slots) (hdg : decode cc pc = .ok (.newarray .int, 2))
    (kk : ∀ H1 : Heap, ia g z N (fun _ => 0) H1 → H1.size = z + 1 → (∀ q : Nat, q < z → H1[q]? = H[q]?) → W p l e R s m args below meth c H1 locs (cells + 1) (slots + N) Q (F0 m (pc + 2) ls (.ref z :: rest))) : W p l e R s m args below meth c H locs cells slots Q (F0 m pc ls (.int k :: rest)) := by
  refine va_newaK (atype := .int) G.1 G.2.1 (G.2.2.2.1 _ ka_int) rfl hdg rfl hn hN hbytes hcells hslots hz fun H1 cA e1 z1 o1 hAr hNm => ?_
  have h9 : s.vm.findClass ("[" ++ FieldType.int.toString) = some (g.2.2 0) := (G.2.2.2.2.1.2 0 _ rfl).2
  have h8 : cA = g.2.2 0 := Option.some.inj (hNm.symm.trans h9)
  subst h8
  exact kk H1 e1 z1 o1
theorem hb_newz (G : Cx g p s m args c cc own) (hz : H.size = z) {k : Int32} {N : Nat} (hn : ¬ k < 0) (hN : k.toNatClampNeg = N) (hbytes : N * 1 ≤ 536870912) (hcells : cells + 1 ≤ R.cells) (hslots : slots + N ≤ R.slots) (hdg : decode cc pc = .ok (.newarray .boolean, 2))
    (kk : ∀ H1 : Heap, za g z N (fun _ => 0) H1 → H1.size = z + 1 → (∀ q : Nat, q < z → H1[q]? = H[q]?) → W p l e R s m args below meth c H1 locs (cells + 1) (slots + N) Q (F0 m (pc + 2) ls (.ref z :: rest))) : W p l e R s m args below meth c H locs cells slots Q (F0 m pc ls (.int k :: rest)) := by
  refine va_newaK (atype := .boolean) G.1 G.2.1 (G.2.2.2.1 _ ka_boolean) rfl hdg rfl hn hN hbytes hcells hslots hz fun H1 cA e1 z1 o1 hAr hNm => ?_
  have h9 : s.vm.findClass ("[" ++ FieldType.boolean.toString) = some (g.2.2 1) := (G.2.2.2.2.1.2 1 _ rfl).2
  have h8 : cA = g.2.2 1 := Option.some.inj (hNm.symm.trans h9)
  subst h8
  exact kk H1 e1 z1 o1
theorem hb_newj (G : Cx g p s m args c cc own) (hz : H.size = z) {k : Int32} {N : Nat} (hn : ¬ k < 0) (hN : k.toNatClampNeg = N) (hbytes : N * 8 ≤ 536870912) (hcells : cells + 1 ≤ R.cells) (hslots : slots + N ≤ R.slots) (hdg : decode cc pc = .ok (.newarray .long, 2))
    (kk : ∀ H1 : Heap, ja g z N (fun _ => 0) H1 → H1.size = z + 1 → (∀ q : Nat, q < z → H1[q]? = H[q]?) → W p l e R s m args below meth c H1 locs (cells + 1) (slots + N) Q (F0 m (pc + 2) ls (.ref z :: rest))) : W p l e R s m args below meth c H locs cells slots Q (F0 m pc ls (.int k :: rest)) := by
  refine va_newaK (atype := .long) G.1 G.2.1 (G.2.2.2.1 _ ka_long) rfl hdg rfl hn hN hbytes hcells hslots hz fun H1 cA e1 z1 o1 hAr hNm => ?_
  have h9 : s.vm.findClass ("[" ++ FieldType.long.toString) = some (g.2.2 3) := (G.2.2.2.2.1.2 3 _ rfl).2
  have h8 : cA = g.2.2 3 := Option.some.inj (hNm.symm.trans h9)
  subst h8
  exact kk H1 e1 z1 o1
theorem hb_newq (G : Cx g p s m args c cc own) {index : Nat} (kl : Cond.classLink own index "LogDisk$Log" ∈ tb) (hz : H.size = z) {k : Int32} {N : Nat} (hn : ¬ k < 0) (hN : k.toNatClampNeg = N) (hbytes : N * 4 ≤ 536870912) (hcells : cells + 1 ≤ R.cells) (hslots : slots + N ≤ R.slots) (hdg : decode cc pc = .ok (.anewarray index, 3))
    (kk : ∀ H1 : Heap, qa g z N (fun _ => none) H1 → H1.size = z + 1 → (∀ q : Nat, q < z → H1[q]? = H[q]?) → W p l e R s m args below meth c H1 locs (cells + 1) (slots + N) Q (F0 m (pc + 3) ls (.ref z :: rest))) : W p l e R s m args below meth c H locs cells slots Q (F0 m pc ls (.int k :: rest)) := by
  subst hN
  subst hz
  refine W.anew G.1 G.2.1 G.2.2.1 (G.2.2.2.1 _ kl) (va_AO.use G.2.2.2.2.2.2.2.2.2) rfl hdg rfl hn hbytes hcells hslots fun cA kA comp f1 f2 f3 f4 => ?_
  have h9 := (G.2.2.2.2.1.2 2 _ rfl).2
  obtain ⟨kA9, comp9, k1, k2, k3, k4⟩ := h9
  have h8 : cA = g.2.2 2 := Option.some.inj (f1.symm.trans k4)
  subst h8
  refine kk _ ?_ (by rw [Array.size_push]) (fun q hq => by rw [Array.getElem?_push, if_neg (Nat.ne_of_lt hq)])
  show (H.push _)[H.size]? = some (arrV _ _ (fun _ => .null))
  rw [Array.getElem?_push_size, ← arrV_new]
theorem hb_new (G : Cx g p s m args c cc own) (hz : H.size = z) {C : String} {T : u_T} {N ci index : Nat} (hc : vwCl[ci]? = some (C, T, N)) (hin : ∀ w ∈ u_ws C T N, w ∈ tb) (ty : Nat → FieldType) (hty : ∀ k, k < N → parseFieldDescriptor (T k).2.2.1 = some (ty k)) (kl : Cond.classLink own index C ∈ tb) (kj : Cond.instantiable C N ∈ tb) (kn : Cond.initialized C ∈ tb)
    {fs : List Value} (hfs : ∀ j, j < N → defaultValue (ty j) = vp_V fs j) (hcells : cells + 1 ≤ R.cells) (hslots : slots + N ≤ R.slots) (hdg : decode cc pc = .ok (.new index, 3))
    (kk : ∀ H1 : Heap, ob g z ci fs H1 → H1.size = z + 1 → (∀ q : Nat, q < z → H1[q]? = H[q]?) → W p l e R s m args below meth c H1 locs (cells + 1) (slots + N) Q (F0 m (pc + 3) ls (.ref z :: rest))) : W p l e R s m args below meth c H locs cells slots Q (F0 m pc ls rest) := by
  have hKn := G.2.2.2.2.1.1 ci _ hc
  refine W.newcK G.1 G.2.1 G.2.2.1 (G.2.2.2.1 _ kl) (G.2.2.2.1 _ kj) (G.2.2.2.1 _ kn) rfl hdg hcells hslots hKn.2.1 hz fun H1 kC hkC e1 z1 o1 => ?_
  exact kk H1 ⟨_, hc, (u_born ty G.2.2.2.1 hin hKn hkC e1 hty).to hfs⟩ z1 o1
theorem hb_obj (G : Cx g p s m args c cc own) (hml : c.maxLocals = n) (hs : ls.size = n) {index : Nat} (kl : Cond.methodLink own index objectInit ∈ tb) (hdg : decode cc pc = .ok (.invokespecial index, 3)) (hf : 1 ≤ R.frames) (hl : (rest.map fun v => v.category).sum + 12 ≤ R.locals)
    (kk : W p l e R s m args below meth c H locs cells slots Q (F0 m (pc + 3) ls rest)) : W p l e R s m args below meth c H locs cells slots Q (F0 m pc ls (.ref a :: rest)) :=
  W.objInit G.1 G.2.1 G.2.2.1 (G.2.2.2.1 _ kl) (G.2.2.2.1 _ ki_Ob_init) (G.2.2.2.1 _ ko_Ob_init) rfl (hs.trans hml.symm) rfl hdg hf (by show 2 * 0 + _ + 12 ≤ _; omega) kk
theorem hb_qast (G : Cx g p s m args c cc own) {k v : Nat} {f : Nat → Option Nat} {vs : List Value} (ha : qa g a k f H) (hv : ob g v 0 vs H) {i : Int32} (hin : vp_in i k) (hL : ∀ q ∈ locs, A q.base) (hA : A a) (hdg : decode cc pc = .ok (.aastore, 1))
    (kk : ∀ (H1 : Heap) (locs1 : List Loc), qa g a k (va_up f i.toNatClampNeg (some v)) H1 → H1.size = H.size → (∀ q : Nat, q ≠ a → H1[q]? = H[q]?) → (∀ q ∈ locs1, A q.base) → W p l e R s m args below meth c H1 locs1 cells slots Q (F0 m (pc + 1) ls rest)) : W p l e R s m args below meth c H locs cells slots Q (F0 m pc ls (.ref v :: .int i :: .ref a :: rest)) := by
  have hlt : i.toNatClampNeg < k := Nat.not_le.mp fun q => hin (Or.inr q)
  have h0 : ¬ i < 0 := fun q => hin (Or.inl q)
  obtain ⟨r', hr', cellV, g1, g2, g3, -⟩ := hv
  have hc : vwCl[0]? = some (RX0, TX0, 9) := rfl
  have hcls := (G.2.2.2.2.1.1 0 _ hc).2
  obtain ⟨kA, comp, k1, k2, k3, -⟩ := (G.2.2.2.2.1.2 2 _ rfl).2
  have hcomp : comp = (gD g).1 0 := Option.some.inj (k3.symm.trans hcls.1)
  subst hcomp
  obtain ⟨kC, hkC, -⟩ := hcls.2
  refine W.aast G.1 G.2.1 ha (fun q h => by cases h) (fun h => by cases h) k1 k2 rfl hkC ⟨h0, by show _ < (arrV _ _ _).slots.size; rw [arrV_size]; exact hlt⟩ g1 (fun q h => by rw [g3] at h; cases h) (by rw [g2]; exact hkC) (by rw [g2]; exact va_assign hcls) rfl rfl hdg fun H1 e z oq => ?_
  refine kk H1 _ ?_ z oq (t_lc hL hA)
  show H1[a]? = some (vp_cell _ _)
  rw [e, vp_cell_q, vp_cell_q, arrV_store]
  congr 2
  funext q
  by_cases hq : q = i.toNatClampNeg
  · subst hq
    simp [updV, va_up, va_rf]
  · simp [updV, va_up, hq]
end HN
theorem qa.ext {g : Gx} {a k : Nat} {f f' : Nat → Option Nat} {H : Heap} (h : qa g a k f H) (hf : ∀ i, i < k → f i = f' i) : qa g a k f' H := by
  have h1 : H[a]? = some (vp_cell (g.2.2 2) (k, .inr (.inr (.inr (.inr f))))) := h
  show H[a]? = some (vp_cell (g.2.2 2) (k, .inr (.inr (.inr (.inr f')))))
  rw [h1, vp_cell_q, vp_cell_q]
  have h2 : (Array.ofFn (n := k) fun j => va_rf (f j.val)) = Array.ofFn (n := k) fun j => va_rf (f' j.val) := by
    congr 1
    funext j
    rw [hf j.val j.isLt]
  simp only [arrV, h2]
theorem ia.ext {g : Gx} {a k : Nat} {f f' : Nat → Int32} {H : Heap} (h : ia g a k f H) (hf : ∀ i, i < k → f i = f' i) : ia g a k f' H := by
  have h1 : H[a]? = some (vp_cell (g.2.2 0) (k, .inl f)) := h
  show H[a]? = some (vp_cell (g.2.2 0) (k, .inl f'))
  rw [h1, vp_cell_i, vp_cell_i]
  have h2 : (Array.ofFn (n := k) fun j => Value.int (f j.val)) = Array.ofFn (n := k) fun j => Value.int (f' j.val) := by
    congr 1
    funext j
    rw [hf j.val j.isLt]
  simp only [arrV, h2]
theorem za.ext {g : Gx} {a k : Nat} {f f' : Nat → Int32} {H : Heap} (h : za g a k f H) (hf : ∀ i, i < k → f i = f' i) : za g a k f' H := by
  have h1 : H[a]? = some (vp_cell (g.2.2 1) (k, .inl f)) := h
  show H[a]? = some (vp_cell (g.2.2 1) (k, .inl f'))
  rw [h1, vp_cell_i, vp_cell_i]
  have h2 : (Array.ofFn (n := k) fun j => Value.int (f j.val)) = Array.ofFn (n := k) fun j => Value.int (f' j.val) := by
    congr 1
    funext j
    rw [hf j.val j.isLt]
  simp only [arrV, h2]
