/-! THE BASE: rows over a heap as it is. g: the classes' numbers and slots, and the arrays' classes (0 int, 1 boolean, 2 Log, 3 long) -/
abbrev Gx : Type := (Nat → ClassId) × (Nat → Nat → Nat) × (Nat → ClassId)
abbrev gT (g : Gx) : List (ClassId × FieldType) := [(g.2.2 0, .int), (g.2.2 1, .boolean), (g.2.2 2, .object "LogDisk$Log"), (g.2.2 3, .long)]
abbrev gD (g : Gx) : va_G := (g.1, g.2.1)
/-- the words across the nest, which aren't good ones -/
def hNw (U : State) : Prop := va_Nw (.methodLinkNest RX1 15 yX0_init "LogDisk") U ∧ va_Nw (.methodLinkNest RX0 40 yX1_at "LogDisk") U ∧ va_Nw (.methodLinkNest RX0 52 yX1_set "LogDisk") U ∧ va_Nw (.methodLinkNest RX0 71 yX1_blocksTouched "LogDisk") U ∧ va_AO "LogDisk$Log" U
theorem hNw.warm {s U : State} (hW : s.WarmedH U.vm) (h : hNw s) : hNw U := ⟨va_Nw.warmM hW h.1, va_Nw.warmM hW h.2.1, va_Nw.warmM hW h.2.2.1, va_Nw.warmM hW h.2.2.2.1, va_AO.moved hW.alike h.2.2.2.2⟩
theorem hNw.same {s U : State} (hv : s.vm = U.vm) (h : hNw s) : hNw U := ⟨va_Nw.same rfl hv h.1, va_Nw.same rfl hv h.2.1, va_Nw.same rfl hv h.2.2.1, va_Nw.same rfl hv h.2.2.2.1, va_AO.moved (by rw [hv]; exact Vm.Alike.refl _) h.2.2.2.2⟩
/-- what the tables say of our classes -/
def KK (g : Gx) (U : State) : Prop := va_K (gD g) vwCl (gT g) U ∧ hNw U
theorem KK.warm {g : Gx} {s U : State} (hW : s.WarmedH U.vm) (h : KK g s) : KK g U := ⟨va_K.moved hW.alike h.1, hNw.warm hW h.2⟩
theorem KK.calling {g : Gx} {U : State} (gf : JFrame) (mk : MethodId) (a : Array Value) (h : KK g U) : KK g (U.calling gf mk a) := ⟨va_K.moved (u := U) (U := U.calling gf mk a) (Vm.Alike.refl U.vm) h.1, hNw.same (s := U) (U := U.calling gf mk a) rfl h.2⟩
/-! cells -/
def ob (g : Gx) (a ci : Nat) (fs : List Value) (H : Heap) : Prop := va_at (gD g) vwCl (a, .inr (ci, fs)) H
def ia (g : Gx) (a n : Nat) (f : Nat → Int32) (H : Heap) : Prop := va_at (gD g) vwCl (a, .inl (g.2.2 0, n, .inl f)) H
def za (g : Gx) (a n : Nat) (f : Nat → Int32) (H : Heap) : Prop := va_at (gD g) vwCl (a, .inl (g.2.2 1, n, .inl f)) H
def qa (g : Gx) (a n : Nat) (f : Nat → Option Nat) (H : Heap) : Prop := va_at (gD g) vwCl (a, .inl (g.2.2 2, n, .inr (.inr (.inr (.inr f))))) H
def ja (g : Gx) (a n : Nat) (f : Nat → Int64) (H : Heap) : Prop := va_at (gD g) vwCl (a, .inl (g.2.2 3, n, .inr (.inl f))) H
theorem ob.kept {g : Gx} {a ci : Nat} {fs : List Value} {H H1 : Heap} (h : ob g a ci fs H) (hq : H1[a]? = H[a]?) : ob g a ci fs H1 := va_at.kept h hq
theorem ia.kept {g : Gx} {a n : Nat} {f : Nat → Int32} {H H1 : Heap} (h : ia g a n f H) (hq : H1[a]? = H[a]?) : ia g a n f H1 := va_at.kept h hq
theorem za.kept {g : Gx} {a n : Nat} {f : Nat → Int32} {H H1 : Heap} (h : za g a n f H) (hq : H1[a]? = H[a]?) : za g a n f H1 := va_at.kept h hq
theorem qa.kept {g : Gx} {a n : Nat} {f : Nat → Option Nat} {H H1 : Heap} (h : qa g a n f H) (hq : H1[a]? = H[a]?) : qa g a n f H1 := va_at.kept h hq
theorem ja.kept {g : Gx} {a n : Nat} {f : Nat → Int64} {H H1 : Heap} (h : ja g a n f H) (hq : H1[a]? = H[a]?) : ja g a n f H1 := va_at.kept h hq
theorem ob.lt {g : Gx} {a ci : Nat} {fs : List Value} {H : Heap} (h : ob g a ci fs H) : a < H.size := va_at.lt h
theorem ia.lt {g : Gx} {a n : Nat} {f : Nat → Int32} {H : Heap} (h : ia g a n f H) : a < H.size := va_at.lt h
theorem za.lt {g : Gx} {a n : Nat} {f : Nat → Int32} {H : Heap} (h : za g a n f H) : a < H.size := va_at.lt h
theorem qa.lt {g : Gx} {a n : Nat} {f : Nat → Option Nat} {H : Heap} (h : qa g a n f H) : a < H.size := va_at.lt h
theorem ja.lt {g : Gx} {a n : Nat} {f : Nat → Int64} {H : Heap} (h : ja g a n f H) : a < H.size := va_at.lt h
/-! locals: all of one word -/
def lpr : Nat → List (Option Value) → List (Nat × Value)
  | _, [] => []
  | i, none :: t => lpr (i + 1) t
  | i, some v :: t => (i, v) :: lpr (i + 1) t
theorem lpr_mem {q : Nat × Value} : ∀ (vs : List (Option Value)) (i : Nat), q ∈ lpr i vs ↔ ∃ j, vs[j]? = some (some q.2) ∧ q.1 = i + j
  | [], i => by simp [lpr]
  | none :: t, i => by
    rw [lpr, lpr_mem t (i + 1)]
    constructor
    · rintro ⟨j, h1, h2⟩
      exact ⟨j + 1, by simpa using h1, by omega⟩
    · rintro ⟨j, h1, h2⟩
      cases j with
      | zero => simp at h1
      | succ j => exact ⟨j, by simpa using h1, by omega⟩
  | some v :: t, i => by
    rw [lpr, List.mem_cons, lpr_mem t (i + 1)]
    constructor
    · rintro (h | ⟨j, h1, h2⟩)
      · exact ⟨0, by rw [h]; simp, by rw [h]; rfl⟩
      · exact ⟨j + 1, by simpa using h1, by omega⟩
    · rintro ⟨j, h1, h2⟩
      cases j with
      | zero =>
        refine Or.inl ?_
        have h3 : v = q.2 := by simpa using h1
        rw [h3]
        exact Prod.ext (by simpa using h2) rfl
      | succ j => exact Or.inr ⟨j, by simpa using h1, by omega⟩
def lh (ls : Array Slot) (n : Nat) (vs : List (Option Value)) : Prop := lv_has ls n (lpr 0 vs) ∧ ∀ v : Value, some v ∈ vs → v.category = 1
theorem lh.size {ls : Array Slot} {n : Nat} {vs : List (Option Value)} (h : lh ls n vs) : ls.size = n := h.1.1
theorem lh.get {ls : Array Slot} {n : Nat} {vs : List (Option Value)} (h : lh ls n vs) (i : Nat) {v : Value} (hv : vs[i]? = some (some v)) : ls[i]? = some (.val v) :=
  h.1.2.2 (i, v) ((lpr_mem vs 0).mpr ⟨i, hv, by simp⟩)
theorem lh.set {ls : Array Slot} {n i : Nat} {vs : List (Option Value)} {v : Value} (hc : v.category = 1) (hvs : ∀ v : Value, some v ∈ vs → v.category = 1) (h : lv_has ls n ((i, v) :: (lpr 0 vs).filter (fun q => !(q.1 == i) && !(q.1 + 1 == i && q.2.category == 2)))) : lh ls n (vs.set i (some v)) := by
  refine ⟨⟨h.1, h.2.1, fun q hq => h.2.2 q ?_⟩, fun w hw => ?_⟩
  · obtain ⟨j, h1, h2⟩ := (lpr_mem _ 0).mp hq
    rw [List.getElem?_set] at h1
    by_cases hj : i = j
    · rw [if_pos hj] at h1
      split at h1
      · have h3 : v = q.2 := by simpa using h1
        refine List.mem_cons.mpr (Or.inl ?_)
        exact Prod.ext (by omega) h3.symm
      · cases h1
    · rw [if_neg hj] at h1
      refine List.mem_cons_of_mem _ (List.mem_filter.mpr ⟨(lpr_mem _ 0).mpr ⟨j, h1, h2⟩, ?_⟩)
      have h4 : q.2.category = 1 := hvs _ (List.mem_of_getElem? h1)
      have h5 : ¬ q.1 = i := by omega
      simp [h4, h5]
  · rcases List.mem_or_eq_of_mem_set hw with h1 | h1
    · exact hvs w h1
    · cases h1; exact hc
theorem lh.entry {av : List Value} {n : Nat} (hn : av.length ≤ n) (hc : ∀ v ∈ av, v.category = 1) : lh ((lg_sl av ++ List.replicate (n - (lg_sl av).length) Slot.unset).toArray) n (av.map some ++ List.replicate (n - av.length) none) := by
  have hlen : (lg_sl av).length = av.length := by
    unfold lg_sl
    induction av with
    | nil => rfl
    | cons v t ih =>
      have h1 : v.category = 1 := hc v List.mem_cons_self
      rw [List.flatMap_cons, List.length_append, ih (by simp at hn; omega) (fun w hw => hc w (List.mem_cons_of_mem _ hw)), h1]
      simp
      omega
  have h := lv_entry av (n := n) (by rw [hlen]; exact hn)
  refine ⟨⟨h.1, h.2.1, fun q hq => h.2.2 q ?_⟩, fun v hv => ?_⟩
  · obtain ⟨j, h1, h2⟩ := (lpr_mem _ 0).mp hq
    have h3 : av[j]? = some q.2 := by
      by_cases hj : j < av.length
      · rw [List.getElem?_append_left (by simpa using hj), List.getElem?_map] at h1
        cases h9 : av[j]? with
        | none => rw [h9] at h1; simp at h1
        | some w => rw [h9] at h1; simpa using h1
      · rw [List.getElem?_append_right (by simp; omega), List.getElem?_replicate] at h1
        split at h1 <;> simp at h1
    have key : ∀ (l : List Value) (i j : Nat), (∀ v ∈ l, v.category = 1) → ∀ v, l[j]? = some v → (i + j, v) ∈ lv_args i l := by
      intro l
      induction l with
      | nil => intro i j _ v hv; simp at hv
      | cons a t ih =>
        intro i j hcc v hv
        have h9 : a.category = 1 := hcc a List.mem_cons_self
        have h8 : lv_args i (a :: t) = (i, a) :: lv_args (i + 1) t := by simp [lv_args, h9]
        rw [h8]
        cases j with
        | zero =>
          have h7 : a = v := by simpa using hv
          rw [h7]; exact List.mem_cons_self
        | succ j =>
          refine List.mem_cons_of_mem _ ?_
          have h6 := ih (i + 1) j (fun w hw => hcc w (List.mem_cons_of_mem _ hw)) v (by simpa using hv)
          rw [show i + (j + 1) = i + 1 + j by omega]
          exact h6
    have h4 := key av 0 j hc q.2 h3
    have h5 : q = (0 + j, q.2) := Prod.ext h2 rfl
    rw [h5]; exact h4
  · rcases List.mem_append.mp hv with h1 | h1
    · obtain ⟨w, hw, he⟩ := List.mem_map.mp h1
      have he' : w = v := Option.some.inj he
      rw [← he']; exact hc w hw
    · have := List.eq_of_mem_replicate h1
      cases this
/-- the machine in a method: what every row asks -/
def Cx (g : Gx) (p : Program) (s : State) (m : MethodId) (args : Array Value) (c : Code) (cc : ByteArray) (own : String) : Prop := p.tables.exec = Jvm.exec ∧ c.code = cc ∧ s.vm.findClass own = some m.cls ∧ (∀ w ∈ tb, w.before args s = true) ∧ KK g s
section HB
variable {p : Program} {l : Launch} {e : Env} {R : Room} {s : State} {m : MethodId} {args : Array Value} {below : List Frame} {meth : Method} {c : Code} {H : Heap} {locs : List Loc} {cells slots : Nat} {Q : State → Prop}
variable {g : Gx} {cc : ByteArray} {own : String} {pc n : Nat} {ls : Array Slot} {rest : List Value} {A : Nat → Prop} {a : Nat} {vs : List (Option Value)}
theorem hb_P {D : va_G} {cl : List vw_C} {q : Nat × va_E} (h : va_at D cl q H) : va_P D cl [q] H := fun k r hk => by
  cases k with
  | zero => cases hk; exact h
  | succ k => simp at hk
/-! locals -/
theorem hb_iload_n (G : Cx g p s m args c cc own) {k : Fin 4} {x : Int32} (hdg : decode cc pc = .ok (.iload_n k, 1)) (h : lh ls n vs) (hv : vs[k.val]? = some (some (.int x))) (kk : W p l e R s m args below meth c H locs cells slots Q (F0 m (pc + 1) ls (.int x :: rest))) : W p l e R s m args below meth c H locs cells slots Q (F0 m pc ls rest) := lv_iload_n G.1 G.2.1 hdg rfl (h.get _ hv) kk
theorem hb_iload (G : Cx g p s m args c cc own) {k : Nat} {x : Int32} (hdg : decode cc pc = .ok (.iload k, 2)) (h : lh ls n vs) (hv : vs[k]? = some (some (.int x))) (kk : W p l e R s m args below meth c H locs cells slots Q (F0 m (pc + 2) ls (.int x :: rest))) : W p l e R s m args below meth c H locs cells slots Q (F0 m pc ls rest) := lv_iload G.1 G.2.1 hdg (h.get _ hv) kk
theorem hb_aload_n (G : Cx g p s m args c cc own) {k : Fin 4} {x : Nat} (hdg : decode cc pc = .ok (.aload_n k, 1)) (h : lh ls n vs) (hv : vs[k.val]? = some (some (.ref x))) (kk : W p l e R s m args below meth c H locs cells slots Q (F0 m (pc + 1) ls (.ref x :: rest))) : W p l e R s m args below meth c H locs cells slots Q (F0 m pc ls rest) := lv_aload_n G.1 G.2.1 hdg rfl (h.get _ hv) kk
theorem hb_aload (G : Cx g p s m args c cc own) {k : Nat} {x : Nat} (hdg : decode cc pc = .ok (.aload k, 2)) (h : lh ls n vs) (hv : vs[k]? = some (some (.ref x))) (kk : W p l e R s m args below meth c H locs cells slots Q (F0 m (pc + 2) ls (.ref x :: rest))) : W p l e R s m args below meth c H locs cells slots Q (F0 m pc ls rest) := lv_aload G.1 G.2.1 hdg (h.get _ hv) kk
theorem hb_istore_n (G : Cx g p s m args c cc own) {k : Fin 4} {x : Int32} (hdg : decode cc pc = .ok (.istore_n k, 1)) (h : lh ls n vs) (hn : k.val < n) (kk : ∀ ls' : Array Slot, lh ls' n (vs.set k.val (some (.int x))) → W p l e R s m args below meth c H locs cells slots Q (F0 m (pc + 1) ls' rest)) : W p l e R s m args below meth c H locs cells slots Q (F0 m pc ls (.int x :: rest)) := lv_istore_n G.1 G.2.1 hdg rfl h.1 hn rfl (fun ls' h' => kk ls' (lh.set rfl h.2 h'))
theorem hb_istore (G : Cx g p s m args c cc own) {k : Nat} {x : Int32} (hdg : decode cc pc = .ok (.istore k, 2)) (h : lh ls n vs) (hn : k < n) (kk : ∀ ls' : Array Slot, lh ls' n (vs.set k (some (.int x))) → W p l e R s m args below meth c H locs cells slots Q (F0 m (pc + 2) ls' rest)) : W p l e R s m args below meth c H locs cells slots Q (F0 m pc ls (.int x :: rest)) := lv_istore G.1 G.2.1 hdg h.1 hn rfl (fun ls' h' => kk ls' (lh.set rfl h.2 h'))
theorem hb_astore_n (G : Cx g p s m args c cc own) {k : Fin 4} {x : Nat} (hdg : decode cc pc = .ok (.astore_n k, 1)) (h : lh ls n vs) (hn : k.val < n) (kk : ∀ ls' : Array Slot, lh ls' n (vs.set k.val (some (.ref x))) → W p l e R s m args below meth c H locs cells slots Q (F0 m (pc + 1) ls' rest)) : W p l e R s m args below meth c H locs cells slots Q (F0 m pc ls (.ref x :: rest)) := lv_astore_n G.1 G.2.1 hdg rfl h.1 hn rfl (fun ls' h' => kk ls' (lh.set rfl h.2 h'))
theorem hb_astore (G : Cx g p s m args c cc own) {k : Nat} {x : Nat} (hdg : decode cc pc = .ok (.astore k, 2)) (h : lh ls n vs) (hn : k < n) (kk : ∀ ls' : Array Slot, lh ls' n (vs.set k (some (.ref x))) → W p l e R s m args below meth c H locs cells slots Q (F0 m (pc + 2) ls' rest)) : W p l e R s m args below meth c H locs cells slots Q (F0 m pc ls (.ref x :: rest)) := lv_astore G.1 G.2.1 hdg h.1 hn rfl (fun ls' h' => kk ls' (lh.set rfl h.2 h'))
theorem hb_aload_nN (G : Cx g p s m args c cc own) {k : Fin 4} (hdg : decode cc pc = .ok (.aload_n k, 1)) (h : lh ls n vs) (hv : vs[k.val]? = some (some .null)) (kk : W p l e R s m args below meth c H locs cells slots Q (F0 m (pc + 1) ls (.null :: rest))) : W p l e R s m args below meth c H locs cells slots Q (F0 m pc ls rest) := lv_aload_nN G.1 G.2.1 hdg rfl (h.get _ hv) kk
theorem hb_astore_nN (G : Cx g p s m args c cc own) {k : Fin 4} (hdg : decode cc pc = .ok (.astore_n k, 1)) (h : lh ls n vs) (hn : k.val < n) (kk : ∀ ls' : Array Slot, lh ls' n (vs.set k.val (some .null)) → W p l e R s m args below meth c H locs cells slots Q (F0 m (pc + 1) ls' rest)) : W p l e R s m args below meth c H locs cells slots Q (F0 m pc ls (.null :: rest)) := lv_astore_nN G.1 G.2.1 hdg rfl h.1 hn rfl (fun ls' h' => kk ls' (lh.set rfl h.2 h'))
theorem hb_iinc (G : Cx g p s m args c cc own) {k : Nat} {d : Int} {x v : Int32} (hdg : decode cc pc = .ok (.iinc k d, 3)) (h : lh ls n vs) (hv : vs[k]? = some (some (.int x))) (hx : x + Int32.ofInt d = v) (hn : k < n) (kk : ∀ ls' : Array Slot, lh ls' n (vs.set k (some (.int v))) → W p l e R s m args below meth c H locs cells slots Q (F0 m (pc + 3) ls' rest)) : W p l e R s m args below meth c H locs cells slots Q (F0 m pc ls rest) := by
  obtain ⟨j, hj⟩ := List.mem_iff_getElem?.mp ((lpr_mem vs 0 (q := (k, .int x))).mpr ⟨k, hv, by simp⟩)
  exact lv_iinc G.1 G.2.1 hdg h.1 hj hx hn rfl (fun ls' h' => kk ls' (lh.set rfl h.2 h'))
/-! fields -/
theorem hb_get (G : Cx g p s m args c cc own) {ref C : String} {T : u_T} {N ci index : Nat} {fs : List Value} (he : ob g a ci fs H) (hc : vwCl[ci]? = some (C, T, N)) (hin : ∀ w ∈ u_ws C T N, w ∈ tb) (k : Nat) (hk : k < N) (hlink : Cond.fieldLink own index ref (T k).2.1 (T k).2.2.1 ∈ tb) (hsame : (T k).1 = ref) {v : Value} (hv : fs[k]? = some v) (hdg : decode cc pc = .ok (.getfield index, 3))
    (kk : W p l e R s m args below meth c H locs cells slots Q (F0 m (pc + 3) ls (v :: rest))) : W p l e R s m args below meth c H locs cells slots Q (F0 m pc ls (.ref a :: rest)) :=
  va_get G.1 G.2.1 G.2.2.2.1 hin G.2.2.1 G.2.2.2.2.1 (hb_P he) 0 rfl hc k hk (G.2.2.2.1 _ hlink) (fun x h => by rw [← hsame]; exact h) hv hdg kk
theorem hb_put (G : Cx g p s m args c cc own) {ref C : String} {T : u_T} {N ci index : Nat} {fs : List Value} (he : ob g a ci fs H) (hc : vwCl[ci]? = some (C, T, N)) (hin : ∀ w ∈ u_ws C T N, w ∈ tb) (ty0 : Nat → FieldType) (hty : ∀ k, k < N → parseFieldDescriptor (T k).2.2.1 = some (ty0 k)) (hnm : ∀ a, a < N → ∀ b, b < N → a ≠ b → (T a).2.1 ≠ (T b).2.1)
    (k : Nat) (hk : k < N) (hlink : Cond.fieldLink own index ref (T k).2.1 (T k).2.2.1 ∈ tb) (hsame : (T k).1 = ref) (hfin : (T k).2.2.2 = false) {v : Value} (hn : narrow (ty0 k) v = v) (hfit : fits (ty0 k) v = true) (hl : k < fs.length) (hL : ∀ q ∈ locs, A q.base) (hA : A a) (hdg : decode cc pc = .ok (.putfield index, 3))
    (kk : ∀ (H1 : Heap) (locs1 : List Loc), ob g a ci (fs.set k v) H1 → H1.size = H.size → (∀ q : Nat, q ≠ a → H1[q]? = H[q]?) → (∀ q ∈ locs1, A q.base) → W p l e R s m args below meth c H1 locs1 cells slots Q (F0 m (pc + 3) ls rest)) : W p l e R s m args below meth c H locs cells slots Q (F0 m pc ls (v :: .ref a :: rest)) := by
  obtain ⟨hx, hb, hown, hts, hK, -⟩ := G
  have hap := va_apart (own := own) hts hin ty0 hty hnm hK hc
  obtain ⟨r, h1, cell, q1, q2, q3, q4⟩ := he
  have hr : r = (C, T, N) := Option.some.inj (h1.symm.trans hc)
  subst hr
  obtain ⟨hS, hfc, kC, hkC, hkind⟩ := hK.1 ci _ hc
  obtain ⟨cf, kf, fi, f, hi, hsl⟩ := hS k hk
  have hlay := hts _ (hin _ (u_in_lay hk))
  unfold u_lay at hlay
  rw [if_neg (by rw [hfin]; decide)] at hlay
  have hst := (u_facts hfc hkC (u_lays hts hin hk) hi).1
  have h6 := u_store hfc hkC hkind hlay hi (hty k hk) hn hfit
  refine W.putK hx hb (f := f) ⟨hown, hts _ hlink, ⟨_, _, _, by rw [← hsame]; exact hi⟩, hst⟩ (by rw [q2]; exact h6) q1 q3 (by rw [hsl]; exact k2_hasslot (q4 k hk)) rfl rfl hdg fun H' e1 e2 e3 => ?_
  rw [hsl] at e1 ⊢
  exact kk H' _ ⟨_, hc, t_OB.to (V := updV (vp_V fs) k v) ⟨_, e1, q2, q3, t_set q4 hap hk v⟩ (fun j _ => vp_updV_set hl v j)⟩ e2 e3 (t_lc hL hA)
theorem hb_putF (G : Cx g p s m args c cc own) {ref C : String} {T : u_T} {N ci index : Nat} {fs : List Value} (he : ob g a ci fs H) (hc : vwCl[ci]? = some (C, T, N)) (hin : ∀ w ∈ u_ws C T N, w ∈ tb) (ty0 : Nat → FieldType) (hty : ∀ k, k < N → parseFieldDescriptor (T k).2.2.1 = some (ty0 k)) (hnm : ∀ a, a < N → ∀ b, b < N → a ≠ b → (T a).2.1 ≠ (T b).2.1)
    (k : Nat) (hk : k < N) (hlink : Cond.fieldLink own index ref (T k).2.1 (T k).2.2.1 ∈ tb) (hsame : (T k).1 = ref) (hfin : (T k).2.2.2 = true) (hin2 : meth.name = "<init>") (hdecl : (T k).1 = own) {v : Value} (hn : narrow (ty0 k) v = v) (hfit : fits (ty0 k) v = true) (hl : k < fs.length) (hL : ∀ q ∈ locs, A q.base) (hA : A a) (hdg : decode cc pc = .ok (.putfield index, 3))
    (kk : ∀ (H1 : Heap) (locs1 : List Loc), ob g a ci (fs.set k v) H1 → H1.size = H.size → (∀ q : Nat, q ≠ a → H1[q]? = H[q]?) → (∀ q ∈ locs1, A q.base) → W p l e R s m args below meth c H1 locs1 cells slots Q (F0 m (pc + 3) ls rest)) : W p l e R s m args below meth c H locs cells slots Q (F0 m pc ls (v :: .ref a :: rest)) := by
  obtain ⟨hx, hb, hown, hts, hK, -⟩ := G
  have hap := va_apart (own := own) hts hin ty0 hty hnm hK hc
  obtain ⟨r, h1, cell, q1, q2, q3, q4⟩ := he
  have hr : r = (C, T, N) := Option.some.inj (h1.symm.trans hc)
  subst hr
  obtain ⟨hS, hfc, kC, hkC, hkind⟩ := hK.1 ci _ hc
  obtain ⟨cf, kf, fi, f, hi, hsl⟩ := hS k hk
  have hlay := hts _ (hin _ (u_in_lay hk))
  unfold u_lay at hlay
  rw [if_pos hfin] at hlay
  have hst := (u_facts hfc hkC (u_lays hts hin hk) hi).1
  have hcf : m.cls = cf := by
    obtain ⟨_, _, c', _, _, _, -, -, hf', -, -, -, hown2, -⟩ := Cond.laysFinal_spec hlay
    have e1 : c' = cf := by have := hi.symm.trans hf'; simp at this; exact this.1.symm
    rw [hdecl] at hown2
    rw [← e1]; exact Option.some.inj (hown.symm.trans hown2)
  have h6 := u_fits hfc hkC hkind (Or.inr hlay) hi (hty k hk) hn hfit
  refine W.putFinK hx hb hown (hts _ hlink) (by rw [← hsame]; exact hi) hst hcf hin2 (by rw [q2]; exact h6) q1 q3 (by rw [hsl]; exact k2_hasslot (q4 k hk)) rfl rfl hdg fun H' e1 e2 e3 => ?_
  rw [hsl] at e1 ⊢
  exact kk H' _ ⟨_, hc, t_OB.to (V := updV (vp_V fs) k v) ⟨_, e1, q2, q3, t_set q4 hap hk v⟩ (fun j _ => vp_updV_set hl v j)⟩ e2 e3 (t_lc hL hA)
/-! arrays -/
theorem hb_alen_i (G : Cx g p s m args c cc own) {k : Nat} {f : Nat → Int32} (ha : ia g a k f H) (hdg : decode cc pc = .ok (.arraylength, 1)) (kk : W p l e R s m args below meth c H locs cells slots Q (F0 m (pc + 1) ls (.int (nI k) :: rest))) : W p l e R s m args below meth c H locs cells slots Q (F0 m pc ls (.ref a :: rest)) :=
  va_alen G.1 G.2.1 G.2.2.2.2.1 (hb_P ha) 0 0 rfl (ty := .int) rfl (v := nI k) rfl hdg kk
theorem hb_alen_q (G : Cx g p s m args c cc own) {k : Nat} {f : Nat → Option Nat} (ha : qa g a k f H) (hdg : decode cc pc = .ok (.arraylength, 1)) (kk : W p l e R s m args below meth c H locs cells slots Q (F0 m (pc + 1) ls (.int (nI k) :: rest))) : W p l e R s m args below meth c H locs cells slots Q (F0 m pc ls (.ref a :: rest)) :=
  va_alen G.1 G.2.1 G.2.2.2.2.1 (hb_P ha) 0 2 rfl (ty := .object "LogDisk$Log") rfl (v := nI k) rfl hdg kk
theorem hb_iald (G : Cx g p s m args c cc own) {k : Nat} {f : Nat → Int32} (ha : ia g a k f H) {i : Int32} (hin : vp_in i k) (hdg : decode cc pc = .ok (.iaload, 1)) (kk : W p l e R s m args below meth c H locs cells slots Q (F0 m (pc + 1) ls (.int (f i.toNatClampNeg) :: rest))) : W p l e R s m args below meth c H locs cells slots Q (F0 m pc ls (.int i :: .ref a :: rest)) :=
  va_iald G.1 G.2.1 G.2.2.2.2.1 (hb_P ha) 0 0 rfl rfl hin hdg kk
theorem hb_zald (G : Cx g p s m args c cc own) {k : Nat} {f : Nat → Int32} (ha : za g a k f H) {i : Int32} (hin : vp_in i k) (hdg : decode cc pc = .ok (.baload, 1)) (kk : W p l e R s m args below meth c H locs cells slots Q (F0 m (pc + 1) ls (.int (f i.toNatClampNeg) :: rest))) : W p l e R s m args below meth c H locs cells slots Q (F0 m pc ls (.int i :: .ref a :: rest)) :=
  va_zald G.1 G.2.1 G.2.2.2.2.1 (hb_P ha) 0 1 rfl rfl hin hdg kk
theorem hb_qald (G : Cx g p s m args c cc own) {k : Nat} {f : Nat → Option Nat} (ha : qa g a k f H) {i : Int32} (hin : vp_in i k) (hdg : decode cc pc = .ok (.aaload, 1)) (kk : W p l e R s m args below meth c H locs cells slots Q (F0 m (pc + 1) ls (va_rf (f i.toNatClampNeg) :: rest))) : W p l e R s m args below meth c H locs cells slots Q (F0 m pc ls (.int i :: .ref a :: rest)) :=
  va_aldq G.1 G.2.1 G.2.2.2.2.1 (hb_P ha) 0 2 rfl rfl hin hdg kk
theorem hb_iast (G : Cx g p s m args c cc own) {k : Nat} {f : Nat → Int32} (ha : ia g a k f H) {i x : Int32} (hin : vp_in i k) (hL : ∀ q ∈ locs, A q.base) (hA : A a) (hdg : decode cc pc = .ok (.iastore, 1))
    (kk : ∀ (H1 : Heap) (locs1 : List Loc), ia g a k (upd f i.toNatClampNeg x) H1 → H1.size = H.size → (∀ q : Nat, q ≠ a → H1[q]? = H[q]?) → (∀ q ∈ locs1, A q.base) → W p l e R s m args below meth c H1 locs1 cells slots Q (F0 m (pc + 1) ls rest)) : W p l e R s m args below meth c H locs cells slots Q (F0 m pc ls (.int x :: .int i :: .ref a :: rest)) := by
  refine W.iast G.1 G.2.1 ha ((G.2.2.2.2.1.2 0 _ rfl).1 k (fun j => .int (f j))) (fun q => by cases q) (by show ¬ (i < 0 ∨ (arrV _ _ _).slots.size ≤ _); rw [arrV_size]; exact hin) rfl rfl hdg fun H1 e z oq => ?_
  refine kk H1 _ ?_ z oq (t_lc hL hA)
  show H1[a]? = some (vp_cell _ _)
  rw [e, vp_cell_i, vp_cell_i, arrV_store]
  congr 2
  funext q
  by_cases hq : q = i.toNatClampNeg
  · subst hq
    simp [updV, upd]
  · simp [updV, upd, hq]
theorem hb_zast (G : Cx g p s m args c cc own) {k : Nat} {f : Nat → Int32} (ha : za g a k f H) {i x : Int32} (hin : vp_in i k) (hnx : vp_nar .boolean x = x) (hL : ∀ q ∈ locs, A q.base) (hA : A a) (hdg : decode cc pc = .ok (.bastore, 1))
    (kk : ∀ (H1 : Heap) (locs1 : List Loc), za g a k (upd f i.toNatClampNeg x) H1 → H1.size = H.size → (∀ q : Nat, q ≠ a → H1[q]? = H[q]?) → (∀ q ∈ locs1, A q.base) → W p l e R s m args below meth c H1 locs1 cells slots Q (F0 m (pc + 1) ls rest)) : W p l e R s m args below meth c H locs cells slots Q (F0 m pc ls (.int x :: .int i :: .ref a :: rest)) := by
  refine W.zast G.1 G.2.1 ha ((G.2.2.2.2.1.2 1 _ rfl).1 k (fun j => .int (f j))) (fun q => by cases q) (by show ¬ (i < 0 ∨ (arrV _ _ _).slots.size ≤ _); rw [arrV_size]; exact hin) rfl rfl hdg fun H1 e z oq => ?_
  refine kk H1 _ ?_ z oq (t_lc hL hA)
  show H1[a]? = some (vp_cell _ _)
  have hnv : narrow .boolean (.int x) = .int x := by
    have h9 : narrow .boolean (.int x) = .int (vp_nar .boolean x) := rfl
    rw [h9, hnx]
  rw [e, hnv, vp_cell_i, vp_cell_i, arrV_store]
  congr 2
  funext q
  by_cases hq : q = i.toNatClampNeg
  · subst hq
    simp [updV, upd]
  · simp [updV, upd, hq]
end HB
