/-! THE START: what the tables give, and the three cells that the law makes -/
theorem arr_of {args : Array Value} {s : State} {ty : FieldType} (h : (Cond.arrayClass ty).before args s = true) : ∃ cA : ClassId, ArrOfT s cA ty ∧ s.vm.findClass ("[" ++ ty.toString) = some cA := by
  obtain ⟨cA, kA, comp, hfind, hk, hkind⟩ := Cond.arrayClass_spec h
  exact ⟨cA, fun n z => ⟨fun k h => (by cases h), kA, hk, comp, hkind⟩, hfind⟩
theorem arr_over {s : State} {C : String} (h : va_AO C s) : ∃ cA : ClassId, ArrOfT s cA (.object C) ∧ va_RA s cA (.object C) := by
  obtain ⟨comp, c, k, h1, h2, h3, h4, h5⟩ := Cond.arrayOver_spec h
  exact ⟨c, fun n z => ⟨fun k h => (by cases h), k, h3, comp, h4⟩, k, comp, h3, h4, h1, h5⟩
theorem KK_of {s : State} {args : Array Value} (hts : ∀ w ∈ lw_tbl, w.before args s = true) : ∃ g : Gx, KK g s := by
  have htb : ∀ w ∈ tb, w.before args s = true := fun w h => hts w (tb_in h)
  obtain ⟨c0, i0, k0⟩ := u_known (C := RX0) (T := TX0) (N := 9) (n := 9) htb inX0 (htb _ kj_X0)
  obtain ⟨c1, i1, k1⟩ := u_known (C := RX1) (T := TX1) (N := 7) (n := 7) htb inX1 (htb _ kj_X1)
  obtain ⟨c2, i2, k2⟩ := u_known (C := RX2) (T := TX2) (N := 20) (n := 20) htb inX2 (htb _ kj_X2)
  obtain ⟨aI, hI1, hI2⟩ := arr_of (htb _ ka_int)
  obtain ⟨aZ, hZ1, hZ2⟩ := arr_of (htb _ ka_boolean)
  obtain ⟨aJ, hJ1, hJ2⟩ := arr_of (htb _ ka_long)
  have hAO : va_AO "LogDisk$Log" s := va_AO.of (hts (.arrayOver (.object "LogDisk$Log")) (by decide +kernel))
  obtain ⟨aQ, hQ1, hQ2⟩ := arr_over hAO
  refine ⟨(fun k => if k = 0 then c0 else if k = 1 then c1 else c2, fun k => if k = 0 then i0 else if k = 1 then i1 else i2, fun k => if k = 0 then aI else if k = 1 then aZ else if k = 2 then aQ else aJ), ⟨?_, ?_⟩, ?_⟩
  · intro k q hq
    match k, hq with
    | 0, hq => cases hq; exact k0
    | 1, hq => cases hq; exact k1
    | 2, hq => cases hq; exact k2
    | k + 3, hq => simp [vwCl] at hq
  · intro k q hq
    match k, hq with
    | 0, hq => cases hq; exact ⟨hI1, hI2⟩
    | 1, hq => cases hq; exact ⟨hZ1, hZ2⟩
    | 2, hq => cases hq; exact ⟨hQ1, hQ2⟩
    | 3, hq => cases hq; exact ⟨hJ1, hJ2⟩
    | k + 4, hq => simp [gT] at hq
  · exact ⟨va_Nw.of rfl (hts (.methodLinkNest RX1 15 yX0_init "LogDisk") (by decide +kernel)), va_Nw.of rfl (hts (.methodLinkNest RX0 40 yX1_at "LogDisk") (by decide +kernel)), va_Nw.of rfl (hts (.methodLinkNest RX0 52 yX1_set "LogDisk") (by decide +kernel)), va_Nw.of rfl (hts (.methodLinkNest RX0 71 yX1_blocksTouched "LogDisk") (by decide +kernel)), hAO⟩
theorem nbIA_in : ∀ w ∈ nbIA, w ∈ lw_tbl := by decide +kernel
theorem nbIS_in : ∀ w ∈ nbIS, w ∈ lw_tbl := by decide +kernel
theorem str_of {s : State} {args : Array Value} {own tx : String} {k cur : Nat} (hc : s.vm.findClass own = some cur) (h : (Cond.stringRef own k tx).before args s = true) : ∃ a, vk_R own k tx a s := by
  have h0 : (Cond.stringRef own k tx).before #[] s = true := h
  obtain ⟨_, _, _, a, _, _, _, _, _, hev⟩ := Cond.stringRef_spec hc h0
  exact ⟨a, h0, hev⟩
theorem XX_of {s : State} {args : Array Value} {g : Gx} (hts : ∀ w ∈ lw_tbl, w.before args s = true) (hK : KK g s) (hgv : (Jvm.Cond.and given_1 narrow_1).before args s = true) : ∃ sa : Nat → Nat, XX s.heap.size sa s s.heap := by
  have hfl := flat_of_before _ hgv
  have hc := (hK.1.1 1 _ rfl).2.1
  obtain ⟨a0, h0⟩ := str_of hc (hts (.stringRef RX1 156 "there is no such log") (by decide +kernel))
  obtain ⟨a1, h1⟩ := str_of hc (hts (.stringRef RX1 166 "a number is out of its bounds") (by decide +kernel))
  obtain ⟨a2, h2⟩ := str_of hc (hts (.stringRef RX1 163 "the disk is down") (by decide +kernel))
  refine ⟨fun k => if k = 0 then a0 else if k = 1 then a1 else a2, h0, h1, h2, ⟨fun w hw => va_Nw.of (nbIA_ot w hw) (hts w (nbIA_in w hw)), fun w hw => va_Nw.of (nbIS_ot w hw) (hts w (nbIS_in w hw))⟩, ?_, ?_⟩
  · exact vx_Zqof (hts (.laysStatic Bundle.tN "UNASSIGNED_STACK" Bundle.steD) (by decide +kernel)) (hts (.initialized Bundle.tN) (by decide +kernel)) (hfl _ (by decide +kernel)) (fun a h => Nat.not_le.mpr h)
  · exact vx_Zqof (hts (.laysStatic Bundle.tN "SUPPRESSED_SENTINEL" Bundle.listD) (by decide +kernel)) (hts (.initialized Bundle.tN) (by decide +kernel)) (hfl _ (by decide +kernel)) (fun a h => Nat.not_le.mpr h)
theorem Nc_of {s : State} {args : Array Value} (hgv : (Jvm.Cond.and given_1 narrow_1).before args s = true) : va_Nc nIS nIA s := va_Nc.of (args := args) (flat_of_before _ hgv _ (by decide +kernel))
