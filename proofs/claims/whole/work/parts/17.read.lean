def Gr (H H1 : Heap) : Prop := H.size ≤ H1.size ∧ ∀ q : Nat, q < H.size → H1[q]? = H[q]?
def dkIs (i : Int32) : Prop := 0 ≤ i ∧ i < 4
/-- what is thrown: the argument is wrong, or the disk is down -/
def thX (ok : Prop) (dn : Int32) (H : Heap) (E : String) (H1 : Heap) : Prop := Gr H H1 ∧ (E = nIA ∧ ¬ ok ∨ E = nIS ∧ ok ∧ ¬ dn = 0)
theorem dkIs_of {i : Int32} (h : dkIs i) : ∃ j : Nat, j < 4 ∧ i = nI j := by
  obtain ⟨j, h1, h2⟩ := nI_of2 (x := i) (M := 3) (n := 3) rfl (i32_nlt.mpr h.1) (by have h9 := h.2; rw [i32_lt] at h9; rw [i32_le]; have e1 : (4 : Int32).toInt = 4 := rfl; have e2 : (3 : Int32).toInt = 3 := rfl; omega)
  exact ⟨j, by omega, h2⟩
theorem dkIs_nI {j : Nat} (h : j < 4) : dkIs (nI j) := ⟨nI_pos' (by omega), nI_lt h (by decide)⟩
set_option maxHeartbeats 4000000 in
set_option maxRecDepth 100000 in
/-- requireWithin -/
theorem c_requireWithin (g : Gx) (z : Nat) (sa : Nat → Nat) (l : Launch) (hlt : l.stackTraces = false) (i lo hi : Int32) (H : Heap) : HX g z sa l yX1_requireWithin cX1_requireWithin 3 none 6 90 1 6 [.int i, .int lo, .int hi] H (fun v H1 => v = none ∧ (lo ≤ i ∧ i ≤ hi) ∧ H1 = H) (fun E H1 => E = nIA ∧ ¬ (lo ≤ i ∧ i ≤ hi) ∧ Gr H H1) (f0) := by
  refine HX.ofW (by decide) (Nat.le_of_ble_eq_true rfl) (by simp [Value.category]) ?_
  intro p e s m args below meth c ls G hr hml hlocks htb hH hXs hl
  have hl : lh ls 3 [some (.int i), some (.int lo), some (.int hi)] := hl
  have hL : ∀ q ∈ ([] : List Loc), (f0) q.base := fun q h => by cases h
  refine hb_iload_n G dX1_requireWithin_0 hl rfl ?_
  refine hb_iload_n G dX1_requireWithin_1 hl rfl ?_
  refine lv_icmp_lt (tgt := 10) G.1 G.2.1 dX1_requireWithin_2 (by decide) (fun c_1 => ?_) (fun c_1 => ?_)
  · exact hx_IA G hXs hH hml hl.size hlt hXs.2.1 htb hlocks dX1_requireWithin_10 dX1_requireWithin_13 dX1_requireWithin_14 dX1_requireWithin_16 dX1_requireWithin_19 (Nat.le_of_ble_eq_true rfl) (Nat.le_of_ble_eq_true rfl) (Nat.le_of_ble_eq_true rfl) (Nat.le_of_ble_eq_true rfl) (fun H1 h1 h2 => ⟨rfl, fun q => i32_nlt.mpr q.1 c_1, h1, h2⟩) (Nat.le_of_ble_eq_true rfl) (Nat.le_of_ble_eq_true rfl)
  · refine hb_iload_n G dX1_requireWithin_5 hl rfl ?_
    refine hb_iload_n G dX1_requireWithin_6 hl rfl ?_
    refine lv_icmp_le (tgt := 20) G.1 G.2.1 dX1_requireWithin_7 (by decide) (fun c_2 => ?_) (fun c_2 => ?_)
    · exact hx_vret G hr hlocks ⟨rfl, ⟨i32_nlt.mp c_1, c_2⟩, rfl⟩ hL (Nat.le_of_ble_eq_true rfl) (Nat.le_of_ble_eq_true rfl) dX1_requireWithin_20
    · exact hx_IA G hXs hH hml hl.size hlt hXs.2.1 htb hlocks dX1_requireWithin_10 dX1_requireWithin_13 dX1_requireWithin_14 dX1_requireWithin_16 dX1_requireWithin_19 (Nat.le_of_ble_eq_true rfl) (Nat.le_of_ble_eq_true rfl) (Nat.le_of_ble_eq_true rfl) (Nat.le_of_ble_eq_true rfl) (fun H1 h1 h2 => ⟨rfl, fun q => c_2 q.2, h1, h2⟩) (Nat.le_of_ble_eq_true rfl) (Nat.le_of_ble_eq_true rfl)
set_option maxHeartbeats 4000000 in
set_option maxRecDepth 100000 in
/-- requirePower -/
theorem c_requirePower (g : Gx) (z : Nat) (sa : Nat → Nat) (l : Launch) (hlt : l.stackTraces = false) (d S p4 : Nat) (tc dn wr : Int32) (H : Heap) (hd : ob g d 1 (dkFs d S p4 tc dn wr) H) : HX g z sa l yX1_requirePower cX1_requirePower 1 none 6 90 1 6 [.ref d] H (fun v H1 => v = none ∧ dn = 0 ∧ H1 = H) (fun E H1 => E = nIS ∧ ¬ dn = 0 ∧ Gr H H1) (f0) := by
  refine HX.ofW (by decide) (Nat.le_of_ble_eq_true rfl) (by simp [Value.category]) ?_
  intro p e s m args below meth c ls G hr hml hlocks htb hH hXs hl
  have hl : lh ls 1 [some (.ref d)] := hl
  have hL : ∀ q ∈ ([] : List Loc), (f0) q.base := fun q h => by cases h
  refine hb_aload_n G dX1_requirePower_0 hl rfl ?_
  refine hb_get G hd rfl inX1 5 (by decide) kf_X1_24 rfl rfl dX1_requirePower_1 ?_
  refine lv_if_eq (tgt := 17) G.1 G.2.1 dX1_requirePower_4 (by decide) (fun c_1 => ?_) (fun c_1 => ?_)
  · exact hx_vret G hr hlocks ⟨rfl, c_1, rfl⟩ hL (Nat.le_of_ble_eq_true rfl) (Nat.le_of_ble_eq_true rfl) dX1_requirePower_17
  · exact hx_IS G hXs hH hml hl.size hlt hXs.2.2.1 htb hlocks dX1_requirePower_7 dX1_requirePower_10 dX1_requirePower_11 dX1_requirePower_13 dX1_requirePower_16 (Nat.le_of_ble_eq_true rfl) (Nat.le_of_ble_eq_true rfl) (Nat.le_of_ble_eq_true rfl) (Nat.le_of_ble_eq_true rfl) (fun H1 h1 h2 => ⟨rfl, c_1, h1, h2⟩) (Nat.le_of_ble_eq_true rfl) (Nat.le_of_ble_eq_true rfl)
set_option maxHeartbeats 4000000 in
set_option maxRecDepth 100000 in
/-- existingLog -/
theorem c_existingLog (g : Gx) (z : Nat) (sa : Nat → Nat) (l : Launch) (hlt : l.stackTraces = false) (d S B : Nat) (P : Nat → Nat) (V : Nat → LV) (bu : Nat → Int32) (tc dn wr : Int32) (H : Heap) (hSB : dkB S B) (hV : ∀ j, j < 5 → lgOk (V j)) (h : dkAt g d S B P V bu tc dn wr H) (i : Int32) : HX g z sa l yX1_existingLog cX1_existingLog 3 (some (.object "LogDisk$Log")) 6 90 1 6 [.ref d, .int i] H (fun v H1 => (∃ j : Nat, j < 4 ∧ i = nI j ∧ v = some (.ref (P j))) ∧ H1 = H) (fun E H1 => E = nIA ∧ ¬ dkIs i ∧ Gr H H1) (f0) := by
  refine HX.ofW (by decide) (Nat.le_of_ble_eq_true rfl) (by simp [Value.category]) ?_
  intro p e s m args below meth c ls G hr hml hlocks htb hH hXs hl
  have hl : lh ls 3 [some (.ref d), some (.int i), none] := hl
  have hL : ∀ q ∈ ([] : List Loc), (f0) q.base := fun q h => by cases h
  refine hb_iload_n G dX1_existingLog_0 hl rfl ?_
  refine lv_if_lt (tgt := 22) G.1 G.2.1 dX1_existingLog_1 (by decide) (fun c_1 => ?_) (fun c_1 => ?_)
  · refine lv_null G.1 G.2.1 dX1_existingLog_22 ?_
    refine hb_astore_nN G dX1_existingLog_23 hl (by decide) (fun ls hl => ?_)
    have hl : lh ls 3 [some (.ref d), some (.int i), some (.null)] := hl
    refine hb_aload_nN G dX1_existingLog_24 hl rfl ?_
    refine lv_ifnonnullN G.1 G.2.1 dX1_existingLog_25 ?_
    exact hx_IA G hXs hH hml hl.size hlt hXs.1 htb hlocks dX1_existingLog_28 dX1_existingLog_31 dX1_existingLog_32 dX1_existingLog_34 dX1_existingLog_37 (Nat.le_of_ble_eq_true rfl) (Nat.le_of_ble_eq_true rfl) (Nat.le_of_ble_eq_true rfl) (Nat.le_of_ble_eq_true rfl) (fun H1 h1 h2 => ⟨rfl, fun q => i32_nlt.mpr q.1 c_1, h1, h2⟩) (Nat.le_of_ble_eq_true rfl) (Nat.le_of_ble_eq_true rfl)
  · refine hb_iload_n G dX1_existingLog_4 hl rfl ?_
    refine hb_aload_n G dX1_existingLog_5 hl rfl ?_
    refine hb_get G h.1 rfl inX1 1 (by decide) kf_X1_11 rfl rfl dX1_existingLog_6 ?_
    refine hb_alen_q G h.2.1 dX1_existingLog_9 ?_
    refine lv_icmp_ge (tgt := 22) G.1 G.2.1 dX1_existingLog_10 (by decide) (fun c_2 => ?_) (fun c_2 => ?_)
    · refine lv_null G.1 G.2.1 dX1_existingLog_22 ?_
      refine hb_astore_nN G dX1_existingLog_23 hl (by decide) (fun ls hl => ?_)
      have hl : lh ls 3 [some (.ref d), some (.int i), some (.null)] := hl
      refine hb_aload_nN G dX1_existingLog_24 hl rfl ?_
      refine lv_ifnonnullN G.1 G.2.1 dX1_existingLog_25 ?_
      exact hx_IA G hXs hH hml hl.size hlt hXs.1 htb hlocks dX1_existingLog_28 dX1_existingLog_31 dX1_existingLog_32 dX1_existingLog_34 dX1_existingLog_37 (Nat.le_of_ble_eq_true rfl) (Nat.le_of_ble_eq_true rfl) (Nat.le_of_ble_eq_true rfl) (Nat.le_of_ble_eq_true rfl) (fun H1 h1 h2 => ⟨rfl, fun q => i32_nlt.mpr c_2 q.2, h1, h2⟩) (Nat.le_of_ble_eq_true rfl) (Nat.le_of_ble_eq_true rfl)
    · obtain ⟨j, hj, rfl⟩ := dkIs_of ⟨i32_nlt.mp c_1, i32_nle.mp c_2⟩
      refine hb_aload_n G dX1_existingLog_13 hl rfl ?_
      refine hb_get G h.1 rfl inX1 1 (by decide) kf_X1_11 rfl rfl dX1_existingLog_14 ?_
      refine hb_iload_n G dX1_existingLog_17 hl rfl ?_
      refine hb_qaldR (x := P j) G h.2.1 (vp_in_nI hj (by decide)) (by rw [nI_clamp (by omega)]) dX1_existingLog_18 ?_
      refine lv_goto (tgt := 23) G.1 G.2.1 dX1_existingLog_19 (by decide) ?_
      refine hb_astore_n G dX1_existingLog_23 hl (by decide) (fun ls hl => ?_)
      have hl : lh ls 3 [some (.ref d), some (.int (nI j)), some (.ref (P j))] := hl
      refine hb_aload_n G dX1_existingLog_24 hl rfl ?_
      refine lv_ifnonnull (tgt := 38) G.1 G.2.1 dX1_existingLog_25 (by decide) ?_
      refine hb_aload_n G dX1_existingLog_38 hl rfl ?_
      exact hx_aret G hr (Or.inl ⟨_, rfl⟩) hlocks ⟨⟨j, hj, rfl, rfl⟩, rfl⟩ hL (Nat.le_of_ble_eq_true rfl) (Nat.le_of_ble_eq_true rfl) dX1_existingLog_39

set_option maxHeartbeats 4000000 in
set_option maxRecDepth 100000 in
/-- isDown -/
theorem c_isDown (g : Gx) (l : Launch) (d S p4 : Nat) (tc dn wr : Int32) (H : Heap) (hd : ob g d 1 (dkFs d S p4 tc dn wr) H) (hn : dn = 0 ∨ dn = 1) : HM g l yX1_isDown cX1_isDown 1 (some .boolean) 0 0 0 0 [.ref d] H (fun r H1 => r = some (.int dn) ∧ H1 = H) (f0) := by
  refine HM.ofW (by decide) (Nat.le_of_ble_eq_true rfl) (by simp [Value.category]) ?_
  intro p e s m args below meth c ls G hr hml hlocks hnm hH hl
  have hl : lh ls 1 [some (.ref d)] := hl
  have hL : ∀ q ∈ ([] : List Loc), (f0) q.base := fun q h => by cases h
  refine hb_aload_n G dX1_isDown_0 hl rfl ?_
  refine hb_get G hd rfl inX1 5 (by decide) kf_X1_24 rfl rfl dX1_isDown_1 ?_
  exact hb_zret G hr hlocks hn ⟨rfl, rfl⟩ hL (Nat.le_refl _) (Nat.le_refl _) dX1_isDown_4
set_option maxHeartbeats 4000000 in
set_option maxRecDepth 100000 in
/-- writes -/
theorem c_writes (g : Gx) (l : Launch) (d S p4 : Nat) (tc dn wr : Int32) (H : Heap) (hd : ob g d 1 (dkFs d S p4 tc dn wr) H) : HM g l yX1_writes cX1_writes 1 (some .int) 0 0 0 0 [.ref d] H (fun r H1 => r = some (.int wr) ∧ H1 = H) (f0) := by
  refine HM.ofW (by decide) (Nat.le_of_ble_eq_true rfl) (by simp [Value.category]) ?_
  intro p e s m args below meth c ls G hr hml hlocks hnm hH hl
  have hl : lh ls 1 [some (.ref d)] := hl
  have hL : ∀ q ∈ ([] : List Loc), (f0) q.base := fun q h => by cases h
  refine hb_aload_n G dX1_writes_0 hl rfl ?_
  refine hb_get G hd rfl inX1 6 (by decide) kf_X1_28 rfl rfl dX1_writes_1 ?_
  exact hb_iret G hr hlocks ⟨rfl, rfl⟩ hL (Nat.le_refl _) (Nat.le_refl _) dX1_writes_4
set_option maxHeartbeats 4000000 in
set_option maxRecDepth 100000 in
/-- crash -/
theorem c_crash (g : Gx) (z : Nat) (sa : Nat → Nat) (l : Launch) (hlt : l.stackTraces = false) (d S B : Nat) (P : Nat → Nat) (V : Nat → LV) (bu : Nat → Int32) (tc dn wr : Int32) (H : Heap) (hSB : dkB S B) (hV : ∀ j, j < 5 → lgOk (V j)) (h : dkAt g d S B P V bu tc dn wr H) (n : Int32) : HX g z sa l yX1_crash cX1_crash 2 none 7 112 2 12 [.ref d, .int n] H (fun v H1 => v = none ∧ (-1 ≤ n ∧ n ≤ 1000) ∧ dn = 0 ∧ dkAt g d S B P V bu n (if n = 0 then 1 else 0) wr H1 ∧ Fo d H H1) (thX (-1 ≤ n ∧ n ≤ 1000) dn H) (f1 d) := by
  refine HX.ofW (by decide) (Nat.le_of_ble_eq_true rfl) (by simp [Value.category]) ?_
  intro p e s m args below meth c ls G hr hml hlocks htb hH hXs hl
  have hl : lh ls 2 [some (.ref d), some (.int n)] := hl
  have hL : ∀ q ∈ ([] : List Loc), (f1 d) q.base := fun q h => by cases h
  refine hb_iload_n G dX1_crash_0 hl rfl ?_
  refine lv_iconst (v := (-1)) G.1 G.2.1 dX1_crash_1 (by decide) ?_
  refine lv_sipush (v := 1000) G.1 G.2.1 dX1_crash_2 (by decide) ?_
  refine hx_callS (As := [.int n, .int (-1), .int 1000]) (rest := []) G hXs hml (c_requireWithin g z sa l hlt n (-1) 1000 _) km_X1_51 kt_X1_requireWithin kn_X1 ko_X1_requireWithin hd_X1_requireWithin ⟨Nat.le_of_ble_eq_true rfl, Nat.le_of_ble_eq_true rfl⟩ hl.size rfl (Nat.le_of_ble_eq_true rfl) dX1_crash_5 ⟨Nat.le_of_ble_eq_true rfl, Nat.le_of_ble_eq_true rfl⟩ hL (f0_in) (fun E ce q9 K9 locs9 hp hL hc1 hc2 hc3 => hx_out htb hlocks (⟨hp.2.2, Or.inl ⟨hp.1, hp.2.1⟩⟩) hL hc1 hc2 hc3 (Nat.le_of_ble_eq_true rfl) (Nat.le_of_ble_eq_true rfl)) (fun v1 H locs1 hp hL => ?_)
  obtain ⟨rfl, hw, rfl⟩ := hp
  refine hb_aload_n G dX1_crash_8 hl rfl ?_
  refine hx_callV (As := []) (rest := []) G hXs hml (c_requirePower g z sa l hlt d S (P 4) tc dn wr _ h.1) (h.1) rfl km_X1_55 ki_X1_requirePower ks_X1_requirePower kn_X1 ko_X1_requirePower hd_X1_requirePower ⟨Nat.le_of_ble_eq_true rfl, Nat.le_of_ble_eq_true rfl⟩ hl.size rfl (Nat.le_of_ble_eq_true rfl) dX1_crash_9 ⟨Nat.le_of_ble_eq_true rfl, Nat.le_of_ble_eq_true rfl⟩ hL (f0_in) (fun E ce q9 K9 locs9 hp hL hc1 hc2 hc3 => hx_out htb hlocks (⟨hp.2.2, Or.inr ⟨hp.1, hw, hp.2.1⟩⟩) hL hc1 hc2 hc3 (Nat.le_of_ble_eq_true rfl) (Nat.le_of_ble_eq_true rfl)) (fun v1 H locs1 hp hL => ?_)
  obtain ⟨rfl, hdn, rfl⟩ := hp
  refine hb_aload_n G dX1_crash_12 hl rfl ?_
  refine hb_iload_n G dX1_crash_13 hl rfl ?_
  refine hb_put G h.1 rfl inX1 tyX1 tyX1_ok nmX1 4 (by decide) kf_X1_20 rfl rfl rfl rfl (Nat.le_of_ble_eq_true rfl) hL (rfl) dX1_crash_14 (fun K1 locs2 hf1 hz1 ho1 hL => ?_)
  have hf1 : ob g d 1 (dkFs d S (P 4) n dn wr) K1 := hf1
  refine hb_aload_n G dX1_crash_17 hl rfl ?_
  refine hb_iload_n G dX1_crash_18 hl rfl ?_
  refine lv_if_ne (tgt := 26) G.1 G.2.1 dX1_crash_19 (by decide) (fun c_1 => ?_) (fun c_1 => ?_)
  · refine lv_iconst (v := 0) G.1 G.2.1 dX1_crash_26 (by decide) ?_
    refine hb_put G hf1 rfl inX1 tyX1 tyX1_ok nmX1 5 (by decide) kf_X1_24 rfl rfl rfl rfl (Nat.le_of_ble_eq_true rfl) hL (rfl) dX1_crash_27 (fun K2 locs3 hf2 hz2 ho2 hL => ?_)
    have hF : Fo d _ K2 := Fo.tr ⟨hz1, ho1⟩ ⟨hz2, ho2⟩
    exact hx_vret G hr hlocks ⟨rfl, hw, hdn, by rw [if_neg c_1]; exact h.ob hf2 hF, hF⟩ hL (Nat.le_of_ble_eq_true rfl) (Nat.le_of_ble_eq_true rfl) dX1_crash_30
  · refine lv_iconst (v := 1) G.1 G.2.1 dX1_crash_22 (by decide) ?_
    refine lv_goto (tgt := 27) G.1 G.2.1 dX1_crash_23 (by decide) ?_
    refine hb_put G hf1 rfl inX1 tyX1 tyX1_ok nmX1 5 (by decide) kf_X1_24 rfl rfl rfl rfl (Nat.le_of_ble_eq_true rfl) hL (rfl) dX1_crash_27 (fun K2 locs3 hf2 hz2 ho2 hL => ?_)
    have hF : Fo d _ K2 := Fo.tr ⟨hz1, ho1⟩ ⟨hz2, ho2⟩
    exact hx_vret G hr hlocks ⟨rfl, hw, hdn, by rw [if_pos c_1]; exact h.ob hf2 hF, hF⟩ hL (Nat.le_of_ble_eq_true rfl) (Nat.le_of_ble_eq_true rfl) dX1_crash_30
def sumE (V : Nat → LV) : Nat → Nat
  | 0 => 0
  | i + 1 => sumE V i + (V i).2.2.1
theorem sumE_le {V : Nat → LV} (h : ∀ j, j < 5 → lgOk (V j)) : ∀ i, i ≤ 4 → sumE V i ≤ 512 * i
  | 0, _ => Nat.le_refl 0
  | i + 1, hi => by
    have := sumE_le h i (by omega)
    have h2 := (h i (by omega)).2
    simp only [sumE]; omega
set_option maxHeartbeats 4000000 in
set_option maxRecDepth 100000 in
/-- recover -/
theorem c_recover (g : Gx) (l : Launch) (d S B : Nat) (P : Nat → Nat) (V : Nat → LV) (bu : Nat → Int32) (tc dn wr : Int32) (H : Heap) (hSB : dkB S B) (hV : ∀ j, j < 5 → lgOk (V j)) (h : dkAt g d S B P V bu tc dn wr H) : HM g l yX1_recover cX1_recover 6 (some .int) 0 0 0 0 [.ref d] H (fun r H1 => r = some (.int (nI (sumE V 4))) ∧ dkAt g d S B P V bu (-1) 0 wr H1 ∧ Fo d H H1) (f1 d) := by
  refine HM.ofW (by decide) (Nat.le_of_ble_eq_true rfl) (by simp [Value.category]) ?_
  intro p e s m args below meth c ls G hr hml hlocks hnm hH hl
  have hl : lh ls 6 [some (.ref d), none, none, none, none, none] := hl
  have hL : ∀ q ∈ ([] : List Loc), (f1 d) q.base := fun q h => by cases h
  have lp : ∀ (k j : Nat) (a b : Int32) (K : Heap) (locs : List Loc) (ls : Array Slot), (4 + 1 ≤ j + k) → (j ≤ 4) → (a = nI (sumE V j)) → (b = nI j) → (dkAt g d S B P V bu (-1) 0 wr K) → (Fo d H K) → (∀ q ∈ locs, (f1 d) q.base) → lh ls 6 [some (.ref d), some (.int a), some (.ref (d + 1)), some (.int (nI 4)), some (.int b), none] → W p l e ({ frames := 0, cells := 0, slots := 0, locals := 0 } : Room) s m args below meth c K locs 0 0 (hQ below args s (fun r H1 => r = some (.int (nI (sumE V 4))) ∧ dkAt g d S B P V bu (-1) 0 wr H1 ∧ Fo d H H1) 0 0 (f1 d)) (F0 m 23 ls []) := by
    intro k
    induction k with
    | zero =>
      intro j a b K locs ls hd9 hj ea eb hk hF hL hl
      exfalso; omega
    | succ k ih =>
      intro j a b K locs ls hd9 hj ea eb hk hF hL hl
      refine hb_iload G dX1_recover_23 hl rfl ?_
      refine hb_iload_n G dX1_recover_25 hl rfl ?_
      refine lv_icmp_ge (tgt := 54) G.1 G.2.1 dX1_recover_26 (by decide) (fun c_1 => ?_) (fun c_1 => ?_)
      · have hj2 : j = 4 := by have := (ic_le rfl eb (by omega) (by omega)).mp c_1; omega
        subst hj2
        refine hb_iload_n G dX1_recover_54 hl rfl ?_
        exact hb_iret G hr hlocks ⟨by rw [ea], hk, hF⟩ hL (Nat.le_refl _) (Nat.le_refl _) dX1_recover_55
      · have hj2 : j < 4 := by have := mt (ic_le rfl eb (by omega) (by omega)).mpr c_1; omega
        refine hb_aload_n G dX1_recover_29 hl rfl ?_
        refine hb_iload G dX1_recover_30 hl rfl ?_
        refine hb_qaldR (x := P j) G hk.2.1 (by rw [eb]; exact vp_in_nI hj2 (by decide)) (by rw [eb, nI_clamp (by omega)]) dX1_recover_32 ?_
        refine hb_astore G dX1_recover_33 hl (by decide) (fun ls hl => ?_)
        have hl : lh ls 6 [some (.ref d), some (.int a), some (.ref (d + 1)), some (.int (nI 4)), some (.int b), some (.ref (P j))] := hl
        refine hb_aload G dX1_recover_35 hl rfl ?_
        refine lv_ifnull G.1 G.2.1 dX1_recover_37 ?_
        refine hb_iload_n G dX1_recover_40 hl rfl ?_
        refine hb_aload G dX1_recover_41 hl rfl ?_
        refine hb_get G (hk.2.2.2.1 j (by omega)).1 rfl inX0 7 (by decide) kf_X1_123 rfl rfl dX1_recover_43 ?_
        refine lv_iadd G.1 G.2.1 dX1_recover_46 ?_
        refine lv_topi (fun t_2 et_2 => ?_)
        refine hb_istore_n G dX1_recover_47 hl (by decide) (fun ls hl => ?_)
        have hl : lh ls 6 [some (.ref d), some (.int t_2), some (.ref (d + 1)), some (.int (nI 4)), some (.int b), some (.ref (P j))] := hl
        obtain ⟨t_3, et_3⟩ : ∃ z : Int32, z = b + 1 := ⟨_, rfl⟩
        refine hb_iinc (v := t_3) G dX1_recover_48 hl rfl (by rw [et_3]; rfl) (by decide) (fun ls hl => ?_)
        have hl : lh ls 6 [some (.ref d), some (.int t_2), some (.ref (d + 1)), some (.int (nI 4)), some (.int t_3), some (.ref (P j))] := hl
        refine lv_goto (tgt := 23) G.1 G.2.1 dX1_recover_51 (by decide) ?_
        exact ih (j + 1) t_2 t_3 K locs ls (by omega) (by omega) (by rw [et_2, ea]; exact nI_add _ _) (by rw [et_3, eb]; exact nI_1 j) hk hF hL (hl.drop 5)
  refine hb_aload_n G dX1_recover_0 hl rfl ?_
  refine lv_iconst (v := (-1)) G.1 G.2.1 dX1_recover_1 (by decide) ?_
  refine hb_put G h.1 rfl inX1 tyX1 tyX1_ok nmX1 4 (by decide) kf_X1_20 rfl rfl rfl rfl (Nat.le_of_ble_eq_true rfl) hL (rfl) dX1_recover_2 (fun K1 locs1 hf1 hz1 ho1 hL => ?_)
  have hf1 : ob g d 1 (dkFs d S (P 4) (-1) dn wr) K1 := hf1
  refine hb_aload_n G dX1_recover_5 hl rfl ?_
  refine lv_iconst (v := 0) G.1 G.2.1 dX1_recover_6 (by decide) ?_
  refine hb_put G hf1 rfl inX1 tyX1 tyX1_ok nmX1 5 (by decide) kf_X1_24 rfl rfl rfl rfl (Nat.le_of_ble_eq_true rfl) hL (rfl) dX1_recover_7 (fun K2 locs2 hf2 hz2 ho2 hL => ?_)
  have hF : Fo d H K2 := Fo.tr ⟨hz1, ho1⟩ ⟨hz2, ho2⟩
  have hk := h.ob hf2 hF
  refine lv_iconst (v := 0) G.1 G.2.1 dX1_recover_10 (by decide) ?_
  refine hb_istore_n G dX1_recover_11 hl (by decide) (fun ls hl => ?_)
  have hl : lh ls 6 [some (.ref d), some (.int 0), none, none, none, none] := hl
  refine hb_aload_n G dX1_recover_12 hl rfl ?_
  refine hb_get G hk.1 rfl inX1 1 (by decide) kf_X1_11 rfl rfl dX1_recover_13 ?_
  refine hb_astore_n G dX1_recover_16 hl (by decide) (fun ls hl => ?_)
  have hl : lh ls 6 [some (.ref d), some (.int 0), some (.ref (d + 1)), none, none, none] := hl
  refine hb_aload_n G dX1_recover_17 hl rfl ?_
  refine hb_alen_q G hk.2.1 dX1_recover_18 ?_
  refine hb_istore_n G dX1_recover_19 hl (by decide) (fun ls hl => ?_)
  have hl : lh ls 6 [some (.ref d), some (.int 0), some (.ref (d + 1)), some (.int (nI 4)), none, none] := hl
  refine lv_iconst (v := 0) G.1 G.2.1 dX1_recover_20 (by decide) ?_
  refine hb_istore G dX1_recover_21 hl (by decide) (fun ls hl => ?_)
  have hl : lh ls 6 [some (.ref d), some (.int 0), some (.ref (d + 1)), some (.int (nI 4)), some (.int 0), none] := hl
  exact lp 5 0 0 0 K2 locs2 ls (by omega) (by omega) rfl rfl hk hF hL hl
def cntF (bu : Nat → Int32) : Nat → Nat
  | 0 => 0
  | i + 1 => cntF bu i + (if bu i = 0 then 1 else 0)
theorem cntF_le (bu : Nat → Int32) : ∀ i, cntF bu i ≤ i
  | 0 => Nat.le_refl 0
  | i + 1 => by
    have := cntF_le bu i
    simp only [cntF]
    split <;> omega
set_option maxHeartbeats 4000000 in
set_option maxRecDepth 100000 in
/-- free -/
theorem c_free (g : Gx) (z : Nat) (sa : Nat → Nat) (l : Launch) (hlt : l.stackTraces = false) (d S B : Nat) (P : Nat → Nat) (V : Nat → LV) (bu : Nat → Int32) (tc dn wr : Int32) (H : Heap) (hSB : dkB S B) (hV : ∀ j, j < 5 → lgOk (V j)) (h : dkAt g d S B P V bu tc dn wr H) : HX g z sa l yX1_free cX1_free 6 (some .int) 7 110 1 6 [.ref d] H (fun r H1 => r = some (.int (nI (cntF (mkD B S V 4) B))) ∧ dn = 0 ∧ dkAt g d S B P V (mkD B S V 4) tc dn wr H1 ∧ Fo (d + 9) H H1) (thX True dn H) (f1 (d + 9)) := by
  refine HX.ofW (by decide) (Nat.le_of_ble_eq_true rfl) (by simp [Value.category]) ?_
  intro p e s m args below meth c ls G hr hml hlocks htb hH hXs hl
  have hl : lh ls 6 [some (.ref d), none, none, none, none, none] := hl
  have hL : ∀ q ∈ ([] : List Loc), (f1 (d + 9)) q.base := fun q h => by cases h
  obtain ⟨hS1, hS2, hB1, hB2⟩ := id hSB
  refine hb_aload_n G dX1_free_0 hl rfl ?_
  refine hx_callV (As := []) (rest := []) G hXs hml (c_requirePower g z sa l hlt d S (P 4) tc dn wr _ h.1) (h.1) rfl km_X1_55 ki_X1_requirePower ks_X1_requirePower kn_X1 ko_X1_requirePower hd_X1_requirePower ⟨Nat.le_of_ble_eq_true rfl, Nat.le_of_ble_eq_true rfl⟩ hl.size rfl (Nat.le_of_ble_eq_true rfl) dX1_free_1 ⟨Nat.le_of_ble_eq_true rfl, Nat.le_of_ble_eq_true rfl⟩ hL (f0_in) (fun E ce q9 K9 locs9 hp hL hc1 hc2 hc3 => hx_out htb hlocks (⟨hp.2.2, Or.inr ⟨hp.1, trivial, hp.2.1⟩⟩) hL hc1 hc2 hc3 (Nat.le_of_ble_eq_true rfl) (Nat.le_of_ble_eq_true rfl)) (fun v1 H locs1 hp hL => ?_)
  obtain ⟨rfl, hdn, rfl⟩ := hp
  refine hb_aload_n G dX1_free_4 hl rfl ?_
  refine hb_callV (As := []) (rest := []) G hml (c_markBlockUse g l d S B P V bu tc dn wr _ hSB hV h) (h.1) rfl km_X1_151 ki_X1_markBlockUse ks_X1_markBlockUse kn_X1 ko_X1_markBlockUse hd_X1_markBlockUse ⟨Nat.le_of_ble_eq_true rfl, Nat.le_of_ble_eq_true rfl⟩ hl.size rfl (Nat.le_of_ble_eq_true rfl) dX1_free_5 ⟨Nat.le_of_ble_eq_true rfl, Nat.le_of_ble_eq_true rfl⟩ hL (fun q h => h) (fun v1 K1 locs1 hp hL => ?_)
  obtain ⟨rfl, hK1, hF1⟩ := hp
  have hk := h.ub hK1 hF1
  have lp : ∀ (k j : Nat) (a b : Int32)  (locs : List Loc) (ls : Array Slot), (B + 1 ≤ j + k) → (j ≤ B) → (a = nI (cntF (mkD B S V 4) j)) → (b = nI j) → (∀ q ∈ locs, (f1 (d + 9)) q.base) → lh ls 6 [some (.ref d), some (.int a), some (.ref (d + 9)), some (.int (nI B)), some (.int b), none] → W p l e ({ frames := 7, cells := 1, slots := 6, locals := 110 } : Room) s m args below meth c K1 locs (0 + 1 + 0) (0 + 6 + 0) (hX below args s (fun r H1 => r = some (.int (nI (cntF (mkD B S V 4) B))) ∧ dn = 0 ∧ dkAt g d S B P V (mkD B S V 4) tc dn wr H1 ∧ Fo (d + 9) H H1) (thX True dn H) 1 6 (f1 (d + 9))) (F0 m 21 ls []) := by
    intro k
    induction k with
    | zero =>
      intro j a b  locs ls hd9 hj ea eb hL hl
      exfalso; omega
    | succ k ih =>
      intro j a b  locs ls hd9 hj ea eb hL hl
      refine hb_iload G dX1_free_21 hl rfl ?_
      refine hb_iload_n G dX1_free_23 hl rfl ?_
      refine lv_icmp_ge (tgt := 47) G.1 G.2.1 dX1_free_24 (by decide) (fun c_1 => ?_) (fun c_1 => ?_)
      · have hj2 : j = B := by have := (ic_le rfl eb (by omega) (by omega)).mp c_1; omega
        subst hj2
        refine hb_iload_n G dX1_free_47 hl rfl ?_
        exact hx_iret G hr hlocks ⟨by rw [ea], hdn, hk, hF1⟩ hL (Nat.le_of_ble_eq_true rfl) (Nat.le_of_ble_eq_true rfl) dX1_free_48
      · have hj2 : j < B := by have := mt (ic_le rfl eb (by omega) (by omega)).mpr c_1; omega
        refine hb_aload_n G dX1_free_27 hl rfl ?_
        refine hb_iload G dX1_free_28 hl rfl ?_
        refine hb_iald G hK1 (by rw [eb]; exact vp_in_nI hj2 (by omega)) dX1_free_30 ?_
        refine lv_topi (fun r_2 er_2 => ?_)
        have er_2 : r_2 = mkD B S V 4 j := by rw [er_2, show b.toNatClampNeg = j by rw [eb]; exact nI_clamp (by omega)]
        refine hb_istore G dX1_free_31 hl (by decide) (fun ls hl => ?_)
        have hl : lh ls 6 [some (.ref d), some (.int a), some (.ref (d + 9)), some (.int (nI B)), some (.int b), some (.int r_2)] := hl
        refine hb_iload G dX1_free_33 hl rfl ?_
        refine lv_if_ne (tgt := 41) G.1 G.2.1 dX1_free_35 (by decide) (fun c_3 => ?_) (fun c_3 => ?_)
        · obtain ⟨t_4, et_4⟩ : ∃ z : Int32, z = b + 1 := ⟨_, rfl⟩
          refine hb_iinc (v := t_4) G dX1_free_41 hl rfl (by rw [et_4]; rfl) (by decide) (fun ls hl => ?_)
          have hl : lh ls 6 [some (.ref d), some (.int a), some (.ref (d + 9)), some (.int (nI B)), some (.int t_4), some (.int r_2)] := hl
          refine lv_goto (tgt := 21) G.1 G.2.1 dX1_free_44 (by decide) ?_
          exact ih (j + 1) a t_4 locs ls (by omega) (by omega) (by simp only [cntF]; rw [if_neg (by rw [← er_2]; exact c_3)]; exact ea) (by rw [et_4, eb]; exact nI_1 j) hL (hl.drop 5)
        · obtain ⟨t_5, et_5⟩ : ∃ z : Int32, z = a + 1 := ⟨_, rfl⟩
          refine hb_iinc (v := t_5) G dX1_free_38 hl rfl (by rw [et_5]; rfl) (by decide) (fun ls hl => ?_)
          have hl : lh ls 6 [some (.ref d), some (.int t_5), some (.ref (d + 9)), some (.int (nI B)), some (.int b), some (.int r_2)] := hl
          obtain ⟨t_6, et_6⟩ : ∃ z : Int32, z = b + 1 := ⟨_, rfl⟩
          refine hb_iinc (v := t_6) G dX1_free_41 hl rfl (by rw [et_6]; rfl) (by decide) (fun ls hl => ?_)
          have hl : lh ls 6 [some (.ref d), some (.int t_5), some (.ref (d + 9)), some (.int (nI B)), some (.int t_6), some (.int r_2)] := hl
          refine lv_goto (tgt := 21) G.1 G.2.1 dX1_free_44 (by decide) ?_
          exact ih (j + 1) t_5 t_6 locs ls (by omega) (by omega) (by simp only [cntF]; rw [if_pos (by rw [← er_2]; exact c_3), et_5, ea]; exact nI_1 _) (by rw [et_6, eb]; exact nI_1 j) hL (hl.drop 5)
  refine lv_iconst (v := 0) G.1 G.2.1 dX1_free_8 (by decide) ?_
  refine hb_istore_n G dX1_free_9 hl (by decide) (fun ls hl => ?_)
  have hl : lh ls 6 [some (.ref d), some (.int 0), none, none, none, none] := hl
  refine hb_aload_n G dX1_free_10 hl rfl ?_
  refine hb_get G hk.1 rfl inX1 2 (by decide) kf_X1_43 rfl rfl dX1_free_11 ?_
  refine hb_astore_n G dX1_free_14 hl (by decide) (fun ls hl => ?_)
  have hl : lh ls 6 [some (.ref d), some (.int 0), some (.ref (d + 9)), none, none, none] := hl
  refine hb_aload_n G dX1_free_15 hl rfl ?_
  refine hb_alen_i G hK1 dX1_free_16 ?_
  refine hb_istore_n G dX1_free_17 hl (by decide) (fun ls hl => ?_)
  have hl : lh ls 6 [some (.ref d), some (.int 0), some (.ref (d + 9)), some (.int (nI B)), none, none] := hl
  refine lv_iconst (v := 0) G.1 G.2.1 dX1_free_18 (by decide) ?_
  refine hb_istore G dX1_free_19 hl (by decide) (fun ls hl => ?_)
  have hl : lh ls 6 [some (.ref d), some (.int 0), some (.ref (d + 9)), some (.int (nI B)), some (.int 0), none] := hl
  exact lp (B + 1) 0 0 0 locs1 ls (by omega) (by omega) rfl rfl hL hl
def logV (v : LV) (w : Int32) : Int32 := if w = 0 then nI v.2.2.1 else if w = 1 then nI v.2.1 else if w = 2 then lgSm (v.1 1) 0 v.2.1 else v.2.2.2
set_option maxHeartbeats 4000000 in
set_option maxRecDepth 100000 in
/-- log -/
theorem c_log (g : Gx) (z : Nat) (sa : Nat → Nat) (l : Launch) (hlt : l.stackTraces = false) (d S B : Nat) (P : Nat → Nat) (V : Nat → LV) (bu : Nat → Int32) (tc dn wr : Int32) (H : Heap) (hSB : dkB S B) (hV : ∀ j, j < 5 → lgOk (V j)) (h : dkAt g d S B P V bu tc dn wr H) (i w : Int32) : HX g z sa l yX1_log cX1_log 4 (some .int) 7 112 3 18 [.ref d, .int i, .int w] H (fun r H1 => (∃ j, j < 4 ∧ i = nI j ∧ r = some (.int (logV (V j) w))) ∧ (0 ≤ w ∧ w ≤ 3) ∧ dn = 0 ∧ H1 = H) (thX (dkIs i ∧ 0 ≤ w ∧ w ≤ 3) dn H) (f0) := by
  refine HX.ofW (by decide) (Nat.le_of_ble_eq_true rfl) (by simp [Value.category]) ?_
  intro p e s m args below meth c ls G hr hml hlocks htb hH hXs hl
  have hl : lh ls 4 [some (.ref d), some (.int i), some (.int w), none] := hl
  have hL : ∀ q ∈ ([] : List Loc), (f0) q.base := fun q h => by cases h
  refine hb_aload_n G dX1_log_0 hl rfl ?_
  refine hb_iload_n G dX1_log_1 hl rfl ?_
  refine hx_callV (As := [.int i]) (rest := []) G hXs hml (c_existingLog g z sa l hlt d S B P V bu tc dn wr _ hSB hV h i) (h.1) rfl km_X1_47 ki_X1_existingLog ks_X1_existingLog kn_X1 ko_X1_existingLog hd_X1_existingLog ⟨Nat.le_of_ble_eq_true rfl, Nat.le_of_ble_eq_true rfl⟩ hl.size rfl (Nat.le_of_ble_eq_true rfl) dX1_log_2 ⟨Nat.le_of_ble_eq_true rfl, Nat.le_of_ble_eq_true rfl⟩ hL (f0_in) (fun E ce q9 K9 locs9 hp hL hc1 hc2 hc3 => hx_out htb hlocks (⟨hp.2.2, Or.inl ⟨hp.1, fun q => hp.2.1 q.1⟩⟩) hL hc1 hc2 hc3 (Nat.le_of_ble_eq_true rfl) (Nat.le_of_ble_eq_true rfl)) (fun v1 H locs1 hp hL => ?_)
  obtain ⟨⟨j, hj, rfl, rfl⟩, rfl⟩ := hp
  refine hb_astore_n G dX1_log_5 hl (by decide) (fun ls hl => ?_)
  have hl : lh ls 4 [some (.ref d), some (.int (nI j)), some (.int w), some (.ref (P j))] := hl
  refine hb_iload_n G dX1_log_6 hl rfl ?_
  refine lv_iconst (v := 0) G.1 G.2.1 dX1_log_7 (by decide) ?_
  refine lv_iconst (v := 3) G.1 G.2.1 dX1_log_8 (by decide) ?_
  refine hx_callS (As := [.int w, .int 0, .int 3]) (rest := []) G hXs hml (c_requireWithin g z sa l hlt w 0 3 _) km_X1_51 kt_X1_requireWithin kn_X1 ko_X1_requireWithin hd_X1_requireWithin ⟨Nat.le_of_ble_eq_true rfl, Nat.le_of_ble_eq_true rfl⟩ hl.size rfl (Nat.le_of_ble_eq_true rfl) dX1_log_9 ⟨Nat.le_of_ble_eq_true rfl, Nat.le_of_ble_eq_true rfl⟩ hL (f0_in) (fun E ce q9 K9 locs9 hp hL hc1 hc2 hc3 => hx_out htb hlocks (⟨hp.2.2, Or.inl ⟨hp.1, fun q => hp.2.1 q.2⟩⟩) hL hc1 hc2 hc3 (Nat.le_of_ble_eq_true rfl) (Nat.le_of_ble_eq_true rfl)) (fun v1 H locs1 hp hL => ?_)
  obtain ⟨rfl, hw, rfl⟩ := hp
  refine hb_aload_n G dX1_log_12 hl rfl ?_
  refine hx_callV (As := []) (rest := []) G hXs hml (c_requirePower g z sa l hlt d S (P 4) tc dn wr _ h.1) (h.1) rfl km_X1_55 ki_X1_requirePower ks_X1_requirePower kn_X1 ko_X1_requirePower hd_X1_requirePower ⟨Nat.le_of_ble_eq_true rfl, Nat.le_of_ble_eq_true rfl⟩ hl.size rfl (Nat.le_of_ble_eq_true rfl) dX1_log_13 ⟨Nat.le_of_ble_eq_true rfl, Nat.le_of_ble_eq_true rfl⟩ hL (f0_in) (fun E ce q9 K9 locs9 hp hL hc1 hc2 hc3 => hx_out htb hlocks (⟨hp.2.2, Or.inr ⟨hp.1, ⟨dkIs_nI hj, hw⟩, hp.2.1⟩⟩) hL hc1 hc2 hc3 (Nat.le_of_ble_eq_true rfl) (Nat.le_of_ble_eq_true rfl)) (fun v1 H locs1 hp hL => ?_)
  obtain ⟨rfl, hdn, rfl⟩ := hp
  refine hb_iload_n G dX1_log_16 hl rfl ?_
  obtain ⟨k, hk3, rfl⟩ := nI_of2 (x := w) (M := 3) (n := 3) rfl (i32_nlt.mpr hw.1) hw.2
  have hkt : (nI k).toInt = (k : Int) := nI_toInt (by omega)
  rcases (show k = 0 ∨ k = 1 ∨ k = 2 ∨ k = 3 by omega) with rfl | rfl | rfl | rfl
  · refine lv_tableIn (off := 27) (tgt := 44) G.1 G.2.1 dX1_log_17 (by rw [hkt]; decide) (by rw [hkt]; decide) (by rw [hkt]; rfl) (by decide) ?_
    refine hb_aload_n G dX1_log_44 hl rfl ?_
    refine hb_get G (h.2.2.2.1 j (by omega)).1 rfl inX0 7 (by decide) kf_X1_123 rfl rfl dX1_log_45 ?_
    exact hx_iret G hr hlocks ⟨⟨j, hj, rfl, rfl⟩, hw, hdn, rfl⟩ hL (Nat.le_of_ble_eq_true rfl) (Nat.le_of_ble_eq_true rfl) dX1_log_48
  · refine lv_tableIn (off := 32) (tgt := 49) G.1 G.2.1 dX1_log_17 (by rw [hkt]; decide) (by rw [hkt]; decide) (by rw [hkt]; rfl) (by decide) ?_
    refine hb_aload_n G dX1_log_49 hl rfl ?_
    refine hb_get G (h.2.2.2.1 j (by omega)).1 rfl inX0 2 (by decide) kf_X1_129 rfl rfl dX1_log_50 ?_
    exact hx_iret G hr hlocks ⟨⟨j, hj, rfl, rfl⟩, hw, hdn, rfl⟩ hL (Nat.le_of_ble_eq_true rfl) (Nat.le_of_ble_eq_true rfl) dX1_log_53
  · refine lv_tableIn (off := 37) (tgt := 54) G.1 G.2.1 dX1_log_17 (by rw [hkt]; decide) (by rw [hkt]; decide) (by rw [hkt]; rfl) (by decide) ?_
    refine hb_aload_n G dX1_log_54 hl rfl ?_
    refine lv_iconst (v := 0) G.1 G.2.1 dX1_log_55 (by decide) ?_
    refine hb_callV (As := [.int 0]) (rest := []) G hml (c_bytesFrom g l (P j) (V j) _ (hV j (by omega)) (h.2.2.2.1 j (by omega)) 0 (by omega)) ((h.2.2.2.1 j (by omega)).1) rfl km_X1_132 ki_X0_bytesFrom ks_X0_bytesFrom kn_X0 ko_X0_bytesFrom hd_X0_bytesFrom ⟨Nat.le_of_ble_eq_true rfl, Nat.le_of_ble_eq_true rfl⟩ hl.size rfl (Nat.le_of_ble_eq_true rfl) dX1_log_56 ⟨Nat.le_of_ble_eq_true rfl, Nat.le_of_ble_eq_true rfl⟩ hL (f0_in) (fun v1 H locs1 hp hL => ?_)
    obtain ⟨rfl, rfl⟩ := hp
    exact hx_iret G hr hlocks ⟨⟨j, hj, rfl, rfl⟩, hw, hdn, rfl⟩ hL (Nat.le_of_ble_eq_true rfl) (Nat.le_of_ble_eq_true rfl) dX1_log_59
  · refine lv_tableOut (tgt := 60) G.1 G.2.1 dX1_log_17 (Or.inr (by rw [hkt]; decide)) (by decide) ?_
    refine hb_aload_n G dX1_log_60 hl rfl ?_
    refine hb_get G (h.2.2.2.1 j (by omega)).1 rfl inX0 8 (by decide) kf_X1_95 rfl rfl dX1_log_61 ?_
    exact hx_iret G hr hlocks ⟨⟨j, hj, rfl, rfl⟩, hw, hdn, rfl⟩ hL (Nat.le_of_ble_eq_true rfl) (Nat.le_of_ble_eq_true rfl) dX1_log_64
def entV (v : LV) (i w : Int32) : Int32 := if w = 0 then atV (v.1 2) 512 i else if w = 1 then atV (v.1 0) 60 (atV (v.1 4) 512 i) + atV (v.1 5) 512 i / 1024 else atV (v.1 4) 512 i
set_option maxHeartbeats 4000000 in
set_option maxRecDepth 100000 in
/-- entry -/
theorem c_entry (g : Gx) (z : Nat) (sa : Nat → Nat) (l : Launch) (hlt : l.stackTraces = false) (d S B : Nat) (P : Nat → Nat) (V : Nat → LV) (bu : Nat → Int32) (tc dn wr : Int32) (H : Heap) (hSB : dkB S B) (hV : ∀ j, j < 5 → lgOk (V j)) (h : dkAt g d S B P V bu tc dn wr H) (i n w : Int32) : HX g z sa l yX1_entry cX1_entry 5 (some .int) 7 112 4 24 [.ref d, .int i, .int n, .int w] H (fun r H1 => (∃ j, j < 4 ∧ i = nI j ∧ (0 ≤ n ∧ n ≤ nI (V j).2.2.1 - 1) ∧ r = some (.int (entV (V j) n w))) ∧ (0 ≤ w ∧ w ≤ 2) ∧ dn = 0 ∧ H1 = H) (thX (dkIs i ∧ (0 ≤ w ∧ w ≤ 2) ∧ (¬ dn = 0 ∨ ∀ j : Nat, j < 4 → i = nI j → 0 ≤ n ∧ n ≤ nI (V j).2.2.1 - 1)) dn H) (f0) := by
  refine HX.ofW (by decide) (Nat.le_of_ble_eq_true rfl) (by simp [Value.category]) ?_
  intro p e s m args below meth c ls G hr hml hlocks htb hH hXs hl
  have hl : lh ls 5 [some (.ref d), some (.int i), some (.int n), some (.int w), none] := hl
  have hL : ∀ q ∈ ([] : List Loc), (f0) q.base := fun q h => by cases h
  refine hb_aload_n G dX1_entry_0 hl rfl ?_
  refine hb_iload_n G dX1_entry_1 hl rfl ?_
  refine hx_callV (As := [.int i]) (rest := []) G hXs hml (c_existingLog g z sa l hlt d S B P V bu tc dn wr _ hSB hV h i) (h.1) rfl km_X1_47 ki_X1_existingLog ks_X1_existingLog kn_X1 ko_X1_existingLog hd_X1_existingLog ⟨Nat.le_of_ble_eq_true rfl, Nat.le_of_ble_eq_true rfl⟩ hl.size rfl (Nat.le_of_ble_eq_true rfl) dX1_entry_2 ⟨Nat.le_of_ble_eq_true rfl, Nat.le_of_ble_eq_true rfl⟩ hL (f0_in) (fun E ce q9 K9 locs9 hp hL hc1 hc2 hc3 => hx_out htb hlocks (⟨hp.2.2, Or.inl ⟨hp.1, fun q => hp.2.1 q.1⟩⟩) hL hc1 hc2 hc3 (Nat.le_of_ble_eq_true rfl) (Nat.le_of_ble_eq_true rfl)) (fun v1 H locs1 hp hL => ?_)
  obtain ⟨⟨j, hj, rfl, rfl⟩, rfl⟩ := hp
  refine hb_astore G dX1_entry_5 hl (by decide) (fun ls hl => ?_)
  have hl : lh ls 5 [some (.ref d), some (.int (nI j)), some (.int n), some (.int w), some (.ref (P j))] := hl
  refine hb_iload_n G dX1_entry_7 hl rfl ?_
  refine lv_iconst (v := 0) G.1 G.2.1 dX1_entry_8 (by decide) ?_
  refine lv_iconst (v := 2) G.1 G.2.1 dX1_entry_9 (by decide) ?_
  refine hx_callS (As := [.int w, .int 0, .int 2]) (rest := []) G hXs hml (c_requireWithin g z sa l hlt w 0 2 _) km_X1_51 kt_X1_requireWithin kn_X1 ko_X1_requireWithin hd_X1_requireWithin ⟨Nat.le_of_ble_eq_true rfl, Nat.le_of_ble_eq_true rfl⟩ hl.size rfl (Nat.le_of_ble_eq_true rfl) dX1_entry_10 ⟨Nat.le_of_ble_eq_true rfl, Nat.le_of_ble_eq_true rfl⟩ hL (f0_in) (fun E ce q9 K9 locs9 hp hL hc1 hc2 hc3 => hx_out htb hlocks (⟨hp.2.2, Or.inl ⟨hp.1, fun q => hp.2.1 q.2.1⟩⟩) hL hc1 hc2 hc3 (Nat.le_of_ble_eq_true rfl) (Nat.le_of_ble_eq_true rfl)) (fun v1 H locs1 hp hL => ?_)
  obtain ⟨rfl, hw, rfl⟩ := hp
  refine hb_aload_n G dX1_entry_13 hl rfl ?_
  refine hx_callV (As := []) (rest := []) G hXs hml (c_requirePower g z sa l hlt d S (P 4) tc dn wr _ h.1) (h.1) rfl km_X1_55 ki_X1_requirePower ks_X1_requirePower kn_X1 ko_X1_requirePower hd_X1_requirePower ⟨Nat.le_of_ble_eq_true rfl, Nat.le_of_ble_eq_true rfl⟩ hl.size rfl (Nat.le_of_ble_eq_true rfl) dX1_entry_14 ⟨Nat.le_of_ble_eq_true rfl, Nat.le_of_ble_eq_true rfl⟩ hL (f0_in) (fun E ce q9 K9 locs9 hp hL hc1 hc2 hc3 => hx_out htb hlocks (⟨hp.2.2, Or.inr ⟨hp.1, ⟨dkIs_nI hj, hw, Or.inl hp.2.1⟩, hp.2.1⟩⟩) hL hc1 hc2 hc3 (Nat.le_of_ble_eq_true rfl) (Nat.le_of_ble_eq_true rfl)) (fun v1 H locs1 hp hL => ?_)
  obtain ⟨rfl, hdn, rfl⟩ := hp
  refine hb_iload_n G dX1_entry_17 hl rfl ?_
  refine lv_iconst (v := 0) G.1 G.2.1 dX1_entry_18 (by decide) ?_
  refine hb_aload G dX1_entry_19 hl rfl ?_
  refine hb_get G (h.2.2.2.1 j (by omega)).1 rfl inX0 7 (by decide) kf_X1_123 rfl rfl dX1_entry_21 ?_
  refine lv_iconst (v := 1) G.1 G.2.1 dX1_entry_24 (by decide) ?_
  refine lv_isub G.1 G.2.1 dX1_entry_25 ?_
  refine lv_topi (fun t_1 et_1 => ?_)
  obtain rfl : t_1 = nI (V j).2.2.1 - 1 := et_1
  refine hx_callS (As := [.int n, .int 0, .int (nI (V j).2.2.1 - 1)]) (rest := []) G hXs hml (c_requireWithin g z sa l hlt n 0 (nI (V j).2.2.1 - 1) _) km_X1_51 kt_X1_requireWithin kn_X1 ko_X1_requireWithin hd_X1_requireWithin ⟨Nat.le_of_ble_eq_true rfl, Nat.le_of_ble_eq_true rfl⟩ hl.size rfl (Nat.le_of_ble_eq_true rfl) dX1_entry_26 ⟨Nat.le_of_ble_eq_true rfl, Nat.le_of_ble_eq_true rfl⟩ hL (f0_in) (fun E ce q9 K9 locs9 hp hL hc1 hc2 hc3 => hx_out htb hlocks (⟨hp.2.2, Or.inl ⟨hp.1, fun q => q.2.2.elim (fun q1 => q1 hdn) (fun q2 => hp.2.1 (q2 j hj rfl))⟩⟩) hL hc1 hc2 hc3 (Nat.le_of_ble_eq_true rfl) (Nat.le_of_ble_eq_true rfl)) (fun v1 H locs1 hp hL => ?_)
  obtain ⟨rfl, hn, rfl⟩ := hp
  refine hb_iload_n G dX1_entry_29 hl rfl ?_
  obtain ⟨k, hk3, rfl⟩ := nI_of2 (x := w) (M := 2) (n := 2) rfl (i32_nlt.mpr hw.1) hw.2
  have hkt : (nI k).toInt = (k : Int) := nI_toInt (by omega)
  rcases (show k = 0 ∨ k = 1 ∨ k = 2 by omega) with rfl | rfl | rfl
  · refine lv_lookup (off := 26) (tgt := 56) G.1 G.2.1 dX1_entry_30 (by decide) (by rw [hkt]; rfl) (by decide) ?_
    refine hb_aload G dX1_entry_56 hl rfl ?_
    refine hb_get G (h.2.2.2.1 j (by omega)).1 rfl inX0 3 (by decide) kf_X1_135 rfl rfl dX1_entry_58 ?_
    refine hb_iload_n G dX1_entry_61 hl rfl ?_
    refine hb_callS (As := [.ref (P j + 3), .int n]) (rest := []) G hml (c_at g l (P j + 3) 512 ((V j).1 2) n _ (by decide) ((h.2.2.2.1 j (by omega)).2 2 (by decide))) km_X1_138 kt_X1_at kn_X1 ko_X1_at hd_X1_at ⟨Nat.le_of_ble_eq_true rfl, Nat.le_of_ble_eq_true rfl⟩ hl.size rfl (Nat.le_of_ble_eq_true rfl) dX1_entry_62 ⟨Nat.le_of_ble_eq_true rfl, Nat.le_of_ble_eq_true rfl⟩ hL (f0_in) (fun v1 H locs1 hp hL => ?_)
    obtain ⟨rfl, rfl⟩ := hp
    exact hx_iret G hr hlocks ⟨⟨j, hj, rfl, hn, rfl⟩, hw, hdn, rfl⟩ hL (Nat.le_of_ble_eq_true rfl) (Nat.le_of_ble_eq_true rfl) dX1_entry_65
  · refine lv_lookup (off := 36) (tgt := 66) G.1 G.2.1 dX1_entry_30 (by decide) (by rw [hkt]; rfl) (by decide) ?_
    refine hb_aload G dX1_entry_66 hl rfl ?_
    refine hb_iload_n G dX1_entry_68 hl rfl ?_
    refine hb_callV (As := [.int n]) (rest := []) G hml (c_blockOf g l (P j) (V j) _ (hV j (by omega)) (h.2.2.2.1 j (by omega)) n) ((h.2.2.2.1 j (by omega)).1) rfl km_X1_142 ki_X0_blockOf ks_X0_blockOf kn_X0 ko_X0_blockOf hd_X0_blockOf ⟨Nat.le_of_ble_eq_true rfl, Nat.le_of_ble_eq_true rfl⟩ hl.size rfl (Nat.le_of_ble_eq_true rfl) dX1_entry_69 ⟨Nat.le_of_ble_eq_true rfl, Nat.le_of_ble_eq_true rfl⟩ hL (f0_in) (fun v1 H locs1 hp hL => ?_)
    obtain ⟨rfl, rfl⟩ := hp
    exact hx_iret G hr hlocks ⟨⟨j, hj, rfl, hn, rfl⟩, hw, hdn, rfl⟩ hL (Nat.le_of_ble_eq_true rfl) (Nat.le_of_ble_eq_true rfl) dX1_entry_72
  · refine lv_lookup (off := 43) (tgt := 73) G.1 G.2.1 dX1_entry_30 (by decide) (by rw [hkt]; rfl) (by decide) ?_
    refine hb_aload G dX1_entry_73 hl rfl ?_
    refine hb_get G (h.2.2.2.1 j (by omega)).1 rfl inX0 5 (by decide) kf_X1_145 rfl rfl dX1_entry_75 ?_
    refine hb_iload_n G dX1_entry_78 hl rfl ?_
    refine hb_callS (As := [.ref (P j + 5), .int n]) (rest := []) G hml (c_at g l (P j + 5) 512 ((V j).1 4) n _ (by decide) ((h.2.2.2.1 j (by omega)).2 4 (by decide))) km_X1_138 kt_X1_at kn_X1 ko_X1_at hd_X1_at ⟨Nat.le_of_ble_eq_true rfl, Nat.le_of_ble_eq_true rfl⟩ hl.size rfl (Nat.le_of_ble_eq_true rfl) dX1_entry_79 ⟨Nat.le_of_ble_eq_true rfl, Nat.le_of_ble_eq_true rfl⟩ hL (f0_in) (fun v1 H locs1 hp hL => ?_)
    obtain ⟨rfl, rfl⟩ := hp
    exact hx_iret G hr hlocks ⟨⟨j, hj, rfl, hn, rfl⟩, hw, hdn, rfl⟩ hL (Nat.le_of_ble_eq_true rfl) (Nat.le_of_ble_eq_true rfl) dX1_entry_82
set_option maxHeartbeats 4000000 in
set_option maxRecDepth 100000 in
/-- byteAt -/
theorem c_byteAt (g : Gx) (z : Nat) (sa : Nat → Nat) (l : Launch) (hlt : l.stackTraces = false) (d S B : Nat) (P : Nat → Nat) (V : Nat → LV) (bu : Nat → Int32) (tc dn wr : Int32) (H : Heap) (hSB : dkB S B) (hV : ∀ j, j < 5 → lgOk (V j)) (h : dkAt g d S B P V bu tc dn wr H) (i n k : Int32) : HX g z sa l yX1_byteAt cX1_byteAt 5 (some .int) 7 112 4 24 [.ref d, .int i, .int n, .int k] H (fun r H1 => (∃ j, j < 4 ∧ i = nI j ∧ (0 ≤ n ∧ n ≤ nI (V j).2.2.1 - 1) ∧ (0 ≤ k ∧ k ≤ atV ((V j).1 2) 512 n - 1) ∧ r = some (.int ((atV ((V j).1 3) 512 n + k) &&& 255))) ∧ dn = 0 ∧ H1 = H) (thX (dkIs i ∧ (¬ dn = 0 ∨ ∀ j : Nat, j < 4 → i = nI j → (0 ≤ n ∧ n ≤ nI (V j).2.2.1 - 1) ∧ (0 ≤ k ∧ k ≤ atV ((V j).1 2) 512 n - 1))) dn H) (f0) := by
  refine HX.ofW (by decide) (Nat.le_of_ble_eq_true rfl) (by simp [Value.category]) ?_
  intro p e s m args below meth c ls G hr hml hlocks htb hH hXs hl
  have hl : lh ls 5 [some (.ref d), some (.int i), some (.int n), some (.int k), none] := hl
  have hL : ∀ q ∈ ([] : List Loc), (f0) q.base := fun q h => by cases h
  refine hb_aload_n G dX1_byteAt_0 hl rfl ?_
  refine hb_iload_n G dX1_byteAt_1 hl rfl ?_
  refine hx_callV (As := [.int i]) (rest := []) G hXs hml (c_existingLog g z sa l hlt d S B P V bu tc dn wr _ hSB hV h i) (h.1) rfl km_X1_47 ki_X1_existingLog ks_X1_existingLog kn_X1 ko_X1_existingLog hd_X1_existingLog ⟨Nat.le_of_ble_eq_true rfl, Nat.le_of_ble_eq_true rfl⟩ hl.size rfl (Nat.le_of_ble_eq_true rfl) dX1_byteAt_2 ⟨Nat.le_of_ble_eq_true rfl, Nat.le_of_ble_eq_true rfl⟩ hL (f0_in) (fun E ce q9 K9 locs9 hp hL hc1 hc2 hc3 => hx_out htb hlocks (⟨hp.2.2, Or.inl ⟨hp.1, fun q => hp.2.1 q.1⟩⟩) hL hc1 hc2 hc3 (Nat.le_of_ble_eq_true rfl) (Nat.le_of_ble_eq_true rfl)) (fun v1 H locs1 hp hL => ?_)
  obtain ⟨⟨j, hj, rfl, rfl⟩, rfl⟩ := hp
  refine hb_astore G dX1_byteAt_5 hl (by decide) (fun ls hl => ?_)
  have hl : lh ls 5 [some (.ref d), some (.int (nI j)), some (.int n), some (.int k), some (.ref (P j))] := hl
  refine hb_aload_n G dX1_byteAt_7 hl rfl ?_
  refine hx_callV (As := []) (rest := []) G hXs hml (c_requirePower g z sa l hlt d S (P 4) tc dn wr _ h.1) (h.1) rfl km_X1_55 ki_X1_requirePower ks_X1_requirePower kn_X1 ko_X1_requirePower hd_X1_requirePower ⟨Nat.le_of_ble_eq_true rfl, Nat.le_of_ble_eq_true rfl⟩ hl.size rfl (Nat.le_of_ble_eq_true rfl) dX1_byteAt_8 ⟨Nat.le_of_ble_eq_true rfl, Nat.le_of_ble_eq_true rfl⟩ hL (f0_in) (fun E ce q9 K9 locs9 hp hL hc1 hc2 hc3 => hx_out htb hlocks (⟨hp.2.2, Or.inr ⟨hp.1, ⟨dkIs_nI hj, Or.inl hp.2.1⟩, hp.2.1⟩⟩) hL hc1 hc2 hc3 (Nat.le_of_ble_eq_true rfl) (Nat.le_of_ble_eq_true rfl)) (fun v1 H locs1 hp hL => ?_)
  obtain ⟨rfl, hdn, rfl⟩ := hp
  refine hb_iload_n G dX1_byteAt_11 hl rfl ?_
  refine lv_iconst (v := 0) G.1 G.2.1 dX1_byteAt_12 (by decide) ?_
  refine hb_aload G dX1_byteAt_13 hl rfl ?_
  refine hb_get G (h.2.2.2.1 j (by omega)).1 rfl inX0 7 (by decide) kf_X1_123 rfl rfl dX1_byteAt_15 ?_
  refine lv_iconst (v := 1) G.1 G.2.1 dX1_byteAt_18 (by decide) ?_
  refine lv_isub G.1 G.2.1 dX1_byteAt_19 ?_
  refine lv_topi (fun t_1 et_1 => ?_)
  obtain rfl : t_1 = nI (V j).2.2.1 - 1 := et_1
  refine hx_callS (As := [.int n, .int 0, .int (nI (V j).2.2.1 - 1)]) (rest := []) G hXs hml (c_requireWithin g z sa l hlt n 0 (nI (V j).2.2.1 - 1) _) km_X1_51 kt_X1_requireWithin kn_X1 ko_X1_requireWithin hd_X1_requireWithin ⟨Nat.le_of_ble_eq_true rfl, Nat.le_of_ble_eq_true rfl⟩ hl.size rfl (Nat.le_of_ble_eq_true rfl) dX1_byteAt_20 ⟨Nat.le_of_ble_eq_true rfl, Nat.le_of_ble_eq_true rfl⟩ hL (f0_in) (fun E ce q9 K9 locs9 hp hL hc1 hc2 hc3 => hx_out htb hlocks (⟨hp.2.2, Or.inl ⟨hp.1, fun q => q.2.elim (fun q1 => q1 hdn) (fun q2 => hp.2.1 (q2 j hj rfl).1)⟩⟩) hL hc1 hc2 hc3 (Nat.le_of_ble_eq_true rfl) (Nat.le_of_ble_eq_true rfl)) (fun v1 H locs1 hp hL => ?_)
  obtain ⟨rfl, hn, rfl⟩ := hp
  refine hb_iload_n G dX1_byteAt_23 hl rfl ?_
  refine lv_iconst (v := 0) G.1 G.2.1 dX1_byteAt_24 (by decide) ?_
  refine hb_aload G dX1_byteAt_25 hl rfl ?_
  refine hb_get G (h.2.2.2.1 j (by omega)).1 rfl inX0 3 (by decide) kf_X1_135 rfl rfl dX1_byteAt_27 ?_
  refine hb_iload_n G dX1_byteAt_30 hl rfl ?_
  refine hb_callS (As := [.ref (P j + 3), .int n]) (rest := [.int 0, .int k]) G hml (c_at g l (P j + 3) 512 ((V j).1 2) n _ (by decide) ((h.2.2.2.1 j (by omega)).2 2 (by decide))) km_X1_138 kt_X1_at kn_X1 ko_X1_at hd_X1_at ⟨Nat.le_of_ble_eq_true rfl, Nat.le_of_ble_eq_true rfl⟩ hl.size rfl (Nat.le_of_ble_eq_true rfl) dX1_byteAt_31 ⟨Nat.le_of_ble_eq_true rfl, Nat.le_of_ble_eq_true rfl⟩ hL (f0_in) (fun v1 H locs1 hp hL => ?_)
  obtain ⟨rfl, rfl⟩ := hp
  refine lv_topi (fun r_2 er_2 => ?_)
  refine lv_iconst (v := 1) G.1 G.2.1 dX1_byteAt_34 (by decide) ?_
  refine lv_isub G.1 G.2.1 dX1_byteAt_35 ?_
  refine lv_topi (fun t_3 et_3 => ?_)
  obtain rfl : t_3 = atV ((V j).1 2) 512 n - 1 := by rw [et_3, er_2]
  refine hx_callS (As := [.int k, .int 0, .int (atV ((V j).1 2) 512 n - 1)]) (rest := []) G hXs hml (c_requireWithin g z sa l hlt k 0 (atV ((V j).1 2) 512 n - 1) _) km_X1_51 kt_X1_requireWithin kn_X1 ko_X1_requireWithin hd_X1_requireWithin ⟨Nat.le_of_ble_eq_true rfl, Nat.le_of_ble_eq_true rfl⟩ hl.size rfl (Nat.le_of_ble_eq_true rfl) dX1_byteAt_36 ⟨Nat.le_of_ble_eq_true rfl, Nat.le_of_ble_eq_true rfl⟩ hL (f0_in) (fun E ce q9 K9 locs9 hp hL hc1 hc2 hc3 => hx_out htb hlocks (⟨hp.2.2, Or.inl ⟨hp.1, fun q => q.2.elim (fun q1 => q1 hdn) (fun q2 => hp.2.1 (q2 j hj rfl).2)⟩⟩) hL hc1 hc2 hc3 (Nat.le_of_ble_eq_true rfl) (Nat.le_of_ble_eq_true rfl)) (fun v1 H locs1 hp hL => ?_)
  obtain ⟨rfl, hk, rfl⟩ := hp
  refine hb_aload G dX1_byteAt_39 hl rfl ?_
  refine hb_get G (h.2.2.2.1 j (by omega)).1 rfl inX0 4 (by decide) kf_X1_148 rfl rfl dX1_byteAt_41 ?_
  refine hb_iload_n G dX1_byteAt_44 hl rfl ?_
  refine hb_callS (As := [.ref (P j + 4), .int n]) (rest := []) G hml (c_at g l (P j + 4) 512 ((V j).1 3) n _ (by decide) ((h.2.2.2.1 j (by omega)).2 3 (by decide))) km_X1_138 kt_X1_at kn_X1 ko_X1_at hd_X1_at ⟨Nat.le_of_ble_eq_true rfl, Nat.le_of_ble_eq_true rfl⟩ hl.size rfl (Nat.le_of_ble_eq_true rfl) dX1_byteAt_45 ⟨Nat.le_of_ble_eq_true rfl, Nat.le_of_ble_eq_true rfl⟩ hL (f0_in) (fun v1 H locs1 hp hL => ?_)
  obtain ⟨rfl, rfl⟩ := hp
  refine lv_topi (fun r_4 er_4 => ?_)
  refine hb_iload_n G dX1_byteAt_48 hl rfl ?_
  refine lv_iadd G.1 G.2.1 dX1_byteAt_49 ?_
  refine lv_topi (fun t_5 et_5 => ?_)
  refine lv_sipush (v := 255) G.1 G.2.1 dX1_byteAt_50 (by decide) ?_
  refine lv_iand G.1 G.2.1 dX1_byteAt_53 ?_
  refine lv_topi (fun t_6 et_6 => ?_)
  exact hx_iret G hr hlocks ⟨⟨j, hj, rfl, hn, hk, by rw [et_6, et_5, er_4]⟩, hdn, rfl⟩ hL (Nat.le_of_ble_eq_true rfl) (Nat.le_of_ble_eq_true rfl) dX1_byteAt_54
