set_option maxHeartbeats 4000000 in
set_option maxRecDepth 100000 in
theorem law_start {p : Program} {e : Env} {s : State} {m : MethodId} {below : List Frame} {meth : Method} {c : Code} {l : Launch} {g : Gx} {b L : Nat} {xs : Nat → Int32} {sa : Nat → Nat} (A0 : LA g p l s m meth c b L xs sa) (hL2 : L ≤ 2050) {ls : Array Slot} (hl : lh ls 7 [some (.ref b), none, none, none, none, none, none]) : W p l e room_1 s m #[Value.ref b] below meth c s.heap [] 0 0 (lw_Z below #[Value.ref b] s) (F0 m 0 ls []) := by
  obtain ⟨G, hml, hXx, hbl, hlt, hXX, hN, hr, hlocks⟩ := id A0
  obtain ⟨x0, e0⟩ : ∃ x : Int32, x = if 0 < L then xs 0 else 0 := ⟨_, rfl⟩
  obtain ⟨x1, e1⟩ : ∃ x : Int32, x = if 1 < L then xs 1 else 0 := ⟨_, rfl⟩
  refine hb_new (z := s.heap.size) (ci := 1) (C := RX1) (T := TX1) (N := 7) (fs := [.int 0, .null, .null, .null, .int 0, .int 0, .int 0]) G rfl rfl inX1 tyX1 tyX1_ok kc_L_8 kj_X1 kn_X1 (fun j hj => by rcases (show j = 0 ∨ j = 1 ∨ j = 2 ∨ j = 3 ∨ j = 4 ∨ j = 5 ∨ j = 6 by omega) with rfl | rfl | rfl | rfl | rfl | rfl | rfl <;> rfl) (Nat.le_of_ble_eq_true rfl) (Nat.le_of_ble_eq_true rfl) dL_law_0 (fun H1 ho1 hz1 hk1 => ?_)
  refine lv_dup G.1 G.2.1 dL_law_3 rfl ?_
  have hX1 : va_X b L xs s H1 := va_X.kept hXx (hk1 b hbl)
  refine hb_aload_n G dL_law_4 hl rfl ?_
  refine lv_iconst (v := 0) G.1 G.2.1 dL_law_5 (by decide) ?_
  refine hc_callS (A := fG s.heap.size) (rest := [.ref s.heap.size, .ref s.heap.size]) G hX1 hml (c_cell g l b L xs (by omega) 0 (by omega) H1) km_L_41 ⟨Nat.le_of_ble_eq_true rfl, Nat.le_of_ble_eq_true rfl⟩ hl.size rfl (Nat.le_of_ble_eq_true rfl) dL_law_6 ⟨Nat.le_of_ble_eq_true rfl, Nat.le_of_ble_eq_true rfl⟩ (fun q h => by cases h) (fun v1 K1 locs1 hp hL => ?_)
  obtain ⟨rfl, rfl⟩ := hp
  rw [← e0]
  refine hb_aload_n G dL_law_9 hl rfl ?_
  refine lv_iconst (v := 1) G.1 G.2.1 dL_law_10 (by decide) ?_
  refine hc_callS (A := fG s.heap.size) (rest := [.int x0, .ref s.heap.size, .ref s.heap.size]) G hX1 hml (c_cell g l b L xs (by omega) 1 (by omega) K1) km_L_41 ⟨Nat.le_of_ble_eq_true rfl, Nat.le_of_ble_eq_true rfl⟩ hl.size rfl (Nat.le_of_ble_eq_true rfl) dL_law_11 ⟨Nat.le_of_ble_eq_true rfl, Nat.le_of_ble_eq_true rfl⟩ hL (fun v1 K2 locs1 hp hL => ?_)
  obtain ⟨rfl, rfl⟩ := hp
  rw [← e1]
  refine hb_callI (A := fG s.heap.size) (As := [.int x0, .int x1]) (rest := [.ref s.heap.size]) G hml (c_Disk_init g l s.heap.size x0 x1 K2 hz1 ho1) rfl km_L_47 ki_X1_init kn_X1 ko_X1_init hd_X1_init ⟨Nat.le_of_ble_eq_true rfl, Nat.le_of_ble_eq_true rfl⟩ hl.size rfl (Nat.le_of_ble_eq_true rfl) dL_law_14 ⟨Nat.le_of_ble_eq_true rfl, Nat.le_of_ble_eq_true rfl⟩ hL (fun q h => h) (fun v1 K3 locs1 hp hL => ?_)
  obtain ⟨rfl, hD, hz3, hk3⟩ := hp
  refine hb_astore_n G dL_law_17 hl (by decide) (fun ls hl => ?_)
  refine hb_new (z := s.heap.size + 38) (ci := 2) (C := RX2) (T := TX2) (N := 20) (fs := [.int 0, .int 0, .int 0, .int 0, .int 0, .int 0, .null, .null, .null, .null, .null, .int 0, .null, .null, .null, .null, .null, .int 0, .null, .null]) G hz3 rfl inX2 tyX2 tyX2_ok kc_L_50 kj_X2 kn_X2 (fun j hj => by rcases (show j = 0 ∨ j = 1 ∨ j = 2 ∨ j = 3 ∨ j = 4 ∨ j = 5 ∨ j = 6 ∨ j = 7 ∨ j = 8 ∨ j = 9 ∨ j = 10 ∨ j = 11 ∨ j = 12 ∨ j = 13 ∨ j = 14 ∨ j = 15 ∨ j = 16 ∨ j = 17 ∨ j = 18 ∨ j = 19 by omega) with rfl | rfl | rfl | rfl | rfl | rfl | rfl | rfl | rfl | rfl | rfl | rfl | rfl | rfl | rfl | rfl | rfl | rfl | rfl | rfl <;> rfl) (Nat.le_of_ble_eq_true rfl) (Nat.le_of_ble_eq_true rfl) dL_law_18 (fun K4 ho4 hz4 hk4 => ?_)
  refine lv_dup G.1 G.2.1 dL_law_21 rfl ?_
  have hX4 : va_X b L xs s K4 := va_X.kept hX1 ((hk4 b (by omega)).trans (hk3 b hbl))
  refine hb_aload_n G dL_law_22 hl rfl ?_
  refine lv_iconst (v := 0) G.1 G.2.1 dL_law_23 (by decide) ?_
  refine hc_callS (A := fG s.heap.size) (rest := [.ref (s.heap.size + 38), .ref (s.heap.size + 38)]) G hX4 hml (c_cell g l b L xs (by omega) 0 (by omega) K4) km_L_41 ⟨Nat.le_of_ble_eq_true rfl, Nat.le_of_ble_eq_true rfl⟩ hl.size rfl (Nat.le_of_ble_eq_true rfl) dL_law_24 ⟨Nat.le_of_ble_eq_true rfl, Nat.le_of_ble_eq_true rfl⟩ hL (fun v1 K5 locs1 hp hL => ?_)
  obtain ⟨rfl, rfl⟩ := hp
  rw [← e0]
  refine hb_aload_n G dL_law_27 hl rfl ?_
  refine lv_iconst (v := 1) G.1 G.2.1 dL_law_28 (by decide) ?_
  refine hc_callS (A := fG s.heap.size) (rest := [.int x0, .ref (s.heap.size + 38), .ref (s.heap.size + 38)]) G hX4 hml (c_cell g l b L xs (by omega) 1 (by omega) K5) km_L_41 ⟨Nat.le_of_ble_eq_true rfl, Nat.le_of_ble_eq_true rfl⟩ hl.size rfl (Nat.le_of_ble_eq_true rfl) dL_law_29 ⟨Nat.le_of_ble_eq_true rfl, Nat.le_of_ble_eq_true rfl⟩ hL (fun v1 K6 locs1 hp hL => ?_)
  obtain ⟨rfl, rfl⟩ := hp
  rw [← e1]
  refine hb_callI (A := fG s.heap.size) (As := [.int x0, .int x1]) (rest := [.ref (s.heap.size + 38)]) G hml (m_init g l (s.heap.size + 38) x0 x1 K6 hz4 ho4) rfl km_L_52 ki_X2_init kn_X2 ko_X2_init hd_X2_init ⟨Nat.le_of_ble_eq_true rfl, Nat.le_of_ble_eq_true rfl⟩ hl.size rfl (Nat.le_of_ble_eq_true rfl) dL_law_32 ⟨Nat.le_of_ble_eq_true rfl, Nat.le_of_ble_eq_true rfl⟩ hL (fun q h => fG_mk (Nat.le_trans (by omega) h)) (fun v1 K7 locs1 hp hL => ?_)
  obtain ⟨rfl, hM, hz7, hk7⟩ := hp
  refine hb_astore_n G dL_law_35 hl (by decide) (fun ls hl => ?_)
  refine lv_iconst (v := 1) G.1 G.2.1 dL_law_36 (by decide) ?_
  refine hb_newj (z := s.heap.size + 51) (N := 1) G hz7 (by decide) rfl (by decide) (Nat.le_of_ble_eq_true rfl) (Nat.le_of_ble_eq_true rfl) dL_law_37 (fun K8 hj8 hz8 hk8 => ?_)
  refine hb_astore_n G dL_law_39 hl (by decide) (fun ls hl => ?_)
  refine lv_iconst (v := 2) G.1 G.2.1 dL_law_40 (by decide) ?_
  refine hb_istore G dL_law_41 hl (by decide) (fun ls hl => ?_)
  have hSB : dkB (clampS x0) (clampB x1) := ⟨(clampS_in x0).1, (clampS_in x0).2, (clampB_in x1).1, (clampB_in x1).2⟩
  have hlow : ∀ q : Nat, q < s.heap.size → K8[q]? = s.heap[q]? := fun q hq => (hk8 q (by omega)).trans ((hk7 q (by omega)).trans ((hk4 q (by omega)).trans ((hk3 q hq).trans (hk1 q hq))))
  have hD8 : dkAt g s.heap.size (clampS x0) (clampB x1) (P0 s.heap.size) (fun _ => lv0) (fun _ => 0) (-1) 0 0 K8 := hD.kept (fun q h1 h2 => (hk8 q (by omega)).trans ((hk7 q (by omega)).trans (hk4 q (by omega))))
  have hM8 : mdAt g (s.heap.size + 38) (clampS x0) (clampB x1) 64 (fun k => s.heap.size + 38 + 1 + k) (fun _ _ => 0) 0 0 (-1) 0 0 0 K8 := hM.keep (hk8 _ (by omega)) (fun k hk => hk8 _ (by omega))
  refine law_loop A0 hSB hL2 513 0 K8 locs1 ls _ _ (by omega) (by omega) (Nat.le_of_ble_eq_true rfl) (Nat.le_of_ble_eq_true rfl) ⟨P0 s.heap.size, fun _ => lv0, fun _ => 0, fun _ _ => 0, 64, fun k => s.heap.size + 38 + 1 + k, -1, 0, 0, 0, 0, 0, ⟨hD8, fun _ _ => lv0_ok⟩, hM8, Rel_nil _ _, ⟨Or.inl rfl, Or.inl rfl, Nat.le_refl _, Or.inl rfl, by omega⟩, ⟨fun k hk => ⟨by dsimp only; omega, by dsimp only; omega, by dsimp only; omega⟩, by omega⟩, _, hj8⟩ ⟨by omega, fun q h1 _ => hlow q h1, hL⟩ hl
theorem whole_start {p : Program} {e : Env} {s : State} {m : MethodId} {below : List Frame} {meth : Method} {c : Code} (l : Launch) (hlt : l.stackTraces = false) {b L : Nat} {xs : Nat → Int32} (hL : L ≤ 2050) (C0 : lw_At p s m meth c b L xs) : W p l e room_1 s m #[Value.ref b] below meth c s.heap [] 0 0 (lw_Z below #[Value.ref b] s) (entryFrame m ([Value.ref b] : List Value).toArray 7) := by
  obtain ⟨hx, hb, hr, hml, hown, hts, hX, hbl, hlocks, hgv⟩ := C0
  obtain ⟨g, hK⟩ := KK_of hts
  obtain ⟨sa, hXX⟩ := XX_of hts hK hgv
  have hl : lh _ 7 [some (.ref b), none, none, none, none, none, none] := lh.entry (av := [Value.ref b]) (n := 7) (Nat.le_of_ble_eq_true rfl) (by simp [Value.category])
  rw [lg_entry_eq]
  exact law_start ⟨⟨hx, hb, hown, fun w h => hts w (tb_in h), hK⟩, hml, hX, hbl, hlt, hXX, Nc_of hgv, hr, hlocks⟩ hL hl
