def rtW (V : Nat → LV) (v : LV) (k : Nat) : LV := (lgTk v (nI k) (lgBegin v (V 4), -1) v.2.2.1).1
def rtV (V : Nat → LV) (v : LV) (n tc dn wr : Int32) : Int32 × LV × Int32 × Int32 × Int32 :=
  if lgPast v n (v.2.1 - 1) 0 = 0 then (0, v, tc, dn, wr)
  else (if whN tc dn 1 = 0 then nI (lgPast v n (v.2.1 - 1) 0) else -3, if whR tc 1 = 0 then v else rtW V v (lgPast v n (v.2.1 - 1) 0), whT tc 1, whN tc dn 1, whW tc wr 1)
def tnR (B S : Nat) (V : Nat → LV) (v : LV) (k : Int32) : Int32 × LV × (Nat → Int32) := pkL B S v k (lgCl v v.2.2.1) 0 (lgBegin v (V 4)) (mkD B S V 4)
def tnW (B S : Nat) (V : Nat → LV) (v : LV) (k : Int32) : LV := (lgTk v (nI v.2.1 - 1) ((tnR B S V v k).2.1, -1) v.2.2.1).1
def tnC (B S : Nat) (V : Nat → LV) (v : LV) (k : Int32) : Int32 := lgBF ((tnR B S V v k).2.1.1 1) (tnR B S V v k).2.1.2.1 + 1
def tnV (B S : Nat) (V : Nat → LV) (v : LV) (k tc dn wr : Int32) : Int32 × LV × Int32 × Int32 × Int32 :=
  if lgCl v v.2.2.1 = 0 then (0, v, tc, dn, wr)
  else if (tnR B S V v k).1 = 0 then (-2, v, tc, dn, wr)
  else (if whN tc dn (tnC B S V v k) = 0 then nI (lgCl v v.2.2.1) - nI (tnR B S V v k).2.1.2.2.1 else -3, if whR tc (tnC B S V v k) = 0 then v else tnW B S V v k, whT tc (tnC B S V v k), whN tc dn (tnC B S V v k), whW tc wr (tnC B S V v k))
theorem pkL_ok {B S : Nat} {u : LV} {k : Int32} : ∀ (n i : Nat) (w : LV) (bu : Nat → Int32), lgOk w → lgOk (pkL B S u k n i w bu).2.1
  | 0, _, _, _, h => h
  | n + 1, i, w, bu, h => by
    simp only [pkL]
    split
    · exact pkL_ok n (i + 1) w bu h
    · split
      · exact pkE_ok h
      · exact pkL_ok n (i + 1) _ _ (pkE_ok h)
set_option maxHeartbeats 4000000 in
set_option maxRecDepth 100000 in
/-- retain -/
theorem c_retain (g : Gx) (z : Nat) (sa : Nat → Nat) (l : Launch) (hlt : l.stackTraces = false) (d S B : Nat) (P : Nat → Nat) (V : Nat → LV) (bu : Nat → Int32) (tc dn wr : Int32) (H : Heap) (hSB : dkB S B) (hV : ∀ j, j < 5 → lgOk (V j)) (h : dkAt g d S B P V bu tc dn wr H) (i n : Int32) : HX g z sa l yX1_retain cX1_retain 5 (some .int) 7 112 3 18 [.ref d, .int i, .int n] H (fun r H1 => (∃ j : Nat, j < 4 ∧ i = nI j ∧ r = some (.int (rtV V (V j) n tc dn wr).1) ∧ dkSt g d S B (va_up V j (rtV V (V j) n tc dn wr).2.1) (rtV V (V j) n tc dn wr).2.2.1 (rtV V (V j) n tc dn wr).2.2.2.1 (rtV V (V j) n tc dn wr).2.2.2.2 H1) ∧ (0 ≤ n ∧ n ≤ 2147483647) ∧ dn = 0 ∧ Fr d 38 H H1) (thX (dkIs i ∧ 0 ≤ n ∧ n ≤ 2147483647) dn H) (fB d 38) := by
  refine HX.ofW (by decide) (Nat.le_of_ble_eq_true rfl) (by simp [Value.category]) ?_
  intro p e s m args below meth c ls G hr hml hlocks htb hH hXs hl
  have hl : lh ls 5 [some (.ref d), some (.int i), some (.int n), none, none] := hl
  have hL : ∀ q ∈ ([] : List Loc), (fB d 38) q.base := fun q h => by cases h
  refine hb_aload_n G dX1_retain_0 hl rfl ?_
  refine hb_iload_n G dX1_retain_1 hl rfl ?_
  refine hx_callV (As := [.int i]) (rest := []) G hXs hml (c_existingLog g z sa l hlt d S B P V bu tc dn wr _ hSB hV h i) (h.1) rfl km_X1_47 ki_X1_existingLog ks_X1_existingLog kn_X1 ko_X1_existingLog hd_X1_existingLog ⟨Nat.le_of_ble_eq_true rfl, Nat.le_of_ble_eq_true rfl⟩ hl.size rfl (Nat.le_of_ble_eq_true rfl) dX1_retain_2 ⟨Nat.le_of_ble_eq_true rfl, Nat.le_of_ble_eq_true rfl⟩ hL (f0_in) (fun E ce q9 K9 locs9 hp hL hc1 hc2 hc3 => hx_out htb hlocks (⟨hp.2.2, Or.inl ⟨hp.1, fun q => hp.2.1 q.1⟩⟩) hL hc1 hc2 hc3 (Nat.le_of_ble_eq_true rfl) (Nat.le_of_ble_eq_true rfl)) (fun v1 H locs1 hp hL => ?_)
  obtain ⟨⟨j, hj, rfl, rfl⟩, rfl⟩ := hp
  refine hb_astore_n G dX1_retain_5 hl (by decide) (fun ls hl => ?_)
  have hl : lh ls 5 [some (.ref d), some (.int (nI j)), some (.int n), some (.ref (P j)), none] := hl
  refine hb_iload_n G dX1_retain_6 hl rfl ?_
  refine lv_iconst (v := 0) G.1 G.2.1 dX1_retain_7 (by decide) ?_
  refine lv_ldc (v := 2147483647) G.1 G.2.1 G.2.2.1 (G.2.2.2.1 _ kx_100) dX1_retain_8 ?_
  refine hx_callS (As := [.int n, .int 0, .int 2147483647]) (rest := []) G hXs hml (c_requireWithin g z sa l hlt n 0 2147483647 _) km_X1_51 kt_X1_requireWithin kn_X1 ko_X1_requireWithin hd_X1_requireWithin ⟨Nat.le_of_ble_eq_true rfl, Nat.le_of_ble_eq_true rfl⟩ hl.size rfl (Nat.le_of_ble_eq_true rfl) dX1_retain_10 ⟨Nat.le_of_ble_eq_true rfl, Nat.le_of_ble_eq_true rfl⟩ hL (f0_in) (fun E ce q9 K9 locs9 hp hL hc1 hc2 hc3 => hx_out htb hlocks (⟨hp.2.2, Or.inl ⟨hp.1, fun q => hp.2.1 q.2⟩⟩) hL hc1 hc2 hc3 (Nat.le_of_ble_eq_true rfl) (Nat.le_of_ble_eq_true rfl)) (fun v1 H locs1 hp hL => ?_)
  obtain ⟨rfl, hw, rfl⟩ := hp
  refine hb_aload_n G dX1_retain_13 hl rfl ?_
  refine hx_callV (As := []) (rest := []) G hXs hml (c_requirePower g z sa l hlt d S (P 4) tc dn wr _ h.1) (h.1) rfl km_X1_55 ki_X1_requirePower ks_X1_requirePower kn_X1 ko_X1_requirePower hd_X1_requirePower ⟨Nat.le_of_ble_eq_true rfl, Nat.le_of_ble_eq_true rfl⟩ hl.size rfl (Nat.le_of_ble_eq_true rfl) dX1_retain_14 ⟨Nat.le_of_ble_eq_true rfl, Nat.le_of_ble_eq_true rfl⟩ hL (f0_in) (fun E ce q9 K9 locs9 hp hL hc1 hc2 hc3 => hx_out htb hlocks (⟨hp.2.2, Or.inr ⟨hp.1, ⟨dkIs_nI hj, hw⟩, hp.2.1⟩⟩) hL hc1 hc2 hc3 (Nat.le_of_ble_eq_true rfl) (Nat.le_of_ble_eq_true rfl)) (fun v1 H locs1 hp hL => ?_)
  obtain ⟨rfl, hdn, rfl⟩ := hp
  have hP4 := h.far (j := 4) (by decide)
  have hPj := h.far (j := j) (by omega)
  have h4 := h.2.2.2.1 4 (by decide)
  have hgj := h.2.2.2.1 j (by omega)
  have hjd := h.2.2.2.2.2 j 4 (by omega) (by decide) (by omega)
  have hv4 := hV 4 (by decide)
  have hvj := hV j (by omega)
  refine hb_aload_n G dX1_retain_17 hl rfl ?_
  refine hb_iload_n G dX1_retain_18 hl rfl ?_
  refine hb_callV (As := [.int n]) (rest := []) G hml (c_segmentsPast g l (P j) (V j) _ hvj hgj n) (hgj.1) rfl km_X1_101 ki_X0_segmentsPast ks_X0_segmentsPast kn_X0 ko_X0_segmentsPast hd_X0_segmentsPast ⟨Nat.le_of_ble_eq_true rfl, Nat.le_of_ble_eq_true rfl⟩ hl.size rfl (Nat.le_of_ble_eq_true rfl) dX1_retain_19 ⟨Nat.le_of_ble_eq_true rfl, Nat.le_of_ble_eq_true rfl⟩ hL (f0_in) (fun v1 H locs1 hp hL => ?_)
  obtain ⟨rfl, rfl⟩ := hp
  have hge := lgPast_ge (V j) n ((V j).2.1 - 1) 0
  have hv1 := hvj.1
  generalize hgo : lgPast (V j) n ((V j).2.1 - 1) 0 = go at *
  refine hb_istore G dX1_retain_22 hl (by decide) (fun ls hl => ?_)
  have hl : lh ls 5 [some (.ref d), some (.int (nI j)), some (.int n), some (.ref (P j)), some (.int (nI go))] := hl
  refine hb_iload G dX1_retain_24 hl rfl ?_
  refine lv_if_ne (tgt := 31) G.1 G.2.1 dX1_retain_26 (by decide) (fun c_1 => ?_) (fun c_1 => ?_)
  · have hg0 : ¬ go = 0 := fun q => c_1 (by rw [q]; rfl)
    have hae : rtV V (V j) n tc dn wr = (if whN tc dn 1 = 0 then nI go else -3, if whR tc 1 = 0 then V j else rtW V (V j) go, whT tc 1, whN tc dn 1, whW tc wr 1) := by unfold rtV; rw [hgo, if_neg hg0]
    refine hb_aload_n G dX1_retain_31 hl rfl ?_
    refine hb_get G h.1 rfl inX1 3 (by decide) kf_X1_16 rfl rfl dX1_retain_32 ?_
    refine hb_aload_n G dX1_retain_35 hl rfl ?_
    refine hb_callV (As := [.ref (P j)]) (rest := []) G hml (c_beginAs g l (P 4) (V 4) _ h4 (P j) (V j) hgj hjd) (h4.1) rfl km_X1_105 ki_X0_beginAs ks_X0_beginAs kn_X0 ko_X0_beginAs hd_X0_beginAs ⟨Nat.le_of_ble_eq_true rfl, Nat.le_of_ble_eq_true rfl⟩ hl.size rfl (Nat.le_of_ble_eq_true rfl) dX1_retain_36 ⟨Nat.le_of_ble_eq_true rfl, Nat.le_of_ble_eq_true rfl⟩ hL (fun q h => fB_mk (by have := h.1; omega) (by have := h.2; omega)) (fun v1 K1 locs1 hp hL => ?_)
    obtain ⟨rfl, hg1, hF1⟩ := hp
    have hk1 := h.lg (by decide) hg1 hF1
    have hb0 : lgOk (lgBegin (V j) (V 4)) := ⟨Nat.zero_le _, Nat.zero_le _⟩
    have hgj1 : lgAt g (P j) (V j) K1 := hgj.kept (fun q h1 h2 => hF1.2 q (by omega))
    refine hb_aload_n G dX1_retain_39 hl rfl ?_
    refine hb_get G hk1.1 rfl inX1 3 (by decide) kf_X1_16 rfl rfl dX1_retain_40 ?_
    refine hb_aload_n G dX1_retain_43 hl rfl ?_
    refine hb_iload G dX1_retain_44 hl rfl ?_
    refine hb_callV (As := [.ref (P j), .int (nI go)]) (rest := []) G hml (c_takeSegments g l (P 4) (lgBegin (V j) (V 4)) _ hb0 hg1 (P j) (V j) hvj hgj1 hjd (nI go)) (hg1.1) rfl km_X1_109 ki_X0_takeSegments ks_X0_takeSegments kn_X0 ko_X0_takeSegments hd_X0_takeSegments ⟨Nat.le_of_ble_eq_true rfl, Nat.le_of_ble_eq_true rfl⟩ hl.size rfl (Nat.le_of_ble_eq_true rfl) dX1_retain_46 ⟨Nat.le_of_ble_eq_true rfl, Nat.le_of_ble_eq_true rfl⟩ hL (fun q h => fB_mk (by have := h.1; omega) (by have := h.2; omega)) (fun v1 K2 locs2 hp hL => ?_)
    obtain ⟨rfl, hg2, hF2⟩ := hp
    have hk2 := hk1.lg (j := 4) (by decide) hg2 hF2
    rw [bx_uu] at hk2
    have hFp : Fr d 38 _ K2 := (hF1.tr hF2).wide (by omega) (by omega)
    refine hb_aload_n G dX1_retain_49 hl rfl ?_
    refine lv_iconst (v := 1) G.1 G.2.1 dX1_retain_50 (by decide) ?_
    refine hb_callV (As := [.int 1]) (rest := []) G hml (c_writeThroughHead g l d S (P 4) tc dn wr _ hk2.1 1) (hk2.1) rfl km_X1_83 ki_X1_writeThroughHead ks_X1_writeThroughHead kn_X1 ko_X1_writeThroughHead hd_X1_writeThroughHead ⟨Nat.le_of_ble_eq_true rfl, Nat.le_of_ble_eq_true rfl⟩ hl.size rfl (Nat.le_of_ble_eq_true rfl) dX1_retain_51 ⟨Nat.le_of_ble_eq_true rfl, Nat.le_of_ble_eq_true rfl⟩ hL (f1_in (fB_mk (by omega) (by omega))) (fun v1 K3 locs3 hp hL => ?_)
    obtain ⟨rfl, hob, hFo3⟩ := hp
    have hk3 := hk2.ob hob hFo3
    have hF3 : Fr d 38 _ K3 := hFp.tr (hFo3.fr (by omega) (by omega))
    refine lv_topi (fun r_2 er_2 => ?_)
    refine lv_if_eq (tgt := 62) G.1 G.2.1 dX1_retain_54 (by decide) (fun c_3 => ?_) (fun c_3 => ?_)
    · refine hb_aload_n G dX1_retain_62 hl rfl ?_
      refine hb_get G hk3.1 rfl inX1 5 (by decide) kf_X1_24 rfl rfl dX1_retain_63 ?_
      refine lv_if_eq (tgt := 74) G.1 G.2.1 dX1_retain_66 (by decide) (fun c_4 => ?_) (fun c_4 => ?_)
      · refine hb_iload G dX1_retain_74 hl rfl ?_
        have q1 : (rtV V (V j) n tc dn wr).1 = nI go := by rw [hae]; exact if_pos c_4
        have q2 : (rtV V (V j) n tc dn wr).2.1 = V j := by rw [hae]; exact if_pos (by rw [← er_2]; exact c_3)
        have q3 : (rtV V (V j) n tc dn wr).2.2 = (whT tc 1, whN tc dn 1, whW tc wr 1) := by rw [hae]
        exact hx_iret G hr hlocks ⟨⟨j, hj, rfl, by rw [q1], by rw [q2, q3]; exact ⟨P, _, _, hk3, fun m hm => by rw [up_same, va_up_ne _ _ (by omega)], up_ok hV (lgTk_ok hb0 _)⟩⟩, hw, hdn, hF3⟩ hL (Nat.le_of_ble_eq_true rfl) (Nat.le_of_ble_eq_true rfl) dX1_retain_76
      · refine lv_bipush (v := (-3)) G.1 G.2.1 dX1_retain_69 (by decide) ?_
        refine lv_goto (tgt := 76) G.1 G.2.1 dX1_retain_71 (by decide) ?_
        have q1 : (rtV V (V j) n tc dn wr).1 = -3 := by rw [hae]; exact if_neg c_4
        have q2 : (rtV V (V j) n tc dn wr).2.1 = V j := by rw [hae]; exact if_pos (by rw [← er_2]; exact c_3)
        have q3 : (rtV V (V j) n tc dn wr).2.2 = (whT tc 1, whN tc dn 1, whW tc wr 1) := by rw [hae]
        exact hx_iret G hr hlocks ⟨⟨j, hj, rfl, by rw [q1], by rw [q2, q3]; exact ⟨P, _, _, hk3, fun m hm => by rw [up_same, va_up_ne _ _ (by omega)], up_ok hV (lgTk_ok hb0 _)⟩⟩, hw, hdn, hF3⟩ hL (Nat.le_of_ble_eq_true rfl) (Nat.le_of_ble_eq_true rfl) dX1_retain_76
    · refine hb_aload_n G dX1_retain_57 hl rfl ?_
      refine hb_iload_n G dX1_retain_58 hl rfl ?_
      refine hb_callV (As := [.int (nI j)]) (rest := []) G hml (c_putDraftInPlaceOf g l d S B P _ _ _ _ _ _ hSB (up_ok hV (lgTk_ok hb0 _)) hk3 j hj) (hk3.1) rfl km_X1_113 ki_X1_putDraftInPlaceOf ks_X1_putDraftInPlaceOf kn_X1 ko_X1_putDraftInPlaceOf hd_X1_putDraftInPlaceOf ⟨Nat.le_of_ble_eq_true rfl, Nat.le_of_ble_eq_true rfl⟩ hl.size rfl (Nat.le_of_ble_eq_true rfl) dX1_retain_59 ⟨Nat.le_of_ble_eq_true rfl, Nat.le_of_ble_eq_true rfl⟩ hL (fun q h => h) (fun v1 K4 locs4 hp hL => ?_)
      obtain ⟨rfl, hk4, hF4⟩ := hp
      refine hb_aload_n G dX1_retain_62 hl rfl ?_
      refine hb_get G hk4.1 rfl inX1 5 (by decide) kf_X1_24 rfl rfl dX1_retain_63 ?_
      refine lv_if_eq (tgt := 74) G.1 G.2.1 dX1_retain_66 (by decide) (fun c_5 => ?_) (fun c_5 => ?_)
      · refine hb_iload G dX1_retain_74 hl rfl ?_
        have q1 : (rtV V (V j) n tc dn wr).1 = nI go := by rw [hae]; exact if_pos c_5
        have q2 : (rtV V (V j) n tc dn wr).2.1 = rtW V (V j) go := by rw [hae]; exact if_neg (by rw [← er_2]; exact c_3)
        have q3 : (rtV V (V j) n tc dn wr).2.2 = (whT tc 1, whN tc dn 1, whW tc wr 1) := by rw [hae]
        exact hx_iret G hr hlocks ⟨⟨j, hj, rfl, by rw [q1], by rw [q2, q3]; exact ⟨_, _, _, hk4, fun m hm => swp_up hj m hm, swp_ok hj (up_ok hV (lgTk_ok hb0 _))⟩⟩, hw, hdn, hF3.tr hF4⟩ hL (Nat.le_of_ble_eq_true rfl) (Nat.le_of_ble_eq_true rfl) dX1_retain_76
      · refine lv_bipush (v := (-3)) G.1 G.2.1 dX1_retain_69 (by decide) ?_
        refine lv_goto (tgt := 76) G.1 G.2.1 dX1_retain_71 (by decide) ?_
        have q1 : (rtV V (V j) n tc dn wr).1 = -3 := by rw [hae]; exact if_neg c_5
        have q2 : (rtV V (V j) n tc dn wr).2.1 = rtW V (V j) go := by rw [hae]; exact if_neg (by rw [← er_2]; exact c_3)
        have q3 : (rtV V (V j) n tc dn wr).2.2 = (whT tc 1, whN tc dn 1, whW tc wr 1) := by rw [hae]
        exact hx_iret G hr hlocks ⟨⟨j, hj, rfl, by rw [q1], by rw [q2, q3]; exact ⟨_, _, _, hk4, fun m hm => swp_up hj m hm, swp_ok hj (up_ok hV (lgTk_ok hb0 _))⟩⟩, hw, hdn, hF3.tr hF4⟩ hL (Nat.le_of_ble_eq_true rfl) (Nat.le_of_ble_eq_true rfl) dX1_retain_76
  · have hg0 : go = 0 := (nI_eq (by omega) (by omega)).mp c_1
    have hae : rtV V (V j) n tc dn wr = (0, V j, tc, dn, wr) := by unfold rtV; rw [hgo, if_pos hg0]
    refine lv_iconst (v := 0) G.1 G.2.1 dX1_retain_29 (by decide) ?_
    exact hx_iret G hr hlocks ⟨⟨j, hj, rfl, by rw [hae], by rw [hae]; exact ⟨P, V, _, h, fun m _ => by rw [up_same], hV⟩⟩, hw, hdn, Fr.rf⟩ hL (Nat.le_of_ble_eq_true rfl) (Nat.le_of_ble_eq_true rfl) dX1_retain_30
set_option maxHeartbeats 4000000 in
set_option maxRecDepth 100000 in
/-- thin -/
theorem c_thin (g : Gx) (z : Nat) (sa : Nat → Nat) (l : Launch) (hlt : l.stackTraces = false) (d S B : Nat) (P : Nat → Nat) (V : Nat → LV) (bu : Nat → Int32) (tc dn wr : Int32) (H : Heap) (hSB : dkB S B) (hV : ∀ j, j < 5 → lgOk (V j)) (h : dkAt g d S B P V bu tc dn wr H) (i n : Int32) : HX g z sa l yX1_thin cX1_thin 7 (some .int) 7 114 3 18 [.ref d, .int i, .int n] H (fun r H1 => (∃ j : Nat, j < 4 ∧ i = nI j ∧ r = some (.int (tnV B S V (V j) n tc dn wr).1) ∧ dkSt g d S B (va_up V j (tnV B S V (V j) n tc dn wr).2.1) (tnV B S V (V j) n tc dn wr).2.2.1 (tnV B S V (V j) n tc dn wr).2.2.2.1 (tnV B S V (V j) n tc dn wr).2.2.2.2 H1) ∧ (1 ≤ n ∧ n ≤ 1000) ∧ dn = 0 ∧ Fr d 38 H H1) (thX (dkIs i ∧ 1 ≤ n ∧ n ≤ 1000) dn H) (fB d 38) := by
  refine HX.ofW (by decide) (Nat.le_of_ble_eq_true rfl) (by simp [Value.category]) ?_
  intro p e s m args below meth c ls G hr hml hlocks htb hH hXs hl
  have hl : lh ls 7 [some (.ref d), some (.int i), some (.int n), none, none, none, none] := hl
  have hL : ∀ q ∈ ([] : List Loc), (fB d 38) q.base := fun q h => by cases h
  refine hb_aload_n G dX1_thin_0 hl rfl ?_
  refine hb_iload_n G dX1_thin_1 hl rfl ?_
  refine hx_callV (As := [.int i]) (rest := []) G hXs hml (c_existingLog g z sa l hlt d S B P V bu tc dn wr _ hSB hV h i) (h.1) rfl km_X1_47 ki_X1_existingLog ks_X1_existingLog kn_X1 ko_X1_existingLog hd_X1_existingLog ⟨Nat.le_of_ble_eq_true rfl, Nat.le_of_ble_eq_true rfl⟩ hl.size rfl (Nat.le_of_ble_eq_true rfl) dX1_thin_2 ⟨Nat.le_of_ble_eq_true rfl, Nat.le_of_ble_eq_true rfl⟩ hL (f0_in) (fun E ce q9 K9 locs9 hp hL hc1 hc2 hc3 => hx_out htb hlocks (⟨hp.2.2, Or.inl ⟨hp.1, fun q => hp.2.1 q.1⟩⟩) hL hc1 hc2 hc3 (Nat.le_of_ble_eq_true rfl) (Nat.le_of_ble_eq_true rfl)) (fun v1 H locs1 hp hL => ?_)
  obtain ⟨⟨j, hj, rfl, rfl⟩, rfl⟩ := hp
  refine hb_astore_n G dX1_thin_5 hl (by decide) (fun ls hl => ?_)
  have hl : lh ls 7 [some (.ref d), some (.int (nI j)), some (.int n), some (.ref (P j)), none, none, none] := hl
  refine hb_iload_n G dX1_thin_6 hl rfl ?_
  refine lv_iconst (v := 1) G.1 G.2.1 dX1_thin_7 (by decide) ?_
  refine lv_sipush (v := 1000) G.1 G.2.1 dX1_thin_8 (by decide) ?_
  refine hx_callS (As := [.int n, .int 1, .int 1000]) (rest := []) G hXs hml (c_requireWithin g z sa l hlt n 1 1000 _) km_X1_51 kt_X1_requireWithin kn_X1 ko_X1_requireWithin hd_X1_requireWithin ⟨Nat.le_of_ble_eq_true rfl, Nat.le_of_ble_eq_true rfl⟩ hl.size rfl (Nat.le_of_ble_eq_true rfl) dX1_thin_11 ⟨Nat.le_of_ble_eq_true rfl, Nat.le_of_ble_eq_true rfl⟩ hL (f0_in) (fun E ce q9 K9 locs9 hp hL hc1 hc2 hc3 => hx_out htb hlocks (⟨hp.2.2, Or.inl ⟨hp.1, fun q => hp.2.1 q.2⟩⟩) hL hc1 hc2 hc3 (Nat.le_of_ble_eq_true rfl) (Nat.le_of_ble_eq_true rfl)) (fun v1 H locs1 hp hL => ?_)
  obtain ⟨rfl, hw, rfl⟩ := hp
  refine hb_aload_n G dX1_thin_14 hl rfl ?_
  refine hx_callV (As := []) (rest := []) G hXs hml (c_requirePower g z sa l hlt d S (P 4) tc dn wr _ h.1) (h.1) rfl km_X1_55 ki_X1_requirePower ks_X1_requirePower kn_X1 ko_X1_requirePower hd_X1_requirePower ⟨Nat.le_of_ble_eq_true rfl, Nat.le_of_ble_eq_true rfl⟩ hl.size rfl (Nat.le_of_ble_eq_true rfl) dX1_thin_15 ⟨Nat.le_of_ble_eq_true rfl, Nat.le_of_ble_eq_true rfl⟩ hL (f0_in) (fun E ce q9 K9 locs9 hp hL hc1 hc2 hc3 => hx_out htb hlocks (⟨hp.2.2, Or.inr ⟨hp.1, ⟨dkIs_nI hj, hw⟩, hp.2.1⟩⟩) hL hc1 hc2 hc3 (Nat.le_of_ble_eq_true rfl) (Nat.le_of_ble_eq_true rfl)) (fun v1 H locs1 hp hL => ?_)
  obtain ⟨rfl, hdn, rfl⟩ := hp
  have hP4 := h.far (j := 4) (by decide)
  have hPj := h.far (j := j) (by omega)
  have h4 := h.2.2.2.1 4 (by decide)
  have hgj := h.2.2.2.1 j (by omega)
  have hjd := h.2.2.2.2.2 j 4 (by omega) (by decide) (by omega)
  have hv4 := hV 4 (by decide)
  have hvj := hV j (by omega)
  have hn0 : (0 : Int32) < n := by have h9 := hw.1; rw [i32_le] at h9; rw [i32_lt]; have e1 : (1 : Int32).toInt = 1 := rfl; have e2 : (0 : Int32).toInt = 0 := rfl; omega
  refine hb_aload_n G dX1_thin_18 hl rfl ?_
  refine hb_callV (As := []) (rest := []) G hml (c_closedEntries g l (P j) (V j) _ hvj hgj) (hgj.1) rfl km_X1_116 ki_X0_closedEntries ks_X0_closedEntries kn_X0 ko_X0_closedEntries hd_X0_closedEntries ⟨Nat.le_of_ble_eq_true rfl, Nat.le_of_ble_eq_true rfl⟩ hl.size rfl (Nat.le_of_ble_eq_true rfl) dX1_thin_19 ⟨Nat.le_of_ble_eq_true rfl, Nat.le_of_ble_eq_true rfl⟩ hL (f0_in) (fun v1 H locs1 hp hL => ?_)
  obtain ⟨rfl, rfl⟩ := hp
  have hcl := lgCl_le (V j) (V j).2.2.1
  have hv2 := hvj.2
  refine hb_istore G dX1_thin_22 hl (by decide) (fun ls hl => ?_)
  have hl : lh ls 7 [some (.ref d), some (.int (nI j)), some (.int n), some (.ref (P j)), some (.int (nI (lgCl (V j) (V j).2.2.1))), none, none] := hl
  refine hb_iload G dX1_thin_24 hl rfl ?_
  refine lv_if_ne (tgt := 31) G.1 G.2.1 dX1_thin_26 (by decide) (fun c_1 => ?_) (fun c_1 => ?_)
  · have hg0 : ¬ lgCl (V j) (V j).2.2.1 = 0 := fun q => c_1 (by rw [q]; rfl)
    refine hb_aload_n G dX1_thin_31 hl rfl ?_
    refine hb_aload_n G dX1_thin_32 hl rfl ?_
    refine hb_iload G dX1_thin_33 hl rfl ?_
    refine hb_iload_n G dX1_thin_35 hl rfl ?_
    refine hb_callV (As := [.ref (P j), .int (nI (lgCl (V j) (V j).2.2.1)), .int n]) (rest := []) G hml (c_packThinned g l d S B P V bu tc dn wr _ hSB hV h j hj (lgCl (V j) (V j).2.2.1) (by omega) n hn0) (h.1) rfl km_X1_119 ki_X1_packThinned ks_X1_packThinned kn_X1 ko_X1_packThinned hd_X1_packThinned ⟨Nat.le_of_ble_eq_true rfl, Nat.le_of_ble_eq_true rfl⟩ hl.size rfl (Nat.le_of_ble_eq_true rfl) dX1_thin_36 ⟨Nat.le_of_ble_eq_true rfl, Nat.le_of_ble_eq_true rfl⟩ hL (fun q h => h) (fun v1 K1 locs1 hp hL => ?_)
    obtain ⟨rfl, hk1, hF1⟩ := hp
    refine lv_topi (fun r_2 er_2 => ?_)
    have hk1 : dkAt g d S B P (va_up V 4 (tnR B S V (V j) n).2.1) (tnR B S V (V j) n).2.2 tc dn wr K1 := hk1
    have er_2 : r_2 = (tnR B S V (V j) n).1 := er_2
    have hokR : lgOk (tnR B S V (V j) n).2.1 := pkL_ok _ _ _ _ ⟨Nat.zero_le _, Nat.zero_le _⟩
    refine lv_if_ne (tgt := 45) G.1 G.2.1 dX1_thin_39 (by decide) (fun c_3 => ?_) (fun c_3 => ?_)
    · have hne : ¬ (tnR B S V (V j) n).1 = 0 := by rw [← er_2]; exact c_3
      have hae : tnV B S V (V j) n tc dn wr = (if whN tc dn (tnC B S V (V j) n) = 0 then nI (lgCl (V j) (V j).2.2.1) - nI (tnR B S V (V j) n).2.1.2.2.1 else -3, if whR tc (tnC B S V (V j) n) = 0 then V j else tnW B S V (V j) n, whT tc (tnC B S V (V j) n), whN tc dn (tnC B S V (V j) n), whW tc wr (tnC B S V (V j) n)) := by unfold tnV; rw [if_neg hg0, if_neg hne]
      have hg1 : lgAt g (P 4) (tnR B S V (V j) n).2.1 K1 := by have h9 := hk1.2.2.2.1 4 (by decide); rw [va_up_self] at h9; exact h9
      have hgj1 : lgAt g (P j) (V j) K1 := by have h9 := hk1.2.2.2.1 j (by omega); rw [va_up_ne _ _ (by omega)] at h9; exact h9
      refine hb_iload G dX1_thin_45 hl rfl ?_
      refine hb_aload_n G dX1_thin_47 hl rfl ?_
      refine hb_get G hk1.1 rfl inX1 3 (by decide) kf_X1_16 rfl rfl dX1_thin_48 ?_
      refine hb_get G hg1.1 rfl inX0 7 (by decide) kf_X1_123 rfl rfl dX1_thin_51 ?_
      refine lv_isub G.1 G.2.1 dX1_thin_54 ?_
      refine lv_topi (fun t_4 et_4 => ?_)
      obtain rfl : t_4 = nI (lgCl (V j) (V j).2.2.1) - nI (tnR B S V (V j) n).2.1.2.2.1 := et_4
      refine hb_istore G dX1_thin_55 hl (by decide) (fun ls hl => ?_)
      have hl : lh ls 7 [some (.ref d), some (.int (nI j)), some (.int n), some (.ref (P j)), some (.int (nI (lgCl (V j) (V j).2.2.1))), some (.int (nI (lgCl (V j) (V j).2.2.1) - nI (tnR B S V (V j) n).2.1.2.2.1)), none] := hl
      refine hb_aload_n G dX1_thin_57 hl rfl ?_
      refine hb_get G hk1.1 rfl inX1 3 (by decide) kf_X1_16 rfl rfl dX1_thin_58 ?_
      refine hb_callV (As := []) (rest := []) G hml (c_blocksFilled g l (P 4) _ _ hokR hg1) (hg1.1) rfl km_X1_126 ki_X0_blocksFilled ks_X0_blocksFilled kn_X0 ko_X0_blocksFilled hd_X0_blocksFilled ⟨Nat.le_of_ble_eq_true rfl, Nat.le_of_ble_eq_true rfl⟩ hl.size rfl (Nat.le_of_ble_eq_true rfl) dX1_thin_61 ⟨Nat.le_of_ble_eq_true rfl, Nat.le_of_ble_eq_true rfl⟩ hL (f0_in) (fun v1 K1 locs1 hp hL => ?_)
      obtain ⟨rfl, rfl⟩ := hp
      refine lv_topi (fun r_5 er_5 => ?_)
      refine lv_iconst (v := 1) G.1 G.2.1 dX1_thin_64 (by decide) ?_
      refine lv_iadd G.1 G.2.1 dX1_thin_65 ?_
      refine lv_topi (fun t_6 et_6 => ?_)
      obtain rfl : t_6 = tnC B S V (V j) n := by rw [et_6, er_5]; rfl
      refine hb_istore G dX1_thin_66 hl (by decide) (fun ls hl => ?_)
      have hl : lh ls 7 [some (.ref d), some (.int (nI j)), some (.int n), some (.ref (P j)), some (.int (nI (lgCl (V j) (V j).2.2.1))), some (.int (nI (lgCl (V j) (V j).2.2.1) - nI (tnR B S V (V j) n).2.1.2.2.1)), some (.int (tnC B S V (V j) n))] := hl
      refine hb_aload_n G dX1_thin_68 hl rfl ?_
      refine hb_get G hk1.1 rfl inX1 3 (by decide) kf_X1_16 rfl rfl dX1_thin_69 ?_
      refine hb_aload_n G dX1_thin_72 hl rfl ?_
      refine hb_aload_n G dX1_thin_73 hl rfl ?_
      refine hb_get G hgj1.1 rfl inX0 2 (by decide) kf_X1_129 rfl rfl dX1_thin_74 ?_
      refine lv_iconst (v := 1) G.1 G.2.1 dX1_thin_77 (by decide) ?_
      refine lv_isub G.1 G.2.1 dX1_thin_78 ?_
      refine lv_topi (fun t_7 et_7 => ?_)
      obtain rfl : t_7 = nI (V j).2.1 - 1 := et_7
      refine hb_callV (As := [.ref (P j), .int (nI (V j).2.1 - 1)]) (rest := []) G hml (c_takeSegments g l (P 4) _ _ hokR hg1 (P j) (V j) hvj hgj1 hjd (nI (V j).2.1 - 1)) (hg1.1) rfl km_X1_109 ki_X0_takeSegments ks_X0_takeSegments kn_X0 ko_X0_takeSegments hd_X0_takeSegments ⟨Nat.le_of_ble_eq_true rfl, Nat.le_of_ble_eq_true rfl⟩ hl.size rfl (Nat.le_of_ble_eq_true rfl) dX1_thin_79 ⟨Nat.le_of_ble_eq_true rfl, Nat.le_of_ble_eq_true rfl⟩ hL (fun q h => fB_mk (by have := h.1; omega) (by have := h.2; omega)) (fun v1 K2 locs2 hp hL => ?_)
      obtain ⟨rfl, hg2, hF2⟩ := hp
      have hk2 := hk1.lg (j := 4) (by decide) hg2 hF2
      rw [bx_uu] at hk2
      have hFp : Fr d 38 _ K2 := hF1.tr (hF2.wide (by omega) (by omega))
      refine hb_aload_n G dX1_thin_82 hl rfl ?_
      refine hb_iload G dX1_thin_83 hl rfl ?_
      refine hb_callV (As := [.int (tnC B S V (V j) n)]) (rest := []) G hml (c_writeThroughHead g l d S (P 4) tc dn wr _ hk2.1 (tnC B S V (V j) n)) (hk2.1) rfl km_X1_83 ki_X1_writeThroughHead ks_X1_writeThroughHead kn_X1 ko_X1_writeThroughHead hd_X1_writeThroughHead ⟨Nat.le_of_ble_eq_true rfl, Nat.le_of_ble_eq_true rfl⟩ hl.size rfl (Nat.le_of_ble_eq_true rfl) dX1_thin_85 ⟨Nat.le_of_ble_eq_true rfl, Nat.le_of_ble_eq_true rfl⟩ hL (f1_in (fB_mk (by omega) (by omega))) (fun v1 K3 locs3 hp hL => ?_)
      obtain ⟨rfl, hob, hFo3⟩ := hp
      have hk3 := hk2.ob hob hFo3
      have hF3 : Fr d 38 _ K3 := hFp.tr (hFo3.fr (by omega) (by omega))
      refine lv_topi (fun r_8 er_8 => ?_)
      refine lv_if_eq (tgt := 96) G.1 G.2.1 dX1_thin_88 (by decide) (fun c_9 => ?_) (fun c_9 => ?_)
      · refine hb_aload_n G dX1_thin_96 hl rfl ?_
        refine hb_get G hk3.1 rfl inX1 5 (by decide) kf_X1_24 rfl rfl dX1_thin_97 ?_
        refine lv_if_eq (tgt := 108) G.1 G.2.1 dX1_thin_100 (by decide) (fun c_10 => ?_) (fun c_10 => ?_)
        · refine hb_iload G dX1_thin_108 hl rfl ?_
          have q1 : (tnV B S V (V j) n tc dn wr).1 = nI (lgCl (V j) (V j).2.2.1) - nI (tnR B S V (V j) n).2.1.2.2.1 := by rw [hae]; exact if_pos c_10
          have q2 : (tnV B S V (V j) n tc dn wr).2.1 = V j := by rw [hae]; exact if_pos (by rw [← er_8]; exact c_9)
          have q3 : (tnV B S V (V j) n tc dn wr).2.2 = (whT tc (tnC B S V (V j) n), whN tc dn (tnC B S V (V j) n), whW tc wr (tnC B S V (V j) n)) := by rw [hae]
          exact hx_iret G hr hlocks ⟨⟨j, hj, rfl, by rw [q1], by rw [q2, q3]; exact ⟨P, _, _, hk3, fun m hm => by rw [up_same, va_up_ne _ _ (by omega)], up_ok hV (lgTk_ok hokR _)⟩⟩, hw, hdn, hF3⟩ hL (Nat.le_of_ble_eq_true rfl) (Nat.le_of_ble_eq_true rfl) dX1_thin_110
        · refine lv_bipush (v := (-3)) G.1 G.2.1 dX1_thin_103 (by decide) ?_
          refine lv_goto (tgt := 110) G.1 G.2.1 dX1_thin_105 (by decide) ?_
          have q1 : (tnV B S V (V j) n tc dn wr).1 = -3 := by rw [hae]; exact if_neg c_10
          have q2 : (tnV B S V (V j) n tc dn wr).2.1 = V j := by rw [hae]; exact if_pos (by rw [← er_8]; exact c_9)
          have q3 : (tnV B S V (V j) n tc dn wr).2.2 = (whT tc (tnC B S V (V j) n), whN tc dn (tnC B S V (V j) n), whW tc wr (tnC B S V (V j) n)) := by rw [hae]
          exact hx_iret G hr hlocks ⟨⟨j, hj, rfl, by rw [q1], by rw [q2, q3]; exact ⟨P, _, _, hk3, fun m hm => by rw [up_same, va_up_ne _ _ (by omega)], up_ok hV (lgTk_ok hokR _)⟩⟩, hw, hdn, hF3⟩ hL (Nat.le_of_ble_eq_true rfl) (Nat.le_of_ble_eq_true rfl) dX1_thin_110
      · refine hb_aload_n G dX1_thin_91 hl rfl ?_
        refine hb_iload_n G dX1_thin_92 hl rfl ?_
        refine hb_callV (As := [.int (nI j)]) (rest := []) G hml (c_putDraftInPlaceOf g l d S B P _ _ _ _ _ _ hSB (up_ok hV (lgTk_ok hokR _)) hk3 j hj) (hk3.1) rfl km_X1_113 ki_X1_putDraftInPlaceOf ks_X1_putDraftInPlaceOf kn_X1 ko_X1_putDraftInPlaceOf hd_X1_putDraftInPlaceOf ⟨Nat.le_of_ble_eq_true rfl, Nat.le_of_ble_eq_true rfl⟩ hl.size rfl (Nat.le_of_ble_eq_true rfl) dX1_thin_93 ⟨Nat.le_of_ble_eq_true rfl, Nat.le_of_ble_eq_true rfl⟩ hL (fun q h => h) (fun v1 K4 locs4 hp hL => ?_)
        obtain ⟨rfl, hk4, hF4⟩ := hp
        refine hb_aload_n G dX1_thin_96 hl rfl ?_
        refine hb_get G hk4.1 rfl inX1 5 (by decide) kf_X1_24 rfl rfl dX1_thin_97 ?_
        refine lv_if_eq (tgt := 108) G.1 G.2.1 dX1_thin_100 (by decide) (fun c_11 => ?_) (fun c_11 => ?_)
        · refine hb_iload G dX1_thin_108 hl rfl ?_
          have q1 : (tnV B S V (V j) n tc dn wr).1 = nI (lgCl (V j) (V j).2.2.1) - nI (tnR B S V (V j) n).2.1.2.2.1 := by rw [hae]; exact if_pos c_11
          have q2 : (tnV B S V (V j) n tc dn wr).2.1 = tnW B S V (V j) n := by rw [hae]; exact if_neg (by rw [← er_8]; exact c_9)
          have q3 : (tnV B S V (V j) n tc dn wr).2.2 = (whT tc (tnC B S V (V j) n), whN tc dn (tnC B S V (V j) n), whW tc wr (tnC B S V (V j) n)) := by rw [hae]
          exact hx_iret G hr hlocks ⟨⟨j, hj, rfl, by rw [q1], by rw [q2, q3]; exact ⟨_, _, _, hk4, fun m hm => swp_up hj m hm, swp_ok hj (up_ok hV (lgTk_ok hokR _))⟩⟩, hw, hdn, hF3.tr hF4⟩ hL (Nat.le_of_ble_eq_true rfl) (Nat.le_of_ble_eq_true rfl) dX1_thin_110
        · refine lv_bipush (v := (-3)) G.1 G.2.1 dX1_thin_103 (by decide) ?_
          refine lv_goto (tgt := 110) G.1 G.2.1 dX1_thin_105 (by decide) ?_
          have q1 : (tnV B S V (V j) n tc dn wr).1 = -3 := by rw [hae]; exact if_neg c_11
          have q2 : (tnV B S V (V j) n tc dn wr).2.1 = tnW B S V (V j) n := by rw [hae]; exact if_neg (by rw [← er_8]; exact c_9)
          have q3 : (tnV B S V (V j) n tc dn wr).2.2 = (whT tc (tnC B S V (V j) n), whN tc dn (tnC B S V (V j) n), whW tc wr (tnC B S V (V j) n)) := by rw [hae]
          exact hx_iret G hr hlocks ⟨⟨j, hj, rfl, by rw [q1], by rw [q2, q3]; exact ⟨_, _, _, hk4, fun m hm => swp_up hj m hm, swp_ok hj (up_ok hV (lgTk_ok hokR _))⟩⟩, hw, hdn, hF3.tr hF4⟩ hL (Nat.le_of_ble_eq_true rfl) (Nat.le_of_ble_eq_true rfl) dX1_thin_110
    · have he0 : (tnR B S V (V j) n).1 = 0 := by rw [← er_2]; exact c_3
      have hae : tnV B S V (V j) n tc dn wr = (-2, V j, tc, dn, wr) := by unfold tnV; rw [if_neg hg0, if_pos he0]
      refine lv_bipush (v := (-2)) G.1 G.2.1 dX1_thin_42 (by decide) ?_
      exact hx_iret G hr hlocks ⟨⟨j, hj, rfl, by rw [hae], by rw [hae]; exact ⟨P, _, _, hk1, fun m hm => by rw [up_same, va_up_ne _ _ (by omega)], up_ok hV hokR⟩⟩, hw, hdn, hF1⟩ hL (Nat.le_of_ble_eq_true rfl) (Nat.le_of_ble_eq_true rfl) dX1_thin_44
  · have hg0 : lgCl (V j) (V j).2.2.1 = 0 := (nI_eq (by omega) (by omega)).mp c_1
    have hae : tnV B S V (V j) n tc dn wr = (0, V j, tc, dn, wr) := by unfold tnV; rw [if_pos hg0]
    refine lv_iconst (v := 0) G.1 G.2.1 dX1_thin_29 (by decide) ?_
    exact hx_iret G hr hlocks ⟨⟨j, hj, rfl, by rw [hae], by rw [hae]; exact ⟨P, V, _, h, fun m _ => by rw [up_same], hV⟩⟩, hw, hdn, Fr.rf⟩ hL (Nat.le_of_ble_eq_true rfl) (Nat.le_of_ble_eq_true rfl) dX1_thin_30
