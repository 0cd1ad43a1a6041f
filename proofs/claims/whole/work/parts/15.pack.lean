set_option maxHeartbeats 4000000 in
set_option maxRecDepth 100000 in
/-- packEntry -/
theorem c_packEntry (g : Gx) (l : Launch) (d S B : Nat) (P : Nat → Nat) (V : Nat → LV) (bu : Nat → Int32) (tc dn wr : Int32) (H : Heap) (hSB : dkB S B) (hV : ∀ j, j < 5 → lgOk (V j)) (h : dkAt g d S B P V bu tc dn wr H) (j : Nat) (hj : j < 4) (i : Nat) (hi : i < 512) : HM g l yX1_packEntry cX1_packEntry 5 (some .boolean) 3 63 0 0 [.ref d, .ref (P j), .int (nI i)] H (fun r H1 => r = some (.int (pkE B S (V 4) bu ((V j).1 2 i) ((V j).1 3 i)).1) ∧ dkAt g d S B P (va_up V 4 (pkE B S (V 4) bu ((V j).1 2 i) ((V j).1 3 i)).2.1) (pkE B S (V 4) bu ((V j).1 2 i) ((V j).1 3 i)).2.2 tc dn wr H1 ∧ Fr d 38 H H1) (fB d 38) := by
  refine HM.ofW (by decide) (Nat.le_of_ble_eq_true rfl) (by simp [Value.category]) ?_
  intro p e s m args below meth c ls G hr hml hlocks hnm hH hl
  have hl : lh ls 5 [some (.ref d), some (.ref (P j)), some (.int (nI i)), none, none] := hl
  have hL : ∀ q ∈ ([] : List Loc), (fB d 38) q.base := fun q h => by cases h
  have hP4 := h.far (j := 4) (by decide)
  have hPj := h.far (j := j) (by omega)
  have h4 := h.2.2.2.1 4 (by decide)
  have hgj := h.2.2.2.1 j (by omega)
  have hjd := h.2.2.2.2.2 j 4 (by omega) (by decide) (by omega)
  have hv4 := hV 4 (by decide)
  refine hb_aload_n G dX1_packEntry_0 hl rfl ?_
  refine hb_get G hgj.1 rfl inX0 3 (by decide) kf_X1_135 rfl rfl dX1_packEntry_1 ?_
  refine hb_iload_n G dX1_packEntry_4 hl rfl ?_
  refine hb_callS (As := [.ref (P j + 3), .int (nI i)]) (rest := []) G hml (c_at g l (P j + 3) 512 ((V j).1 2) (nI i) _ (by decide) (hgj.2 2 (by decide))) km_X1_138 kt_X1_at kn_X1 ko_X1_at hd_X1_at ⟨Nat.le_of_ble_eq_true rfl, Nat.le_of_ble_eq_true rfl⟩ hl.size rfl (Nat.le_of_ble_eq_true rfl) dX1_packEntry_5 ⟨Nat.le_of_ble_eq_true rfl, Nat.le_of_ble_eq_true rfl⟩ hL (f0_in) (fun v1 H locs1 hp hL => ?_)
  obtain ⟨rfl, rfl⟩ := hp
  refine lv_topi (fun r_1 er_1 => ?_)
  have er_1 : r_1 = (V j).1 2 i := by rw [er_1, atV_in (by omega) (by decide)]
  generalize hbb : (V j).1 2 i = bb at *
  refine hb_istore_n G dX1_packEntry_8 hl (by decide) (fun ls hl => ?_)
  have hl : lh ls 5 [some (.ref d), some (.ref (P j)), some (.int (nI i)), some (.int r_1), none] := hl
  refine hb_aload_n G dX1_packEntry_9 hl rfl ?_
  refine hb_get G h.1 rfl inX1 3 (by decide) kf_X1_16 rfl rfl dX1_packEntry_10 ?_
  refine hb_iload_n G dX1_packEntry_13 hl rfl ?_
  refine lv_iconst (v := 4) G.1 G.2.1 dX1_packEntry_14 (by decide) ?_
  refine lv_iadd G.1 G.2.1 dX1_packEntry_15 ?_
  refine lv_topi (fun t_2 et_2 => ?_)
  refine hb_aload_n G dX1_packEntry_16 hl rfl ?_
  refine hb_callV (As := []) (rest := [.int t_2, .ref (P 4)]) G hml (c_segmentBytes g l d S (P 4) tc dn wr _ h.1) (h.1) rfl km_X1_58 ki_X1_segmentBytes ks_X1_segmentBytes kn_X1 ko_X1_segmentBytes hd_X1_segmentBytes ⟨Nat.le_of_ble_eq_true rfl, Nat.le_of_ble_eq_true rfl⟩ hl.size rfl (Nat.le_of_ble_eq_true rfl) dX1_packEntry_17 ⟨Nat.le_of_ble_eq_true rfl, Nat.le_of_ble_eq_true rfl⟩ hL (f0_in) (fun v1 H locs1 hp hL => ?_)
  obtain ⟨rfl, rfl⟩ := hp
  refine lv_topi (fun r_3 er_3 => ?_)
  refine hb_callV (As := [.int t_2, .int r_3]) (rest := []) G hml (c_openHasRoom g l (P 4) (V 4) _ hv4 h4 t_2 r_3) (h4.1) rfl km_X1_62 ki_X0_openHasRoom ks_X0_openHasRoom kn_X0 ko_X0_openHasRoom hd_X0_openHasRoom ⟨Nat.le_of_ble_eq_true rfl, Nat.le_of_ble_eq_true rfl⟩ hl.size rfl (Nat.le_of_ble_eq_true rfl) dX1_packEntry_20 ⟨Nat.le_of_ble_eq_true rfl, Nat.le_of_ble_eq_true rfl⟩ hL (f0_in) (fun v1 H locs1 hp hL => ?_)
  obtain ⟨rfl, rfl⟩ := hp
  refine lv_topi (fun r_4 er_4 => ?_)
  rw [er_3, et_2, er_1] at er_4
  refine lv_if_ne (tgt := 65) G.1 G.2.1 dX1_packEntry_23 (by decide) (fun c_5 => ?_) (fun c_5 => ?_)
  · have hroom : 0 < (V 4).2.1 ∧ lgOB (V 4) + (bb + 4) ≤ nI S * 1024 := Decidable.not_not.mp (fun q => c_5 ((it0 er_4).mpr q))
    have hpk : pkE B S (V 4) bu bb ((V j).1 3 i) = (1, lgPut (V 4) bb ((V j).1 3 i), bu) := by unfold pkE; rw [if_pos hroom]
    refine hb_aload_n G dX1_packEntry_65 hl rfl ?_
    refine hb_get G h.1 rfl inX1 3 (by decide) kf_X1_16 rfl rfl dX1_packEntry_66 ?_
    refine hb_iload_n G dX1_packEntry_69 hl rfl ?_
    refine hb_aload_n G dX1_packEntry_70 hl rfl ?_
    refine hb_get G hgj.1 rfl inX0 4 (by decide) kf_X1_148 rfl rfl dX1_packEntry_71 ?_
    refine hb_iload_n G dX1_packEntry_74 hl rfl ?_
    refine hb_callS (As := [.ref (P j + 4), .int (nI i)]) (rest := [.int r_1, .ref (P 4)]) G hml (c_at g l (P j + 4) 512 ((V j).1 3) (nI i) _ (by decide) (hgj.2 3 (by decide))) km_X1_138 kt_X1_at kn_X1 ko_X1_at hd_X1_at ⟨Nat.le_of_ble_eq_true rfl, Nat.le_of_ble_eq_true rfl⟩ hl.size rfl (Nat.le_of_ble_eq_true rfl) dX1_packEntry_75 ⟨Nat.le_of_ble_eq_true rfl, Nat.le_of_ble_eq_true rfl⟩ hL (f0_in) (fun v1 H locs1 hp hL => ?_)
    obtain ⟨rfl, rfl⟩ := hp
    refine lv_topi (fun r_6 er_6 => ?_)
    have er_6 : r_6 = (V j).1 3 i := by rw [er_6, atV_in (by omega) (by decide)]
    refine hb_callV (As := [.int r_1, .int r_6]) (rest := []) G hml (c_put g l (P 4) (V 4) _ (hv4) h4 r_1 r_6) (h4.1) rfl km_X1_91 ki_X0_put ks_X0_put kn_X0 ko_X0_put hd_X0_put ⟨Nat.le_of_ble_eq_true rfl, Nat.le_of_ble_eq_true rfl⟩ hl.size rfl (Nat.le_of_ble_eq_true rfl) dX1_packEntry_78 ⟨Nat.le_of_ble_eq_true rfl, Nat.le_of_ble_eq_true rfl⟩ hL (fun q h => fB_mk (by have := h.1; omega) (by have := h.2; omega)) (fun v1 K9 locs9 hp hL => ?_)
    obtain ⟨rfl, hg9, hF9⟩ := hp
    rw [er_1, er_6] at hg9
    refine lv_iconst (v := 1) G.1 G.2.1 dX1_packEntry_81 (by decide) ?_
    exact hb_zret G hr hlocks (by decide) ⟨by rw [hpk], by rw [hpk]; exact h.lg (by decide) hg9 hF9, hF9.wide (by omega) (by omega)⟩ hL (Nat.le_refl _) (Nat.le_refl _) dX1_packEntry_82
  · have hroom := (it0 er_4).mp c_5
    refine hb_aload_n G dX1_packEntry_26 hl rfl ?_
    refine hb_callV (As := []) (rest := []) G hml (c_firstFreeRun g l d S (P 4) tc dn wr _ h.1 B bu hSB.2.2.2 hSB.2.1 h.2.2.1) (h.1) rfl km_X1_175 ki_X1_firstFreeRun ks_X1_firstFreeRun kn_X1 ko_X1_firstFreeRun hd_X1_firstFreeRun ⟨Nat.le_of_ble_eq_true rfl, Nat.le_of_ble_eq_true rfl⟩ hl.size rfl (Nat.le_of_ble_eq_true rfl) dX1_packEntry_27 ⟨Nat.le_of_ble_eq_true rfl, Nat.le_of_ble_eq_true rfl⟩ hL (f0_in) (fun v1 H locs1 hp hL => ?_)
    obtain ⟨rfl, rfl⟩ := hp
    refine lv_topi (fun r_7 er_7 => ?_)
    refine hb_istore G dX1_packEntry_30 hl (by decide) (fun ls hl => ?_)
    have hl : lh ls 5 [some (.ref d), some (.ref (P j)), some (.int (nI i)), some (.int r_1), some (.int r_7)] := hl
    refine hb_iload G dX1_packEntry_32 hl rfl ?_
    refine lv_iconst (v := (-1)) G.1 G.2.1 dX1_packEntry_34 (by decide) ?_
    refine lv_icmp_eq (tgt := 48) G.1 G.2.1 dX1_packEntry_35 (by decide) (fun c_8 => ?_) (fun c_8 => ?_)
    · have hpk : pkE B S (V 4) bu bb ((V j).1 3 i) = (0, V 4, bu) := by unfold pkE; rw [if_neg hroom, if_pos (Or.inl (by rw [← er_7]; exact c_8))]
      refine lv_iconst (v := 0) G.1 G.2.1 dX1_packEntry_48 (by decide) ?_
      exact hb_zret G hr hlocks (by decide) ⟨by rw [hpk], by rw [hpk]; exact h.lg (j := 4) (by decide) h4 Fr.rf, Fr.rf⟩ hL (Nat.le_refl _) (Nat.le_refl _) dX1_packEntry_49
    · refine hb_aload_n G dX1_packEntry_38 hl rfl ?_
      refine hb_get G h.1 rfl inX1 3 (by decide) kf_X1_16 rfl rfl dX1_packEntry_39 ?_
      refine hb_callV (As := []) (rest := []) G hml (c_canOpenMore g l (P 4) (V 4) _ hv4 h4) (h4.1) rfl km_X1_178 ki_X0_canOpenMore ks_X0_canOpenMore kn_X0 ko_X0_canOpenMore hd_X0_canOpenMore ⟨Nat.le_of_ble_eq_true rfl, Nat.le_of_ble_eq_true rfl⟩ hl.size rfl (Nat.le_of_ble_eq_true rfl) dX1_packEntry_42 ⟨Nat.le_of_ble_eq_true rfl, Nat.le_of_ble_eq_true rfl⟩ hL (f0_in) (fun v1 H locs1 hp hL => ?_)
      obtain ⟨rfl, rfl⟩ := hp
      refine lv_topi (fun r_9 er_9 => ?_)
      refine lv_if_ne (tgt := 50) G.1 G.2.1 dX1_packEntry_45 (by decide) (fun c_10 => ?_) (fun c_10 => ?_)
      · have h60 : (V 4).2.1 < 60 := Decidable.not_not.mp (fun q => c_10 ((it0 er_9).mpr q))
        have hpk : pkE B S (V 4) bu bb ((V j).1 3 i) = (1, lgPut (lgOpen (V 4) r_7) bb ((V j).1 3 i), mkSeg B bu r_7 S) := by unfold pkE; rw [if_neg hroom, if_neg (fun q => q.elim (fun q1 => c_8 (by rw [er_7]; exact q1)) (fun q2 => q2 h60)), ← er_7]
        refine hb_aload_n G dX1_packEntry_50 hl rfl ?_
        refine hb_get G h.1 rfl inX1 3 (by decide) kf_X1_16 rfl rfl dX1_packEntry_51 ?_
        refine hb_iload G dX1_packEntry_54 hl rfl ?_
        refine hb_callV (As := [.int r_7]) (rest := []) G hml (c_openSegment g l (P 4) (V 4) _ hv4 h4 r_7) (h4.1) rfl km_X1_87 ki_X0_openSegment ks_X0_openSegment kn_X0 ko_X0_openSegment hd_X0_openSegment ⟨Nat.le_of_ble_eq_true rfl, Nat.le_of_ble_eq_true rfl⟩ hl.size rfl (Nat.le_of_ble_eq_true rfl) dX1_packEntry_56 ⟨Nat.le_of_ble_eq_true rfl, Nat.le_of_ble_eq_true rfl⟩ hL (fun q h => fB_mk (by have := h.1; omega) (by have := h.2; omega)) (fun v1 K1 locs1 hp hL => ?_)
        obtain ⟨rfl, hg1, hF1⟩ := hp
        have hk1 := h.lg (by decide) hg1 hF1
        refine hb_aload_n G dX1_packEntry_59 hl rfl ?_
        refine hb_iload G dX1_packEntry_60 hl rfl ?_
        refine hb_callV (As := [.int r_7]) (rest := []) G hml (c_markSegment g l d S (P 4) tc dn wr _ hk1.1 B bu hSB.2.2.2 hSB.2.1 hk1.2.2.1 r_7) (hk1.1) rfl km_X1_181 ki_X1_markSegment ks_X1_markSegment kn_X1 ko_X1_markSegment hd_X1_markSegment ⟨Nat.le_of_ble_eq_true rfl, Nat.le_of_ble_eq_true rfl⟩ hl.size rfl (Nat.le_of_ble_eq_true rfl) dX1_packEntry_62 ⟨Nat.le_of_ble_eq_true rfl, Nat.le_of_ble_eq_true rfl⟩ hL (f1_in (fB_mk (by omega) (by omega))) (fun v1 K2 locs2 hp hL => ?_)
        obtain ⟨rfl, hb2, hF2⟩ := hp
        have hk2 := hk1.ub hb2 hF2
        have hg2 : lgAt g (P 4) (lgOpen (V 4) r_7) K2 := hg1.kept (fun q h1 h2 => hF2.2 q (by omega))
        have hgj2 : lgAt g (P j) (V j) K2 := hgj.kept (fun q h1 h2 => (hF2.2 q (by omega)).trans (hF1.2 q (by omega)))
        refine hb_aload_n G dX1_packEntry_65 hl rfl ?_
        refine hb_get G hk2.1 rfl inX1 3 (by decide) kf_X1_16 rfl rfl dX1_packEntry_66 ?_
        refine hb_iload_n G dX1_packEntry_69 hl rfl ?_
        refine hb_aload_n G dX1_packEntry_70 hl rfl ?_
        refine hb_get G hgj2.1 rfl inX0 4 (by decide) kf_X1_148 rfl rfl dX1_packEntry_71 ?_
        refine hb_iload_n G dX1_packEntry_74 hl rfl ?_
        refine hb_callS (As := [.ref (P j + 4), .int (nI i)]) (rest := [.int r_1, .ref (P 4)]) G hml (c_at g l (P j + 4) 512 ((V j).1 3) (nI i) _ (by decide) (hgj2.2 3 (by decide))) km_X1_138 kt_X1_at kn_X1 ko_X1_at hd_X1_at ⟨Nat.le_of_ble_eq_true rfl, Nat.le_of_ble_eq_true rfl⟩ hl.size rfl (Nat.le_of_ble_eq_true rfl) dX1_packEntry_75 ⟨Nat.le_of_ble_eq_true rfl, Nat.le_of_ble_eq_true rfl⟩ hL (f0_in) (fun v1 K2 locs1 hp hL => ?_)
        obtain ⟨rfl, rfl⟩ := hp
        refine lv_topi (fun r_11 er_11 => ?_)
        have er_11 : r_11 = (V j).1 3 i := by rw [er_11, atV_in (by omega) (by decide)]
        refine hb_callV (As := [.int r_1, .int r_11]) (rest := []) G hml (c_put g l (P 4) (lgOpen (V 4) r_7) _ (lgOpen_ok hv4 _) hg2 r_1 r_11) (hg2.1) rfl km_X1_91 ki_X0_put ks_X0_put kn_X0 ko_X0_put hd_X0_put ⟨Nat.le_of_ble_eq_true rfl, Nat.le_of_ble_eq_true rfl⟩ hl.size rfl (Nat.le_of_ble_eq_true rfl) dX1_packEntry_78 ⟨Nat.le_of_ble_eq_true rfl, Nat.le_of_ble_eq_true rfl⟩ hL (fun q h => fB_mk (by have := h.1; omega) (by have := h.2; omega)) (fun v1 K9 locs9 hp hL => ?_)
        obtain ⟨rfl, hg9, hF9⟩ := hp
        rw [er_1, er_11] at hg9
        refine lv_iconst (v := 1) G.1 G.2.1 dX1_packEntry_81 (by decide) ?_
        have hk9 := hk2.lg (j := 4) (by decide) hg9 hF9
        have e9 : va_up (va_up V 4 (lgOpen (V 4) r_7)) 4 (lgPut (lgOpen (V 4) r_7) bb ((V j).1 3 i)) = va_up V 4 (lgPut (lgOpen (V 4) r_7) bb ((V j).1 3 i)) := bx_uu _ _ _ _
        rw [e9] at hk9
        exact hb_zret G hr hlocks (by decide) ⟨by rw [hpk], by rw [hpk]; exact hk9, (hF1.wide (by omega) (by omega)).tr ((hF2.fr (by omega) (by omega)).tr (hF9.wide (by omega) (by omega)))⟩ hL (Nat.le_refl _) (Nat.le_refl _) dX1_packEntry_82
      · have hpk : pkE B S (V 4) bu bb ((V j).1 3 i) = (0, V 4, bu) := by unfold pkE; rw [if_neg hroom, if_pos (Or.inr ((it0 er_9).mp c_10))]
        refine lv_iconst (v := 0) G.1 G.2.1 dX1_packEntry_48 (by decide) ?_
        exact hb_zret G hr hlocks (by decide) ⟨by rw [hpk], by rw [hpk]; exact h.lg (j := 4) (by decide) h4 Fr.rf, Fr.rf⟩ hL (Nat.le_refl _) (Nat.le_refl _) dX1_packEntry_49
set_option maxHeartbeats 4000000 in
set_option maxRecDepth 100000 in
/-- packThinned -/
theorem c_packThinned (g : Gx) (l : Launch) (d S B : Nat) (P : Nat → Nat) (V : Nat → LV) (bu : Nat → Int32) (tc dn wr : Int32) (H : Heap) (hSB : dkB S B) (hV : ∀ j, j < 5 → lgOk (V j)) (h : dkAt g d S B P V bu tc dn wr H) (j : Nat) (hj : j < 4) (n : Nat) (hn : n ≤ 512) (k : Int32) (hk : 0 < k) : HM g l yX1_packThinned cX1_packThinned 5 (some .boolean) 4 90 0 0 [.ref d, .ref (P j), .int (nI n), .int k] H (fun r H1 => r = some (.int (pkL B S (V j) k n 0 (lgBegin (V j) (V 4)) (mkD B S V 4)).1) ∧ dkAt g d S B P (va_up V 4 (pkL B S (V j) k n 0 (lgBegin (V j) (V 4)) (mkD B S V 4)).2.1) (pkL B S (V j) k n 0 (lgBegin (V j) (V 4)) (mkD B S V 4)).2.2 tc dn wr H1 ∧ Fr d 38 H H1) (fB d 38) := by
  refine HM.ofW (by decide) (Nat.le_of_ble_eq_true rfl) (by simp [Value.category]) ?_
  intro p e s m args below meth c ls G hr hml hlocks hnm hH hl
  have hl : lh ls 5 [some (.ref d), some (.ref (P j)), some (.int (nI n)), some (.int k), none] := hl
  have hL : ∀ q ∈ ([] : List Loc), (fB d 38) q.base := fun q h => by cases h
  have hP4 := h.far (j := 4) (by decide)
  have hPj := h.far (j := j) (by omega)
  have h4 := h.2.2.2.1 4 (by decide)
  have hgj := h.2.2.2.1 j (by omega)
  have hjd := h.2.2.2.2.2 j 4 (by omega) (by decide) (by omega)
  have hv4 := hV 4 (by decide)
  have lp : ∀ (q9 i : Nat) (b : Int32) (u : LV) (bv : Nat → Int32) (K : Heap) (locs : List Loc) (ls : Array Slot), (n + 1 ≤ i + q9) → (i ≤ n) → (b = nI i) → (lgOk u) → (dkAt g d S B P (va_up V 4 u) bv tc dn wr K) → (Fr d 38 H K) → (pkL B S (V j) k n 0 (lgBegin (V j) (V 4)) (mkD B S V 4) = pkL B S (V j) k (n - i) i u bv) → (∀ q ∈ locs, (fB d 38) q.base) → lh ls 5 [some (.ref d), some (.ref (P j)), some (.int (nI n)), some (.int k), some (.int b)] → W p l e ({ frames := 4, cells := 0, slots := 0, locals := 90 } : Room) s m args below meth c K locs 0 0 (hQ below args s (fun r H1 => r = some (.int (pkL B S (V j) k n 0 (lgBegin (V j) (V 4)) (mkD B S V 4)).1) ∧ dkAt g d S B P (va_up V 4 (pkL B S (V j) k n 0 (lgBegin (V j) (V 4)) (mkD B S V 4)).2.1) (pkL B S (V j) k n 0 (lgBegin (V j) (V 4)) (mkD B S V 4)).2.2 tc dn wr H1 ∧ Fr d 38 H H1) 0 0 (fB d 38)) (F0 m 15 ls []) := by
    intro q9
    induction q9 with
    | zero =>
      intro i b u bv K locs ls hd9 hi eb hu hK hF hI hL hl
      exfalso; omega
    | succ q9 ih =>
      intro i b u bv K locs ls hd9 hi eb hu hK hF hI hL hl
      refine hb_iload G dX1_packThinned_15 hl rfl ?_
      refine hb_iload_n G dX1_packThinned_17 hl rfl ?_
      refine lv_icmp_ge (tgt := 48) G.1 G.2.1 dX1_packThinned_18 (by decide) (fun c_1 => ?_) (fun c_1 => ?_)
      · have hi2 : i = n := by have := (ic_le rfl eb (by omega) (by omega)).mp c_1; omega
        have hpk : pkL B S (V j) k n 0 (lgBegin (V j) (V 4)) (mkD B S V 4) = (1, u, bv) := by rw [hI, show n - i = 0 by omega]; rfl
        refine lv_iconst (v := 1) G.1 G.2.1 dX1_packThinned_48 (by decide) ?_
        exact hb_zret G hr hlocks (by decide) ⟨by rw [hpk], by rw [hpk]; exact hK, hF⟩ hL (Nat.le_refl _) (Nat.le_refl _) dX1_packThinned_49
      · have hi2 : i < n := by have := mt (ic_le rfl eb (by omega) (by omega)).mpr c_1; omega
        subst eb
        have hs9 : pkL B S (V j) k (n - i) i u bv = if nI i - nI i / k * k = 0 then pkL B S (V j) k (n - (i + 1)) (i + 1) u bv else if (pkE B S u bv ((V j).1 2 i) ((V j).1 3 i)).1 = 0 then pkE B S u bv ((V j).1 2 i) ((V j).1 3 i) else pkL B S (V j) k (n - (i + 1)) (i + 1) (pkE B S u bv ((V j).1 2 i) ((V j).1 3 i)).2.1 (pkE B S u bv ((V j).1 2 i) ((V j).1 3 i)).2.2 := by rw [show n - i = (n - (i + 1)) + 1 by omega]; rfl
        refine hb_iload G dX1_packThinned_21 hl rfl ?_
        refine hb_iload_n G dX1_packThinned_23 hl rfl ?_
        refine hb_callS (As := [.int (nI i), .int k]) (rest := []) G hml (c_goes g l (nI i) k _ hk) km_X1_168 kt_X1_goes kn_X1 ko_X1_goes hd_X1_goes ⟨Nat.le_of_ble_eq_true rfl, Nat.le_of_ble_eq_true rfl⟩ hl.size rfl (Nat.le_of_ble_eq_true rfl) dX1_packThinned_24 ⟨Nat.le_of_ble_eq_true rfl, Nat.le_of_ble_eq_true rfl⟩ hL (f0_in) (fun v1 K locs hp hL => ?_)
        obtain ⟨rfl, rfl⟩ := hp
        refine lv_topi (fun r_2 er_2 => ?_)
        refine lv_if_ne (tgt := 42) G.1 G.2.1 dX1_packThinned_27 (by decide) (fun c_3 => ?_) (fun c_3 => ?_)
        · have hgo : nI i - nI i / k * k = 0 := Decidable.not_not.mp (fun q => c_3 ((it0 er_2).mpr q))
          obtain ⟨t_4, et_4⟩ : ∃ z : Int32, z = (nI i) + 1 := ⟨_, rfl⟩
          refine hb_iinc (v := t_4) G dX1_packThinned_42 hl rfl (by rw [et_4]; rfl) (by decide) (fun ls hl => ?_)
          have hl : lh ls 5 [some (.ref d), some (.ref (P j)), some (.int (nI n)), some (.int k), some (.int t_4)] := hl
          refine lv_goto (tgt := 15) G.1 G.2.1 dX1_packThinned_45 (by decide) ?_
          exact ih (i + 1) t_4 u bv K locs ls (by omega) (by omega) (by rw [et_4]; exact nI_1 i) hu hK hF (by rw [hI, hs9, if_pos hgo]) hL hl
        · have hgo := (it0 er_2).mp c_3
          have hVu : ∀ m9, m9 < 5 → lgOk (va_up V 4 u m9) := fun m9 hm => by
            by_cases h9 : m9 = 4
            · subst h9; rw [va_up_self]; exact hu
            · rw [va_up_ne _ _ h9]; exact hV m9 hm
          refine hb_aload_n G dX1_packThinned_30 hl rfl ?_
          refine hb_aload_n G dX1_packThinned_31 hl rfl ?_
          refine hb_iload G dX1_packThinned_32 hl rfl ?_
          have ej : va_up V 4 u j = V j := va_up_ne _ _ (by omega)
          have e4 : va_up V 4 u 4 = u := va_up_self _ _ _
          have hcE := c_packEntry g l d S B P (va_up V 4 u) bv tc dn wr K hSB hVu hK j hj i (by omega)
          rw [ej, e4] at hcE
          refine hb_callV (As := [.ref (P j), .int (nI i)]) (rest := []) G hml (hcE) (hK.1) rfl km_X1_171 ki_X1_packEntry ks_X1_packEntry kn_X1 ko_X1_packEntry hd_X1_packEntry ⟨Nat.le_of_ble_eq_true rfl, Nat.le_of_ble_eq_true rfl⟩ hl.size rfl (Nat.le_of_ble_eq_true rfl) dX1_packThinned_34 ⟨Nat.le_of_ble_eq_true rfl, Nat.le_of_ble_eq_true rfl⟩ hL (fun q h => h) (fun v1 K1 locs1 hp hL => ?_)
          obtain ⟨rfl, hK1, hF1⟩ := hp
          rw [bx_uu] at hK1
          refine lv_topi (fun r_5 er_5 => ?_)
          refine lv_if_ne (tgt := 42) G.1 G.2.1 dX1_packThinned_37 (by decide) (fun c_6 => ?_) (fun c_6 => ?_)
          · have hne : ¬ (pkE B S u bv ((V j).1 2 i) ((V j).1 3 i)).1 = 0 := by rw [← er_5]; exact c_6
            obtain ⟨t_7, et_7⟩ : ∃ z : Int32, z = (nI i) + 1 := ⟨_, rfl⟩
            refine hb_iinc (v := t_7) G dX1_packThinned_42 hl rfl (by rw [et_7]; rfl) (by decide) (fun ls hl => ?_)
            have hl : lh ls 5 [some (.ref d), some (.ref (P j)), some (.int (nI n)), some (.int k), some (.int t_7)] := hl
            refine lv_goto (tgt := 15) G.1 G.2.1 dX1_packThinned_45 (by decide) ?_
            exact ih (i + 1) t_7 _ _ K1 locs1 ls (by omega) (by omega) (by rw [et_7]; exact nI_1 i) (pkE_ok hu) hK1 (hF.tr hF1) (by rw [hI, hs9, if_neg hgo, if_neg hne]) hL hl
          · have he0 : (pkE B S u bv ((V j).1 2 i) ((V j).1 3 i)).1 = 0 := by rw [← er_5]; exact c_6
            have hpk : pkL B S (V j) k n 0 (lgBegin (V j) (V 4)) (mkD B S V 4) = pkE B S u bv ((V j).1 2 i) ((V j).1 3 i) := by rw [hI, hs9, if_neg hgo, if_pos he0]
            refine lv_iconst (v := 0) G.1 G.2.1 dX1_packThinned_40 (by decide) ?_
            exact hb_zret G hr hlocks (by decide) ⟨by rw [hpk, he0], by rw [hpk]; exact hK1, hF.tr hF1⟩ hL (Nat.le_refl _) (Nat.le_refl _) dX1_packThinned_41
  refine hb_aload_n G dX1_packThinned_0 hl rfl ?_
  refine hb_get G h.1 rfl inX1 3 (by decide) kf_X1_16 rfl rfl dX1_packThinned_1 ?_
  refine hb_aload_n G dX1_packThinned_4 hl rfl ?_
  refine hb_callV (As := [.ref (P j)]) (rest := []) G hml (c_beginAs g l (P 4) (V 4) _ h4 (P j) (V j) hgj hjd) (h4.1) rfl km_X1_105 ki_X0_beginAs ks_X0_beginAs kn_X0 ko_X0_beginAs hd_X0_beginAs ⟨Nat.le_of_ble_eq_true rfl, Nat.le_of_ble_eq_true rfl⟩ hl.size rfl (Nat.le_of_ble_eq_true rfl) dX1_packThinned_5 ⟨Nat.le_of_ble_eq_true rfl, Nat.le_of_ble_eq_true rfl⟩ hL (fun q h => fB_mk (by have := h.1; omega) (by have := h.2; omega)) (fun v1 K1 locs1 hp hL => ?_)
  obtain ⟨rfl, hg1, hF1⟩ := hp
  have hk1 := h.lg (by decide) hg1 hF1
  have hb0 : lgOk (lgBegin (V j) (V 4)) := ⟨Nat.zero_le _, Nat.zero_le _⟩
  have hV1 : ∀ m9, m9 < 5 → lgOk (va_up V 4 (lgBegin (V j) (V 4)) m9) := fun m9 hm => by
    by_cases h9 : m9 = 4
    · subst h9; rw [va_up_self]; exact hb0
    · rw [va_up_ne _ _ h9]; exact hV m9 hm
  have eD : mkD B S (va_up V 4 (lgBegin (V j) (V 4))) 4 = mkD B S V 4 := rfl
  refine hb_aload_n G dX1_packThinned_8 hl rfl ?_
  refine hb_callV (As := []) (rest := []) G hml (c_markBlockUse g l d S B P _ bu tc dn wr _ hSB hV1 hk1) (hk1.1) rfl km_X1_151 ki_X1_markBlockUse ks_X1_markBlockUse kn_X1 ko_X1_markBlockUse hd_X1_markBlockUse ⟨Nat.le_of_ble_eq_true rfl, Nat.le_of_ble_eq_true rfl⟩ hl.size rfl (Nat.le_of_ble_eq_true rfl) dX1_packThinned_9 ⟨Nat.le_of_ble_eq_true rfl, Nat.le_of_ble_eq_true rfl⟩ hL (f1_in (fB_mk (by omega) (by omega))) (fun v1 K2 locs2 hp hL => ?_)
  obtain ⟨rfl, hb2, hF2⟩ := hp
  rw [eD] at hb2
  have hk2 := hk1.ub hb2 hF2
  refine lv_iconst (v := 0) G.1 G.2.1 dX1_packThinned_12 (by decide) ?_
  refine hb_istore G dX1_packThinned_13 hl (by decide) (fun ls hl => ?_)
  have hl : lh ls 5 [some (.ref d), some (.ref (P j)), some (.int (nI n)), some (.int k), some (.int 0)] := hl
  exact lp (n + 1) 0 0 _ _ K2 locs2 ls (by omega) (by omega) rfl hb0 hk2 ((hF1.wide (by omega) (by omega)).tr (hF2.fr (by omega) (by omega))) rfl hL hl
