theorem fB_mk {x k q : Nat} (h1 : x ≤ q) (h2 : q < x + k) : fB x k q := ⟨h1, h2⟩
theorem it0 {P : Prop} [Decidable P] {r : Int32} (e : r = if P then 1 else 0) : r = 0 ↔ ¬ P := by
  by_cases h : P
  · rw [e, if_pos h]; simp [h]
  · rw [e, if_neg h]; simp [h]
def lgOpen (v : LV) (z : Int32) : LV := if v.2.1 < 60 then (va_up (va_up v.1 0 (upd (v.1 0) v.2.1 z)) 1 (upd (v.1 1) v.2.1 0), v.2.1 + 1, v.2.2) else v
def lgPut (v : LV) (b z : Int32) : LV := if 0 < v.2.1 ∧ v.2.2.1 < 512 then (va_up (va_up (va_up (va_up (va_up v.1 2 (upd (v.1 2) v.2.2.1 b)) 3 (upd (v.1 3) v.2.2.1 z)) 4 (upd (v.1 4) v.2.2.1 (nI (v.2.1 - 1)))) 5 (upd (v.1 5) v.2.2.1 (lgOB v))) 1 (upd (v.1 1) (v.2.1 - 1) (lgOB v + b + 4)), v.2.1, v.2.2.1 + 1, v.2.2.2) else v
theorem lgOpen_ok {v : LV} (h : lgOk v) (z : Int32) : lgOk (lgOpen v z) := by
  unfold lgOpen
  by_cases h1 : v.2.1 < 60
  · rw [if_pos h1]; exact ⟨by show v.2.1 + 1 ≤ 60; omega, h.2⟩
  · rw [if_neg h1]; exact h
theorem lgPut_ok {v : LV} (h : lgOk v) (b z : Int32) : lgOk (lgPut v b z) := by
  unfold lgPut
  by_cases h1 : 0 < v.2.1 ∧ v.2.2.1 < 512
  · rw [if_pos h1]; exact ⟨h.1, by show v.2.2.1 + 1 ≤ 512; omega⟩
  · rw [if_neg h1]; exact h
set_option maxHeartbeats 4000000 in
set_option maxRecDepth 100000 in
/-- openSegment -/
theorem c_openSegment (g : Gx) (l : Launch) (x : Nat) (v : LV) (H : Heap) (hv : lgOk v) (hg : lgAt g x v H) (z : Int32) : HM g l yX0_openSegment cX0_openSegment 2 none 1 22 0 0 [.ref x, .int z] H (fun r H1 => r = none ∧ lgAt g x (lgOpen v z) H1 ∧ Fr x 7 H H1) (fB x 7) := by
  refine HM.ofW (by decide) (Nat.le_of_ble_eq_true rfl) (by simp [Value.category]) ?_
  intro p e s m args below meth c ls G hr hml hlocks hnm hH hl
  have hl : lh ls 2 [some (.ref x), some (.int z)] := hl
  have hL : ∀ q ∈ ([] : List Loc), fB x 7 q.base := fun q h => by cases h
  refine hb_aload_n G dX0_openSegment_0 hl rfl ?_
  refine hb_callV (As := []) (rest := []) G hml (c_canOpenMore g l x v H hv hg) (hg.1) rfl km_X0_48 ki_X0_canOpenMore ks_X0_canOpenMore kn_X0 ko_X0_canOpenMore hd_X0_canOpenMore ⟨Nat.le_of_ble_eq_true rfl, Nat.le_of_ble_eq_true rfl⟩ hl.size rfl (Nat.le_of_ble_eq_true rfl) dX0_openSegment_1 ⟨Nat.le_of_ble_eq_true rfl, Nat.le_of_ble_eq_true rfl⟩ hL (f0_in) (fun v1 H1 locs1 hp hL => ?_)
  obtain ⟨rfl, rfl⟩ := hp
  refine lv_topi (fun r_1 er_1 => ?_)
  refine lv_if_eq (tgt := 41) G.1 G.2.1 dX0_openSegment_4 (by decide) (fun c_2 => ?_) (fun c_2 => ?_)
  · exact hb_vret G hr hlocks ⟨rfl, by unfold lgOpen; rw [if_neg ((it0 er_1).mp c_2)]; exact hg, Fr.rf⟩ hL (Nat.le_refl _) (Nat.le_refl _) dX0_openSegment_41
  · have h60 : v.2.1 < 60 := Decidable.not_not.mp (fun q => c_2 ((it0 er_1).mpr q))
    refine hb_aload_n G dX0_openSegment_7 hl rfl ?_
    refine hb_get G hg.1 rfl inX0 0 (by decide) kf_X0_9 rfl rfl dX0_openSegment_8 ?_
    refine hb_aload_n G dX0_openSegment_11 hl rfl ?_
    refine hb_get G hg.1 rfl inX0 2 (by decide) kf_X0_18 rfl rfl dX0_openSegment_12 ?_
    refine hb_iload_n G dX0_openSegment_15 hl rfl ?_
    refine hb_callSN (As := [.ref (x + 1), .int (nI v.2.1), .int z]) (rest := []) G hml (c_set g l (x + 1) 60 (v.1 0) (nI v.2.1) z _ (by decide) (hg.2 0 (by decide))) G.2.2.2.2.2.2.2.1 kt_X1_set kn_X1 ko_X1_set hd_X1_set ⟨Nat.le_of_ble_eq_true rfl, Nat.le_of_ble_eq_true rfl⟩ hl.size rfl (Nat.le_of_ble_eq_true rfl) dX0_openSegment_16 ⟨Nat.le_of_ble_eq_true rfl, Nat.le_of_ble_eq_true rfl⟩ hL (f1_in (fB_mk (by omega) (by omega))) (fun v1 H1 locs1 hp hL => ?_)
    obtain ⟨rfl, ha, hz1, ho1⟩ := hp
    rw [setV_in h60 (by decide)] at ha
    have hg1 := hg.up 0 ha ho1
    refine hb_aload_n G dX0_openSegment_19 hl rfl ?_
    refine hb_get G hg1.1 rfl inX0 1 (by decide) kf_X0_15 rfl rfl dX0_openSegment_20 ?_
    refine hb_aload_n G dX0_openSegment_23 hl rfl ?_
    refine hb_get G hg1.1 rfl inX0 2 (by decide) kf_X0_18 rfl rfl dX0_openSegment_24 ?_
    refine lv_iconst (v := 0) G.1 G.2.1 dX0_openSegment_27 (by decide) ?_
    refine hb_callSN (As := [.ref (x + 2), .int (nI v.2.1), .int 0]) (rest := []) G hml (c_set g l (x + 2) 60 (v.1 1) (nI v.2.1) 0 _ (by decide) (hg1.2 1 (by decide))) G.2.2.2.2.2.2.2.1 kt_X1_set kn_X1 ko_X1_set hd_X1_set ⟨Nat.le_of_ble_eq_true rfl, Nat.le_of_ble_eq_true rfl⟩ hl.size rfl (Nat.le_of_ble_eq_true rfl) dX0_openSegment_28 ⟨Nat.le_of_ble_eq_true rfl, Nat.le_of_ble_eq_true rfl⟩ hL (f1_in (fB_mk (by omega) (by omega))) (fun v1 H2 locs2 hp hL => ?_)
    obtain ⟨rfl, ha, hz2, ho2⟩ := hp
    rw [setV_in h60 (by decide)] at ha
    have hg2 := hg1.up 1 ha ho2
    refine hb_aload_n G dX0_openSegment_31 hl rfl ?_
    refine lv_dup G.1 G.2.1 dX0_openSegment_32 rfl ?_
    refine hb_get G hg2.1 rfl inX0 2 (by decide) kf_X0_18 rfl rfl dX0_openSegment_33 ?_
    refine lv_iconst (v := 1) G.1 G.2.1 dX0_openSegment_36 (by decide) ?_
    refine lv_iadd G.1 G.2.1 dX0_openSegment_37 ?_
    refine lv_topi (fun t_3 et_3 => ?_)
    refine hb_put G hg2.1 rfl inX0 tyX0 tyX0_ok nmX0 2 (by decide) kf_X0_18 rfl rfl rfl rfl (Nat.le_of_ble_eq_true rfl) hL (fB_mk (by omega) (by omega)) dX0_openSegment_38 (fun H3 locs3 hf hz3 ho3 hL => ?_)
    have h9 : nI v.2.1 + 1 = nI (v.2.1 + 1) := nI_1 _
    rw [et_3, h9] at hf
    exact hb_vret G hr hlocks ⟨rfl, by unfold lgOpen; rw [if_pos h60]; exact lgAt.fd hg2 rfl hf ho3, (Fr.one hz1 ho1 (by omega) (by omega)).tr ((Fr.one hz2 ho2 (by omega) (by omega)).tr (Fr.one hz3 ho3 (by omega) (by omega)))⟩ hL (Nat.le_refl _) (Nat.le_refl _) dX0_openSegment_41
set_option maxHeartbeats 4000000 in
set_option maxRecDepth 100000 in
/-- put -/
theorem c_put (g : Gx) (l : Launch) (x : Nat) (v : LV) (H : Heap) (hv : lgOk v) (hg : lgAt g x v H) (b z : Int32) : HM g l yX0_put cX0_put 3 none 2 41 0 0 [.ref x, .int b, .int z] H (fun r H1 => r = none ∧ lgAt g x (lgPut v b z) H1 ∧ Fr x 7 H H1) (fB x 7) := by
  refine HM.ofW (by decide) (Nat.le_of_ble_eq_true rfl) (by simp [Value.category]) ?_
  intro p e s m args below meth c ls G hr hml hlocks hnm hH hl
  have hl : lh ls 3 [some (.ref x), some (.int b), some (.int z)] := hl
  have hL : ∀ q ∈ ([] : List Loc), fB x 7 q.base := fun q h => by cases h
  have hv1 := hv.1
  refine hb_aload_n G dX0_put_0 hl rfl ?_
  refine hb_get G hg.1 rfl inX0 2 (by decide) kf_X0_18 rfl rfl dX0_put_1 ?_
  refine lv_if_le (tgt := 101) G.1 G.2.1 dX0_put_4 (by decide) (fun c_1 => ?_) (fun c_1 => ?_)
  · exact hb_vret G hr hlocks ⟨rfl, by unfold lgPut; rw [if_neg (fun q => by have := (ic_le (a := v.2.1) (b := 0) rfl rfl (by omega) (by omega)).mp c_1; omega)]; exact hg, Fr.rf⟩ hL (Nat.le_refl _) (Nat.le_refl _) dX0_put_101
  · have h0 : 0 < v.2.1 := by have := mt (ic_le (a := v.2.1) (b := 0) rfl rfl (by omega) (by omega)).mpr c_1; omega
    refine hb_aload_n G dX0_put_7 hl rfl ?_
    refine hb_callV (As := []) (rest := []) G hml (c_canHoldMore g l x v H hv hg) (hg.1) rfl km_X0_56 ki_X0_canHoldMore ks_X0_canHoldMore kn_X0 ko_X0_canHoldMore hd_X0_canHoldMore ⟨Nat.le_of_ble_eq_true rfl, Nat.le_of_ble_eq_true rfl⟩ hl.size rfl (Nat.le_of_ble_eq_true rfl) dX0_put_8 ⟨Nat.le_of_ble_eq_true rfl, Nat.le_of_ble_eq_true rfl⟩ hL (f0_in) (fun v1 H1 locs1 hp hL => ?_)
    obtain ⟨rfl, rfl⟩ := hp
    refine lv_topi (fun r_2 er_2 => ?_)
    refine lv_if_eq (tgt := 101) G.1 G.2.1 dX0_put_11 (by decide) (fun c_3 => ?_) (fun c_3 => ?_)
    · exact hb_vret G hr hlocks ⟨rfl, by unfold lgPut; rw [if_neg (fun q => (it0 er_2).mp c_3 q.2)]; exact hg, Fr.rf⟩ hL (Nat.le_refl _) (Nat.le_refl _) dX0_put_101
    · have h5 : v.2.2.1 < 512 := Decidable.not_not.mp (fun q => c_3 ((it0 er_2).mpr q))
      refine hb_aload_n G dX0_put_14 hl rfl ?_
      refine hb_get G hg.1 rfl inX0 3 (by decide) kf_X0_22 rfl rfl dX0_put_15 ?_
      refine hb_aload_n G dX0_put_18 hl rfl ?_
      refine hb_get G hg.1 rfl inX0 7 (by decide) kf_X0_34 rfl rfl dX0_put_19 ?_
      refine hb_iload_n G dX0_put_22 hl rfl ?_
      refine hb_callSN (As := [.ref (x + 3), .int (nI v.2.2.1), .int b]) (rest := []) G hml (c_set g l (x + 3) 512 (v.1 2) (nI v.2.2.1) b _ (by decide) (hg.2 2 (by decide))) G.2.2.2.2.2.2.2.1 kt_X1_set kn_X1 ko_X1_set hd_X1_set ⟨Nat.le_of_ble_eq_true rfl, Nat.le_of_ble_eq_true rfl⟩ hl.size rfl (Nat.le_of_ble_eq_true rfl) dX0_put_23 ⟨Nat.le_of_ble_eq_true rfl, Nat.le_of_ble_eq_true rfl⟩ hL (f1_in (fB_mk (by omega) (by omega))) (fun v1 H0 locs0 hp hL => ?_)
      obtain ⟨rfl, ha, hz0, ho0⟩ := hp
      rw [setV_in h5 (by decide)] at ha
      have hg0 := hg.up 2 ha ho0
      refine hb_aload_n G dX0_put_26 hl rfl ?_
      refine hb_get G hg0.1 rfl inX0 4 (by decide) kf_X0_25 rfl rfl dX0_put_27 ?_
      refine hb_aload_n G dX0_put_30 hl rfl ?_
      refine hb_get G hg0.1 rfl inX0 7 (by decide) kf_X0_34 rfl rfl dX0_put_31 ?_
      refine hb_iload_n G dX0_put_34 hl rfl ?_
      refine hb_callSN (As := [.ref (x + 4), .int (nI v.2.2.1), .int z]) (rest := []) G hml (c_set g l (x + 4) 512 (v.1 3) (nI v.2.2.1) z _ (by decide) (hg0.2 3 (by decide))) G.2.2.2.2.2.2.2.1 kt_X1_set kn_X1 ko_X1_set hd_X1_set ⟨Nat.le_of_ble_eq_true rfl, Nat.le_of_ble_eq_true rfl⟩ hl.size rfl (Nat.le_of_ble_eq_true rfl) dX0_put_35 ⟨Nat.le_of_ble_eq_true rfl, Nat.le_of_ble_eq_true rfl⟩ hL (f1_in (fB_mk (by omega) (by omega))) (fun v1 H1 locs1 hp hL => ?_)
      obtain ⟨rfl, ha, hz1, ho1⟩ := hp
      rw [setV_in h5 (by decide)] at ha
      have hg1 := hg0.up 3 ha ho1
      refine hb_aload_n G dX0_put_38 hl rfl ?_
      refine hb_get G hg1.1 rfl inX0 5 (by decide) kf_X0_28 rfl rfl dX0_put_39 ?_
      refine hb_aload_n G dX0_put_42 hl rfl ?_
      refine hb_get G hg1.1 rfl inX0 7 (by decide) kf_X0_34 rfl rfl dX0_put_43 ?_
      refine hb_aload_n G dX0_put_46 hl rfl ?_
      refine hb_get G hg1.1 rfl inX0 2 (by decide) kf_X0_18 rfl rfl dX0_put_47 ?_
      refine lv_iconst (v := 1) G.1 G.2.1 dX0_put_50 (by decide) ?_
      refine lv_isub G.1 G.2.1 dX0_put_51 ?_
      refine lv_topi (fun t_4 et_4 => ?_)
      refine hb_callSN (As := [.ref (x + 5), .int (nI v.2.2.1), .int t_4]) (rest := []) G hml (c_set g l (x + 5) 512 (v.1 4) (nI v.2.2.1) t_4 _ (by decide) (hg1.2 4 (by decide))) G.2.2.2.2.2.2.2.1 kt_X1_set kn_X1 ko_X1_set hd_X1_set ⟨Nat.le_of_ble_eq_true rfl, Nat.le_of_ble_eq_true rfl⟩ hl.size rfl (Nat.le_of_ble_eq_true rfl) dX0_put_52 ⟨Nat.le_of_ble_eq_true rfl, Nat.le_of_ble_eq_true rfl⟩ hL (f1_in (fB_mk (by omega) (by omega))) (fun v1 H2 locs2 hp hL => ?_)
      obtain ⟨rfl, ha, hz2, ho2⟩ := hp
      rw [setV_in h5 (by decide)] at ha
      rw [et_4, nI_m1 h0] at ha
      have hg2 := hg1.up 4 ha ho2
      refine hb_aload_n G dX0_put_55 hl rfl ?_
      refine hb_get G hg2.1 rfl inX0 6 (by decide) kf_X0_31 rfl rfl dX0_put_56 ?_
      refine hb_aload_n G dX0_put_59 hl rfl ?_
      refine hb_get G hg2.1 rfl inX0 7 (by decide) kf_X0_34 rfl rfl dX0_put_60 ?_
      refine hb_aload_n G dX0_put_63 hl rfl ?_
      refine hb_callV (As := []) (rest := [.int (nI v.2.2.1), .ref (x + 6)]) G hml (c_openBytes g l x _ _ (by exact hv) hg2) (hg2.1) rfl km_X0_44 ki_X0_openBytes ks_X0_openBytes kn_X0 ko_X0_openBytes hd_X0_openBytes ⟨Nat.le_of_ble_eq_true rfl, Nat.le_of_ble_eq_true rfl⟩ hl.size rfl (Nat.le_of_ble_eq_true rfl) dX0_put_64 ⟨Nat.le_of_ble_eq_true rfl, Nat.le_of_ble_eq_true rfl⟩ hL (f0_in) (fun v1 H9 locs9 hp hL => ?_)
      obtain ⟨rfl, rfl⟩ := hp
      refine lv_topi (fun r_5 er_5 => ?_)
      have er_5 : r_5 = lgOB v := er_5
      refine hb_callSN (As := [.ref (x + 6), .int (nI v.2.2.1), .int r_5]) (rest := []) G hml (c_set g l (x + 6) 512 (v.1 5) (nI v.2.2.1) r_5 _ (by decide) (hg2.2 5 (by decide))) G.2.2.2.2.2.2.2.1 kt_X1_set kn_X1 ko_X1_set hd_X1_set ⟨Nat.le_of_ble_eq_true rfl, Nat.le_of_ble_eq_true rfl⟩ hl.size rfl (Nat.le_of_ble_eq_true rfl) dX0_put_67 ⟨Nat.le_of_ble_eq_true rfl, Nat.le_of_ble_eq_true rfl⟩ hL (f1_in (fB_mk (by omega) (by omega))) (fun v1 H3 locs3 hp hL => ?_)
      obtain ⟨rfl, ha, hz3, ho3⟩ := hp
      rw [setV_in h5 (by decide)] at ha
      rw [er_5] at ha
      have hg3 := hg2.up 5 ha ho3
      refine hb_aload_n G dX0_put_70 hl rfl ?_
      refine lv_dup G.1 G.2.1 dX0_put_71 rfl ?_
      refine hb_get G hg3.1 rfl inX0 7 (by decide) kf_X0_34 rfl rfl dX0_put_72 ?_
      refine lv_iconst (v := 1) G.1 G.2.1 dX0_put_75 (by decide) ?_
      refine lv_iadd G.1 G.2.1 dX0_put_76 ?_
      refine lv_topi (fun t_6 et_6 => ?_)
      refine hb_put G hg3.1 rfl inX0 tyX0 tyX0_ok nmX0 7 (by decide) kf_X0_34 rfl rfl rfl rfl (Nat.le_of_ble_eq_true rfl) hL (fB_mk (by omega) (by omega)) dX0_put_77 (fun H4 locs4 hf hz4 ho4 hL => ?_)
      have h9 : nI v.2.2.1 + 1 = nI (v.2.2.1 + 1) := nI_1 _
      rw [et_6, h9] at hf
      have hg4 := lgAt.fd (w := (_, v.2.1, v.2.2.1 + 1, v.2.2.2)) hg3 rfl hf ho4
      refine hb_aload_n G dX0_put_80 hl rfl ?_
      refine hb_get G hg4.1 rfl inX0 1 (by decide) kf_X0_15 rfl rfl dX0_put_81 ?_
      refine hb_aload_n G dX0_put_84 hl rfl ?_
      refine hb_get G hg4.1 rfl inX0 2 (by decide) kf_X0_18 rfl rfl dX0_put_85 ?_
      refine lv_iconst (v := 1) G.1 G.2.1 dX0_put_88 (by decide) ?_
      refine lv_isub G.1 G.2.1 dX0_put_89 ?_
      refine lv_topi (fun t_7 et_7 => ?_)
      refine hb_aload_n G dX0_put_90 hl rfl ?_
      refine hb_callV (As := []) (rest := [.int t_7, .ref (x + 2)]) G hml (c_openBytes g l x _ _ (by exact ⟨hv.1, h5⟩) hg4) (hg4.1) rfl km_X0_44 ki_X0_openBytes ks_X0_openBytes kn_X0 ko_X0_openBytes hd_X0_openBytes ⟨Nat.le_of_ble_eq_true rfl, Nat.le_of_ble_eq_true rfl⟩ hl.size rfl (Nat.le_of_ble_eq_true rfl) dX0_put_91 ⟨Nat.le_of_ble_eq_true rfl, Nat.le_of_ble_eq_true rfl⟩ hL (f0_in) (fun v1 H9 locs9 hp hL => ?_)
      obtain ⟨rfl, rfl⟩ := hp
      refine lv_topi (fun r_8 er_8 => ?_)
      have er_8 : r_8 = lgOB v := er_8
      refine hb_iload_n G dX0_put_94 hl rfl ?_
      refine lv_iadd G.1 G.2.1 dX0_put_95 ?_
      refine lv_topi (fun t_9 et_9 => ?_)
      refine lv_iconst (v := 4) G.1 G.2.1 dX0_put_96 (by decide) ?_
      refine lv_iadd G.1 G.2.1 dX0_put_97 ?_
      refine lv_topi (fun t_10 et_10 => ?_)
      rw [nI_m1 h0] at et_7
      refine hb_callSN (As := [.ref (x + 2), .int t_7, .int t_10]) (rest := []) G hml (c_set g l (x + 2) 60 (v.1 1) t_7 t_10 _ (by decide) (hg4.2 1 (by decide))) G.2.2.2.2.2.2.2.1 kt_X1_set kn_X1 ko_X1_set hd_X1_set ⟨Nat.le_of_ble_eq_true rfl, Nat.le_of_ble_eq_true rfl⟩ hl.size rfl (Nat.le_of_ble_eq_true rfl) dX0_put_98 ⟨Nat.le_of_ble_eq_true rfl, Nat.le_of_ble_eq_true rfl⟩ hL (f1_in (fB_mk (by omega) (by omega))) (fun v1 H5 locs5 hp hL => ?_)
      obtain ⟨rfl, ha, hz5, ho5⟩ := hp
      rw [et_7, setV_in (by omega) (by decide)] at ha
      have hg5 := hg4.up 1 ha ho5
      have hval : t_10 = lgOB v + b + 4 := by rw [et_10, et_9, er_8]
      rw [hval] at hg5
      exact hb_vret G hr hlocks ⟨rfl, by unfold lgPut; rw [if_pos ⟨h0, h5⟩]; exact hg5, ((Fr.one hz0 ho0 (by omega) (by omega)).tr ((Fr.one hz1 ho1 (by omega) (by omega)).tr ((Fr.one hz2 ho2 (by omega) (by omega)).tr ((Fr.one hz3 ho3 (by omega) (by omega)).tr ((Fr.one hz4 ho4 (by omega) (by omega)).tr (Fr.one hz5 ho5 (by omega) (by omega)))))))⟩ hL (Nat.le_refl _) (Nat.le_refl _) dX0_put_101
def lgBegin (u : LV) (v : LV) : LV := (v.1, 0, 0, u.2.2.2)
set_option maxHeartbeats 4000000 in
set_option maxRecDepth 100000 in
/-- beginAs -/
theorem c_beginAs (g : Gx) (l : Launch) (x : Nat) (v : LV) (H : Heap) (hg : lgAt g x v H) (y : Nat) (u : LV) (hu : lgAt g y u H) (hxy : y + 7 ≤ x ∨ x + 7 ≤ y) : HM g l yX0_beginAs cX0_beginAs 2 none 0 0 0 0 [.ref x, .ref y] H (fun r H1 => r = none ∧ lgAt g x (lgBegin u v) H1 ∧ Fr x 7 H H1) (fB x 7) := by
  refine HM.ofW (by decide) (Nat.le_of_ble_eq_true rfl) (by simp [Value.category]) ?_
  intro p e s m args below meth c ls G hr hml hlocks hnm hH hl
  have hl : lh ls 2 [some (.ref x), some (.ref y)] := hl
  have hL : ∀ q ∈ ([] : List Loc), fB x 7 q.base := fun q h => by cases h
  refine hb_aload_n G dX0_beginAs_0 hl rfl ?_
  refine lv_iconst (v := 0) G.1 G.2.1 dX0_beginAs_1 (by decide) ?_
  refine hb_put G hg.1 rfl inX0 tyX0 tyX0_ok nmX0 2 (by decide) kf_X0_18 rfl rfl rfl rfl (Nat.le_of_ble_eq_true rfl) hL (fB_mk (by omega) (by omega)) dX0_beginAs_2 (fun H1 locs1 hf hz1 ho1 hL => ?_)
  have hg1 := lgAt.fd (w := (v.1, 0, v.2.2)) hg rfl hf ho1
  have hu1 := hu.kept (fun q h1 h2 => ho1 q (by omega))
  refine hb_aload_n G dX0_beginAs_5 hl rfl ?_
  refine lv_iconst (v := 0) G.1 G.2.1 dX0_beginAs_6 (by decide) ?_
  refine hb_put G hg1.1 rfl inX0 tyX0 tyX0_ok nmX0 7 (by decide) kf_X0_34 rfl rfl rfl rfl (Nat.le_of_ble_eq_true rfl) hL (fB_mk (by omega) (by omega)) dX0_beginAs_7 (fun H2 locs2 hf hz2 ho2 hL => ?_)
  have hg2 := lgAt.fd (w := (v.1, 0, 0, v.2.2.2)) hg1 rfl hf ho2
  have hu2 := hu1.kept (fun q h1 h2 => ho2 q (by omega))
  refine hb_aload_n G dX0_beginAs_10 hl rfl ?_
  refine hb_aload_n G dX0_beginAs_11 hl rfl ?_
  refine hb_get G hu2.1 rfl inX0 8 (by decide) kf_X0_37 rfl rfl dX0_beginAs_12 ?_
  refine hb_put G hg2.1 rfl inX0 tyX0 tyX0_ok nmX0 8 (by decide) kf_X0_37 rfl rfl rfl rfl (Nat.le_of_ble_eq_true rfl) hL (fB_mk (by omega) (by omega)) dX0_beginAs_15 (fun H3 locs3 hf hz3 ho3 hL => ?_)
  exact hb_vret G hr hlocks ⟨rfl, lgAt.fd (w := (v.1, 0, 0, u.2.2.2)) hg2 rfl hf ho3, (Fr.one hz1 ho1 (by omega) (by omega)).tr ((Fr.one hz2 ho2 (by omega) (by omega)).tr (Fr.one hz3 ho3 (by omega) (by omega)))⟩ hL (Nat.le_refl _) (Nat.le_refl _) dX0_beginAs_18
