theorem mG0 (r : Nat) : mdG r (fun k => r + 1 + k) := ⟨fun k _ => (by omega : r < r + 1 + k), fun i j _ _ q => by have q : r + 1 + i = r + 1 + j := q; omega⟩
set_option maxHeartbeats 4000000 in
set_option maxRecDepth 100000 in
/-- LogDiskModel(s, b) -/
theorem m_init (g : Gx) (l : Launch) (r : Nat) (sg bl : Int32) (H : Heap) (hz0 : H.size = r + 1) (he : ob g r 2 [.int 0, .int 0, .int 0, .int 0, .int 0, .int 0, .null, .null, .null, .null, .null, .int 0, .null, .null, .null, .null, .null, .int 0, .null, .null] H) : HM g l yX2_init cX2_init 3 none 1 20 12 1184 [.ref r, .int sg, .int bl] H (fun v H1 => v = none ∧ mdAt g r (clampS sg) (clampB bl) 64 (fun k => r + 1 + k) (fun _ _ => 0) 0 0 (-1) 0 0 0 H1 ∧ H1.size = r + 13 ∧ ∀ q : Nat, q < r → H1[q]? = H[q]?) (fG r) := by
  refine HM.ofW (by decide) (Nat.le_of_ble_eq_true rfl) (by simp [Value.category]) ?_
  intro p e s m args below meth c ls G hr hml hlocks hnm hH hl
  have hl : lh ls 3 [some (.ref r), some (.int sg), some (.int bl)] := hl
  have hL : ∀ q ∈ ([] : List Loc), (fG r) q.base := fun q h => by cases h
  have hq0 : ∀ q : Nat, q < r → H[q]? = H[q]? := fun _ _ => rfl
  refine hb_aload_n G dX2_init_0 hl rfl ?_
  refine hb_obj G hml hl.size km_X2_1 dX2_init_1 (Nat.le_of_ble_eq_true rfl) (Nat.le_of_ble_eq_true rfl) ?_
  refine hb_aload_n G dX2_init_4 hl rfl ?_
  refine lv_iconst (v := (-1)) G.1 G.2.1 dX2_init_5 (by decide) ?_
  refine hb_put G he rfl inX2 tyX2 tyX2_ok nmX2 4 (by decide) kf_X2_7 rfl rfl rfl rfl (Nat.le_of_ble_eq_true rfl) hL (fG_mk (Nat.le_refl _)) dX2_init_6 (fun K1 locs1 hn1 hz1 ho hL => ?_)
  clear he
  have he := hn1
  clear hn1
  replace hz1 := hz1.trans hz0
  clear hz0
  have hq1 : ∀ q : Nat, q < r → K1[q]? = H[q]? := fun q h => (ho q (by omega)).trans (hq0 q h)
  clear ho hq0
  refine hb_aload_n G dX2_init_9 hl rfl ?_
  refine lv_iconst (v := 4) G.1 G.2.1 dX2_init_10 (by decide) ?_
  refine hb_newi (z := r + 1) (N := 4) G hz1 (by decide) rfl (by decide) (Nat.le_of_ble_eq_true rfl) (Nat.le_of_ble_eq_true rfl) dX2_init_11 (fun K2 ha1 hz2 ho => ?_)
  replace he := he.kept (ho r (by omega))
  have hq2 : ∀ q : Nat, q < r → K2[q]? = H[q]? := fun q h => (ho q (by omega)).trans (hq1 q h)
  clear ho hq1
  clear hz1
  refine hb_putF G he rfl inX2 tyX2 tyX2_ok nmX2 6 (by decide) kf_X2_13 rfl rfl hnm rfl rfl rfl (Nat.le_of_ble_eq_true rfl) hL (fG_mk (Nat.le_refl _)) dX2_init_13 (fun K3 locs3 hn3 hz3 ho hL => ?_)
  clear he
  have he := hn3
  clear hn3
  replace hz3 := hz3.trans hz2
  clear hz2
  replace ha1 := ha1.kept (ho _ (by omega))
  have hq3 : ∀ q : Nat, q < r → K3[q]? = H[q]? := fun q h => (ho q (by omega)).trans (hq2 q h)
  clear ho hq2
  refine hb_aload_n G dX2_init_16 hl rfl ?_
  refine lv_sipush (v := 240) G.1 G.2.1 dX2_init_17 (by decide) ?_
  refine hb_newi (z := r + 2) (N := 240) G hz3 (by decide) rfl (by decide) (Nat.le_of_ble_eq_true rfl) (Nat.le_of_ble_eq_true rfl) dX2_init_20 (fun K4 ha2 hz4 ho => ?_)
  replace he := he.kept (ho r (by omega))
  replace ha1 := ha1.kept (ho _ (by omega))
  have hq4 : ∀ q : Nat, q < r → K4[q]? = H[q]? := fun q h => (ho q (by omega)).trans (hq3 q h)
  clear ho hq3
  clear hz3
  refine hb_putF G he rfl inX2 tyX2 tyX2_ok nmX2 7 (by decide) kf_X2_17 rfl rfl hnm rfl rfl rfl (Nat.le_of_ble_eq_true rfl) hL (fG_mk (Nat.le_refl _)) dX2_init_22 (fun K5 locs5 hn5 hz5 ho hL => ?_)
  clear he
  have he := hn5
  clear hn5
  replace hz5 := hz5.trans hz4
  clear hz4
  replace ha1 := ha1.kept (ho _ (by omega))
  replace ha2 := ha2.kept (ho _ (by omega))
  have hq5 : ∀ q : Nat, q < r → K5[q]? = H[q]? := fun q h => (ho q (by omega)).trans (hq4 q h)
  clear ho hq4
  refine hb_aload_n G dX2_init_25 hl rfl ?_
  refine lv_sipush (v := 240) G.1 G.2.1 dX2_init_26 (by decide) ?_
  refine hb_newi (z := r + 3) (N := 240) G hz5 (by decide) rfl (by decide) (Nat.le_of_ble_eq_true rfl) (Nat.le_of_ble_eq_true rfl) dX2_init_29 (fun K6 ha3 hz6 ho => ?_)
  replace he := he.kept (ho r (by omega))
  replace ha1 := ha1.kept (ho _ (by omega))
  replace ha2 := ha2.kept (ho _ (by omega))
  have hq6 : ∀ q : Nat, q < r → K6[q]? = H[q]? := fun q h => (ho q (by omega)).trans (hq5 q h)
  clear ho hq5
  clear hz5
  refine hb_putF G he rfl inX2 tyX2 tyX2_ok nmX2 8 (by decide) kf_X2_20 rfl rfl hnm rfl rfl rfl (Nat.le_of_ble_eq_true rfl) hL (fG_mk (Nat.le_refl _)) dX2_init_31 (fun K7 locs7 hn7 hz7 ho hL => ?_)
  clear he
  have he := hn7
  clear hn7
  replace hz7 := hz7.trans hz6
  clear hz6
  replace ha1 := ha1.kept (ho _ (by omega))
  replace ha2 := ha2.kept (ho _ (by omega))
  replace ha3 := ha3.kept (ho _ (by omega))
  have hq7 : ∀ q : Nat, q < r → K7[q]? = H[q]? := fun q h => (ho q (by omega)).trans (hq6 q h)
  clear ho hq6
  refine hb_aload_n G dX2_init_34 hl rfl ?_
  refine lv_iconst (v := 4) G.1 G.2.1 dX2_init_35 (by decide) ?_
  refine hb_newi (z := r + 4) (N := 4) G hz7 (by decide) rfl (by decide) (Nat.le_of_ble_eq_true rfl) (Nat.le_of_ble_eq_true rfl) dX2_init_36 (fun K8 ha4 hz8 ho => ?_)
  replace he := he.kept (ho r (by omega))
  replace ha1 := ha1.kept (ho _ (by omega))
  replace ha2 := ha2.kept (ho _ (by omega))
  replace ha3 := ha3.kept (ho _ (by omega))
  have hq8 : ∀ q : Nat, q < r → K8[q]? = H[q]? := fun q h => (ho q (by omega)).trans (hq7 q h)
  clear ho hq7
  clear hz7
  refine hb_putF G he rfl inX2 tyX2 tyX2_ok nmX2 9 (by decide) kf_X2_23 rfl rfl hnm rfl rfl rfl (Nat.le_of_ble_eq_true rfl) hL (fG_mk (Nat.le_refl _)) dX2_init_38 (fun K9 locs9 hn9 hz9 ho hL => ?_)
  clear he
  have he := hn9
  clear hn9
  replace hz9 := hz9.trans hz8
  clear hz8
  replace ha1 := ha1.kept (ho _ (by omega))
  replace ha2 := ha2.kept (ho _ (by omega))
  replace ha3 := ha3.kept (ho _ (by omega))
  replace ha4 := ha4.kept (ho _ (by omega))
  have hq9 : ∀ q : Nat, q < r → K9[q]? = H[q]? := fun q h => (ho q (by omega)).trans (hq8 q h)
  clear ho hq8
  refine hb_aload_n G dX2_init_41 hl rfl ?_
  refine lv_sipush (v := 256) G.1 G.2.1 dX2_init_42 (by decide) ?_
  refine hb_newz (z := r + 5) (N := 256) G hz9 (by decide) rfl (by decide) (Nat.le_of_ble_eq_true rfl) (Nat.le_of_ble_eq_true rfl) dX2_init_45 (fun K10 ha5 hz10 ho => ?_)
  replace he := he.kept (ho r (by omega))
  replace ha1 := ha1.kept (ho _ (by omega))
  replace ha2 := ha2.kept (ho _ (by omega))
  replace ha3 := ha3.kept (ho _ (by omega))
  replace ha4 := ha4.kept (ho _ (by omega))
  have hq10 : ∀ q : Nat, q < r → K10[q]? = H[q]? := fun q h => (ho q (by omega)).trans (hq9 q h)
  clear ho hq9
  clear hz9
  refine hb_putF G he rfl inX2 tyX2 tyX2_ok nmX2 10 (by decide) kf_X2_26 rfl rfl hnm rfl rfl rfl (Nat.le_of_ble_eq_true rfl) hL (fG_mk (Nat.le_refl _)) dX2_init_47 (fun K11 locs11 hn11 hz11 ho hL => ?_)
  clear he
  have he := hn11
  clear hn11
  replace hz11 := hz11.trans hz10
  clear hz10
  replace ha1 := ha1.kept (ho _ (by omega))
  replace ha2 := ha2.kept (ho _ (by omega))
  replace ha3 := ha3.kept (ho _ (by omega))
  replace ha4 := ha4.kept (ho _ (by omega))
  replace ha5 := ha5.kept (ho _ (by omega))
  have hq11 : ∀ q : Nat, q < r → K11[q]? = H[q]? := fun q h => (ho q (by omega)).trans (hq10 q h)
  clear ho hq10
  refine hb_aload_n G dX2_init_50 hl rfl ?_
  refine lv_bipush (v := 64) G.1 G.2.1 dX2_init_51 (by decide) ?_
  refine hb_newi (z := r + 6) (N := 64) G hz11 (by decide) rfl (by decide) (Nat.le_of_ble_eq_true rfl) (Nat.le_of_ble_eq_true rfl) dX2_init_53 (fun K12 ha6 hz12 ho => ?_)
  replace he := he.kept (ho r (by omega))
  replace ha1 := ha1.kept (ho _ (by omega))
  replace ha2 := ha2.kept (ho _ (by omega))
  replace ha3 := ha3.kept (ho _ (by omega))
  replace ha4 := ha4.kept (ho _ (by omega))
  replace ha5 := ha5.kept (ho _ (by omega))
  have hq12 : ∀ q : Nat, q < r → K12[q]? = H[q]? := fun q h => (ho q (by omega)).trans (hq11 q h)
  clear ho hq11
  clear hz11
  refine hb_put G he rfl inX2 tyX2 tyX2_ok nmX2 12 (by decide) kf_X2_30 rfl rfl rfl rfl (Nat.le_of_ble_eq_true rfl) hL (fG_mk (Nat.le_refl _)) dX2_init_55 (fun K13 locs13 hn13 hz13 ho hL => ?_)
  clear he
  have he := hn13
  clear hn13
  replace hz13 := hz13.trans hz12
  clear hz12
  replace ha1 := ha1.kept (ho _ (by omega))
  replace ha2 := ha2.kept (ho _ (by omega))
  replace ha3 := ha3.kept (ho _ (by omega))
  replace ha4 := ha4.kept (ho _ (by omega))
  replace ha5 := ha5.kept (ho _ (by omega))
  replace ha6 := ha6.kept (ho _ (by omega))
  have hq13 : ∀ q : Nat, q < r → K13[q]? = H[q]? := fun q h => (ho q (by omega)).trans (hq12 q h)
  clear ho hq12
  refine hb_aload_n G dX2_init_58 hl rfl ?_
  refine lv_bipush (v := 64) G.1 G.2.1 dX2_init_59 (by decide) ?_
  refine hb_newi (z := r + 7) (N := 64) G hz13 (by decide) rfl (by decide) (Nat.le_of_ble_eq_true rfl) (Nat.le_of_ble_eq_true rfl) dX2_init_61 (fun K14 ha7 hz14 ho => ?_)
  replace he := he.kept (ho r (by omega))
  replace ha1 := ha1.kept (ho _ (by omega))
  replace ha2 := ha2.kept (ho _ (by omega))
  replace ha3 := ha3.kept (ho _ (by omega))
  replace ha4 := ha4.kept (ho _ (by omega))
  replace ha5 := ha5.kept (ho _ (by omega))
  replace ha6 := ha6.kept (ho _ (by omega))
  have hq14 : ∀ q : Nat, q < r → K14[q]? = H[q]? := fun q h => (ho q (by omega)).trans (hq13 q h)
  clear ho hq13
  clear hz13
  refine hb_put G he rfl inX2 tyX2 tyX2_ok nmX2 13 (by decide) kf_X2_33 rfl rfl rfl rfl (Nat.le_of_ble_eq_true rfl) hL (fG_mk (Nat.le_refl _)) dX2_init_63 (fun K15 locs15 hn15 hz15 ho hL => ?_)
  clear he
  have he := hn15
  clear hn15
  replace hz15 := hz15.trans hz14
  clear hz14
  replace ha1 := ha1.kept (ho _ (by omega))
  replace ha2 := ha2.kept (ho _ (by omega))
  replace ha3 := ha3.kept (ho _ (by omega))
  replace ha4 := ha4.kept (ho _ (by omega))
  replace ha5 := ha5.kept (ho _ (by omega))
  replace ha6 := ha6.kept (ho _ (by omega))
  replace ha7 := ha7.kept (ho _ (by omega))
  have hq15 : ∀ q : Nat, q < r → K15[q]? = H[q]? := fun q h => (ho q (by omega)).trans (hq14 q h)
  clear ho hq14
  refine hb_aload_n G dX2_init_66 hl rfl ?_
  refine lv_bipush (v := 64) G.1 G.2.1 dX2_init_67 (by decide) ?_
  refine hb_newi (z := r + 8) (N := 64) G hz15 (by decide) rfl (by decide) (Nat.le_of_ble_eq_true rfl) (Nat.le_of_ble_eq_true rfl) dX2_init_69 (fun K16 ha8 hz16 ho => ?_)
  replace he := he.kept (ho r (by omega))
  replace ha1 := ha1.kept (ho _ (by omega))
  replace ha2 := ha2.kept (ho _ (by omega))
  replace ha3 := ha3.kept (ho _ (by omega))
  replace ha4 := ha4.kept (ho _ (by omega))
  replace ha5 := ha5.kept (ho _ (by omega))
  replace ha6 := ha6.kept (ho _ (by omega))
  replace ha7 := ha7.kept (ho _ (by omega))
  have hq16 : ∀ q : Nat, q < r → K16[q]? = H[q]? := fun q h => (ho q (by omega)).trans (hq15 q h)
  clear ho hq15
  clear hz15
  refine hb_put G he rfl inX2 tyX2 tyX2_ok nmX2 14 (by decide) kf_X2_36 rfl rfl rfl rfl (Nat.le_of_ble_eq_true rfl) hL (fG_mk (Nat.le_refl _)) dX2_init_71 (fun K17 locs17 hn17 hz17 ho hL => ?_)
  clear he
  have he := hn17
  clear hn17
  replace hz17 := hz17.trans hz16
  clear hz16
  replace ha1 := ha1.kept (ho _ (by omega))
  replace ha2 := ha2.kept (ho _ (by omega))
  replace ha3 := ha3.kept (ho _ (by omega))
  replace ha4 := ha4.kept (ho _ (by omega))
  replace ha5 := ha5.kept (ho _ (by omega))
  replace ha6 := ha6.kept (ho _ (by omega))
  replace ha7 := ha7.kept (ho _ (by omega))
  replace ha8 := ha8.kept (ho _ (by omega))
  have hq17 : ∀ q : Nat, q < r → K17[q]? = H[q]? := fun q h => (ho q (by omega)).trans (hq16 q h)
  clear ho hq16
  refine hb_aload_n G dX2_init_74 hl rfl ?_
  refine lv_bipush (v := 64) G.1 G.2.1 dX2_init_75 (by decide) ?_
  refine hb_newi (z := r + 9) (N := 64) G hz17 (by decide) rfl (by decide) (Nat.le_of_ble_eq_true rfl) (Nat.le_of_ble_eq_true rfl) dX2_init_77 (fun K18 ha9 hz18 ho => ?_)
  replace he := he.kept (ho r (by omega))
  replace ha1 := ha1.kept (ho _ (by omega))
  replace ha2 := ha2.kept (ho _ (by omega))
  replace ha3 := ha3.kept (ho _ (by omega))
  replace ha4 := ha4.kept (ho _ (by omega))
  replace ha5 := ha5.kept (ho _ (by omega))
  replace ha6 := ha6.kept (ho _ (by omega))
  replace ha7 := ha7.kept (ho _ (by omega))
  replace ha8 := ha8.kept (ho _ (by omega))
  have hq18 : ∀ q : Nat, q < r → K18[q]? = H[q]? := fun q h => (ho q (by omega)).trans (hq17 q h)
  clear ho hq17
  clear hz17
  refine hb_put G he rfl inX2 tyX2 tyX2_ok nmX2 15 (by decide) kf_X2_39 rfl rfl rfl rfl (Nat.le_of_ble_eq_true rfl) hL (fG_mk (Nat.le_refl _)) dX2_init_79 (fun K19 locs19 hn19 hz19 ho hL => ?_)
  clear he
  have he := hn19
  clear hn19
  replace hz19 := hz19.trans hz18
  clear hz18
  replace ha1 := ha1.kept (ho _ (by omega))
  replace ha2 := ha2.kept (ho _ (by omega))
  replace ha3 := ha3.kept (ho _ (by omega))
  replace ha4 := ha4.kept (ho _ (by omega))
  replace ha5 := ha5.kept (ho _ (by omega))
  replace ha6 := ha6.kept (ho _ (by omega))
  replace ha7 := ha7.kept (ho _ (by omega))
  replace ha8 := ha8.kept (ho _ (by omega))
  replace ha9 := ha9.kept (ho _ (by omega))
  have hq19 : ∀ q : Nat, q < r → K19[q]? = H[q]? := fun q h => (ho q (by omega)).trans (hq18 q h)
  clear ho hq18
  refine hb_aload_n G dX2_init_82 hl rfl ?_
  refine lv_bipush (v := 64) G.1 G.2.1 dX2_init_83 (by decide) ?_
  refine hb_newi (z := r + 10) (N := 64) G hz19 (by decide) rfl (by decide) (Nat.le_of_ble_eq_true rfl) (Nat.le_of_ble_eq_true rfl) dX2_init_85 (fun K20 ha10 hz20 ho => ?_)
  replace he := he.kept (ho r (by omega))
  replace ha1 := ha1.kept (ho _ (by omega))
  replace ha2 := ha2.kept (ho _ (by omega))
  replace ha3 := ha3.kept (ho _ (by omega))
  replace ha4 := ha4.kept (ho _ (by omega))
  replace ha5 := ha5.kept (ho _ (by omega))
  replace ha6 := ha6.kept (ho _ (by omega))
  replace ha7 := ha7.kept (ho _ (by omega))
  replace ha8 := ha8.kept (ho _ (by omega))
  replace ha9 := ha9.kept (ho _ (by omega))
  have hq20 : ∀ q : Nat, q < r → K20[q]? = H[q]? := fun q h => (ho q (by omega)).trans (hq19 q h)
  clear ho hq19
  clear hz19
  refine hb_put G he rfl inX2 tyX2 tyX2_ok nmX2 16 (by decide) kf_X2_42 rfl rfl rfl rfl (Nat.le_of_ble_eq_true rfl) hL (fG_mk (Nat.le_refl _)) dX2_init_87 (fun K21 locs21 hn21 hz21 ho hL => ?_)
  clear he
  have he := hn21
  clear hn21
  replace hz21 := hz21.trans hz20
  clear hz20
  replace ha1 := ha1.kept (ho _ (by omega))
  replace ha2 := ha2.kept (ho _ (by omega))
  replace ha3 := ha3.kept (ho _ (by omega))
  replace ha4 := ha4.kept (ho _ (by omega))
  replace ha5 := ha5.kept (ho _ (by omega))
  replace ha6 := ha6.kept (ho _ (by omega))
  replace ha7 := ha7.kept (ho _ (by omega))
  replace ha8 := ha8.kept (ho _ (by omega))
  replace ha9 := ha9.kept (ho _ (by omega))
  replace ha10 := ha10.kept (ho _ (by omega))
  have hq21 : ∀ q : Nat, q < r → K21[q]? = H[q]? := fun q h => (ho q (by omega)).trans (hq20 q h)
  clear ho hq20
  refine hb_aload_n G dX2_init_90 hl rfl ?_
  refine lv_bipush (v := 60) G.1 G.2.1 dX2_init_91 (by decide) ?_
  refine hb_newi (z := r + 11) (N := 60) G hz21 (by decide) rfl (by decide) (Nat.le_of_ble_eq_true rfl) (Nat.le_of_ble_eq_true rfl) dX2_init_93 (fun K22 ha11 hz22 ho => ?_)
  replace he := he.kept (ho r (by omega))
  replace ha1 := ha1.kept (ho _ (by omega))
  replace ha2 := ha2.kept (ho _ (by omega))
  replace ha3 := ha3.kept (ho _ (by omega))
  replace ha4 := ha4.kept (ho _ (by omega))
  replace ha5 := ha5.kept (ho _ (by omega))
  replace ha6 := ha6.kept (ho _ (by omega))
  replace ha7 := ha7.kept (ho _ (by omega))
  replace ha8 := ha8.kept (ho _ (by omega))
  replace ha9 := ha9.kept (ho _ (by omega))
  replace ha10 := ha10.kept (ho _ (by omega))
  have hq22 : ∀ q : Nat, q < r → K22[q]? = H[q]? := fun q h => (ho q (by omega)).trans (hq21 q h)
  clear ho hq21
  clear hz21
  refine hb_putF G he rfl inX2 tyX2 tyX2_ok nmX2 18 (by decide) kf_X2_45 rfl rfl hnm rfl rfl rfl (Nat.le_of_ble_eq_true rfl) hL (fG_mk (Nat.le_refl _)) dX2_init_95 (fun K23 locs23 hn23 hz23 ho hL => ?_)
  clear he
  have he := hn23
  clear hn23
  replace hz23 := hz23.trans hz22
  clear hz22
  replace ha1 := ha1.kept (ho _ (by omega))
  replace ha2 := ha2.kept (ho _ (by omega))
  replace ha3 := ha3.kept (ho _ (by omega))
  replace ha4 := ha4.kept (ho _ (by omega))
  replace ha5 := ha5.kept (ho _ (by omega))
  replace ha6 := ha6.kept (ho _ (by omega))
  replace ha7 := ha7.kept (ho _ (by omega))
  replace ha8 := ha8.kept (ho _ (by omega))
  replace ha9 := ha9.kept (ho _ (by omega))
  replace ha10 := ha10.kept (ho _ (by omega))
  replace ha11 := ha11.kept (ho _ (by omega))
  have hq23 : ∀ q : Nat, q < r → K23[q]? = H[q]? := fun q h => (ho q (by omega)).trans (hq22 q h)
  clear ho hq22
  refine hb_aload_n G dX2_init_98 hl rfl ?_
  refine lv_bipush (v := 60) G.1 G.2.1 dX2_init_99 (by decide) ?_
  refine hb_newi (z := r + 12) (N := 60) G hz23 (by decide) rfl (by decide) (Nat.le_of_ble_eq_true rfl) (Nat.le_of_ble_eq_true rfl) dX2_init_101 (fun K24 ha12 hz24 ho => ?_)
  replace he := he.kept (ho r (by omega))
  replace ha1 := ha1.kept (ho _ (by omega))
  replace ha2 := ha2.kept (ho _ (by omega))
  replace ha3 := ha3.kept (ho _ (by omega))
  replace ha4 := ha4.kept (ho _ (by omega))
  replace ha5 := ha5.kept (ho _ (by omega))
  replace ha6 := ha6.kept (ho _ (by omega))
  replace ha7 := ha7.kept (ho _ (by omega))
  replace ha8 := ha8.kept (ho _ (by omega))
  replace ha9 := ha9.kept (ho _ (by omega))
  replace ha10 := ha10.kept (ho _ (by omega))
  replace ha11 := ha11.kept (ho _ (by omega))
  have hq24 : ∀ q : Nat, q < r → K24[q]? = H[q]? := fun q h => (ho q (by omega)).trans (hq23 q h)
  clear ho hq23
  clear hz23
  refine hb_putF G he rfl inX2 tyX2 tyX2_ok nmX2 19 (by decide) kf_X2_48 rfl rfl hnm rfl rfl rfl (Nat.le_of_ble_eq_true rfl) hL (fG_mk (Nat.le_refl _)) dX2_init_103 (fun K25 locs25 hn25 hz25 ho hL => ?_)
  clear he
  have he := hn25
  clear hn25
  replace hz25 := hz25.trans hz24
  clear hz24
  replace ha1 := ha1.kept (ho _ (by omega))
  replace ha2 := ha2.kept (ho _ (by omega))
  replace ha3 := ha3.kept (ho _ (by omega))
  replace ha4 := ha4.kept (ho _ (by omega))
  replace ha5 := ha5.kept (ho _ (by omega))
  replace ha6 := ha6.kept (ho _ (by omega))
  replace ha7 := ha7.kept (ho _ (by omega))
  replace ha8 := ha8.kept (ho _ (by omega))
  replace ha9 := ha9.kept (ho _ (by omega))
  replace ha10 := ha10.kept (ho _ (by omega))
  replace ha11 := ha11.kept (ho _ (by omega))
  replace ha12 := ha12.kept (ho _ (by omega))
  have hq25 : ∀ q : Nat, q < r → K25[q]? = H[q]? := fun q h => (ho q (by omega)).trans (hq24 q h)
  clear ho hq24
  refine hb_aload_n G dX2_init_106 hl rfl ?_
  refine hb_iload_n G dX2_init_107 hl rfl ?_
  refine lv_iconst (v := 1) G.1 G.2.1 dX2_init_108 (by decide) ?_
  refine lv_icmp_ge (tgt := 116) G.1 G.2.1 dX2_init_109 (by decide) (fun c_1 => ?_) (fun c_1 => ?_)
  · refine hb_iload_n G dX2_init_116 hl rfl ?_
    refine lv_bipush (v := 16) G.1 G.2.1 dX2_init_117 (by decide) ?_
    refine lv_icmp_le (tgt := 127) G.1 G.2.1 dX2_init_119 (by decide) (fun c_2 => ?_) (fun c_2 => ?_)
    · refine hb_iload_n G dX2_init_127 hl rfl ?_
      refine hb_putF G he rfl inX2 tyX2 tyX2_ok nmX2 1 (by decide) kf_X2_51 rfl rfl hnm rfl rfl rfl (Nat.le_of_ble_eq_true rfl) hL (fG_mk (Nat.le_refl _)) dX2_init_128 (fun K26 locs26 hn26 hz26 ho hL => ?_)
      clear he
      have he := hn26
      clear hn26
      replace hz26 := hz26.trans hz25
      clear hz25
      replace ha1 := ha1.kept (ho _ (by omega))
      replace ha2 := ha2.kept (ho _ (by omega))
      replace ha3 := ha3.kept (ho _ (by omega))
      replace ha4 := ha4.kept (ho _ (by omega))
      replace ha5 := ha5.kept (ho _ (by omega))
      replace ha6 := ha6.kept (ho _ (by omega))
      replace ha7 := ha7.kept (ho _ (by omega))
      replace ha8 := ha8.kept (ho _ (by omega))
      replace ha9 := ha9.kept (ho _ (by omega))
      replace ha10 := ha10.kept (ho _ (by omega))
      replace ha11 := ha11.kept (ho _ (by omega))
      replace ha12 := ha12.kept (ho _ (by omega))
      have hq26 : ∀ q : Nat, q < r → K26[q]? = H[q]? := fun q h => (ho q (by omega)).trans (hq25 q h)
      clear ho hq25
      refine hb_aload_n G dX2_init_131 hl rfl ?_
      refine hb_iload_n G dX2_init_132 hl rfl ?_
      refine lv_bipush (v := 16) G.1 G.2.1 dX2_init_133 (by decide) ?_
      refine lv_icmp_ge (tgt := 143) G.1 G.2.1 dX2_init_135 (by decide) (fun c_3 => ?_) (fun c_3 => ?_)
      · refine hb_iload_n G dX2_init_143 hl rfl ?_
        refine lv_sipush (v := 256) G.1 G.2.1 dX2_init_144 (by decide) ?_
        refine lv_icmp_le (tgt := 156) G.1 G.2.1 dX2_init_147 (by decide) (fun c_4 => ?_) (fun c_4 => ?_)
        · refine hb_iload_n G dX2_init_156 hl rfl ?_
          refine hb_putF G he rfl inX2 tyX2 tyX2_ok nmX2 2 (by decide) kf_X2_54 rfl rfl hnm rfl rfl rfl (Nat.le_of_ble_eq_true rfl) hL (fG_mk (Nat.le_refl _)) dX2_init_157 (fun K27 locs27 hn27 hz27 ho hL => ?_)
          clear he
          have he := hn27
          clear hn27
          replace hz27 := hz27.trans hz26
          clear hz26
          replace ha1 := ha1.kept (ho _ (by omega))
          replace ha2 := ha2.kept (ho _ (by omega))
          replace ha3 := ha3.kept (ho _ (by omega))
          replace ha4 := ha4.kept (ho _ (by omega))
          replace ha5 := ha5.kept (ho _ (by omega))
          replace ha6 := ha6.kept (ho _ (by omega))
          replace ha7 := ha7.kept (ho _ (by omega))
          replace ha8 := ha8.kept (ho _ (by omega))
          replace ha9 := ha9.kept (ho _ (by omega))
          replace ha10 := ha10.kept (ho _ (by omega))
          replace ha11 := ha11.kept (ho _ (by omega))
          replace ha12 := ha12.kept (ho _ (by omega))
          have hq27 : ∀ q : Nat, q < r → K27[q]? = H[q]? := fun q h => (ho q (by omega)).trans (hq26 q h)
          clear ho hq26
          have eS : nI (clampS sg) = sg := by unfold clampS; rw [if_neg (i32_nlt.mpr c_1), if_neg (i32_nlt.mpr c_2), nI_tc (by have := i32_le.mp c_1; rw [show (1 : Int32).toInt = 1 from rfl] at this; omega)]
          have eB : nI (clampB bl) = bl := by unfold clampB; rw [if_neg (i32_nlt.mpr c_3), if_neg (i32_nlt.mpr c_4), nI_tc (by have := i32_le.mp c_3; rw [show (16 : Int32).toInt = 16 from rfl] at this; omega)]
          refine hb_vret G hr hlocks ⟨rfl, ⟨by unfold mdFs; rw [eS, eB]; exact he, fun k hk => ?_, mG0 r⟩, hz27, hq27⟩ hL (Nat.le_of_ble_eq_true rfl) (Nat.le_of_ble_eq_true rfl) dX2_init_160
          rcases (show k = 0 ∨ k = 1 ∨ k = 2 ∨ k = 3 ∨ k = 4 ∨ k = 5 ∨ k = 6 ∨ k = 7 ∨ k = 8 ∨ k = 9 ∨ k = 10 ∨ k = 11 by omega) with rfl | rfl | rfl | rfl | rfl | rfl | rfl | rfl | rfl | rfl | rfl | rfl
          · exact ha1
          · exact ha2
          · exact ha3
          · exact ha4
          · exact ha5
          · exact ha6
          · exact ha7
          · exact ha8
          · exact ha9
          · exact ha10
          · exact ha11
          · exact ha12
        · refine lv_sipush (v := 256) G.1 G.2.1 dX2_init_150 (by decide) ?_
          refine lv_goto (tgt := 157) G.1 G.2.1 dX2_init_153 (by decide) ?_
          refine hb_putF G he rfl inX2 tyX2 tyX2_ok nmX2 2 (by decide) kf_X2_54 rfl rfl hnm rfl rfl rfl (Nat.le_of_ble_eq_true rfl) hL (fG_mk (Nat.le_refl _)) dX2_init_157 (fun K27 locs27 hn27 hz27 ho hL => ?_)
          clear he
          have he := hn27
          clear hn27
          replace hz27 := hz27.trans hz26
          clear hz26
          replace ha1 := ha1.kept (ho _ (by omega))
          replace ha2 := ha2.kept (ho _ (by omega))
          replace ha3 := ha3.kept (ho _ (by omega))
          replace ha4 := ha4.kept (ho _ (by omega))
          replace ha5 := ha5.kept (ho _ (by omega))
          replace ha6 := ha6.kept (ho _ (by omega))
          replace ha7 := ha7.kept (ho _ (by omega))
          replace ha8 := ha8.kept (ho _ (by omega))
          replace ha9 := ha9.kept (ho _ (by omega))
          replace ha10 := ha10.kept (ho _ (by omega))
          replace ha11 := ha11.kept (ho _ (by omega))
          replace ha12 := ha12.kept (ho _ (by omega))
          have hq27 : ∀ q : Nat, q < r → K27[q]? = H[q]? := fun q h => (ho q (by omega)).trans (hq26 q h)
          clear ho hq26
          have eS : nI (clampS sg) = sg := by unfold clampS; rw [if_neg (i32_nlt.mpr c_1), if_neg (i32_nlt.mpr c_2), nI_tc (by have := i32_le.mp c_1; rw [show (1 : Int32).toInt = 1 from rfl] at this; omega)]
          have eB : nI (clampB bl) = 256 := by unfold clampB; rw [if_neg (i32_nlt.mpr c_3), if_pos (i32_nle.mp c_4)]; rfl
          refine hb_vret G hr hlocks ⟨rfl, ⟨by unfold mdFs; rw [eS, eB]; exact he, fun k hk => ?_, mG0 r⟩, hz27, hq27⟩ hL (Nat.le_of_ble_eq_true rfl) (Nat.le_of_ble_eq_true rfl) dX2_init_160
          rcases (show k = 0 ∨ k = 1 ∨ k = 2 ∨ k = 3 ∨ k = 4 ∨ k = 5 ∨ k = 6 ∨ k = 7 ∨ k = 8 ∨ k = 9 ∨ k = 10 ∨ k = 11 by omega) with rfl | rfl | rfl | rfl | rfl | rfl | rfl | rfl | rfl | rfl | rfl | rfl
          · exact ha1
          · exact ha2
          · exact ha3
          · exact ha4
          · exact ha5
          · exact ha6
          · exact ha7
          · exact ha8
          · exact ha9
          · exact ha10
          · exact ha11
          · exact ha12
      · refine lv_bipush (v := 16) G.1 G.2.1 dX2_init_138 (by decide) ?_
        refine lv_goto (tgt := 157) G.1 G.2.1 dX2_init_140 (by decide) ?_
        refine hb_putF G he rfl inX2 tyX2 tyX2_ok nmX2 2 (by decide) kf_X2_54 rfl rfl hnm rfl rfl rfl (Nat.le_of_ble_eq_true rfl) hL (fG_mk (Nat.le_refl _)) dX2_init_157 (fun K27 locs27 hn27 hz27 ho hL => ?_)
        clear he
        have he := hn27
        clear hn27
        replace hz27 := hz27.trans hz26
        clear hz26
        replace ha1 := ha1.kept (ho _ (by omega))
        replace ha2 := ha2.kept (ho _ (by omega))
        replace ha3 := ha3.kept (ho _ (by omega))
        replace ha4 := ha4.kept (ho _ (by omega))
        replace ha5 := ha5.kept (ho _ (by omega))
        replace ha6 := ha6.kept (ho _ (by omega))
        replace ha7 := ha7.kept (ho _ (by omega))
        replace ha8 := ha8.kept (ho _ (by omega))
        replace ha9 := ha9.kept (ho _ (by omega))
        replace ha10 := ha10.kept (ho _ (by omega))
        replace ha11 := ha11.kept (ho _ (by omega))
        replace ha12 := ha12.kept (ho _ (by omega))
        have hq27 : ∀ q : Nat, q < r → K27[q]? = H[q]? := fun q h => (ho q (by omega)).trans (hq26 q h)
        clear ho hq26
        have eS : nI (clampS sg) = sg := by unfold clampS; rw [if_neg (i32_nlt.mpr c_1), if_neg (i32_nlt.mpr c_2), nI_tc (by have := i32_le.mp c_1; rw [show (1 : Int32).toInt = 1 from rfl] at this; omega)]
        have eB : nI (clampB bl) = 16 := by unfold clampB; rw [if_pos (i32_nle.mp c_3)]; rfl
        refine hb_vret G hr hlocks ⟨rfl, ⟨by unfold mdFs; rw [eS, eB]; exact he, fun k hk => ?_, mG0 r⟩, hz27, hq27⟩ hL (Nat.le_of_ble_eq_true rfl) (Nat.le_of_ble_eq_true rfl) dX2_init_160
        rcases (show k = 0 ∨ k = 1 ∨ k = 2 ∨ k = 3 ∨ k = 4 ∨ k = 5 ∨ k = 6 ∨ k = 7 ∨ k = 8 ∨ k = 9 ∨ k = 10 ∨ k = 11 by omega) with rfl | rfl | rfl | rfl | rfl | rfl | rfl | rfl | rfl | rfl | rfl | rfl
        · exact ha1
        · exact ha2
        · exact ha3
        · exact ha4
        · exact ha5
        · exact ha6
        · exact ha7
        · exact ha8
        · exact ha9
        · exact ha10
        · exact ha11
        · exact ha12
    · refine lv_bipush (v := 16) G.1 G.2.1 dX2_init_122 (by decide) ?_
      refine lv_goto (tgt := 128) G.1 G.2.1 dX2_init_124 (by decide) ?_
      refine hb_putF G he rfl inX2 tyX2 tyX2_ok nmX2 1 (by decide) kf_X2_51 rfl rfl hnm rfl rfl rfl (Nat.le_of_ble_eq_true rfl) hL (fG_mk (Nat.le_refl _)) dX2_init_128 (fun K26 locs26 hn26 hz26 ho hL => ?_)
      clear he
      have he := hn26
      clear hn26
      replace hz26 := hz26.trans hz25
      clear hz25
      replace ha1 := ha1.kept (ho _ (by omega))
      replace ha2 := ha2.kept (ho _ (by omega))
      replace ha3 := ha3.kept (ho _ (by omega))
      replace ha4 := ha4.kept (ho _ (by omega))
      replace ha5 := ha5.kept (ho _ (by omega))
      replace ha6 := ha6.kept (ho _ (by omega))
      replace ha7 := ha7.kept (ho _ (by omega))
      replace ha8 := ha8.kept (ho _ (by omega))
      replace ha9 := ha9.kept (ho _ (by omega))
      replace ha10 := ha10.kept (ho _ (by omega))
      replace ha11 := ha11.kept (ho _ (by omega))
      replace ha12 := ha12.kept (ho _ (by omega))
      have hq26 : ∀ q : Nat, q < r → K26[q]? = H[q]? := fun q h => (ho q (by omega)).trans (hq25 q h)
      clear ho hq25
      refine hb_aload_n G dX2_init_131 hl rfl ?_
      refine hb_iload_n G dX2_init_132 hl rfl ?_
      refine lv_bipush (v := 16) G.1 G.2.1 dX2_init_133 (by decide) ?_
      refine lv_icmp_ge (tgt := 143) G.1 G.2.1 dX2_init_135 (by decide) (fun c_5 => ?_) (fun c_5 => ?_)
      · refine hb_iload_n G dX2_init_143 hl rfl ?_
        refine lv_sipush (v := 256) G.1 G.2.1 dX2_init_144 (by decide) ?_
        refine lv_icmp_le (tgt := 156) G.1 G.2.1 dX2_init_147 (by decide) (fun c_6 => ?_) (fun c_6 => ?_)
        · refine hb_iload_n G dX2_init_156 hl rfl ?_
          refine hb_putF G he rfl inX2 tyX2 tyX2_ok nmX2 2 (by decide) kf_X2_54 rfl rfl hnm rfl rfl rfl (Nat.le_of_ble_eq_true rfl) hL (fG_mk (Nat.le_refl _)) dX2_init_157 (fun K27 locs27 hn27 hz27 ho hL => ?_)
          clear he
          have he := hn27
          clear hn27
          replace hz27 := hz27.trans hz26
          clear hz26
          replace ha1 := ha1.kept (ho _ (by omega))
          replace ha2 := ha2.kept (ho _ (by omega))
          replace ha3 := ha3.kept (ho _ (by omega))
          replace ha4 := ha4.kept (ho _ (by omega))
          replace ha5 := ha5.kept (ho _ (by omega))
          replace ha6 := ha6.kept (ho _ (by omega))
          replace ha7 := ha7.kept (ho _ (by omega))
          replace ha8 := ha8.kept (ho _ (by omega))
          replace ha9 := ha9.kept (ho _ (by omega))
          replace ha10 := ha10.kept (ho _ (by omega))
          replace ha11 := ha11.kept (ho _ (by omega))
          replace ha12 := ha12.kept (ho _ (by omega))
          have hq27 : ∀ q : Nat, q < r → K27[q]? = H[q]? := fun q h => (ho q (by omega)).trans (hq26 q h)
          clear ho hq26
          have eS : nI (clampS sg) = 16 := by unfold clampS; rw [if_neg (i32_nlt.mpr c_1), if_pos (i32_nle.mp c_2)]; rfl
          have eB : nI (clampB bl) = bl := by unfold clampB; rw [if_neg (i32_nlt.mpr c_5), if_neg (i32_nlt.mpr c_6), nI_tc (by have := i32_le.mp c_5; rw [show (16 : Int32).toInt = 16 from rfl] at this; omega)]
          refine hb_vret G hr hlocks ⟨rfl, ⟨by unfold mdFs; rw [eS, eB]; exact he, fun k hk => ?_, mG0 r⟩, hz27, hq27⟩ hL (Nat.le_of_ble_eq_true rfl) (Nat.le_of_ble_eq_true rfl) dX2_init_160
          rcases (show k = 0 ∨ k = 1 ∨ k = 2 ∨ k = 3 ∨ k = 4 ∨ k = 5 ∨ k = 6 ∨ k = 7 ∨ k = 8 ∨ k = 9 ∨ k = 10 ∨ k = 11 by omega) with rfl | rfl | rfl | rfl | rfl | rfl | rfl | rfl | rfl | rfl | rfl | rfl
          · exact ha1
          · exact ha2
          · exact ha3
          · exact ha4
          · exact ha5
          · exact ha6
          · exact ha7
          · exact ha8
          · exact ha9
          · exact ha10
          · exact ha11
          · exact ha12
        · refine lv_sipush (v := 256) G.1 G.2.1 dX2_init_150 (by decide) ?_
          refine lv_goto (tgt := 157) G.1 G.2.1 dX2_init_153 (by decide) ?_
          refine hb_putF G he rfl inX2 tyX2 tyX2_ok nmX2 2 (by decide) kf_X2_54 rfl rfl hnm rfl rfl rfl (Nat.le_of_ble_eq_true rfl) hL (fG_mk (Nat.le_refl _)) dX2_init_157 (fun K27 locs27 hn27 hz27 ho hL => ?_)
          clear he
          have he := hn27
          clear hn27
          replace hz27 := hz27.trans hz26
          clear hz26
          replace ha1 := ha1.kept (ho _ (by omega))
          replace ha2 := ha2.kept (ho _ (by omega))
          replace ha3 := ha3.kept (ho _ (by omega))
          replace ha4 := ha4.kept (ho _ (by omega))
          replace ha5 := ha5.kept (ho _ (by omega))
          replace ha6 := ha6.kept (ho _ (by omega))
          replace ha7 := ha7.kept (ho _ (by omega))
          replace ha8 := ha8.kept (ho _ (by omega))
          replace ha9 := ha9.kept (ho _ (by omega))
          replace ha10 := ha10.kept (ho _ (by omega))
          replace ha11 := ha11.kept (ho _ (by omega))
          replace ha12 := ha12.kept (ho _ (by omega))
          have hq27 : ∀ q : Nat, q < r → K27[q]? = H[q]? := fun q h => (ho q (by omega)).trans (hq26 q h)
          clear ho hq26
          have eS : nI (clampS sg) = 16 := by unfold clampS; rw [if_neg (i32_nlt.mpr c_1), if_pos (i32_nle.mp c_2)]; rfl
          have eB : nI (clampB bl) = 256 := by unfold clampB; rw [if_neg (i32_nlt.mpr c_5), if_pos (i32_nle.mp c_6)]; rfl
          refine hb_vret G hr hlocks ⟨rfl, ⟨by unfold mdFs; rw [eS, eB]; exact he, fun k hk => ?_, mG0 r⟩, hz27, hq27⟩ hL (Nat.le_of_ble_eq_true rfl) (Nat.le_of_ble_eq_true rfl) dX2_init_160
          rcases (show k = 0 ∨ k = 1 ∨ k = 2 ∨ k = 3 ∨ k = 4 ∨ k = 5 ∨ k = 6 ∨ k = 7 ∨ k = 8 ∨ k = 9 ∨ k = 10 ∨ k = 11 by omega) with rfl | rfl | rfl | rfl | rfl | rfl | rfl | rfl | rfl | rfl | rfl | rfl
          · exact ha1
          · exact ha2
          · exact ha3
          · exact ha4
          · exact ha5
          · exact ha6
          · exact ha7
          · exact ha8
          · exact ha9
          · exact ha10
          · exact ha11
          · exact ha12
      · refine lv_bipush (v := 16) G.1 G.2.1 dX2_init_138 (by decide) ?_
        refine lv_goto (tgt := 157) G.1 G.2.1 dX2_init_140 (by decide) ?_
        refine hb_putF G he rfl inX2 tyX2 tyX2_ok nmX2 2 (by decide) kf_X2_54 rfl rfl hnm rfl rfl rfl (Nat.le_of_ble_eq_true rfl) hL (fG_mk (Nat.le_refl _)) dX2_init_157 (fun K27 locs27 hn27 hz27 ho hL => ?_)
        clear he
        have he := hn27
        clear hn27
        replace hz27 := hz27.trans hz26
        clear hz26
        replace ha1 := ha1.kept (ho _ (by omega))
        replace ha2 := ha2.kept (ho _ (by omega))
        replace ha3 := ha3.kept (ho _ (by omega))
        replace ha4 := ha4.kept (ho _ (by omega))
        replace ha5 := ha5.kept (ho _ (by omega))
        replace ha6 := ha6.kept (ho _ (by omega))
        replace ha7 := ha7.kept (ho _ (by omega))
        replace ha8 := ha8.kept (ho _ (by omega))
        replace ha9 := ha9.kept (ho _ (by omega))
        replace ha10 := ha10.kept (ho _ (by omega))
        replace ha11 := ha11.kept (ho _ (by omega))
        replace ha12 := ha12.kept (ho _ (by omega))
        have hq27 : ∀ q : Nat, q < r → K27[q]? = H[q]? := fun q h => (ho q (by omega)).trans (hq26 q h)
        clear ho hq26
        have eS : nI (clampS sg) = 16 := by unfold clampS; rw [if_neg (i32_nlt.mpr c_1), if_pos (i32_nle.mp c_2)]; rfl
        have eB : nI (clampB bl) = 16 := by unfold clampB; rw [if_pos (i32_nle.mp c_5)]; rfl
        refine hb_vret G hr hlocks ⟨rfl, ⟨by unfold mdFs; rw [eS, eB]; exact he, fun k hk => ?_, mG0 r⟩, hz27, hq27⟩ hL (Nat.le_of_ble_eq_true rfl) (Nat.le_of_ble_eq_true rfl) dX2_init_160
        rcases (show k = 0 ∨ k = 1 ∨ k = 2 ∨ k = 3 ∨ k = 4 ∨ k = 5 ∨ k = 6 ∨ k = 7 ∨ k = 8 ∨ k = 9 ∨ k = 10 ∨ k = 11 by omega) with rfl | rfl | rfl | rfl | rfl | rfl | rfl | rfl | rfl | rfl | rfl | rfl
        · exact ha1
        · exact ha2
        · exact ha3
        · exact ha4
        · exact ha5
        · exact ha6
        · exact ha7
        · exact ha8
        · exact ha9
        · exact ha10
        · exact ha11
        · exact ha12
  · refine lv_iconst (v := 1) G.1 G.2.1 dX2_init_112 (by decide) ?_
    refine lv_goto (tgt := 128) G.1 G.2.1 dX2_init_113 (by decide) ?_
    refine hb_putF G he rfl inX2 tyX2 tyX2_ok nmX2 1 (by decide) kf_X2_51 rfl rfl hnm rfl rfl rfl (Nat.le_of_ble_eq_true rfl) hL (fG_mk (Nat.le_refl _)) dX2_init_128 (fun K26 locs26 hn26 hz26 ho hL => ?_)
    clear he
    have he := hn26
    clear hn26
    replace hz26 := hz26.trans hz25
    clear hz25
    replace ha1 := ha1.kept (ho _ (by omega))
    replace ha2 := ha2.kept (ho _ (by omega))
    replace ha3 := ha3.kept (ho _ (by omega))
    replace ha4 := ha4.kept (ho _ (by omega))
    replace ha5 := ha5.kept (ho _ (by omega))
    replace ha6 := ha6.kept (ho _ (by omega))
    replace ha7 := ha7.kept (ho _ (by omega))
    replace ha8 := ha8.kept (ho _ (by omega))
    replace ha9 := ha9.kept (ho _ (by omega))
    replace ha10 := ha10.kept (ho _ (by omega))
    replace ha11 := ha11.kept (ho _ (by omega))
    replace ha12 := ha12.kept (ho _ (by omega))
    have hq26 : ∀ q : Nat, q < r → K26[q]? = H[q]? := fun q h => (ho q (by omega)).trans (hq25 q h)
    clear ho hq25
    refine hb_aload_n G dX2_init_131 hl rfl ?_
    refine hb_iload_n G dX2_init_132 hl rfl ?_
    refine lv_bipush (v := 16) G.1 G.2.1 dX2_init_133 (by decide) ?_
    refine lv_icmp_ge (tgt := 143) G.1 G.2.1 dX2_init_135 (by decide) (fun c_7 => ?_) (fun c_7 => ?_)
    · refine hb_iload_n G dX2_init_143 hl rfl ?_
      refine lv_sipush (v := 256) G.1 G.2.1 dX2_init_144 (by decide) ?_
      refine lv_icmp_le (tgt := 156) G.1 G.2.1 dX2_init_147 (by decide) (fun c_8 => ?_) (fun c_8 => ?_)
      · refine hb_iload_n G dX2_init_156 hl rfl ?_
        refine hb_putF G he rfl inX2 tyX2 tyX2_ok nmX2 2 (by decide) kf_X2_54 rfl rfl hnm rfl rfl rfl (Nat.le_of_ble_eq_true rfl) hL (fG_mk (Nat.le_refl _)) dX2_init_157 (fun K27 locs27 hn27 hz27 ho hL => ?_)
        clear he
        have he := hn27
        clear hn27
        replace hz27 := hz27.trans hz26
        clear hz26
        replace ha1 := ha1.kept (ho _ (by omega))
        replace ha2 := ha2.kept (ho _ (by omega))
        replace ha3 := ha3.kept (ho _ (by omega))
        replace ha4 := ha4.kept (ho _ (by omega))
        replace ha5 := ha5.kept (ho _ (by omega))
        replace ha6 := ha6.kept (ho _ (by omega))
        replace ha7 := ha7.kept (ho _ (by omega))
        replace ha8 := ha8.kept (ho _ (by omega))
        replace ha9 := ha9.kept (ho _ (by omega))
        replace ha10 := ha10.kept (ho _ (by omega))
        replace ha11 := ha11.kept (ho _ (by omega))
        replace ha12 := ha12.kept (ho _ (by omega))
        have hq27 : ∀ q : Nat, q < r → K27[q]? = H[q]? := fun q h => (ho q (by omega)).trans (hq26 q h)
        clear ho hq26
        have eS : nI (clampS sg) = 1 := by unfold clampS; rw [if_pos (i32_nle.mp c_1)]; rfl
        have eB : nI (clampB bl) = bl := by unfold clampB; rw [if_neg (i32_nlt.mpr c_7), if_neg (i32_nlt.mpr c_8), nI_tc (by have := i32_le.mp c_7; rw [show (16 : Int32).toInt = 16 from rfl] at this; omega)]
        refine hb_vret G hr hlocks ⟨rfl, ⟨by unfold mdFs; rw [eS, eB]; exact he, fun k hk => ?_, mG0 r⟩, hz27, hq27⟩ hL (Nat.le_of_ble_eq_true rfl) (Nat.le_of_ble_eq_true rfl) dX2_init_160
        rcases (show k = 0 ∨ k = 1 ∨ k = 2 ∨ k = 3 ∨ k = 4 ∨ k = 5 ∨ k = 6 ∨ k = 7 ∨ k = 8 ∨ k = 9 ∨ k = 10 ∨ k = 11 by omega) with rfl | rfl | rfl | rfl | rfl | rfl | rfl | rfl | rfl | rfl | rfl | rfl
        · exact ha1
        · exact ha2
        · exact ha3
        · exact ha4
        · exact ha5
        · exact ha6
        · exact ha7
        · exact ha8
        · exact ha9
        · exact ha10
        · exact ha11
        · exact ha12
      · refine lv_sipush (v := 256) G.1 G.2.1 dX2_init_150 (by decide) ?_
        refine lv_goto (tgt := 157) G.1 G.2.1 dX2_init_153 (by decide) ?_
        refine hb_putF G he rfl inX2 tyX2 tyX2_ok nmX2 2 (by decide) kf_X2_54 rfl rfl hnm rfl rfl rfl (Nat.le_of_ble_eq_true rfl) hL (fG_mk (Nat.le_refl _)) dX2_init_157 (fun K27 locs27 hn27 hz27 ho hL => ?_)
        clear he
        have he := hn27
        clear hn27
        replace hz27 := hz27.trans hz26
        clear hz26
        replace ha1 := ha1.kept (ho _ (by omega))
        replace ha2 := ha2.kept (ho _ (by omega))
        replace ha3 := ha3.kept (ho _ (by omega))
        replace ha4 := ha4.kept (ho _ (by omega))
        replace ha5 := ha5.kept (ho _ (by omega))
        replace ha6 := ha6.kept (ho _ (by omega))
        replace ha7 := ha7.kept (ho _ (by omega))
        replace ha8 := ha8.kept (ho _ (by omega))
        replace ha9 := ha9.kept (ho _ (by omega))
        replace ha10 := ha10.kept (ho _ (by omega))
        replace ha11 := ha11.kept (ho _ (by omega))
        replace ha12 := ha12.kept (ho _ (by omega))
        have hq27 : ∀ q : Nat, q < r → K27[q]? = H[q]? := fun q h => (ho q (by omega)).trans (hq26 q h)
        clear ho hq26
        have eS : nI (clampS sg) = 1 := by unfold clampS; rw [if_pos (i32_nle.mp c_1)]; rfl
        have eB : nI (clampB bl) = 256 := by unfold clampB; rw [if_neg (i32_nlt.mpr c_7), if_pos (i32_nle.mp c_8)]; rfl
        refine hb_vret G hr hlocks ⟨rfl, ⟨by unfold mdFs; rw [eS, eB]; exact he, fun k hk => ?_, mG0 r⟩, hz27, hq27⟩ hL (Nat.le_of_ble_eq_true rfl) (Nat.le_of_ble_eq_true rfl) dX2_init_160
        rcases (show k = 0 ∨ k = 1 ∨ k = 2 ∨ k = 3 ∨ k = 4 ∨ k = 5 ∨ k = 6 ∨ k = 7 ∨ k = 8 ∨ k = 9 ∨ k = 10 ∨ k = 11 by omega) with rfl | rfl | rfl | rfl | rfl | rfl | rfl | rfl | rfl | rfl | rfl | rfl
        · exact ha1
        · exact ha2
        · exact ha3
        · exact ha4
        · exact ha5
        · exact ha6
        · exact ha7
        · exact ha8
        · exact ha9
        · exact ha10
        · exact ha11
        · exact ha12
    · refine lv_bipush (v := 16) G.1 G.2.1 dX2_init_138 (by decide) ?_
      refine lv_goto (tgt := 157) G.1 G.2.1 dX2_init_140 (by decide) ?_
      refine hb_putF G he rfl inX2 tyX2 tyX2_ok nmX2 2 (by decide) kf_X2_54 rfl rfl hnm rfl rfl rfl (Nat.le_of_ble_eq_true rfl) hL (fG_mk (Nat.le_refl _)) dX2_init_157 (fun K27 locs27 hn27 hz27 ho hL => ?_)
      clear he
      have he := hn27
      clear hn27
      replace hz27 := hz27.trans hz26
      clear hz26
      replace ha1 := ha1.kept (ho _ (by omega))
      replace ha2 := ha2.kept (ho _ (by omega))
      replace ha3 := ha3.kept (ho _ (by omega))
      replace ha4 := ha4.kept (ho _ (by omega))
      replace ha5 := ha5.kept (ho _ (by omega))
      replace ha6 := ha6.kept (ho _ (by omega))
      replace ha7 := ha7.kept (ho _ (by omega))
      replace ha8 := ha8.kept (ho _ (by omega))
      replace ha9 := ha9.kept (ho _ (by omega))
      replace ha10 := ha10.kept (ho _ (by omega))
      replace ha11 := ha11.kept (ho _ (by omega))
      replace ha12 := ha12.kept (ho _ (by omega))
      have hq27 : ∀ q : Nat, q < r → K27[q]? = H[q]? := fun q h => (ho q (by omega)).trans (hq26 q h)
      clear ho hq26
      have eS : nI (clampS sg) = 1 := by unfold clampS; rw [if_pos (i32_nle.mp c_1)]; rfl
      have eB : nI (clampB bl) = 16 := by unfold clampB; rw [if_pos (i32_nle.mp c_7)]; rfl
      refine hb_vret G hr hlocks ⟨rfl, ⟨by unfold mdFs; rw [eS, eB]; exact he, fun k hk => ?_, mG0 r⟩, hz27, hq27⟩ hL (Nat.le_of_ble_eq_true rfl) (Nat.le_of_ble_eq_true rfl) dX2_init_160
      rcases (show k = 0 ∨ k = 1 ∨ k = 2 ∨ k = 3 ∨ k = 4 ∨ k = 5 ∨ k = 6 ∨ k = 7 ∨ k = 8 ∨ k = 9 ∨ k = 10 ∨ k = 11 by omega) with rfl | rfl | rfl | rfl | rfl | rfl | rfl | rfl | rfl | rfl | rfl | rfl
      · exact ha1
      · exact ha2
      · exact ha3
      · exact ha4
      · exact ha5
      · exact ha6
      · exact ha7
      · exact ha8
      · exact ha9
      · exact ha10
      · exact ha11
      · exact ha12
