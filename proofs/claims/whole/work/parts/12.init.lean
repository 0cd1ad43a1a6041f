def lv0 : LV := (fun _ _ => 0, 0, 0, 0)
theorem lv0_ok : lgOk lv0 := ⟨by decide, by decide⟩
set_option maxHeartbeats 4000000 in
set_option maxRecDepth 100000 in
/-- Log(): empty -/
theorem c_Log_init (g : Gx) (l : Launch) (x : Nat) (H : Heap) (hz0 : H.size = x + 1) (he : ob g x 0 [.null, .null, .int 0, .null, .null, .null, .null, .int 0, .int 0] H) : HM g l yX0_init cX0_init 1 none 1 20 6 2168 [.ref x] H (fun r H1 => r = none ∧ lgAt g x lv0 H1 ∧ H1.size = x + 7 ∧ ∀ q : Nat, q < x → H1[q]? = H[q]?) (fG x) := by
  refine HM.ofW (by decide) (Nat.le_of_ble_eq_true rfl) (by simp [Value.category]) ?_
  intro p e s m args below meth c ls G hr hml hlocks hnm hH hl
  have hl : lh ls 1 [some (.ref x)] := hl
  have hL : ∀ q ∈ ([] : List Loc), (fG x) q.base := fun q h => by cases h
  have hq0 : ∀ q : Nat, q < x → H[q]? = H[q]? := fun _ _ => rfl
  refine hb_aload_n G dX0_init_0 hl rfl ?_
  refine hb_obj G hml hl.size km_X0_3 dX0_init_1 (Nat.le_of_ble_eq_true rfl) (Nat.le_of_ble_eq_true rfl) ?_
  refine hb_aload_n G dX0_init_4 hl rfl ?_
  refine lv_bipush (v := 60) G.1 G.2.1 dX0_init_5 (by decide) ?_
  refine hb_newi (z := x + 1) (N := 60) G hz0 (by decide) rfl (by decide) (Nat.le_of_ble_eq_true rfl) (Nat.le_of_ble_eq_true rfl) dX0_init_7 (fun K1 ha1 hz1 ho => ?_)
  have he := he.kept (ho x (by omega))
  have hq1 : ∀ q : Nat, q < x → K1[q]? = H[q]? := fun q h => (ho q (by omega)).trans (hq0 q h)
  refine hb_putF G he rfl inX0 tyX0 tyX0_ok nmX0 0 (by decide) kf_X0_9 rfl rfl hnm rfl rfl rfl (Nat.le_of_ble_eq_true rfl) hL (fG_mk (by omega)) dX0_init_9 (fun K2 locs2 he hz2 ho hL => ?_)
  have hz2 := hz2.trans hz1
  have ha1 := ha1.kept (ho _ (by omega))
  have hq2 : ∀ q : Nat, q < x → K2[q]? = H[q]? := fun q h => (ho q (by omega)).trans (hq1 q h)
  refine hb_aload_n G dX0_init_12 hl rfl ?_
  refine lv_bipush (v := 60) G.1 G.2.1 dX0_init_13 (by decide) ?_
  refine hb_newi (z := x + 2) (N := 60) G hz2 (by decide) rfl (by decide) (Nat.le_of_ble_eq_true rfl) (Nat.le_of_ble_eq_true rfl) dX0_init_15 (fun K3 ha2 hz3 ho => ?_)
  have he := he.kept (ho x (by omega))
  have ha1 := ha1.kept (ho _ (by omega))
  have hq3 : ∀ q : Nat, q < x → K3[q]? = H[q]? := fun q h => (ho q (by omega)).trans (hq2 q h)
  refine hb_putF G he rfl inX0 tyX0 tyX0_ok nmX0 1 (by decide) kf_X0_15 rfl rfl hnm rfl rfl rfl (Nat.le_of_ble_eq_true rfl) hL (fG_mk (by omega)) dX0_init_17 (fun K4 locs4 he hz4 ho hL => ?_)
  have hz4 := hz4.trans hz3
  have ha1 := ha1.kept (ho _ (by omega))
  have ha2 := ha2.kept (ho _ (by omega))
  have hq4 : ∀ q : Nat, q < x → K4[q]? = H[q]? := fun q h => (ho q (by omega)).trans (hq3 q h)
  refine hb_aload_n G dX0_init_20 hl rfl ?_
  refine lv_iconst (v := 0) G.1 G.2.1 dX0_init_21 (by decide) ?_
  refine hb_put G he rfl inX0 tyX0 tyX0_ok nmX0 2 (by decide) kf_X0_18 rfl rfl rfl rfl (Nat.le_of_ble_eq_true rfl) hL (fG_mk (by omega)) dX0_init_22 (fun K5 locs5 he hz5 ho hL => ?_)
  have hz5 := hz5.trans hz4
  have ha1 := ha1.kept (ho _ (by omega))
  have ha2 := ha2.kept (ho _ (by omega))
  have hq5 : ∀ q : Nat, q < x → K5[q]? = H[q]? := fun q h => (ho q (by omega)).trans (hq4 q h)
  refine hb_aload_n G dX0_init_25 hl rfl ?_
  refine lv_sipush (v := 512) G.1 G.2.1 dX0_init_26 (by decide) ?_
  refine hb_newi (z := x + 3) (N := 512) G hz5 (by decide) rfl (by decide) (Nat.le_of_ble_eq_true rfl) (Nat.le_of_ble_eq_true rfl) dX0_init_29 (fun K6 ha3 hz6 ho => ?_)
  have he := he.kept (ho x (by omega))
  have ha1 := ha1.kept (ho _ (by omega))
  have ha2 := ha2.kept (ho _ (by omega))
  have hq6 : ∀ q : Nat, q < x → K6[q]? = H[q]? := fun q h => (ho q (by omega)).trans (hq5 q h)
  refine hb_putF G he rfl inX0 tyX0 tyX0_ok nmX0 3 (by decide) kf_X0_22 rfl rfl hnm rfl rfl rfl (Nat.le_of_ble_eq_true rfl) hL (fG_mk (by omega)) dX0_init_31 (fun K7 locs7 he hz7 ho hL => ?_)
  have hz7 := hz7.trans hz6
  have ha1 := ha1.kept (ho _ (by omega))
  have ha2 := ha2.kept (ho _ (by omega))
  have ha3 := ha3.kept (ho _ (by omega))
  have hq7 : ∀ q : Nat, q < x → K7[q]? = H[q]? := fun q h => (ho q (by omega)).trans (hq6 q h)
  refine hb_aload_n G dX0_init_34 hl rfl ?_
  refine lv_sipush (v := 512) G.1 G.2.1 dX0_init_35 (by decide) ?_
  refine hb_newi (z := x + 4) (N := 512) G hz7 (by decide) rfl (by decide) (Nat.le_of_ble_eq_true rfl) (Nat.le_of_ble_eq_true rfl) dX0_init_38 (fun K8 ha4 hz8 ho => ?_)
  have he := he.kept (ho x (by omega))
  have ha1 := ha1.kept (ho _ (by omega))
  have ha2 := ha2.kept (ho _ (by omega))
  have ha3 := ha3.kept (ho _ (by omega))
  have hq8 : ∀ q : Nat, q < x → K8[q]? = H[q]? := fun q h => (ho q (by omega)).trans (hq7 q h)
  refine hb_putF G he rfl inX0 tyX0 tyX0_ok nmX0 4 (by decide) kf_X0_25 rfl rfl hnm rfl rfl rfl (Nat.le_of_ble_eq_true rfl) hL (fG_mk (by omega)) dX0_init_40 (fun K9 locs9 he hz9 ho hL => ?_)
  have hz9 := hz9.trans hz8
  have ha1 := ha1.kept (ho _ (by omega))
  have ha2 := ha2.kept (ho _ (by omega))
  have ha3 := ha3.kept (ho _ (by omega))
  have ha4 := ha4.kept (ho _ (by omega))
  have hq9 : ∀ q : Nat, q < x → K9[q]? = H[q]? := fun q h => (ho q (by omega)).trans (hq8 q h)
  refine hb_aload_n G dX0_init_43 hl rfl ?_
  refine lv_sipush (v := 512) G.1 G.2.1 dX0_init_44 (by decide) ?_
  refine hb_newi (z := x + 5) (N := 512) G hz9 (by decide) rfl (by decide) (Nat.le_of_ble_eq_true rfl) (Nat.le_of_ble_eq_true rfl) dX0_init_47 (fun K10 ha5 hz10 ho => ?_)
  have he := he.kept (ho x (by omega))
  have ha1 := ha1.kept (ho _ (by omega))
  have ha2 := ha2.kept (ho _ (by omega))
  have ha3 := ha3.kept (ho _ (by omega))
  have ha4 := ha4.kept (ho _ (by omega))
  have hq10 : ∀ q : Nat, q < x → K10[q]? = H[q]? := fun q h => (ho q (by omega)).trans (hq9 q h)
  refine hb_putF G he rfl inX0 tyX0 tyX0_ok nmX0 5 (by decide) kf_X0_28 rfl rfl hnm rfl rfl rfl (Nat.le_of_ble_eq_true rfl) hL (fG_mk (by omega)) dX0_init_49 (fun K11 locs11 he hz11 ho hL => ?_)
  have hz11 := hz11.trans hz10
  have ha1 := ha1.kept (ho _ (by omega))
  have ha2 := ha2.kept (ho _ (by omega))
  have ha3 := ha3.kept (ho _ (by omega))
  have ha4 := ha4.kept (ho _ (by omega))
  have ha5 := ha5.kept (ho _ (by omega))
  have hq11 : ∀ q : Nat, q < x → K11[q]? = H[q]? := fun q h => (ho q (by omega)).trans (hq10 q h)
  refine hb_aload_n G dX0_init_52 hl rfl ?_
  refine lv_sipush (v := 512) G.1 G.2.1 dX0_init_53 (by decide) ?_
  refine hb_newi (z := x + 6) (N := 512) G hz11 (by decide) rfl (by decide) (Nat.le_of_ble_eq_true rfl) (Nat.le_of_ble_eq_true rfl) dX0_init_56 (fun K12 ha6 hz12 ho => ?_)
  have he := he.kept (ho x (by omega))
  have ha1 := ha1.kept (ho _ (by omega))
  have ha2 := ha2.kept (ho _ (by omega))
  have ha3 := ha3.kept (ho _ (by omega))
  have ha4 := ha4.kept (ho _ (by omega))
  have ha5 := ha5.kept (ho _ (by omega))
  have hq12 : ∀ q : Nat, q < x → K12[q]? = H[q]? := fun q h => (ho q (by omega)).trans (hq11 q h)
  refine hb_putF G he rfl inX0 tyX0 tyX0_ok nmX0 6 (by decide) kf_X0_31 rfl rfl hnm rfl rfl rfl (Nat.le_of_ble_eq_true rfl) hL (fG_mk (by omega)) dX0_init_58 (fun K13 locs13 he hz13 ho hL => ?_)
  have hz13 := hz13.trans hz12
  have ha1 := ha1.kept (ho _ (by omega))
  have ha2 := ha2.kept (ho _ (by omega))
  have ha3 := ha3.kept (ho _ (by omega))
  have ha4 := ha4.kept (ho _ (by omega))
  have ha5 := ha5.kept (ho _ (by omega))
  have ha6 := ha6.kept (ho _ (by omega))
  have hq13 : ∀ q : Nat, q < x → K13[q]? = H[q]? := fun q h => (ho q (by omega)).trans (hq12 q h)
  refine hb_aload_n G dX0_init_61 hl rfl ?_
  refine lv_iconst (v := 0) G.1 G.2.1 dX0_init_62 (by decide) ?_
  refine hb_put G he rfl inX0 tyX0 tyX0_ok nmX0 7 (by decide) kf_X0_34 rfl rfl rfl rfl (Nat.le_of_ble_eq_true rfl) hL (fG_mk (by omega)) dX0_init_63 (fun K14 locs14 he hz14 ho hL => ?_)
  have hz14 := hz14.trans hz13
  have ha1 := ha1.kept (ho _ (by omega))
  have ha2 := ha2.kept (ho _ (by omega))
  have ha3 := ha3.kept (ho _ (by omega))
  have ha4 := ha4.kept (ho _ (by omega))
  have ha5 := ha5.kept (ho _ (by omega))
  have ha6 := ha6.kept (ho _ (by omega))
  have hq14 : ∀ q : Nat, q < x → K14[q]? = H[q]? := fun q h => (ho q (by omega)).trans (hq13 q h)
  refine hb_aload_n G dX0_init_66 hl rfl ?_
  refine lv_iconst (v := 0) G.1 G.2.1 dX0_init_67 (by decide) ?_
  refine hb_put G he rfl inX0 tyX0 tyX0_ok nmX0 8 (by decide) kf_X0_37 rfl rfl rfl rfl (Nat.le_of_ble_eq_true rfl) hL (fG_mk (by omega)) dX0_init_68 (fun K15 locs15 he hz15 ho hL => ?_)
  have hz15 := hz15.trans hz14
  have ha1 := ha1.kept (ho _ (by omega))
  have ha2 := ha2.kept (ho _ (by omega))
  have ha3 := ha3.kept (ho _ (by omega))
  have ha4 := ha4.kept (ho _ (by omega))
  have ha5 := ha5.kept (ho _ (by omega))
  have ha6 := ha6.kept (ho _ (by omega))
  have hq15 : ∀ q : Nat, q < x → K15[q]? = H[q]? := fun q h => (ho q (by omega)).trans (hq14 q h)
  refine hb_vret G hr hlocks ⟨rfl, ⟨he, fun j hj => ?_⟩, hz15, hq15⟩ hL (Nat.le_of_ble_eq_true rfl) (Nat.le_of_ble_eq_true rfl) dX0_init_71
  rcases (show j = 0 ∨ j = 1 ∨ j = 2 ∨ j = 3 ∨ j = 4 ∨ j = 5 by omega) with rfl | rfl | rfl | rfl | rfl | rfl
  · exact ha1
  · exact ha2
  · exact ha3
  · exact ha4
  · exact ha5
  · exact ha6
/-! THE DISK: at d; the row of logs at d + 1, the blocks' use at d + 9; five logs, 0 .. 3 and the draft (4), where P says -/
def dkP (d : Nat) (P : Nat → Nat) : Prop := (∀ j, j < 5 → d + 2 ≤ P j ∧ P j + 7 ≤ d + 38 ∧ (P j + 7 ≤ d + 9 ∨ d + 10 ≤ P j)) ∧ ∀ i j, i < 5 → j < 5 → i ≠ j → P i + 7 ≤ P j ∨ P j + 7 ≤ P i
def dkFs (d S : Nat) (p4 : Nat) (tc dn wr : Int32) : List Value := [.int (nI S), .ref (d + 1), .ref (d + 9), .ref p4, .int tc, .int dn, .int wr]
def dkAt (g : Gx) (d S B : Nat) (P : Nat → Nat) (V : Nat → LV) (bu : Nat → Int32) (tc dn wr : Int32) (H : Heap) : Prop :=
  ob g d 1 (dkFs d S (P 4) tc dn wr) H ∧ qa g (d + 1) 4 (fun i => some (P i)) H ∧ ia g (d + 9) B bu H ∧ (∀ j, j < 5 → lgAt g (P j) (V j) H) ∧ dkP d P
def clampS (x : Int32) : Nat := if x < 1 then 1 else if 16 < x then 16 else x.toNatClampNeg
def clampB (x : Int32) : Nat := if x < 16 then 16 else if 256 < x then 256 else x.toNatClampNeg
theorem i32_lt {x y : Int32} : x < y ↔ x.toInt < y.toInt := Int32.lt_iff_toInt_lt
theorem i32_le {x y : Int32} : x ≤ y ↔ x.toInt ≤ y.toInt := Int32.le_iff_toInt_le
theorem i32_ext {x y : Int32} (h : x.toInt = y.toInt) : x = y := Int32.toInt_inj.mp h
theorem clamp_of_int {x : Int32} (h : 0 ≤ x.toInt) : (x.toNatClampNeg : Int) = x.toInt := by
  have h9 : x.toNatClampNeg = x.toInt.toNat := rfl
  rw [h9]; omega
theorem nI_tc {x : Int32} (h : 0 ≤ x.toInt) : nI x.toNatClampNeg = x := by
  have h1 := clamp_of_int h
  have h2 : x.toInt < 2 ^ 31 := by have := Int32.toInt_lt x; omega
  apply i32_ext
  rw [nI_toInt (by omega)]; exact h1
theorem clampS_in (x : Int32) : 1 ≤ clampS x ∧ clampS x ≤ 16 := by
  unfold clampS
  split
  · omega
  · rename_i h1
    split
    · omega
    · rename_i h2
      rw [i32_lt] at h1 h2
      have e1 : (1 : Int32).toInt = 1 := rfl
      have e2 : (16 : Int32).toInt = 16 := rfl
      rw [e1] at h1; rw [e2] at h2
      have := clamp_of_int (x := x) (by omega)
      omega
theorem clampB_in (x : Int32) : 16 ≤ clampB x ∧ clampB x ≤ 256 := by
  unfold clampB
  split
  · omega
  · rename_i h1
    split
    · omega
    · rename_i h2
      rw [i32_lt] at h1 h2
      have e1 : (16 : Int32).toInt = 16 := rfl
      have e2 : (256 : Int32).toInt = 256 := rfl
      rw [e1] at h1; rw [e2] at h2
      have := clamp_of_int (x := x) (by omega)
      omega
theorem clampS_eq (x : Int32) {a b : Int32} (ha : a = if x < 16 then x else 16) (hb : b = if (1 : Int32) < a then a else 1) : b = nI (clampS x) := by
  have e1 : (1 : Int32).toInt = 1 := rfl
  have e2 : (16 : Int32).toInt = 16 := rfl
  unfold clampS
  by_cases h1 : x < 1
  · rw [if_pos h1]
    rw [if_pos (by rw [i32_lt] at h1 ⊢; omega)] at ha
    subst ha
    rw [if_neg (by rw [i32_lt] at h1 ⊢; omega)] at hb
    exact hb
  · rw [if_neg h1]
    rw [i32_lt] at h1
    by_cases h2 : (16 : Int32) < x
    · rw [if_pos h2]
      rw [if_neg (by rw [i32_lt] at h2 ⊢; omega)] at ha
      subst ha
      exact hb
    · rw [if_neg h2, nI_tc (by omega)]
      rw [i32_lt] at h2
      have ha2 : a = x := by
        by_cases h3 : x < 16
        · rw [if_pos h3] at ha; exact ha
        · rw [if_neg h3] at ha
          rw [i32_lt] at h3
          rw [ha]; apply i32_ext; omega
      subst ha2
      by_cases h4 : (1 : Int32) < a
      · rw [if_pos h4] at hb; exact hb
      · rw [if_neg h4] at hb
        rw [i32_lt] at h4
        rw [hb]; apply i32_ext; omega
theorem clampB_eq (x : Int32) {a b : Int32} (ha : a = if x < 256 then x else 256) (hb : b = if (16 : Int32) < a then a else 16) : b = nI (clampB x) := by
  have e1 : (16 : Int32).toInt = 16 := rfl
  have e2 : (256 : Int32).toInt = 256 := rfl
  unfold clampB
  by_cases h1 : x < 16
  · rw [if_pos h1]
    rw [if_pos (by rw [i32_lt] at h1 ⊢; omega)] at ha
    subst ha
    rw [if_neg (by rw [i32_lt] at h1 ⊢; omega)] at hb
    exact hb
  · rw [if_neg h1]
    rw [i32_lt] at h1
    by_cases h2 : (256 : Int32) < x
    · rw [if_pos h2]
      rw [if_neg (by rw [i32_lt] at h2 ⊢; omega)] at ha
      subst ha
      exact hb
    · rw [if_neg h2, nI_tc (by omega)]
      rw [i32_lt] at h2
      have ha2 : a = x := by
        by_cases h3 : x < 256
        · rw [if_pos h3] at ha; exact ha
        · rw [if_neg h3] at ha
          rw [i32_lt] at h3
          rw [ha]; apply i32_ext; omega
      subst ha2
      by_cases h4 : (16 : Int32) < a
      · rw [if_pos h4] at hb; exact hb
      · rw [if_neg h4] at hb
        rw [i32_lt] at h4
        rw [hb]; apply i32_ext; omega
def P0 (d : Nat) : Nat → Nat := fun j => if j = 4 then d + 2 else d + 10 + 7 * j
theorem P0_ok (d : Nat) : dkP d (P0 d) := by
  unfold P0
  refine ⟨fun j hj => ?_, fun i j hi hj hij => ?_⟩
  · dsimp only
    split <;> omega
  · dsimp only
    split <;> split <;> omega
set_option maxHeartbeats 4000000 in
set_option maxRecDepth 100000 in
/-- LogDisk(): four empty logs and an empty draft -/
theorem c_Disk_init (g : Gx) (l : Launch) (d : Nat) (sg bl : Int32) (H : Heap) (hz0 : H.size = d + 1) (he : ob g d 1 [.int 0, .null, .null, .null, .int 0, .int 0, .int 0] H) : HM g l yX1_init cX1_init 4 none 2 40 37 11145 [.ref d, .int sg, .int bl] H (fun r H1 => r = none ∧ dkAt g d (clampS sg) (clampB bl) (P0 d) (fun _ => lv0) (fun _ => 0) (-1) 0 0 H1 ∧ H1.size = d + 38 ∧ ∀ q : Nat, q < d → H1[q]? = H[q]?) (fG d) := by
  refine HM.ofW (by decide) (Nat.le_of_ble_eq_true rfl) (by simp [Value.category]) ?_
  intro p e s m args below meth c ls G hr hml hlocks hnm hH hl
  have hl : lh ls 4 [some (.ref d), some (.int sg), some (.int bl), none] := hl
  have hL : ∀ q ∈ ([] : List Loc), (fG d) q.base := fun q h => by cases h
  have hq0 : ∀ q : Nat, q < d → H[q]? = H[q]? := fun _ _ => rfl
  have hbB := clampB_in bl
  refine hb_aload_n G dX1_init_0 hl rfl ?_
  refine hb_obj G hml hl.size km_X1_1 dX1_init_1 (Nat.le_of_ble_eq_true rfl) (Nat.le_of_ble_eq_true rfl) ?_
  refine hb_aload_n G dX1_init_4 hl rfl ?_
  refine lv_iconst (v := 4) G.1 G.2.1 dX1_init_5 (by decide) ?_
  refine hb_newq (z := d + 1) (N := 4) G kc_X1_9 hz0 (by decide) rfl (by decide) (Nat.le_of_ble_eq_true rfl) (Nat.le_of_ble_eq_true rfl) dX1_init_6 (fun K1 hqa hz1 ho => ?_)
  have he := he.kept (ho d (by omega))
  have hq1 : ∀ q : Nat, q < d → K1[q]? = H[q]? := fun q h => (ho q (by omega)).trans (hq0 q h)
  refine hb_putF G he rfl inX1 tyX1 tyX1_ok nmX1 1 (by decide) kf_X1_11 rfl rfl hnm rfl rfl rfl (Nat.le_of_ble_eq_true rfl) hL (fG_mk (by omega)) dX1_init_9 (fun K2 locs2 he hz2 ho hL => ?_)
  have hz2 := hz2.trans hz1
  have hqa := hqa.kept (ho _ (by omega))
  have hq2 : ∀ q : Nat, q < d → K2[q]? = H[q]? := fun q h => (ho q (by omega)).trans (hq1 q h)
  refine hb_aload_n G dX1_init_12 hl rfl ?_
  refine hb_new (z := d + 2) (fs := [.null, .null, .int 0, .null, .null, .null, .null, .int 0, .int 0]) (ci := 0) G hz2 rfl inX0 tyX0 tyX0_ok kc_X1_9 kj_X0 kn_X0 (fun j hj => by rcases (show j = 0 ∨ j = 1 ∨ j = 2 ∨ j = 3 ∨ j = 4 ∨ j = 5 ∨ j = 6 ∨ j = 7 ∨ j = 8 by omega) with rfl | rfl | rfl | rfl | rfl | rfl | rfl | rfl | rfl <;> rfl) (Nat.le_of_ble_eq_true rfl) (Nat.le_of_ble_eq_true rfl) dX1_init_13 (fun K3 hn hz3 ho => ?_)
  have he := he.kept (ho _ (by omega))
  have hqa := hqa.kept (ho _ (by omega))
  have hq3 : ∀ q : Nat, q < d → K3[q]? = H[q]? := fun q h => (ho q (by omega)).trans (hq2 q h)
  refine lv_dup G.1 G.2.1 dX1_init_16 rfl ?_
  refine hb_callIN (As := []) (rest := [.ref (d + 2), .ref d]) G hml (c_Log_init g l (d + 2) _ hz3 hn) rfl G.2.2.2.2.2.1 ki_X0_init kn_X0 ko_X0_init hd_X0_init ⟨Nat.le_of_ble_eq_true rfl, Nat.le_of_ble_eq_true rfl⟩ hl.size rfl (Nat.le_of_ble_eq_true rfl) dX1_init_17 ⟨Nat.le_of_ble_eq_true rfl, Nat.le_of_ble_eq_true rfl⟩ hL (fun q h => fG_mk (Nat.le_trans (by omega) h)) (fun v1 K4 locs4 hp hL => ?_)
  obtain ⟨rfl, l4, hz4, ho⟩ := hp
  have he := he.kept (ho _ (by omega))
  have hqa := hqa.kept (ho _ (by omega))
  have hq4 : ∀ q : Nat, q < d → K4[q]? = H[q]? := fun q h => (ho q (by omega)).trans (hq3 q h)
  refine hb_put G he rfl inX1 tyX1 tyX1_ok nmX1 3 (by decide) kf_X1_16 rfl rfl rfl rfl (Nat.le_of_ble_eq_true rfl) hL (fG_mk (by omega)) dX1_init_20 (fun K5 locs5 he hz5 ho hL => ?_)
  have hz5 := hz5.trans hz4
  have hqa := hqa.kept (ho _ (by omega))
  have l4 := l4.kept (fun q h1 h2 => ho q (by omega))
  have hq5 : ∀ q : Nat, q < d → K5[q]? = H[q]? := fun q h => (ho q (by omega)).trans (hq4 q h)
  refine hb_aload_n G dX1_init_23 hl rfl ?_
  refine lv_iconst (v := (-1)) G.1 G.2.1 dX1_init_24 (by decide) ?_
  refine hb_put G he rfl inX1 tyX1 tyX1_ok nmX1 4 (by decide) kf_X1_20 rfl rfl rfl rfl (Nat.le_of_ble_eq_true rfl) hL (fG_mk (by omega)) dX1_init_25 (fun K6 locs6 he hz6 ho hL => ?_)
  have hz6 := hz6.trans hz5
  have hqa := hqa.kept (ho _ (by omega))
  have l4 := l4.kept (fun q h1 h2 => ho q (by omega))
  have hq6 : ∀ q : Nat, q < d → K6[q]? = H[q]? := fun q h => (ho q (by omega)).trans (hq5 q h)
  refine hb_aload_n G dX1_init_28 hl rfl ?_
  refine lv_iconst (v := 0) G.1 G.2.1 dX1_init_29 (by decide) ?_
  refine hb_put G he rfl inX1 tyX1 tyX1_ok nmX1 5 (by decide) kf_X1_24 rfl rfl rfl rfl (Nat.le_of_ble_eq_true rfl) hL (fG_mk (by omega)) dX1_init_30 (fun K7 locs7 he hz7 ho hL => ?_)
  have hz7 := hz7.trans hz6
  have hqa := hqa.kept (ho _ (by omega))
  have l4 := l4.kept (fun q h1 h2 => ho q (by omega))
  have hq7 : ∀ q : Nat, q < d → K7[q]? = H[q]? := fun q h => (ho q (by omega)).trans (hq6 q h)
  refine hb_aload_n G dX1_init_33 hl rfl ?_
  refine lv_iconst (v := 0) G.1 G.2.1 dX1_init_34 (by decide) ?_
  refine hb_put G he rfl inX1 tyX1 tyX1_ok nmX1 6 (by decide) kf_X1_28 rfl rfl rfl rfl (Nat.le_of_ble_eq_true rfl) hL (fG_mk (by omega)) dX1_init_35 (fun K8 locs8 he hz8 ho hL => ?_)
  have hz8 := hz8.trans hz7
  have hqa := hqa.kept (ho _ (by omega))
  have l4 := l4.kept (fun q h1 h2 => ho q (by omega))
  have hq8 : ∀ q : Nat, q < d → K8[q]? = H[q]? := fun q h => (ho q (by omega)).trans (hq7 q h)
  refine hb_aload_n G dX1_init_38 hl rfl ?_
  refine lv_iconst (v := 1) G.1 G.2.1 dX1_init_39 (by decide) ?_
  refine lv_bipush (v := 16) G.1 G.2.1 dX1_init_40 (by decide) ?_
  refine hb_iload_n G dX1_init_42 hl rfl ?_
  refine va_mmin G.1 G.2.1 (hml.trans hl.size.symm) G.2.2.1 (G.2.2.2.1 _ km_X1_31) (G.2.2.2.1 _ kt_Ma_min) (G.2.2.2.1 _ kn_Ma) (G.2.2.2.1 _ ko_Ma_min) (Nat.le_of_ble_eq_true rfl) (Nat.le_of_ble_eq_true rfl) (Nat.le_of_ble_eq_true rfl) (Nat.le_of_ble_eq_true rfl) dX1_init_43 ?_
  refine lv_topi (fun r_1 er_1 => ?_)
  refine va_mmax G.1 G.2.1 (hml.trans hl.size.symm) G.2.2.1 (G.2.2.2.1 _ km_X1_37) (G.2.2.2.1 _ kt_Ma_max) (G.2.2.2.1 _ kn_Ma) (G.2.2.2.1 _ ko_Ma_max) (Nat.le_of_ble_eq_true rfl) (Nat.le_of_ble_eq_true rfl) (Nat.le_of_ble_eq_true rfl) (Nat.le_of_ble_eq_true rfl) dX1_init_46 ?_
  refine lv_topi (fun r_2 er_2 => ?_)
  obtain rfl : r_2 = nI (clampS sg) := clampS_eq sg er_1 er_2
  refine hb_putF G he rfl inX1 tyX1 tyX1_ok nmX1 0 (by decide) kf_X1_40 rfl rfl hnm rfl rfl rfl (Nat.le_of_ble_eq_true rfl) hL (fG_mk (by omega)) dX1_init_49 (fun K9 locs9 he hz9 ho hL => ?_)
  have hz9 := hz9.trans hz8
  have hqa := hqa.kept (ho _ (by omega))
  have l4 := l4.kept (fun q h1 h2 => ho q (by omega))
  have hq9 : ∀ q : Nat, q < d → K9[q]? = H[q]? := fun q h => (ho q (by omega)).trans (hq8 q h)
  refine hb_aload_n G dX1_init_52 hl rfl ?_
  refine lv_bipush (v := 16) G.1 G.2.1 dX1_init_53 (by decide) ?_
  refine lv_sipush (v := 256) G.1 G.2.1 dX1_init_55 (by decide) ?_
  refine hb_iload_n G dX1_init_58 hl rfl ?_
  refine va_mmin G.1 G.2.1 (hml.trans hl.size.symm) G.2.2.1 (G.2.2.2.1 _ km_X1_31) (G.2.2.2.1 _ kt_Ma_min) (G.2.2.2.1 _ kn_Ma) (G.2.2.2.1 _ ko_Ma_min) (Nat.le_of_ble_eq_true rfl) (Nat.le_of_ble_eq_true rfl) (Nat.le_of_ble_eq_true rfl) (Nat.le_of_ble_eq_true rfl) dX1_init_59 ?_
  refine lv_topi (fun r_3 er_3 => ?_)
  refine va_mmax G.1 G.2.1 (hml.trans hl.size.symm) G.2.2.1 (G.2.2.2.1 _ km_X1_37) (G.2.2.2.1 _ kt_Ma_max) (G.2.2.2.1 _ kn_Ma) (G.2.2.2.1 _ ko_Ma_max) (Nat.le_of_ble_eq_true rfl) (Nat.le_of_ble_eq_true rfl) (Nat.le_of_ble_eq_true rfl) (Nat.le_of_ble_eq_true rfl) dX1_init_62 ?_
  refine lv_topi (fun r_4 er_4 => ?_)
  obtain rfl : r_4 = nI (clampB bl) := clampB_eq bl er_3 er_4
  refine hb_newi (z := d + 9) (N := clampB bl) G hz9 (nI_pos (by omega)) (nI_clamp (by omega)) (by omega) (Nat.le_of_ble_eq_true rfl) (by show 0 + 4 + 9 + 2168 + clampB bl ≤ 11145; omega) dX1_init_65 (fun K10 hbu hz10 ho => ?_)
  have he := he.kept (ho d (by omega))
  have hqa := hqa.kept (ho _ (by omega))
  have l4 := l4.kept (fun q h1 h2 => ho q (by omega))
  have hq10 : ∀ q : Nat, q < d → K10[q]? = H[q]? := fun q h => (ho q (by omega)).trans (hq9 q h)
  refine W.widen (k := 9) (n := 2437) (by omega) (by show 0 + 4 + 9 + 2168 + clampB bl ≤ 2437; omega) ?_
  refine hb_putF G he rfl inX1 tyX1 tyX1_ok nmX1 2 (by decide) kf_X1_43 rfl rfl hnm rfl rfl rfl (Nat.le_of_ble_eq_true rfl) hL (fG_mk (by omega)) dX1_init_67 (fun K11 locs11 he hz11 ho hL => ?_)
  have hz11 := hz11.trans hz10
  have hqa := hqa.kept (ho _ (by omega))
  have l4 := l4.kept (fun q h1 h2 => ho q (by omega))
  have hbu := hbu.kept (ho _ (by omega))
  have hq11 : ∀ q : Nat, q < d → K11[q]? = H[q]? := fun q h => (ho q (by omega)).trans (hq10 q h)
  refine lv_iconst (v := 0) G.1 G.2.1 dX1_init_70 (by decide) ?_
  refine hb_istore_n G dX1_init_71 hl (by decide) (fun ls hl => ?_)
  have hl : lh ls 4 [some (.ref d), some (.int sg), some (.int bl), some (.int 0)] := hl
  have lp : ∀ (k j : Nat) (b : Int32) (f : Nat → Option Nat) (K : Heap) (locs : List Loc) (ls : Array Slot), (4 + 1 ≤ j + k) → (j ≤ 4) → (b = nI j) → (ob g d 1 (dkFs d (clampS sg) (d + 2) (-1) 0 0) K) → (qa g (d + 1) 4 f K) → (∀ i, i < j → f i = some (P0 d i)) → (ia g (d + 9) (clampB bl) (fun _ => 0) K) → (lgAt g (d + 2) lv0 K) → (∀ i, i < j → lgAt g (d + 10 + 7 * i) lv0 K) → (K.size = d + 10 + 7 * j) → (∀ q : Nat, q < d → K[q]? = H[q]?) → (∀ q ∈ locs, (fG d) q.base) → lh ls 4 [some (.ref d), some (.int sg), some (.int bl), some (.int b)] → W p l e ({ frames := 2, cells := 37, slots := 11145, locals := 40 } : Room) s m args below meth c K locs (9 + 7 * j) (2437 + 2177 * j) (hQ below args s (fun r H1 => r = none ∧ dkAt g d (clampS sg) (clampB bl) (P0 d) (fun _ => lv0) (fun _ => 0) (-1) 0 0 H1 ∧ H1.size = d + 38 ∧ ∀ q : Nat, q < d → H1[q]? = H[q]?) 37 11145 (fG d)) (F0 m 72 ls []) := by
    intro k
    induction k with
    | zero =>
      intro j b f K locs ls hd hj eb he hqa hf hbu l4 hls hz hq hL hl
      exfalso; omega
    | succ k ih =>
      intro j b f K locs ls hd hj eb he hqa hf hbu l4 hls hz hq hL hl
      refine hb_iload_n G dX1_init_72 hl rfl ?_
      refine hb_aload_n G dX1_init_73 hl rfl ?_
      refine hb_get G he rfl inX1 1 (by decide) kf_X1_11 rfl rfl dX1_init_74 ?_
      refine hb_alen_q G hqa dX1_init_77 ?_
      refine lv_icmp_ge (tgt := 100) G.1 G.2.1 dX1_init_78 (by decide) (fun c_5 => ?_) (fun c_5 => ?_)
      · have hj2 : j = 4 := by have := (ic_le rfl eb (by omega) (by omega)).mp c_5; omega
        subst hj2
        refine hb_vret G hr hlocks ⟨rfl, ⟨he, hqa.ext hf, hbu, fun i hi => ?_, P0_ok d⟩, hz, hq⟩ hL (Nat.le_of_ble_eq_true rfl) (Nat.le_of_ble_eq_true rfl) dX1_init_100
        by_cases h4 : i = 4
        · subst h4; exact l4
        · have h9 : P0 d i = d + 10 + 7 * i := by unfold P0; rw [if_neg h4]
          rw [h9]; exact hls i (by omega)
      · have hj2 : j < 4 := by have := mt (ic_le rfl eb (by omega) (by omega)).mpr c_5; omega
        refine hb_aload_n G dX1_init_81 hl rfl ?_
        refine hb_get G he rfl inX1 1 (by decide) kf_X1_11 rfl rfl dX1_init_82 ?_
        refine hb_iload_n G dX1_init_85 hl rfl ?_
        refine hb_new (z := d + 10 + 7 * j) (fs := [.null, .null, .int 0, .null, .null, .null, .null, .int 0, .int 0]) (ci := 0) G hz rfl inX0 tyX0 tyX0_ok kc_X1_9 kj_X0 kn_X0 (fun j hj => by rcases (show j = 0 ∨ j = 1 ∨ j = 2 ∨ j = 3 ∨ j = 4 ∨ j = 5 ∨ j = 6 ∨ j = 7 ∨ j = 8 by omega) with rfl | rfl | rfl | rfl | rfl | rfl | rfl | rfl | rfl <;> rfl) (show 9 + 7 * j + 1 ≤ 37 by omega) (show 2437 + 2177 * j + 9 ≤ 11145 by omega) dX1_init_86 (fun K1 hn hz1 ho1 => ?_)
        refine lv_dup G.1 G.2.1 dX1_init_89 rfl ?_
        refine hb_callIN (As := []) (rest := [.ref (d + 10 + 7 * j), .int b, .ref (d + 1)]) G hml (c_Log_init g l (d + 10 + 7 * j) _ hz1 hn) rfl G.2.2.2.2.2.1 ki_X0_init kn_X0 ko_X0_init hd_X0_init ⟨Nat.le_of_ble_eq_true rfl, Nat.le_of_ble_eq_true rfl⟩ hl.size rfl (Nat.le_of_ble_eq_true rfl) dX1_init_90 ⟨show 9 + 7 * j + 1 + 6 ≤ 37 by omega, show 2437 + 2177 * j + 9 + 2168 ≤ 11145 by omega⟩ hL (fun q h => fG_mk (Nat.le_trans (by omega) h)) (fun v1 K2 locs2 hp hL => ?_)
        obtain ⟨rfl, ln, hz2, ho2⟩ := hp
        have hk : ∀ q : Nat, q < d + 10 + 7 * j → K2[q]? = K[q]? := fun q h => (ho2 q h).trans (ho1 q h)
        refine hb_qast G (hqa.kept (hk _ (by omega))) ln.1 (by rw [eb]; exact vp_in_nI hj2 (by decide)) hL (fG_mk (by omega)) dX1_init_93 (fun K3 locs3 hqa3 hz3 ho3 hL => ?_)
        rw [show b.toNatClampNeg = j by rw [eb]; exact nI_clamp (by omega)] at hqa3
        obtain ⟨t_6, et_6⟩ : ∃ z : Int32, z = b + 1 := ⟨_, rfl⟩
        refine hb_iinc (v := t_6) G dX1_init_94 hl rfl (by rw [et_6]; rfl) (by decide) (fun ls hl => ?_)
        have hl : lh ls 4 [some (.ref d), some (.int sg), some (.int bl), some (.int t_6)] := hl
        refine lv_goto (tgt := 72) G.1 G.2.1 dX1_init_97 (by decide) ?_
        have hk3 : ∀ q : Nat, q < d + 10 + 7 * j → q ≠ d + 1 → K3[q]? = K[q]? := fun q h h2 => (ho3 q h2).trans (hk q h)
        refine W.cs (cells' := 9 + 7 * (j + 1)) (slots' := 2437 + 2177 * (j + 1)) (by omega) (by omega) ?_
        exact ih (j + 1) t_6 _ K3 locs3 ls (by omega) (by omega) (by rw [et_6, eb]; exact nI_1 j) (he.kept (hk3 _ (by omega) (by omega))) hqa3 (fun i hi => by
            by_cases hij : i = j
            · subst hij
              rw [va_up_self]
              have h9 : P0 d i = d + 10 + 7 * i := by unfold P0; rw [if_neg (by omega)]
              rw [h9]
            · rw [va_up_ne _ _ hij]; exact hf i (by omega)) (hbu.kept (hk3 _ (by omega) (by omega))) (l4.kept (fun q h1 h2 => hk3 q (by omega) (by omega))) (fun i hi => by
            by_cases hij : i = j
            · subst hij; exact ln.kept (fun q h1 h2 => ho3 q (by omega))
            · exact (hls i (by omega)).kept (fun q h1 h2 => hk3 q (by omega) (by omega))) (by omega) (fun q h => (hk3 q (by omega) (by omega)).trans (hq q h)) hL hl
  exact lp 5 0 0 (fun _ => none) K11 locs11 ls (by omega) (by omega) rfl he hqa (fun i hi => absurd hi (by omega)) hbu l4 (fun i hi => absurd hi (by omega)) (by omega) hq11 hL hl
