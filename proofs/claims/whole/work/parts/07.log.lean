/-! A LOG: seven cells, the object at x and its six rows behind it. v: the rows, how many segments, how many entries, how many came -/
def Fr (x k : Nat) (H H1 : Heap) : Prop := H1.size = H.size ∧ ∀ q : Nat, (q < x ∨ x + k ≤ q) → H1[q]? = H[q]?
theorem Fr.rf {x k : Nat} {H : Heap} : Fr x k H H := ⟨rfl, fun _ _ => rfl⟩
theorem Fr.tr {x k : Nat} {H H1 H2 : Heap} (h : Fr x k H H1) (h2 : Fr x k H1 H2) : Fr x k H H2 := ⟨h2.1.trans h.1, fun q hq => (h2.2 q hq).trans (h.2 q hq)⟩
theorem Fr.one {x k a : Nat} {H H1 : Heap} (hz : H1.size = H.size) (ho : ∀ q : Nat, q ≠ a → H1[q]? = H[q]?) (h1 : x ≤ a) (h2 : a < x + k) : Fr x k H H1 := ⟨hz, fun q hq => ho q (by omega)⟩
theorem Fr.wide {x k y n : Nat} {H H1 : Heap} (h : Fr x k H H1) (h1 : y ≤ x) (h2 : x + k ≤ y + n) : Fr y n H H1 := ⟨h.1, fun q hq => h.2 q (by omega)⟩
def lgLen (j : Nat) : Nat := if j < 2 then 60 else 512
abbrev LV : Type := (Nat → Nat → Int32) × Nat × Nat × Int32
def lgFs (x : Nat) (v : LV) : List Value := [.ref (x + 1), .ref (x + 2), .int (nI v.2.1), .ref (x + 3), .ref (x + 4), .ref (x + 5), .ref (x + 6), .int (nI v.2.2.1), .int v.2.2.2]
def lgAt (g : Gx) (x : Nat) (v : LV) (H : Heap) : Prop := ob g x 0 (lgFs x v) H ∧ ∀ j, j < 6 → ia g (x + 1 + j) (lgLen j) (v.1 j) H
def lgOk (v : LV) : Prop := v.2.1 ≤ 60 ∧ v.2.2.1 ≤ 512
theorem lgAt.kept {g : Gx} {x : Nat} {v : LV} {H H1 : Heap} (h : lgAt g x v H) (hq : ∀ q, x ≤ q → q < x + 7 → H1[q]? = H[q]?) : lgAt g x v H1 := ⟨h.1.kept (hq x (Nat.le_refl _) (by omega)), fun j hj => (h.2 j hj).kept (hq _ (by omega) (by omega))⟩
theorem lgAt.up {g : Gx} {x : Nat} {v : LV} {H H1 : Heap} (h : lgAt g x v H) (j : Nat) {f : Nat → Int32} (hf : ia g (x + 1 + j) (lgLen j) f H1) (ho : ∀ q : Nat, q ≠ x + 1 + j → H1[q]? = H[q]?) : lgAt g x (va_up v.1 j f, v.2) H1 := by
  refine ⟨h.1.kept (ho _ (by omega)), fun i hi => ?_⟩
  by_cases hij : i = j
  · subst hij
    show ia g (x + 1 + i) (lgLen i) (va_up v.1 i f i) H1
    rw [va_up_self]; exact hf
  · show ia g (x + 1 + i) (lgLen i) (va_up v.1 j f i) H1
    rw [va_up_ne _ _ hij]
    exact (h.2 i hi).kept (ho _ (by omega))
theorem lgAt.fd {g : Gx} {x : Nat} {v w : LV} {H H1 : Heap} (h : lgAt g x v H) (hr : w.1 = v.1) (hf : ob g x 0 (lgFs x w) H1) (ho : ∀ q : Nat, q ≠ x → H1[q]? = H[q]?) : lgAt g x w H1 :=
  ⟨hf, fun j hj => by rw [hr]; exact (h.2 j hj).kept (ho _ (by omega))⟩
theorem ic_le {a b : Nat} {x y : Int32} (hx : x = nI a) (hy : y = nI b) (ha : a < 2 ^ 31) (hb : b < 2 ^ 31) : x ≤ y ↔ a ≤ b := by rw [hx, hy]; exact nI_leI ha hb
theorem ic_lt {a b : Nat} {x y : Int32} (hx : x = nI a) (hy : y = nI b) (ha : a < 2 ^ 31) (hb : b < 2 ^ 31) : x < y ↔ a < b := by rw [hx, hy]; exact nI_ltI ha hb
theorem nI_m1 {k : Nat} (h : 0 < k) : nI k - 1 = nI (k - 1) := by
  obtain ⟨j, rfl⟩ : ∃ j, k = j + 1 := ⟨k - 1, by omega⟩
  rw [nI_pred]; rfl
theorem nI_0m1 : nI 0 - 1 = -1 := by decide
def lgOS (v : LV) : Int32 := if v.2.1 = 0 then 0 else v.1 0 (v.2.1 - 1)
def lgOB (v : LV) : Int32 := if v.2.1 = 0 then 0 else v.1 1 (v.2.1 - 1)
theorem atV_last {f : Nat → Int32} {k n : Nat} (hn : n ≤ k) (hk : k < 2 ^ 31) : atV f k (nI n - 1) = if n = 0 then 0 else f (n - 1) := by
  by_cases h : n = 0
  · subst h
    rw [if_pos rfl, nI_0m1]
    exact atV_neg (by decide)
  · rw [if_neg h, nI_m1 (by omega)]
    exact atV_in (by omega) hk
set_option maxHeartbeats 4000000 in
set_option maxRecDepth 100000 in
/-- canOpenMore -/
theorem c_canOpenMore (g : Gx) (l : Launch) (x : Nat) (v : LV) (H : Heap) (hv : lgOk v) (hg : lgAt g x v H) : HM g l yX0_canOpenMore cX0_canOpenMore 1 (some .boolean) 0 0 0 0 [.ref x] H (fun r H1 => r = some (.int (if v.2.1 < 60 then 1 else 0)) ∧ H1 = H) (f0) := by
  refine HM.ofW (by decide) (Nat.le_of_ble_eq_true rfl) (by simp [Value.category]) ?_
  intro p e s m args below meth c ls G hr hml hlocks hnm hH hl
  have hl : lh ls 1 [some (.ref x)] := hl
  have hL : ∀ q ∈ ([] : List Loc), f0 q.base := fun q h => by cases h
  obtain ⟨hv1, hv2⟩ := hv
  refine hb_aload_n G dX0_canOpenMore_0 hl rfl ?_
  refine hb_get G hg.1 rfl inX0 2 (by decide) kf_X0_18 rfl rfl dX0_canOpenMore_1 ?_
  refine lv_bipush (v := 60) G.1 G.2.1 dX0_canOpenMore_4 (by decide) ?_
  refine lv_icmp_ge (tgt := 13) G.1 G.2.1 dX0_canOpenMore_6 (by decide) (fun c_1 => ?_) (fun c_1 => ?_)
  · refine lv_iconst (v := 0) G.1 G.2.1 dX0_canOpenMore_13 (by decide) ?_
    exact hb_zret G hr hlocks (by decide) ⟨by rw [if_neg (by have := (ic_le (a := 60) (b := v.2.1) rfl rfl (by omega) (by omega)).mp c_1; omega)], rfl⟩ hL (Nat.le_refl _) (Nat.le_refl _) dX0_canOpenMore_14
  · refine lv_iconst (v := 1) G.1 G.2.1 dX0_canOpenMore_9 (by decide) ?_
    refine lv_goto (tgt := 14) G.1 G.2.1 dX0_canOpenMore_10 (by decide) ?_
    exact hb_zret G hr hlocks (by decide) ⟨by rw [if_pos (by have := mt (ic_le (a := 60) (b := v.2.1) rfl rfl (by omega) (by omega)).mpr c_1; omega)], rfl⟩ hL (Nat.le_refl _) (Nat.le_refl _) dX0_canOpenMore_14
set_option maxHeartbeats 4000000 in
set_option maxRecDepth 100000 in
/-- canHoldMore -/
theorem c_canHoldMore (g : Gx) (l : Launch) (x : Nat) (v : LV) (H : Heap) (hv : lgOk v) (hg : lgAt g x v H) : HM g l yX0_canHoldMore cX0_canHoldMore 1 (some .boolean) 0 0 0 0 [.ref x] H (fun r H1 => r = some (.int (if v.2.2.1 < 512 then 1 else 0)) ∧ H1 = H) (f0) := by
  refine HM.ofW (by decide) (Nat.le_of_ble_eq_true rfl) (by simp [Value.category]) ?_
  intro p e s m args below meth c ls G hr hml hlocks hnm hH hl
  have hl : lh ls 1 [some (.ref x)] := hl
  have hL : ∀ q ∈ ([] : List Loc), f0 q.base := fun q h => by cases h
  obtain ⟨hv1, hv2⟩ := hv
  refine hb_aload_n G dX0_canHoldMore_0 hl rfl ?_
  refine hb_get G hg.1 rfl inX0 7 (by decide) kf_X0_34 rfl rfl dX0_canHoldMore_1 ?_
  refine lv_sipush (v := 512) G.1 G.2.1 dX0_canHoldMore_4 (by decide) ?_
  refine lv_icmp_ge (tgt := 14) G.1 G.2.1 dX0_canHoldMore_7 (by decide) (fun c_1 => ?_) (fun c_1 => ?_)
  · refine lv_iconst (v := 0) G.1 G.2.1 dX0_canHoldMore_14 (by decide) ?_
    exact hb_zret G hr hlocks (by decide) ⟨by rw [if_neg (by have := (ic_le (a := 512) (b := v.2.2.1) rfl rfl (by omega) (by omega)).mp c_1; omega)], rfl⟩ hL (Nat.le_refl _) (Nat.le_refl _) dX0_canHoldMore_15
  · refine lv_iconst (v := 1) G.1 G.2.1 dX0_canHoldMore_10 (by decide) ?_
    refine lv_goto (tgt := 15) G.1 G.2.1 dX0_canHoldMore_11 (by decide) ?_
    exact hb_zret G hr hlocks (by decide) ⟨by rw [if_pos (by have := mt (ic_le (a := 512) (b := v.2.2.1) rfl rfl (by omega) (by omega)).mpr c_1; omega)], rfl⟩ hL (Nat.le_refl _) (Nat.le_refl _) dX0_canHoldMore_15
set_option maxHeartbeats 4000000 in
set_option maxRecDepth 100000 in
/-- openStart -/
theorem c_openStart (g : Gx) (l : Launch) (x : Nat) (v : LV) (H : Heap) (hv : lgOk v) (hg : lgAt g x v H) : HM g l yX0_openStart cX0_openStart 1 (some .int) 1 21 0 0 [.ref x] H (fun r H1 => r = some (.int (lgOS v)) ∧ H1 = H) (f0) := by
  refine HM.ofW (by decide) (Nat.le_of_ble_eq_true rfl) (by simp [Value.category]) ?_
  intro p e s m args below meth c ls G hr hml hlocks hnm hH hl
  have hl : lh ls 1 [some (.ref x)] := hl
  have hL : ∀ q ∈ ([] : List Loc), f0 q.base := fun q h => by cases h
  refine hb_aload_n G dX0_openStart_0 hl rfl ?_
  refine hb_get G hg.1 rfl inX0 0 (by decide) kf_X0_9 rfl rfl dX0_openStart_1 ?_
  refine hb_aload_n G dX0_openStart_4 hl rfl ?_
  refine hb_get G hg.1 rfl inX0 2 (by decide) kf_X0_18 rfl rfl dX0_openStart_5 ?_
  refine lv_iconst (v := 1) G.1 G.2.1 dX0_openStart_8 (by decide) ?_
  refine lv_isub G.1 G.2.1 dX0_openStart_9 ?_
  refine lv_topi (fun t_1 et_1 => ?_)
  refine hb_callSN (As := [.ref (x + 1), .int t_1]) (rest := []) G hml (c_at g l (x + 1) 60 (v.1 0) t_1 H (by decide) (hg.2 0 (by decide))) G.2.2.2.2.2.2.1 kt_X1_at kn_X1 ko_X1_at hd_X1_at ⟨Nat.le_of_ble_eq_true rfl, Nat.le_of_ble_eq_true rfl⟩ hl.size rfl (Nat.le_of_ble_eq_true rfl) dX0_openStart_10 ⟨Nat.le_of_ble_eq_true rfl, Nat.le_of_ble_eq_true rfl⟩ hL (f0_in) (fun v1 H1 locs1 hp hL => ?_)
  obtain ⟨rfl, rfl⟩ := hp
  exact hb_iret G hr hlocks ⟨by rw [et_1, atV_last hv.1 (by decide)]; rfl, rfl⟩ hL (Nat.le_refl _) (Nat.le_refl _) dX0_openStart_13
set_option maxHeartbeats 4000000 in
set_option maxRecDepth 100000 in
/-- openBytes -/
theorem c_openBytes (g : Gx) (l : Launch) (x : Nat) (v : LV) (H : Heap) (hv : lgOk v) (hg : lgAt g x v H) : HM g l yX0_openBytes cX0_openBytes 1 (some .int) 1 21 0 0 [.ref x] H (fun r H1 => r = some (.int (lgOB v)) ∧ H1 = H) (f0) := by
  refine HM.ofW (by decide) (Nat.le_of_ble_eq_true rfl) (by simp [Value.category]) ?_
  intro p e s m args below meth c ls G hr hml hlocks hnm hH hl
  have hl : lh ls 1 [some (.ref x)] := hl
  have hL : ∀ q ∈ ([] : List Loc), f0 q.base := fun q h => by cases h
  refine hb_aload_n G dX0_openBytes_0 hl rfl ?_
  refine hb_get G hg.1 rfl inX0 1 (by decide) kf_X0_15 rfl rfl dX0_openBytes_1 ?_
  refine hb_aload_n G dX0_openBytes_4 hl rfl ?_
  refine hb_get G hg.1 rfl inX0 2 (by decide) kf_X0_18 rfl rfl dX0_openBytes_5 ?_
  refine lv_iconst (v := 1) G.1 G.2.1 dX0_openBytes_8 (by decide) ?_
  refine lv_isub G.1 G.2.1 dX0_openBytes_9 ?_
  refine lv_topi (fun t_1 et_1 => ?_)
  refine hb_callSN (As := [.ref (x + 2), .int t_1]) (rest := []) G hml (c_at g l (x + 2) 60 (v.1 1) t_1 H (by decide) (hg.2 1 (by decide))) G.2.2.2.2.2.2.1 kt_X1_at kn_X1 ko_X1_at hd_X1_at ⟨Nat.le_of_ble_eq_true rfl, Nat.le_of_ble_eq_true rfl⟩ hl.size rfl (Nat.le_of_ble_eq_true rfl) dX0_openBytes_10 ⟨Nat.le_of_ble_eq_true rfl, Nat.le_of_ble_eq_true rfl⟩ hL (f0_in) (fun v1 H1 locs1 hp hL => ?_)
  obtain ⟨rfl, rfl⟩ := hp
  exact hb_iret G hr hlocks ⟨by rw [et_1, atV_last hv.1 (by decide)]; rfl, rfl⟩ hL (Nat.le_refl _) (Nat.le_refl _) dX0_openBytes_13
set_option maxHeartbeats 4000000 in
set_option maxRecDepth 100000 in
/-- openHasRoom -/
theorem c_openHasRoom (g : Gx) (l : Launch) (x : Nat) (v : LV) (H : Heap) (hv : lgOk v) (hg : lgAt g x v H) (b z : Int32) : HM g l yX0_openHasRoom cX0_openHasRoom 3 (some .boolean) 2 41 0 0 [.ref x, .int b, .int z] H (fun r H1 => r = some (.int (if 0 < v.2.1 ∧ lgOB v + b ≤ z then 1 else 0)) ∧ H1 = H) (f0) := by
  refine HM.ofW (by decide) (Nat.le_of_ble_eq_true rfl) (by simp [Value.category]) ?_
  intro p e s m args below meth c ls G hr hml hlocks hnm hH hl
  have hl : lh ls 3 [some (.ref x), some (.int b), some (.int z)] := hl
  have hL : ∀ q ∈ ([] : List Loc), f0 q.base := fun q h => by cases h
  have hv1 := hv.1
  refine hb_aload_n G dX0_openHasRoom_0 hl rfl ?_
  refine hb_get G hg.1 rfl inX0 2 (by decide) kf_X0_18 rfl rfl dX0_openHasRoom_1 ?_
  refine lv_if_le (tgt := 21) G.1 G.2.1 dX0_openHasRoom_4 (by decide) (fun c_1 => ?_) (fun c_1 => ?_)
  · refine lv_iconst (v := 0) G.1 G.2.1 dX0_openHasRoom_21 (by decide) ?_
    exact hb_zret G hr hlocks (by decide) ⟨by rw [if_neg (fun q => by have := (ic_le (a := v.2.1) (b := 0) rfl rfl (by omega) (by omega)).mp c_1; omega)], rfl⟩ hL (Nat.le_refl _) (Nat.le_refl _) dX0_openHasRoom_22
  · refine hb_aload_n G dX0_openHasRoom_7 hl rfl ?_
    refine hb_callV (As := []) (rest := []) G hml (c_openBytes g l x v H hv hg) (hg.1) rfl km_X0_44 ki_X0_openBytes ks_X0_openBytes kn_X0 ko_X0_openBytes hd_X0_openBytes ⟨Nat.le_of_ble_eq_true rfl, Nat.le_of_ble_eq_true rfl⟩ hl.size rfl (Nat.le_of_ble_eq_true rfl) dX0_openHasRoom_8 ⟨Nat.le_of_ble_eq_true rfl, Nat.le_of_ble_eq_true rfl⟩ hL (f0_in) (fun v1 H1 locs1 hp hL => ?_)
    obtain ⟨rfl, rfl⟩ := hp
    refine lv_topi (fun r_2 er_2 => ?_)
    refine hb_iload_n G dX0_openHasRoom_11 hl rfl ?_
    refine lv_iadd G.1 G.2.1 dX0_openHasRoom_12 ?_
    refine lv_topi (fun t_3 et_3 => ?_)
    refine hb_iload_n G dX0_openHasRoom_13 hl rfl ?_
    refine lv_icmp_gt (tgt := 21) G.1 G.2.1 dX0_openHasRoom_14 (by decide) (fun c_4 => ?_) (fun c_4 => ?_)
    · refine lv_iconst (v := 0) G.1 G.2.1 dX0_openHasRoom_21 (by decide) ?_
      exact hb_zret G hr hlocks (by decide) ⟨by rw [if_neg (fun q => by have q2 := q.2; rw [← er_2, ← et_3] at q2; exact i32_nlt.mpr q2 c_4)], rfl⟩ hL (Nat.le_refl _) (Nat.le_refl _) dX0_openHasRoom_22
    · refine lv_iconst (v := 1) G.1 G.2.1 dX0_openHasRoom_17 (by decide) ?_
      refine lv_goto (tgt := 22) G.1 G.2.1 dX0_openHasRoom_18 (by decide) ?_
      exact hb_zret G hr hlocks (by decide) ⟨by rw [if_pos ⟨(by have := mt (ic_le (a := v.2.1) (b := 0) rfl rfl (by omega) (by omega)).mpr c_1; omega), by rw [← er_2, ← et_3]; exact i32_nlt.mp c_4⟩], rfl⟩ hL (Nat.le_refl _) (Nat.le_refl _) dX0_openHasRoom_22
