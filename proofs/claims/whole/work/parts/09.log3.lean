def btV (a b : Int32) : Int32 := (a + b - 1) / 1024 - a / 1024 + 1
def lgCl (v : LV) : Nat → Nat
  | 0 => 0
  | j + 1 => lgCl v j + (if v.1 4 j < nI v.2.1 - 1 then 1 else 0)
def lgSm (f : Nat → Int32) (k : Nat) : Nat → Int32
  | 0 => 0
  | i + 1 => lgSm f k i + f (k + i)
def lgPast (v : LV) (b : Int32) : Nat → Nat → Nat
  | 0, k => k
  | d + 1, k => if b ≤ lgSm (v.1 1) (k + 1) (v.2.1 - (k + 1)) then lgPast v b d (k + 1) else k
def lgBF (f : Nat → Int32) : Nat → Int32
  | 0 => 0
  | j + 1 => lgBF f j + btV 0 (f j)
def tkStep (u : LV) (z : Int32) (j : Nat) (r : LV × Int32) : LV × Int32 := if z ≤ u.1 4 j then (lgPut (if u.1 4 j = r.2 then r.1 else lgOpen r.1 (atV (u.1 0) 60 (u.1 4 j))) (u.1 2 j) (u.1 3 j), u.1 4 j) else r
def lgTk (u : LV) (z : Int32) (r : LV × Int32) : Nat → LV × Int32
  | 0 => r
  | j + 1 => tkStep u z j (lgTk u z r j)
theorem tkStep_ok {u : LV} {z : Int32} {j : Nat} {r : LV × Int32} (h : lgOk r.1) : lgOk (tkStep u z j r).1 := by
  unfold tkStep
  split
  · refine lgPut_ok ?_ _ _
    split
    · exact h
    · exact lgOpen_ok h _
  · exact h
theorem lgTk_ok {u : LV} {z : Int32} {r : LV × Int32} (h : lgOk r.1) : ∀ j, lgOk (lgTk u z r j).1
  | 0 => h
  | j + 1 => tkStep_ok (lgTk_ok h j)
theorem lgCl_le (v : LV) : ∀ j, lgCl v j ≤ j
  | 0 => Nat.le_refl 0
  | j + 1 => by
    have := lgCl_le v j
    simp only [lgCl]
    split <;> omega
theorem lgPast_ge (v : LV) (b : Int32) : ∀ d k, k ≤ lgPast v b d k ∧ lgPast v b d k ≤ k + d
  | 0, k => ⟨Nat.le_refl k, Nat.le_refl k⟩
  | d + 1, k => by
    have := lgPast_ge v b d (k + 1)
    simp only [lgPast]
    split <;> omega
set_option maxHeartbeats 4000000 in
set_option maxRecDepth 100000 in
/-- blocksTouched -/
theorem c_blocksTouched (g : Gx) (l : Launch) (a b : Int32) (H : Heap) : HM g l yX1_blocksTouched cX1_blocksTouched 2 (some .int) 0 0 0 0 [.int a, .int b] H (fun r H1 => r = some (.int (btV a b)) ∧ H1 = H) (f0) := by
  refine HM.ofW (by decide) (Nat.le_of_ble_eq_true rfl) (by simp [Value.category]) ?_
  intro p e s m args below meth c ls G hr hml hlocks hnm hH hl
  have hl : lh ls 2 [some (.int a), some (.int b)] := hl
  have hL : ∀ q ∈ ([] : List Loc), (f0) q.base := fun q h => by cases h
  refine hb_iload_n G dX1_blocksTouched_0 hl rfl ?_
  refine hb_iload_n G dX1_blocksTouched_1 hl rfl ?_
  refine lv_iadd G.1 G.2.1 dX1_blocksTouched_2 ?_
  refine lv_topi (fun t_1 et_1 => ?_)
  refine lv_iconst (v := 1) G.1 G.2.1 dX1_blocksTouched_3 (by decide) ?_
  refine lv_isub G.1 G.2.1 dX1_blocksTouched_4 ?_
  refine lv_topi (fun t_2 et_2 => ?_)
  refine lv_sipush (v := 1024) G.1 G.2.1 dX1_blocksTouched_5 (by decide) ?_
  refine lv_idiv G.1 G.2.1 dX1_blocksTouched_8 (by decide) ?_
  refine lv_topi (fun t_3 et_3 => ?_)
  refine hb_iload_n G dX1_blocksTouched_9 hl rfl ?_
  refine lv_sipush (v := 1024) G.1 G.2.1 dX1_blocksTouched_10 (by decide) ?_
  refine lv_idiv G.1 G.2.1 dX1_blocksTouched_13 (by decide) ?_
  refine lv_topi (fun t_4 et_4 => ?_)
  refine lv_isub G.1 G.2.1 dX1_blocksTouched_14 ?_
  refine lv_topi (fun t_5 et_5 => ?_)
  refine lv_iconst (v := 1) G.1 G.2.1 dX1_blocksTouched_15 (by decide) ?_
  refine lv_iadd G.1 G.2.1 dX1_blocksTouched_16 ?_
  refine lv_topi (fun t_6 et_6 => ?_)
  exact hb_iret G hr hlocks ⟨by simp only [*]; rfl, rfl⟩ hL (Nat.le_refl _) (Nat.le_refl _) dX1_blocksTouched_17
set_option maxHeartbeats 4000000 in
set_option maxRecDepth 100000 in
/-- blockOf -/
theorem c_blockOf (g : Gx) (l : Launch) (x : Nat) (v : LV) (H : Heap) (hv : lgOk v) (hg : lgAt g x v H) (i : Int32) : HM g l yX0_blockOf cX0_blockOf 2 (some .int) 1 21 0 0 [.ref x, .int i] H (fun r H1 => r = some (.int (atV (v.1 0) 60 (atV (v.1 4) 512 i) + atV (v.1 5) 512 i / 1024)) ∧ H1 = H) (f0) := by
  refine HM.ofW (by decide) (Nat.le_of_ble_eq_true rfl) (by simp [Value.category]) ?_
  intro p e s m args below meth c ls G hr hml hlocks hnm hH hl
  have hl : lh ls 2 [some (.ref x), some (.int i)] := hl
  have hL : ∀ q ∈ ([] : List Loc), (f0) q.base := fun q h => by cases h
  refine hb_aload_n G dX0_blockOf_0 hl rfl ?_
  refine hb_get G hg.1 rfl inX0 0 (by decide) kf_X0_9 rfl rfl dX0_blockOf_1 ?_
  refine hb_aload_n G dX0_blockOf_4 hl rfl ?_
  refine hb_get G hg.1 rfl inX0 5 (by decide) kf_X0_28 rfl rfl dX0_blockOf_5 ?_
  refine hb_iload_n G dX0_blockOf_8 hl rfl ?_
  refine hb_callSN (As := [.ref (x + 5), .int i]) (rest := [.ref (x + 1)]) G hml (c_at g l (x + 5) 512 (v.1 4) i _ (by decide) (hg.2 4 (by decide))) G.2.2.2.2.2.2.1 kt_X1_at kn_X1 ko_X1_at hd_X1_at ⟨Nat.le_of_ble_eq_true rfl, Nat.le_of_ble_eq_true rfl⟩ hl.size rfl (Nat.le_of_ble_eq_true rfl) dX0_blockOf_9 ⟨Nat.le_of_ble_eq_true rfl, Nat.le_of_ble_eq_true rfl⟩ hL (f0_in) (fun v1 H1 locs1 hp hL => ?_)
  obtain ⟨rfl, rfl⟩ := hp
  refine lv_topi (fun r_1 er_1 => ?_)
  refine hb_callSN (As := [.ref (x + 1), .int r_1]) (rest := []) G hml (c_at g l (x + 1) 60 (v.1 0) r_1 _ (by decide) (hg.2 0 (by decide))) G.2.2.2.2.2.2.1 kt_X1_at kn_X1 ko_X1_at hd_X1_at ⟨Nat.le_of_ble_eq_true rfl, Nat.le_of_ble_eq_true rfl⟩ hl.size rfl (Nat.le_of_ble_eq_true rfl) dX0_blockOf_12 ⟨Nat.le_of_ble_eq_true rfl, Nat.le_of_ble_eq_true rfl⟩ hL (f0_in) (fun v1 H1 locs1 hp hL => ?_)
  obtain ⟨rfl, rfl⟩ := hp
  refine lv_topi (fun r_2 er_2 => ?_)
  refine hb_aload_n G dX0_blockOf_15 hl rfl ?_
  refine hb_get G hg.1 rfl inX0 6 (by decide) kf_X0_31 rfl rfl dX0_blockOf_16 ?_
  refine hb_iload_n G dX0_blockOf_19 hl rfl ?_
  refine hb_callSN (As := [.ref (x + 6), .int i]) (rest := [.int r_2]) G hml (c_at g l (x + 6) 512 (v.1 5) i _ (by decide) (hg.2 5 (by decide))) G.2.2.2.2.2.2.1 kt_X1_at kn_X1 ko_X1_at hd_X1_at ⟨Nat.le_of_ble_eq_true rfl, Nat.le_of_ble_eq_true rfl⟩ hl.size rfl (Nat.le_of_ble_eq_true rfl) dX0_blockOf_20 ⟨Nat.le_of_ble_eq_true rfl, Nat.le_of_ble_eq_true rfl⟩ hL (f0_in) (fun v1 H1 locs1 hp hL => ?_)
  obtain ⟨rfl, rfl⟩ := hp
  refine lv_topi (fun r_3 er_3 => ?_)
  refine lv_sipush (v := 1024) G.1 G.2.1 dX0_blockOf_23 (by decide) ?_
  refine lv_idiv G.1 G.2.1 dX0_blockOf_26 (by decide) ?_
  refine lv_topi (fun t_4 et_4 => ?_)
  refine lv_iadd G.1 G.2.1 dX0_blockOf_27 ?_
  refine lv_topi (fun t_5 et_5 => ?_)
  exact hb_iret G hr hlocks ⟨by simp only [*], rfl⟩ hL (Nat.le_refl _) (Nat.le_refl _) dX0_blockOf_28
set_option maxHeartbeats 4000000 in
set_option maxRecDepth 100000 in
/-- closedEntries -/
theorem c_closedEntries (g : Gx) (l : Launch) (x : Nat) (v : LV) (H : Heap) (hv : lgOk v) (hg : lgAt g x v H) : HM g l yX0_closedEntries cX0_closedEntries 3 (some .int) 1 21 0 0 [.ref x] H (fun r H1 => r = some (.int (nI (lgCl v v.2.2.1))) ∧ H1 = H) (f0) := by
  refine HM.ofW (by decide) (Nat.le_of_ble_eq_true rfl) (by simp [Value.category]) ?_
  intro p e s m args below meth c ls G hr hml hlocks hnm hH hl
  have hl : lh ls 3 [some (.ref x), none, none] := hl
  have hL : ∀ q ∈ ([] : List Loc), (f0) q.base := fun q h => by cases h
  obtain ⟨hv1, hv2⟩ := hv
  have lp : ∀ (d j : Nat) (a b : Int32)  (locs : List Loc) (ls : Array Slot), v.2.2.1 + 1 ≤ j + d → j ≤ v.2.2.1 → a = nI (lgCl v j) → b = nI j → (∀ q ∈ locs, (f0) q.base) → lh ls 3 [some (.ref x), some (.int a), some (.int b)] → W p l e ({ frames := 1, cells := 0, slots := 0, locals := 21 } : Room) s m args below meth c H locs 0 0 (hQ below args s (fun r H1 => r = some (.int (nI (lgCl v v.2.2.1))) ∧ H1 = H) 0 0 (f0)) (F0 m 4 ls []) := by
    intro d
    induction d with
    | zero =>
      intro j a b  locs ls hd hj ea eb hL hl
      exfalso; omega
    | succ d ih =>
      intro j a b  locs ls hd hj ea eb hL hl
      refine hb_iload_n G dX0_closedEntries_4 hl rfl ?_
      refine hb_aload_n G dX0_closedEntries_5 hl rfl ?_
      refine hb_get G hg.1 rfl inX0 7 (by decide) kf_X0_34 rfl rfl dX0_closedEntries_6 ?_
      refine lv_icmp_ge (tgt := 38) G.1 G.2.1 dX0_closedEntries_9 (by decide) (fun c_1 => ?_) (fun c_1 => ?_)
      · have hj2 : j = v.2.2.1 := by have := (ic_le rfl eb (by omega) (by omega)).mp c_1; omega
        subst hj2
        refine hb_iload_n G dX0_closedEntries_38 hl rfl ?_
        exact hb_iret G hr hlocks ⟨by rw [ea], rfl⟩ hL (Nat.le_refl _) (Nat.le_refl _) dX0_closedEntries_39
      · have hj2 : j < v.2.2.1 := by have := mt (ic_le rfl eb (by omega) (by omega)).mpr c_1; omega
        refine hb_aload_n G dX0_closedEntries_12 hl rfl ?_
        refine hb_get G hg.1 rfl inX0 5 (by decide) kf_X0_28 rfl rfl dX0_closedEntries_13 ?_
        refine hb_iload_n G dX0_closedEntries_16 hl rfl ?_
        refine hb_callSN (As := [.ref (x + 5), .int b]) (rest := []) G hml (c_at g l (x + 5) 512 (v.1 4) b _ (by decide) (hg.2 4 (by decide))) G.2.2.2.2.2.2.1 kt_X1_at kn_X1 ko_X1_at hd_X1_at ⟨Nat.le_of_ble_eq_true rfl, Nat.le_of_ble_eq_true rfl⟩ hl.size rfl (Nat.le_of_ble_eq_true rfl) dX0_closedEntries_17 ⟨Nat.le_of_ble_eq_true rfl, Nat.le_of_ble_eq_true rfl⟩ hL (f0_in) (fun v1 H1 locs1 hp hL => ?_)
        obtain ⟨rfl, rfl⟩ := hp
        refine lv_topi (fun r_2 er_2 => ?_)
        have er : r_2 = v.1 4 j := by rw [er_2, eb, atV_in (by omega) (by decide)]
        refine hb_aload_n G dX0_closedEntries_20 hl rfl ?_
        refine hb_get G hg.1 rfl inX0 2 (by decide) kf_X0_18 rfl rfl dX0_closedEntries_21 ?_
        refine lv_iconst (v := 1) G.1 G.2.1 dX0_closedEntries_24 (by decide) ?_
        refine lv_isub G.1 G.2.1 dX0_closedEntries_25 ?_
        refine lv_topi (fun t_3 et_3 => ?_)
        refine lv_icmp_ge (tgt := 32) G.1 G.2.1 dX0_closedEntries_26 (by decide) (fun c_4 => ?_) (fun c_4 => ?_)
        · obtain ⟨t_5, et_5⟩ : ∃ z : Int32, z = b + 1 := ⟨_, rfl⟩
          refine hb_iinc (v := t_5) G dX0_closedEntries_32 hl rfl (by rw [et_5]; rfl) (by decide) (fun ls hl => ?_)
          have hl : lh ls 3 [some (.ref x), some (.int a), some (.int t_5)] := hl
          refine lv_goto (tgt := 4) G.1 G.2.1 dX0_closedEntries_35 (by decide) ?_
          exact ih (j + 1) a t_5 locs1 ls (by omega) (by omega) (by simp only [lgCl]; rw [if_neg (by rw [← er, ← et_3]; exact i32_nlt.mpr c_4)]; exact ea) (by rw [et_5, eb]; exact nI_1 j) hL hl
        · obtain ⟨t_6, et_6⟩ : ∃ z : Int32, z = a + 1 := ⟨_, rfl⟩
          refine hb_iinc (v := t_6) G dX0_closedEntries_29 hl rfl (by rw [et_6]; rfl) (by decide) (fun ls hl => ?_)
          have hl : lh ls 3 [some (.ref x), some (.int t_6), some (.int b)] := hl
          obtain ⟨t_7, et_7⟩ : ∃ z : Int32, z = b + 1 := ⟨_, rfl⟩
          refine hb_iinc (v := t_7) G dX0_closedEntries_32 hl rfl (by rw [et_7]; rfl) (by decide) (fun ls hl => ?_)
          have hl : lh ls 3 [some (.ref x), some (.int t_6), some (.int t_7)] := hl
          refine lv_goto (tgt := 4) G.1 G.2.1 dX0_closedEntries_35 (by decide) ?_
          exact ih (j + 1) t_6 t_7 locs1 ls (by omega) (by omega) (by simp only [lgCl]; rw [if_pos (by rw [← er, ← et_3]; exact i32_nle.mp c_4), et_6, ea]; exact nI_1 _) (by rw [et_7, eb]; exact nI_1 j) hL hl
  refine lv_iconst (v := 0) G.1 G.2.1 dX0_closedEntries_0 (by decide) ?_
  refine hb_istore_n G dX0_closedEntries_1 hl (by decide) (fun ls hl => ?_)
  have hl : lh ls 3 [some (.ref x), some (.int 0), none] := hl
  refine lv_iconst (v := 0) G.1 G.2.1 dX0_closedEntries_2 (by decide) ?_
  refine hb_istore_n G dX0_closedEntries_3 hl (by decide) (fun ls hl => ?_)
  have hl : lh ls 3 [some (.ref x), some (.int 0), some (.int 0)] := hl
  exact lp (v.2.2.1 + 1) 0 0 0 [] ls (by omega) (by omega) rfl rfl hL hl
set_option maxHeartbeats 4000000 in
set_option maxRecDepth 100000 in
/-- bytesFrom -/
theorem c_bytesFrom (g : Gx) (l : Launch) (x : Nat) (v : LV) (H : Heap) (hv : lgOk v) (hg : lgAt g x v H) (k : Nat) (hk : k ≤ 61) : HM g l yX0_bytesFrom cX0_bytesFrom 4 (some .int) 1 21 0 0 [.ref x, .int (nI k)] H (fun r H1 => r = some (.int (lgSm (v.1 1) k (v.2.1 - k))) ∧ H1 = H) (f0) := by
  refine HM.ofW (by decide) (Nat.le_of_ble_eq_true rfl) (by simp [Value.category]) ?_
  intro p e s m args below meth c ls G hr hml hlocks hnm hH hl
  have hl : lh ls 4 [some (.ref x), some (.int (nI k)), none, none] := hl
  have hL : ∀ q ∈ ([] : List Loc), (f0) q.base := fun q h => by cases h
  obtain ⟨hv1, hv2⟩ := hv
  have lp : ∀ (d j : Nat) (a b : Int32)  (locs : List Loc) (ls : Array Slot), v.2.1 - k + 1 ≤ j + d → j ≤ v.2.1 - k → a = lgSm (v.1 1) k j → b = nI (k + j) → (∀ q ∈ locs, (f0) q.base) → lh ls 4 [some (.ref x), some (.int (nI k)), some (.int a), some (.int b)] → W p l e ({ frames := 1, cells := 0, slots := 0, locals := 21 } : Room) s m args below meth c H locs 0 0 (hQ below args s (fun r H1 => r = some (.int (lgSm (v.1 1) k (v.2.1 - k))) ∧ H1 = H) 0 0 (f0)) (F0 m 4 ls []) := by
    intro d
    induction d with
    | zero =>
      intro j a b  locs ls hd hj ea eb hL hl
      exfalso; omega
    | succ d ih =>
      intro j a b  locs ls hd hj ea eb hL hl
      refine hb_iload_n G dX0_bytesFrom_4 hl rfl ?_
      refine hb_aload_n G dX0_bytesFrom_5 hl rfl ?_
      refine hb_get G hg.1 rfl inX0 2 (by decide) kf_X0_18 rfl rfl dX0_bytesFrom_6 ?_
      refine lv_icmp_ge (tgt := 29) G.1 G.2.1 dX0_bytesFrom_9 (by decide) (fun c_1 => ?_) (fun c_1 => ?_)
      · have hj2 : j = v.2.1 - k := by have := (ic_le rfl eb (by omega) (by omega)).mp c_1; omega
        subst hj2
        refine hb_iload_n G dX0_bytesFrom_29 hl rfl ?_
        exact hb_iret G hr hlocks ⟨by rw [ea], rfl⟩ hL (Nat.le_refl _) (Nat.le_refl _) dX0_bytesFrom_30
      · have hj2 : k + j < v.2.1 := by have := mt (ic_le rfl eb (by omega) (by omega)).mpr c_1; omega
        refine hb_iload_n G dX0_bytesFrom_12 hl rfl ?_
        refine hb_aload_n G dX0_bytesFrom_13 hl rfl ?_
        refine hb_get G hg.1 rfl inX0 1 (by decide) kf_X0_15 rfl rfl dX0_bytesFrom_14 ?_
        refine hb_iload_n G dX0_bytesFrom_17 hl rfl ?_
        refine hb_callSN (As := [.ref (x + 2), .int b]) (rest := [.int a]) G hml (c_at g l (x + 2) 60 (v.1 1) b _ (by decide) (hg.2 1 (by decide))) G.2.2.2.2.2.2.1 kt_X1_at kn_X1 ko_X1_at hd_X1_at ⟨Nat.le_of_ble_eq_true rfl, Nat.le_of_ble_eq_true rfl⟩ hl.size rfl (Nat.le_of_ble_eq_true rfl) dX0_bytesFrom_18 ⟨Nat.le_of_ble_eq_true rfl, Nat.le_of_ble_eq_true rfl⟩ hL (f0_in) (fun v1 H1 locs1 hp hL => ?_)
        obtain ⟨rfl, rfl⟩ := hp
        refine lv_topi (fun r_2 er_2 => ?_)
        have er : r_2 = v.1 1 (k + j) := by rw [er_2, eb, atV_in (by omega) (by decide)]
        refine lv_iadd G.1 G.2.1 dX0_bytesFrom_21 ?_
        refine lv_topi (fun t_3 et_3 => ?_)
        refine hb_istore_n G dX0_bytesFrom_22 hl (by decide) (fun ls hl => ?_)
        have hl : lh ls 4 [some (.ref x), some (.int (nI k)), some (.int t_3), some (.int b)] := hl
        obtain ⟨t_4, et_4⟩ : ∃ z : Int32, z = b + 1 := ⟨_, rfl⟩
        refine hb_iinc (v := t_4) G dX0_bytesFrom_23 hl rfl (by rw [et_4]; rfl) (by decide) (fun ls hl => ?_)
        have hl : lh ls 4 [some (.ref x), some (.int (nI k)), some (.int t_3), some (.int t_4)] := hl
        refine lv_goto (tgt := 4) G.1 G.2.1 dX0_bytesFrom_26 (by decide) ?_
        exact ih (j + 1) t_3 t_4 locs1 ls (by omega) (by omega) (by rw [et_3, ea, er]; rfl) (by rw [et_4, eb]; exact nI_1 (k + j)) hL hl
  refine lv_iconst (v := 0) G.1 G.2.1 dX0_bytesFrom_0 (by decide) ?_
  refine hb_istore_n G dX0_bytesFrom_1 hl (by decide) (fun ls hl => ?_)
  have hl : lh ls 4 [some (.ref x), some (.int (nI k)), some (.int 0), none] := hl
  refine hb_iload_n G dX0_bytesFrom_2 hl rfl ?_
  refine hb_istore_n G dX0_bytesFrom_3 hl (by decide) (fun ls hl => ?_)
  have hl : lh ls 4 [some (.ref x), some (.int (nI k)), some (.int 0), some (.int (nI k))] := hl
  exact lp (v.2.1 - k + 1) 0 0 (nI k) [] ls (by omega) (by omega) rfl rfl hL hl
set_option maxHeartbeats 4000000 in
set_option maxRecDepth 100000 in
/-- segmentsPast -/
theorem c_segmentsPast (g : Gx) (l : Launch) (x : Nat) (v : LV) (H : Heap) (hv : lgOk v) (hg : lgAt g x v H) (z : Int32) : HM g l yX0_segmentsPast cX0_segmentsPast 3 (some .int) 2 44 0 0 [.ref x, .int z] H (fun r H1 => r = some (.int (nI (lgPast v z (v.2.1 - 1) 0))) ∧ H1 = H) (f0) := by
  refine HM.ofW (by decide) (Nat.le_of_ble_eq_true rfl) (by simp [Value.category]) ?_
  intro p e s m args below meth c ls G hr hml hlocks hnm hH hl
  have hl : lh ls 3 [some (.ref x), some (.int z), none] := hl
  have hL : ∀ q ∈ ([] : List Loc), (f0) q.base := fun q h => by cases h
  have hv1 := hv.1
  have lp : ∀ (d j : Nat) (b : Int32)  (locs : List Loc) (ls : Array Slot), v.2.1 - 1 + 1 ≤ j + d → j ≤ v.2.1 - 1 → b = nI j → lgPast v z (v.2.1 - 1) 0 = lgPast v z (v.2.1 - 1 - j) j → (∀ q ∈ locs, (f0) q.base) → lh ls 3 [some (.ref x), some (.int z), some (.int b)] → W p l e ({ frames := 2, cells := 0, slots := 0, locals := 44 } : Room) s m args below meth c H locs 0 0 (hQ below args s (fun r H1 => r = some (.int (nI (lgPast v z (v.2.1 - 1) 0))) ∧ H1 = H) 0 0 (f0)) (F0 m 2 ls []) := by
    intro d
    induction d with
    | zero =>
      intro j b  locs ls hd hj eb hi hL hl
      exfalso; omega
    | succ d ih =>
      intro j b  locs ls hd hj eb hi hL hl
      by_cases h0 : v.2.1 = 0
      · have hj0 : j = 0 := by omega
        subst hj0
        refine hb_iload_n G dX0_segmentsPast_2 hl rfl ?_
        refine hb_aload_n G dX0_segmentsPast_3 hl rfl ?_
        refine hb_get G hg.1 rfl inX0 2 (by decide) kf_X0_18 rfl rfl dX0_segmentsPast_4 ?_
        refine lv_iconst (v := 1) G.1 G.2.1 dX0_segmentsPast_7 (by decide) ?_
        refine lv_isub G.1 G.2.1 dX0_segmentsPast_8 ?_
        refine lv_topi (fun t_1 et_1 => ?_)
        refine lv_icmp_ge (tgt := 29) G.1 G.2.1 dX0_segmentsPast_9 (by decide) (fun c_2 => ?_) (fun c_2 => ?_)
        · refine hb_iload_n G dX0_segmentsPast_29 hl rfl ?_
          exact hb_iret G hr hlocks ⟨by rw [eb, h0]; rfl, rfl⟩ hL (Nat.le_refl _) (Nat.le_refl _) dX0_segmentsPast_30
        · exact absurd (by rw [et_1, eb, h0]; decide) c_2
      · refine hb_iload_n G dX0_segmentsPast_2 hl rfl ?_
        refine hb_aload_n G dX0_segmentsPast_3 hl rfl ?_
        refine hb_get G hg.1 rfl inX0 2 (by decide) kf_X0_18 rfl rfl dX0_segmentsPast_4 ?_
        refine lv_iconst (v := 1) G.1 G.2.1 dX0_segmentsPast_7 (by decide) ?_
        refine lv_isub G.1 G.2.1 dX0_segmentsPast_8 ?_
        refine lv_topi (fun t_3 et_3 => ?_)
        have e9 : t_3 = nI (v.2.1 - 1) := by rw [et_3]; exact nI_m1 (by omega)
        refine lv_icmp_ge (tgt := 29) G.1 G.2.1 dX0_segmentsPast_9 (by decide) (fun c_4 => ?_) (fun c_4 => ?_)
        · have hj2 : j = v.2.1 - 1 := by have := (ic_le e9 eb (by omega) (by omega)).mp c_4; omega
          refine hb_iload_n G dX0_segmentsPast_29 hl rfl ?_
          exact hb_iret G hr hlocks ⟨by rw [eb, hi, show v.2.1 - 1 - j = 0 by omega]; rfl, rfl⟩ hL (Nat.le_refl _) (Nat.le_refl _) dX0_segmentsPast_30
        · have hj2 : j < v.2.1 - 1 := by have := mt (ic_le e9 eb (by omega) (by omega)).mpr c_4; omega
          refine hb_aload_n G dX0_segmentsPast_12 hl rfl ?_
          refine hb_iload_n G dX0_segmentsPast_13 hl rfl ?_
          refine lv_iconst (v := 1) G.1 G.2.1 dX0_segmentsPast_14 (by decide) ?_
          refine lv_iadd G.1 G.2.1 dX0_segmentsPast_15 ?_
          refine lv_topi (fun t_5 et_5 => ?_)
          obtain rfl : t_5 = nI (j + 1) := by rw [et_5, eb]; exact nI_1 j
          have hs9 : lgPast v z (v.2.1 - 1 - j) j = if z ≤ lgSm (v.1 1) (j + 1) (v.2.1 - (j + 1)) then lgPast v z (v.2.1 - 1 - (j + 1)) (j + 1) else j := by rw [show v.2.1 - 1 - j = (v.2.1 - 1 - (j + 1)) + 1 by omega]; rfl
          refine hb_callV (As := [.int (nI (j + 1))]) (rest := []) G hml (c_bytesFrom g l x v _ hv hg (j + 1) (by omega)) (hg.1) rfl km_X0_67 ki_X0_bytesFrom ks_X0_bytesFrom kn_X0 ko_X0_bytesFrom hd_X0_bytesFrom ⟨Nat.le_of_ble_eq_true rfl, Nat.le_of_ble_eq_true rfl⟩ hl.size rfl (Nat.le_of_ble_eq_true rfl) dX0_segmentsPast_16 ⟨Nat.le_of_ble_eq_true rfl, Nat.le_of_ble_eq_true rfl⟩ hL (f0_in) (fun v1 H1 locs1 hp hL => ?_)
          obtain ⟨rfl, rfl⟩ := hp
          refine lv_topi (fun r_6 er_6 => ?_)
          refine hb_iload_n G dX0_segmentsPast_19 hl rfl ?_
          refine lv_icmp_lt (tgt := 29) G.1 G.2.1 dX0_segmentsPast_20 (by decide) (fun c_7 => ?_) (fun c_7 => ?_)
          · refine hb_iload_n G dX0_segmentsPast_29 hl rfl ?_
            exact hb_iret G hr hlocks ⟨by rw [eb, hi, hs9, if_neg (by rw [← er_6]; exact i32_nle.mpr c_7)], rfl⟩ hL (Nat.le_refl _) (Nat.le_refl _) dX0_segmentsPast_30
          · obtain ⟨t_8, et_8⟩ : ∃ z : Int32, z = b + 1 := ⟨_, rfl⟩
            refine hb_iinc (v := t_8) G dX0_segmentsPast_23 hl rfl (by rw [et_8]; rfl) (by decide) (fun ls hl => ?_)
            have hl : lh ls 3 [some (.ref x), some (.int z), some (.int t_8)] := hl
            refine lv_goto (tgt := 2) G.1 G.2.1 dX0_segmentsPast_26 (by decide) ?_
            exact ih (j + 1) t_8 locs1 ls (by omega) (by omega) (by rw [et_8, eb]; exact nI_1 j) (by rw [hi, hs9, if_pos (by rw [← er_6]; exact i32_nlt.mp c_7)]) hL hl
  refine lv_iconst (v := 0) G.1 G.2.1 dX0_segmentsPast_0 (by decide) ?_
  refine hb_istore_n G dX0_segmentsPast_1 hl (by decide) (fun ls hl => ?_)
  have hl : lh ls 3 [some (.ref x), some (.int z), some (.int 0)] := hl
  exact lp (v.2.1 - 1 + 1) 0 0 [] ls (by omega) (by omega) rfl rfl hL hl
set_option maxHeartbeats 4000000 in
set_option maxRecDepth 100000 in
/-- blocksFilled -/
theorem c_blocksFilled (g : Gx) (l : Launch) (x : Nat) (v : LV) (H : Heap) (hv : lgOk v) (hg : lgAt g x v H) : HM g l yX0_blocksFilled cX0_blocksFilled 3 (some .int) 1 21 0 0 [.ref x] H (fun r H1 => r = some (.int (lgBF (v.1 1) v.2.1)) ∧ H1 = H) (f0) := by
  refine HM.ofW (by decide) (Nat.le_of_ble_eq_true rfl) (by simp [Value.category]) ?_
  intro p e s m args below meth c ls G hr hml hlocks hnm hH hl
  have hl : lh ls 3 [some (.ref x), none, none] := hl
  have hL : ∀ q ∈ ([] : List Loc), (f0) q.base := fun q h => by cases h
  obtain ⟨hv1, hv2⟩ := hv
  have lp : ∀ (d j : Nat) (a b : Int32)  (locs : List Loc) (ls : Array Slot), v.2.1 + 1 ≤ j + d → j ≤ v.2.1 → a = lgBF (v.1 1) j → b = nI j → (∀ q ∈ locs, (f0) q.base) → lh ls 3 [some (.ref x), some (.int a), some (.int b)] → W p l e ({ frames := 1, cells := 0, slots := 0, locals := 21 } : Room) s m args below meth c H locs 0 0 (hQ below args s (fun r H1 => r = some (.int (lgBF (v.1 1) v.2.1)) ∧ H1 = H) 0 0 (f0)) (F0 m 4 ls []) := by
    intro d
    induction d with
    | zero =>
      intro j a b  locs ls hd hj ea eb hL hl
      exfalso; omega
    | succ d ih =>
      intro j a b  locs ls hd hj ea eb hL hl
      refine hb_iload_n G dX0_blocksFilled_4 hl rfl ?_
      refine hb_aload_n G dX0_blocksFilled_5 hl rfl ?_
      refine hb_get G hg.1 rfl inX0 2 (by decide) kf_X0_18 rfl rfl dX0_blocksFilled_6 ?_
      refine lv_icmp_ge (tgt := 33) G.1 G.2.1 dX0_blocksFilled_9 (by decide) (fun c_1 => ?_) (fun c_1 => ?_)
      · have hj2 : j = v.2.1 := by have := (ic_le rfl eb (by omega) (by omega)).mp c_1; omega
        subst hj2
        refine hb_iload_n G dX0_blocksFilled_33 hl rfl ?_
        exact hb_iret G hr hlocks ⟨by rw [ea], rfl⟩ hL (Nat.le_refl _) (Nat.le_refl _) dX0_blocksFilled_34
      · have hj2 : j < v.2.1 := by have := mt (ic_le rfl eb (by omega) (by omega)).mpr c_1; omega
        refine hb_iload_n G dX0_blocksFilled_12 hl rfl ?_
        refine lv_iconst (v := 0) G.1 G.2.1 dX0_blocksFilled_13 (by decide) ?_
        refine hb_aload_n G dX0_blocksFilled_14 hl rfl ?_
        refine hb_get G hg.1 rfl inX0 1 (by decide) kf_X0_15 rfl rfl dX0_blocksFilled_15 ?_
        refine hb_iload_n G dX0_blocksFilled_18 hl rfl ?_
        refine hb_callSN (As := [.ref (x + 2), .int b]) (rest := [.int 0, .int a]) G hml (c_at g l (x + 2) 60 (v.1 1) b _ (by decide) (hg.2 1 (by decide))) G.2.2.2.2.2.2.1 kt_X1_at kn_X1 ko_X1_at hd_X1_at ⟨Nat.le_of_ble_eq_true rfl, Nat.le_of_ble_eq_true rfl⟩ hl.size rfl (Nat.le_of_ble_eq_true rfl) dX0_blocksFilled_19 ⟨Nat.le_of_ble_eq_true rfl, Nat.le_of_ble_eq_true rfl⟩ hL (f0_in) (fun v1 H1 locs1 hp hL => ?_)
        obtain ⟨rfl, rfl⟩ := hp
        refine lv_topi (fun r_2 er_2 => ?_)
        have er : r_2 = v.1 1 j := by rw [er_2, eb, atV_in (by omega) (by decide)]
        refine hb_callSN (As := [.int 0, .int r_2]) (rest := [.int a]) G hml (c_blocksTouched g l 0 r_2 _) G.2.2.2.2.2.2.2.2.1 kt_X1_blocksTouched kn_X1 ko_X1_blocksTouched hd_X1_blocksTouched ⟨Nat.le_of_ble_eq_true rfl, Nat.le_of_ble_eq_true rfl⟩ hl.size rfl (Nat.le_of_ble_eq_true rfl) dX0_blocksFilled_22 ⟨Nat.le_of_ble_eq_true rfl, Nat.le_of_ble_eq_true rfl⟩ hL (f0_in) (fun v1 H1 locs1 hp hL => ?_)
        obtain ⟨rfl, rfl⟩ := hp
        refine lv_topi (fun r_3 er_3 => ?_)
        refine lv_iadd G.1 G.2.1 dX0_blocksFilled_25 ?_
        refine lv_topi (fun t_4 et_4 => ?_)
        refine hb_istore_n G dX0_blocksFilled_26 hl (by decide) (fun ls hl => ?_)
        have hl : lh ls 3 [some (.ref x), some (.int t_4), some (.int b)] := hl
        obtain ⟨t_5, et_5⟩ : ∃ z : Int32, z = b + 1 := ⟨_, rfl⟩
        refine hb_iinc (v := t_5) G dX0_blocksFilled_27 hl rfl (by rw [et_5]; rfl) (by decide) (fun ls hl => ?_)
        have hl : lh ls 3 [some (.ref x), some (.int t_4), some (.int t_5)] := hl
        refine lv_goto (tgt := 4) G.1 G.2.1 dX0_blocksFilled_30 (by decide) ?_
        exact ih (j + 1) t_4 t_5 locs1 ls (by omega) (by omega) (by rw [et_4, ea, er_3, er]; rfl) (by rw [et_5, eb]; exact nI_1 j) hL hl
  refine lv_iconst (v := 0) G.1 G.2.1 dX0_blocksFilled_0 (by decide) ?_
  refine hb_istore_n G dX0_blocksFilled_1 hl (by decide) (fun ls hl => ?_)
  have hl : lh ls 3 [some (.ref x), some (.int 0), none] := hl
  refine lv_iconst (v := 0) G.1 G.2.1 dX0_blocksFilled_2 (by decide) ?_
  refine hb_istore_n G dX0_blocksFilled_3 hl (by decide) (fun ls hl => ?_)
  have hl : lh ls 3 [some (.ref x), some (.int 0), some (.int 0)] := hl
  exact lp (v.2.1 + 1) 0 0 0 [] ls (by omega) (by omega) rfl rfl hL hl
