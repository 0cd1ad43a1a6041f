theorem hd_X1_init : hmd yX1_init 2 := ⟨by decide +kernel, by decide +kernel, by decide +kernel⟩
theorem hd_X0_init : hmd yX0_init 0 := ⟨by decide +kernel, by decide +kernel, by decide +kernel⟩
theorem hd_X1_recover : hmd yX1_recover 0 := ⟨by decide +kernel, by decide +kernel, by decide +kernel⟩
theorem hd_X1_isDown : hmd yX1_isDown 0 := ⟨by decide +kernel, by decide +kernel, by decide +kernel⟩
theorem hd_X1_writes : hmd yX1_writes 0 := ⟨by decide +kernel, by decide +kernel, by decide +kernel⟩
theorem hd_L_cell : hmd yL_cell 2 := ⟨by decide +kernel, by decide +kernel, by decide +kernel⟩
theorem hd_L_append : hmd yL_append 5 := ⟨by decide +kernel, by decide +kernel, by decide +kernel⟩
theorem hd_X1_append : hmd yX1_append 3 := ⟨by decide +kernel, by decide +kernel, by decide +kernel⟩
theorem hd_X1_existingLog : hmd yX1_existingLog 1 := ⟨by decide +kernel, by decide +kernel, by decide +kernel⟩
theorem hd_X1_requireWithin : hmd yX1_requireWithin 3 := ⟨by decide +kernel, by decide +kernel, by decide +kernel⟩
theorem hd_X1_requirePower : hmd yX1_requirePower 0 := ⟨by decide +kernel, by decide +kernel, by decide +kernel⟩
theorem hd_X1_segmentBytes : hmd yX1_segmentBytes 0 := ⟨by decide +kernel, by decide +kernel, by decide +kernel⟩
theorem hd_X0_openHasRoom : hmd yX0_openHasRoom 2 := ⟨by decide +kernel, by decide +kernel, by decide +kernel⟩
theorem hd_X0_openBytes : hmd yX0_openBytes 0 := ⟨by decide +kernel, by decide +kernel, by decide +kernel⟩
theorem hd_X1_at : hmd yX1_at 2 := ⟨by decide +kernel, by decide +kernel, by decide +kernel⟩
theorem hd_X0_openStart : hmd yX0_openStart 0 := ⟨by decide +kernel, by decide +kernel, by decide +kernel⟩
theorem hd_X1_startOfNewSegment : hmd yX1_startOfNewSegment 1 := ⟨by decide +kernel, by decide +kernel, by decide +kernel⟩
theorem hd_X0_canOpenMore : hmd yX0_canOpenMore 0 := ⟨by decide +kernel, by decide +kernel, by decide +kernel⟩
theorem hd_X1_markBlockUse : hmd yX1_markBlockUse 0 := ⟨by decide +kernel, by decide +kernel, by decide +kernel⟩
theorem hd_X1_set : hmd yX1_set 3 := ⟨by decide +kernel, by decide +kernel, by decide +kernel⟩
theorem hd_X1_markSegmentsOf : hmd yX1_markSegmentsOf 1 := ⟨by decide +kernel, by decide +kernel, by decide +kernel⟩
theorem hd_X1_markSegment : hmd yX1_markSegment 1 := ⟨by decide +kernel, by decide +kernel, by decide +kernel⟩
theorem hd_X1_firstFreeRun : hmd yX1_firstFreeRun 0 := ⟨by decide +kernel, by decide +kernel, by decide +kernel⟩
theorem hd_X0_canHoldMore : hmd yX0_canHoldMore 0 := ⟨by decide +kernel, by decide +kernel, by decide +kernel⟩
theorem hd_X1_blocksTouched : hmd yX1_blocksTouched 2 := ⟨by decide +kernel, by decide +kernel, by decide +kernel⟩
theorem hd_X1_writeThroughHead : hmd yX1_writeThroughHead 1 := ⟨by decide +kernel, by decide +kernel, by decide +kernel⟩
theorem hd_X0_openSegment : hmd yX0_openSegment 1 := ⟨by decide +kernel, by decide +kernel, by decide +kernel⟩
theorem hd_X0_put : hmd yX0_put 2 := ⟨by decide +kernel, by decide +kernel, by decide +kernel⟩
theorem hd_L_retain : hmd yL_retain 4 := ⟨by decide +kernel, by decide +kernel, by decide +kernel⟩
theorem hd_X1_retain : hmd yX1_retain 2 := ⟨by decide +kernel, by decide +kernel, by decide +kernel⟩
theorem hd_X0_segmentsPast : hmd yX0_segmentsPast 1 := ⟨by decide +kernel, by decide +kernel, by decide +kernel⟩
theorem hd_X0_bytesFrom : hmd yX0_bytesFrom 1 := ⟨by decide +kernel, by decide +kernel, by decide +kernel⟩
theorem hd_X0_beginAs : hmd yX0_beginAs 1 := ⟨by decide +kernel, by decide +kernel, by decide +kernel⟩
theorem hd_X0_takeSegments : hmd yX0_takeSegments 2 := ⟨by decide +kernel, by decide +kernel, by decide +kernel⟩
theorem hd_X1_putDraftInPlaceOf : hmd yX1_putDraftInPlaceOf 1 := ⟨by decide +kernel, by decide +kernel, by decide +kernel⟩
theorem hd_L_thin : hmd yL_thin 4 := ⟨by decide +kernel, by decide +kernel, by decide +kernel⟩
theorem hd_X1_thin : hmd yX1_thin 2 := ⟨by decide +kernel, by decide +kernel, by decide +kernel⟩
theorem hd_X0_closedEntries : hmd yX0_closedEntries 0 := ⟨by decide +kernel, by decide +kernel, by decide +kernel⟩
theorem hd_X1_packThinned : hmd yX1_packThinned 3 := ⟨by decide +kernel, by decide +kernel, by decide +kernel⟩
theorem hd_X1_goes : hmd yX1_goes 2 := ⟨by decide +kernel, by decide +kernel, by decide +kernel⟩
theorem hd_X1_packEntry : hmd yX1_packEntry 2 := ⟨by decide +kernel, by decide +kernel, by decide +kernel⟩
theorem hd_X0_blocksFilled : hmd yX0_blocksFilled 0 := ⟨by decide +kernel, by decide +kernel, by decide +kernel⟩
theorem hd_L_log : hmd yL_log 4 := ⟨by decide +kernel, by decide +kernel, by decide +kernel⟩
theorem hd_X1_log : hmd yX1_log 2 := ⟨by decide +kernel, by decide +kernel, by decide +kernel⟩
theorem hd_L_entry : hmd yL_entry 5 := ⟨by decide +kernel, by decide +kernel, by decide +kernel⟩
theorem hd_X1_entry : hmd yX1_entry 3 := ⟨by decide +kernel, by decide +kernel, by decide +kernel⟩
theorem hd_X0_blockOf : hmd yX0_blockOf 1 := ⟨by decide +kernel, by decide +kernel, by decide +kernel⟩
theorem hd_L_byteAt : hmd yL_byteAt 5 := ⟨by decide +kernel, by decide +kernel, by decide +kernel⟩
theorem hd_X1_byteAt : hmd yX1_byteAt 3 := ⟨by decide +kernel, by decide +kernel, by decide +kernel⟩
theorem hd_L_crash : hmd yL_crash 2 := ⟨by decide +kernel, by decide +kernel, by decide +kernel⟩
theorem hd_X1_crash : hmd yX1_crash 1 := ⟨by decide +kernel, by decide +kernel, by decide +kernel⟩
theorem hd_L_free : hmd yL_free 2 := ⟨by decide +kernel, by decide +kernel, by decide +kernel⟩
theorem hd_X1_free : hmd yX1_free 0 := ⟨by decide +kernel, by decide +kernel, by decide +kernel⟩
theorem hd_X2_init : hmd yX2_init 2 := ⟨by decide +kernel, by decide +kernel, by decide +kernel⟩
theorem hd_X2_thrown : hmd yX2_thrown 0 := ⟨by decide +kernel, by decide +kernel, by decide +kernel⟩
theorem hd_X2_append : hmd yX2_append 3 := ⟨by decide +kernel, by decide +kernel, by decide +kernel⟩
theorem hd_X2_isLog : hmd yX2_isLog 1 := ⟨by decide +kernel, by decide +kernel, by decide +kernel⟩
theorem hd_X2_goes : hmd yX2_goes 1 := ⟨by decide +kernel, by decide +kernel, by decide +kernel⟩
theorem hd_X2_mark : hmd yX2_mark 0 := ⟨by decide +kernel, by decide +kernel, by decide +kernel⟩
theorem hd_X2_hold : hmd yX2_hold 1 := ⟨by decide +kernel, by decide +kernel, by decide +kernel⟩
theorem hd_X2_place : hmd yX2_place 0 := ⟨by decide +kernel, by decide +kernel, by decide +kernel⟩
theorem hd_X2_touched : hmd yX2_touched 2 := ⟨by decide +kernel, by decide +kernel, by decide +kernel⟩
theorem hd_X2_spend : hmd yX2_spend 1 := ⟨by decide +kernel, by decide +kernel, by decide +kernel⟩
theorem hd_X2_add : hmd yX2_add 5 := ⟨by decide +kernel, by decide +kernel, by decide +kernel⟩
theorem hd_X2_longer : hmd yX2_longer 1 := ⟨by decide +kernel, by decide +kernel, by decide +kernel⟩
theorem hd_X2_retain : hmd yX2_retain 2 := ⟨by decide +kernel, by decide +kernel, by decide +kernel⟩
theorem hd_X2_sum : hmd yX2_sum 1 := ⟨by decide +kernel, by decide +kernel, by decide +kernel⟩
theorem hd_X2_inSegment : hmd yX2_inSegment 2 := ⟨by decide +kernel, by decide +kernel, by decide +kernel⟩
theorem hd_X2_copy : hmd yX2_copy 2 := ⟨by decide +kernel, by decide +kernel, by decide +kernel⟩
theorem hd_X2_thin : hmd yX2_thin 2 := ⟨by decide +kernel, by decide +kernel, by decide +kernel⟩
theorem hd_X2_closed : hmd yX2_closed 1 := ⟨by decide +kernel, by decide +kernel, by decide +kernel⟩
theorem hd_X2_count : hmd yX2_count 1 := ⟨by decide +kernel, by decide +kernel, by decide +kernel⟩
theorem hd_X2_plan : hmd yX2_plan 2 := ⟨by decide +kernel, by decide +kernel, by decide +kernel⟩
theorem hd_X2_entryOf : hmd yX2_entryOf 2 := ⟨by decide +kernel, by decide +kernel, by decide +kernel⟩
theorem hd_X2_happen : hmd yX2_happen 2 := ⟨by decide +kernel, by decide +kernel, by decide +kernel⟩
theorem hd_X2_log : hmd yX2_log 2 := ⟨by decide +kernel, by decide +kernel, by decide +kernel⟩
theorem hd_X2_entry : hmd yX2_entry 3 := ⟨by decide +kernel, by decide +kernel, by decide +kernel⟩
theorem hd_X2_isEntry : hmd yX2_isEntry 2 := ⟨by decide +kernel, by decide +kernel, by decide +kernel⟩
theorem hd_X2_byteAt : hmd yX2_byteAt 3 := ⟨by decide +kernel, by decide +kernel, by decide +kernel⟩
theorem hd_X2_crash : hmd yX2_crash 1 := ⟨by decide +kernel, by decide +kernel, by decide +kernel⟩
theorem hd_X2_recover : hmd yX2_recover 0 := ⟨by decide +kernel, by decide +kernel, by decide +kernel⟩
theorem hd_X2_isDown : hmd yX2_isDown 0 := ⟨by decide +kernel, by decide +kernel, by decide +kernel⟩
theorem hd_X2_writes : hmd yX2_writes 0 := ⟨by decide +kernel, by decide +kernel, by decide +kernel⟩
theorem hd_X2_free : hmd yX2_free 0 := ⟨by decide +kernel, by decide +kernel, by decide +kernel⟩
theorem hd_J_fill : hmd yJ_fill 2 := ⟨by decide +kernel, by decide +kernel, by decide +kernel⟩
/-! where a method writes: nowhere, in one cell, in a block -/
def f0 : Nat → Prop := fun _ => False
def f1 (a : Nat) : Nat → Prop := fun q => q = a
def fB (x k : Nat) : Nat → Prop := fun q => x ≤ q ∧ q < x + k
theorem f0_in {A : Nat → Prop} : ∀ q, f0 q → A q := fun _ h => h.elim
theorem f1_in {A : Nat → Prop} {a : Nat} (h : A a) : ∀ q, f1 a q → A q := fun q hq => by rw [show q = a from hq]; exact h
/-! a row read and written behind a look at its index -/
def atV (f : Nat → Int32) (k : Nat) (i : Int32) : Int32 := if 0 ≤ i ∧ i < nI k then f i.toNatClampNeg else 0
def setV (f : Nat → Int32) (k : Nat) (i x : Int32) : Nat → Int32 := if 0 ≤ i ∧ i < nI k then upd f i.toNatClampNeg x else f
theorem i32_nlt {x y : Int32} : ¬ x < y ↔ y ≤ x := Int32.not_lt
theorem i32_nle {x y : Int32} : ¬ x ≤ y ↔ y < x := Int32.not_le
theorem vp_in_ge {i : Int32} {k : Nat} (h0 : ¬ i < 0) (h1 : i < nI k) (hk : k < 2 ^ 31) : vp_in i k := by
  rw [vp_in_iff]
  rw [Int32.lt_iff_toInt_lt] at h0 h1
  rw [nI_toInt hk] at h1
  have h2 : (0 : Int32).toInt = 0 := rfl
  rw [h2] at h0
  omega
theorem atV_in {f : Nat → Int32} {k j : Nat} (h : j < k) (hk : k < 2 ^ 31) : atV f k (nI j) = f j := by
  unfold atV
  rw [if_pos ⟨nI_pos' (by omega), nI_lt h hk⟩, nI_clamp (by omega)]
theorem atV_neg {f : Nat → Int32} {k : Nat} {i : Int32} (h : i < 0) : atV f k i = 0 := by
  unfold atV
  rw [if_neg (fun q => i32_nlt.mpr q.1 h)]
theorem setV_in {f : Nat → Int32} {k j : Nat} {x : Int32} (h : j < k) (hk : k < 2 ^ 31) : setV f k (nI j) x = upd f j x := by
  unfold setV
  rw [if_pos ⟨nI_pos' (by omega), nI_lt h hk⟩, nI_clamp (by omega)]
set_option maxHeartbeats 4000000 in
set_option maxRecDepth 100000 in
/-- at: the element, or 0 where there is none -/
theorem c_at (g : Gx) (l : Launch) (a k : Nat) (f : Nat → Int32) (i : Int32) (H : Heap) (hk : k < 2 ^ 31) (ha : ia g a k f H) : HM g l yX1_at cX1_at 2 (some .int) 0 0 0 0 [.ref a, .int i] H (fun v H1 => v = some (.int (atV f k i)) ∧ H1 = H) (f0) := by
  refine HM.ofW (by decide) (Nat.le_of_ble_eq_true rfl) (by simp [Value.category]) ?_
  intro p e s m args below meth c ls G hr hml hlocks hnm hH hl
  have hl : lh ls 2 [some (.ref a), some (.int i)] := hl
  have hL : ∀ q ∈ ([] : List Loc), f0 q.base := fun q h => by cases h
  refine hb_iload_n G dX1_at_0 hl rfl ?_
  refine lv_if_lt (tgt := 16) G.1 G.2.1 dX1_at_1 (by decide) (fun c_1 => ?_) (fun c_1 => ?_)
  · refine lv_iconst (v := 0) G.1 G.2.1 dX1_at_16 (by decide) ?_
    exact hb_iret G hr hlocks ⟨by rw [atV_neg c_1], rfl⟩ hL (Nat.le_refl _) (Nat.le_refl _) dX1_at_17
  · refine hb_iload_n G dX1_at_4 hl rfl ?_
    refine hb_aload_n G dX1_at_5 hl rfl ?_
    refine hb_alen_i G ha dX1_at_6 ?_
    refine lv_icmp_ge (tgt := 16) G.1 G.2.1 dX1_at_7 (by decide) (fun c_2 => ?_) (fun c_2 => ?_)
    · refine lv_iconst (v := 0) G.1 G.2.1 dX1_at_16 (by decide) ?_
      exact hb_iret G hr hlocks ⟨by unfold atV; rw [if_neg (fun q => i32_nlt.mpr c_2 q.2)], rfl⟩ hL (Nat.le_refl _) (Nat.le_refl _) dX1_at_17
    · refine hb_aload_n G dX1_at_10 hl rfl ?_
      refine hb_iload_n G dX1_at_11 hl rfl ?_
      refine hb_iald G ha (vp_in_ge c_1 (i32_nle.mp c_2) hk) dX1_at_12 ?_
      refine lv_goto (tgt := 17) G.1 G.2.1 dX1_at_13 (by decide) ?_
      exact hb_iret G hr hlocks ⟨by unfold atV; rw [if_pos ⟨i32_nlt.mp c_1, i32_nle.mp c_2⟩], rfl⟩ hL (Nat.le_refl _) (Nat.le_refl _) dX1_at_17
set_option maxHeartbeats 4000000 in
set_option maxRecDepth 100000 in
/-- set: the element takes the number, if there is one -/
theorem c_set (g : Gx) (l : Launch) (a k : Nat) (f : Nat → Int32) (i x : Int32) (H : Heap) (hk : k < 2 ^ 31) (ha : ia g a k f H) : HM g l yX1_set cX1_set 3 none 0 0 0 0 [.ref a, .int i, .int x] H (fun v H1 => v = none ∧ ia g a k (setV f k i x) H1 ∧ H1.size = H.size ∧ ∀ q : Nat, q ≠ a → H1[q]? = H[q]?) (f1 a) := by
  refine HM.ofW (by decide) (Nat.le_of_ble_eq_true rfl) (by simp [Value.category]) ?_
  intro p e s m args below meth c ls G hr hml hlocks hnm hH hl
  have hl : lh ls 3 [some (.ref a), some (.int i), some (.int x)] := hl
  have hL : ∀ q ∈ ([] : List Loc), f1 a q.base := fun q h => by cases h
  refine hb_iload_n G dX1_set_0 hl rfl ?_
  refine lv_if_lt (tgt := 14) G.1 G.2.1 dX1_set_1 (by decide) (fun c_1 => ?_) (fun c_1 => ?_)
  · exact hb_vret G hr hlocks ⟨rfl, by unfold setV; rw [if_neg (fun q => i32_nlt.mpr q.1 c_1)]; exact ha, rfl, fun _ _ => rfl⟩ hL (Nat.le_refl _) (Nat.le_refl _) dX1_set_14
  · refine hb_iload_n G dX1_set_4 hl rfl ?_
    refine hb_aload_n G dX1_set_5 hl rfl ?_
    refine hb_alen_i G ha dX1_set_6 ?_
    refine lv_icmp_ge (tgt := 14) G.1 G.2.1 dX1_set_7 (by decide) (fun c_2 => ?_) (fun c_2 => ?_)
    · exact hb_vret G hr hlocks ⟨rfl, by unfold setV; rw [if_neg (fun q => i32_nlt.mpr c_2 q.2)]; exact ha, rfl, fun _ _ => rfl⟩ hL (Nat.le_refl _) (Nat.le_refl _) dX1_set_14
    · refine hb_aload_n G dX1_set_10 hl rfl ?_
      refine hb_iload_n G dX1_set_11 hl rfl ?_
      refine hb_iload_n G dX1_set_12 hl rfl ?_
      refine hb_iast G ha (vp_in_ge c_1 (i32_nle.mp c_2) hk) hL rfl dX1_set_13 (fun H1 locs1 ha1 hz ho hL => ?_)
      exact hb_vret G hr hlocks ⟨rfl, by unfold setV; rw [if_pos ⟨i32_nlt.mp c_1, i32_nle.mp c_2⟩]; exact ha1, hz, ho⟩ hL (Nat.le_refl _) (Nat.le_refl _) dX1_set_14
