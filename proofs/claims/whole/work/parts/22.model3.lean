set_option maxHeartbeats 4000000 in
set_option maxRecDepth 100000 in
/-- count -/
theorem m_count (g : Gx) (l : Launch) (r S B C : Nat) (a : Nat → Nat) (A : Nat → Nat → Int32) (cd wr lf dn : Int32) (en pl : Nat) (H : Heap) (h : mdAt g r S B C a A cd wr lf dn en pl H) (hB : mdB S B C en) (x : Int32) : HM g l yX2_count cX2_count 4 (some .int) 0 0 0 0 [.ref r, .int x] H (fun v H1 => v = some (.int (nI (mCnt (A 5) x en))) ∧ H1 = H) (f0) := by
  refine HM.ofW (by decide) (Nat.le_of_ble_eq_true rfl) (by simp [Value.category]) ?_
  intro p e s m args below meth c ls G hr hml hlocks hnm hH hl
  have hl : lh ls 4 [some (.ref r), some (.int x), none, none] := hl
  have hL : ∀ q ∈ ([] : List Loc), (f0) q.base := fun q h => by cases h
  obtain ⟨-, hC1, hC2⟩ := hB
  have lp : ∀ (k j : Nat) (s2 b : Int32)  (locs : List Loc) (ls : Array Slot), (en + 1 ≤ j + k) → (j ≤ en) → (s2 = nI (mCnt (A 5) x j)) → (b = nI j) → (∀ q ∈ locs, (f0) q.base) → lh ls 4 [some (.ref r), some (.int x), some (.int s2), some (.int b)] → W p l e ({ frames := 0, cells := 0, slots := 0, locals := 0 } : Room) s m args below meth c H locs 0 0 (hQ below args s (fun v H1 => v = some (.int (nI (mCnt (A 5) x en))) ∧ H1 = H) 0 0 (f0)) (F0 m 4 ls []) := by
    intro k
    induction k with
    | zero =>
      intro j s2 b  locs ls hd9 hj es eb hL hl
      exfalso; omega
    | succ k ih =>
      intro j s2 b  locs ls hd9 hj es eb hL hl
      refine hb_iload_n G dX2_count_4 hl rfl ?_
      refine hb_aload_n G dX2_count_5 hl rfl ?_
      refine hb_get G h.1 rfl inX2 11 (by decide) kf_X2_71 rfl rfl dX2_count_6 ?_
      refine lv_icmp_ge (tgt := 36) G.1 G.2.1 dX2_count_9 (by decide) (fun c_1 => ?_) (fun c_1 => ?_)
      · have hj2 : j = en := by have := (ic_le rfl eb (by omega) (by omega)).mp c_1; omega
        subst hj2
        refine hb_iload_n G dX2_count_36 hl rfl ?_
        exact hb_iret G hr hlocks ⟨by rw [es], rfl⟩ hL (Nat.le_refl _) (Nat.le_refl _) dX2_count_37
      · have hj2 : j < en := by have := mt (ic_le rfl eb (by omega) (by omega)).mpr c_1; omega
        refine hb_iload_n G dX2_count_12 hl rfl ?_
        refine hb_aload_n G dX2_count_13 hl rfl ?_
        refine hb_get G h.1 rfl inX2 12 (by decide) kf_X2_30 rfl rfl dX2_count_14 ?_
        refine hb_iload_n G dX2_count_17 hl rfl ?_
        refine hb_iald G (show ia g (a 5) C (A 5) _ from h.2.1 5 (by decide)) (by rw [eb]; exact vp_in_nI (by omega) (by omega)) dX2_count_18 ?_
        refine lv_topi (fun r_2 er_2 => ?_)
        have er_2 : r_2 = A 5 (j) := by rw [er_2, show (b).toNatClampNeg = j by rw [eb]; exact nI_clamp (by omega)]
        refine hb_iload_n G dX2_count_19 hl rfl ?_
        refine lv_icmp_ne (tgt := 27) G.1 G.2.1 dX2_count_20 (by decide) (fun c_3 => ?_) (fun c_3 => ?_)
        · refine lv_iconst (v := 0) G.1 G.2.1 dX2_count_27 (by decide) ?_
          refine lv_iadd G.1 G.2.1 dX2_count_28 ?_
          refine lv_topi (fun t_4 et_4 => ?_)
          refine hb_istore_n G dX2_count_29 hl (by decide) (fun ls hl => ?_)
          have hl : lh ls 4 [some (.ref r), some (.int x), some (.int t_4), some (.int b)] := hl
          obtain ⟨t_5, et_5⟩ : ∃ z : Int32, z = b + 1 := ⟨_, rfl⟩
          refine hb_iinc (v := t_5) G dX2_count_30 hl rfl (by rw [et_5]; rfl) (by decide) (fun ls hl => ?_)
          have hl : lh ls 4 [some (.ref r), some (.int x), some (.int t_4), some (.int t_5)] := hl
          refine lv_goto (tgt := 4) G.1 G.2.1 dX2_count_33 (by decide) ?_
          exact ih (j + 1) t_4 t_5 locs ls (by omega) (by omega) (by simp only [mCnt]; rw [if_neg (by rw [← er_2]; exact c_3), et_4, es]; exact by rw [Nat.add_zero]; exact nI_add _ 0) (by rw [et_5, eb]; exact nI_1 j) hL hl
        · refine lv_iconst (v := 1) G.1 G.2.1 dX2_count_23 (by decide) ?_
          refine lv_goto (tgt := 28) G.1 G.2.1 dX2_count_24 (by decide) ?_
          refine lv_iadd G.1 G.2.1 dX2_count_28 ?_
          refine lv_topi (fun t_6 et_6 => ?_)
          refine hb_istore_n G dX2_count_29 hl (by decide) (fun ls hl => ?_)
          have hl : lh ls 4 [some (.ref r), some (.int x), some (.int t_6), some (.int b)] := hl
          obtain ⟨t_7, et_7⟩ : ∃ z : Int32, z = b + 1 := ⟨_, rfl⟩
          refine hb_iinc (v := t_7) G dX2_count_30 hl rfl (by rw [et_7]; rfl) (by decide) (fun ls hl => ?_)
          have hl : lh ls 4 [some (.ref r), some (.int x), some (.int t_6), some (.int t_7)] := hl
          refine lv_goto (tgt := 4) G.1 G.2.1 dX2_count_33 (by decide) ?_
          exact ih (j + 1) t_6 t_7 locs ls (by omega) (by omega) (by simp only [mCnt]; rw [if_pos (by rw [← er_2]; exact c_3), et_6, es]; exact nI_1 _) (by rw [et_7, eb]; exact nI_1 j) hL hl
  refine lv_iconst (v := 0) G.1 G.2.1 dX2_count_0 (by decide) ?_
  refine hb_istore_n G dX2_count_1 hl (by decide) (fun ls hl => ?_)
  have hl : lh ls 4 [some (.ref r), some (.int x), some (.int 0), none] := hl
  refine lv_iconst (v := 0) G.1 G.2.1 dX2_count_2 (by decide) ?_
  refine hb_istore_n G dX2_count_3 hl (by decide) (fun ls hl => ?_)
  have hl : lh ls 4 [some (.ref r), some (.int x), some (.int 0), some (.int 0)] := hl
  exact lp (en + 1) 0 0 0 [] ls (by omega) (by omega) rfl rfl hL hl
set_option maxHeartbeats 4000000 in
set_option maxRecDepth 100000 in
/-- inSegment -/
theorem m_inSegment (g : Gx) (l : Launch) (r S B C : Nat) (a : Nat → Nat) (A : Nat → Nat → Int32) (cd wr lf dn : Int32) (en pl : Nat) (H : Heap) (h : mdAt g r S B C a A cd wr lf dn en pl H) (hB : mdB S B C en) (i kk : Nat) (hi : i < 4) (hkk : kk < 60) : HM g l yX2_inSegment cX2_inSegment 5 (some .int) 0 0 0 0 [.ref r, .int (nI i), .int (nI kk)] H (fun v H1 => v = some (.int (nI (mIn A (nI i) (A 1 (60 * i + kk)) en))) ∧ H1 = H) (f0) := by
  refine HM.ofW (by decide) (Nat.le_of_ble_eq_true rfl) (by simp [Value.category]) ?_
  intro p e s m args below meth c ls G hr hml hlocks hnm hH hl
  have hl : lh ls 5 [some (.ref r), some (.int (nI i)), some (.int (nI kk)), none, none] := hl
  have hL : ∀ q ∈ ([] : List Loc), (f0) q.base := fun q h => by cases h
  obtain ⟨-, hC1, hC2⟩ := hB
  have lp : ∀ (k j : Nat) (s2 b : Int32)  (locs : List Loc) (ls : Array Slot), (en + 1 ≤ j + k) → (j ≤ en) → (s2 = nI (mIn A (nI i) (A 1 (60 * i + kk)) j)) → (b = nI j) → (∀ q ∈ locs, (f0) q.base) → lh ls 5 [some (.ref r), some (.int (nI i)), some (.int (nI kk)), some (.int s2), some (.int b)] → W p l e ({ frames := 0, cells := 0, slots := 0, locals := 0 } : Room) s m args below meth c H locs 0 0 (hQ below args s (fun v H1 => v = some (.int (nI (mIn A (nI i) (A 1 (60 * i + kk)) en))) ∧ H1 = H) 0 0 (f0)) (F0 m 5 ls []) := by
    intro k
    induction k with
    | zero =>
      intro j s2 b  locs ls hd9 hj es eb hL hl
      exfalso; omega
    | succ k ih =>
      intro j s2 b  locs ls hd9 hj es eb hL hl
      refine hb_iload G dX2_inSegment_5 hl rfl ?_
      refine hb_aload_n G dX2_inSegment_7 hl rfl ?_
      refine hb_get G h.1 rfl inX2 11 (by decide) kf_X2_71 rfl rfl dX2_inSegment_8 ?_
      refine lv_icmp_ge (tgt := 60) G.1 G.2.1 dX2_inSegment_11 (by decide) (fun c_1 => ?_) (fun c_1 => ?_)
      · have hj2 : j = en := by have := (ic_le rfl eb (by omega) (by omega)).mp c_1; omega
        subst hj2
        refine hb_iload_n G dX2_inSegment_60 hl rfl ?_
        exact hb_iret G hr hlocks ⟨by rw [es], rfl⟩ hL (Nat.le_refl _) (Nat.le_refl _) dX2_inSegment_61
      · have hj2 : j < en := by have := mt (ic_le rfl eb (by omega) (by omega)).mpr c_1; omega
        refine hb_iload_n G dX2_inSegment_14 hl rfl ?_
        refine hb_aload_n G dX2_inSegment_15 hl rfl ?_
        refine hb_get G h.1 rfl inX2 12 (by decide) kf_X2_30 rfl rfl dX2_inSegment_16 ?_
        refine hb_iload G dX2_inSegment_19 hl rfl ?_
        refine hb_iald G (show ia g (a 5) C (A 5) _ from h.2.1 5 (by decide)) (by rw [eb]; exact vp_in_nI (by omega) (by omega)) dX2_inSegment_21 ?_
        refine lv_topi (fun r_2 er_2 => ?_)
        have er_2 : r_2 = A 5 (j) := by rw [er_2, show (b).toNatClampNeg = j by rw [eb]; exact nI_clamp (by omega)]
        refine hb_iload_n G dX2_inSegment_22 hl rfl ?_
        refine lv_icmp_ne (tgt := 51) G.1 G.2.1 dX2_inSegment_23 (by decide) (fun c_3 => ?_) (fun c_3 => ?_)
        · refine lv_iconst (v := 0) G.1 G.2.1 dX2_inSegment_51 (by decide) ?_
          refine lv_iadd G.1 G.2.1 dX2_inSegment_52 ?_
          refine lv_topi (fun t_4 et_4 => ?_)
          refine hb_istore_n G dX2_inSegment_53 hl (by decide) (fun ls hl => ?_)
          have hl : lh ls 5 [some (.ref r), some (.int (nI i)), some (.int (nI kk)), some (.int t_4), some (.int b)] := hl
          obtain ⟨t_5, et_5⟩ : ∃ z : Int32, z = b + 1 := ⟨_, rfl⟩
          refine hb_iinc (v := t_5) G dX2_inSegment_54 hl rfl (by rw [et_5]; rfl) (by decide) (fun ls hl => ?_)
          have hl : lh ls 5 [some (.ref r), some (.int (nI i)), some (.int (nI kk)), some (.int t_4), some (.int t_5)] := hl
          refine lv_goto (tgt := 5) G.1 G.2.1 dX2_inSegment_57 (by decide) ?_
          exact ih (j + 1) t_4 t_5 locs ls (by omega) (by omega) (by simp only [mIn]; rw [if_neg (fun q => c_3 (by rw [er_2]; exact q.1)), et_4, es]; exact by rw [Nat.add_zero]; exact nI_add _ 0) (by rw [et_5, eb]; exact nI_1 j) hL hl
        · refine hb_aload_n G dX2_inSegment_26 hl rfl ?_
          refine hb_get G h.1 rfl inX2 15 (by decide) kf_X2_39 rfl rfl dX2_inSegment_27 ?_
          refine hb_iload G dX2_inSegment_30 hl rfl ?_
          refine hb_iald G (show ia g (a 8) C (A 8) _ from h.2.1 8 (by decide)) (by rw [eb]; exact vp_in_nI (by omega) (by omega)) dX2_inSegment_32 ?_
          refine lv_topi (fun r_6 er_6 => ?_)
          have er_6 : r_6 = A 8 (j) := by rw [er_6, show (b).toNatClampNeg = j by rw [eb]; exact nI_clamp (by omega)]
          refine hb_aload_n G dX2_inSegment_33 hl rfl ?_
          refine hb_get G h.1 rfl inX2 7 (by decide) kf_X2_17 rfl rfl dX2_inSegment_34 ?_
          refine lv_bipush (v := 60) G.1 G.2.1 dX2_inSegment_37 (by decide) ?_
          refine hb_iload_n G dX2_inSegment_39 hl rfl ?_
          refine lv_imul G.1 G.2.1 dX2_inSegment_40 ?_
          refine lv_topi (fun t_7 et_7 => ?_)
          refine hb_iload_n G dX2_inSegment_41 hl rfl ?_
          refine lv_iadd G.1 G.2.1 dX2_inSegment_42 ?_
          refine lv_topi (fun t_8 et_8 => ?_)
          have hix : t_8 = nI (60 * i + kk) := by rw [et_8, et_7]; exact nI_60 _ _
          refine hb_iald G (show ia g (a 1) 240 (A 1) _ from h.2.1 1 (by decide)) (by rw [hix]; exact vp_in_nI (by omega) (by decide)) dX2_inSegment_43 ?_
          refine lv_topi (fun r_9 er_9 => ?_)
          have er_9 : r_9 = A 1 (60 * i + kk) := by rw [er_9, show (t_8).toNatClampNeg = 60 * i + kk by rw [hix]; exact nI_clamp (by omega)]
          refine lv_icmp_ne (tgt := 51) G.1 G.2.1 dX2_inSegment_44 (by decide) (fun c_10 => ?_) (fun c_10 => ?_)
          · refine lv_iconst (v := 0) G.1 G.2.1 dX2_inSegment_51 (by decide) ?_
            refine lv_iadd G.1 G.2.1 dX2_inSegment_52 ?_
            refine lv_topi (fun t_11 et_11 => ?_)
            refine hb_istore_n G dX2_inSegment_53 hl (by decide) (fun ls hl => ?_)
            have hl : lh ls 5 [some (.ref r), some (.int (nI i)), some (.int (nI kk)), some (.int t_11), some (.int b)] := hl
            obtain ⟨t_12, et_12⟩ : ∃ z : Int32, z = b + 1 := ⟨_, rfl⟩
            refine hb_iinc (v := t_12) G dX2_inSegment_54 hl rfl (by rw [et_12]; rfl) (by decide) (fun ls hl => ?_)
            have hl : lh ls 5 [some (.ref r), some (.int (nI i)), some (.int (nI kk)), some (.int t_11), some (.int t_12)] := hl
            refine lv_goto (tgt := 5) G.1 G.2.1 dX2_inSegment_57 (by decide) ?_
            exact ih (j + 1) t_11 t_12 locs ls (by omega) (by omega) (by simp only [mIn]; rw [if_neg (fun q => c_10 (by rw [er_6, er_9]; exact q.2)), et_11, es]; exact by rw [Nat.add_zero]; exact nI_add _ 0) (by rw [et_12, eb]; exact nI_1 j) hL hl
          · refine lv_iconst (v := 1) G.1 G.2.1 dX2_inSegment_47 (by decide) ?_
            refine lv_goto (tgt := 52) G.1 G.2.1 dX2_inSegment_48 (by decide) ?_
            refine lv_iadd G.1 G.2.1 dX2_inSegment_52 ?_
            refine lv_topi (fun t_13 et_13 => ?_)
            refine hb_istore_n G dX2_inSegment_53 hl (by decide) (fun ls hl => ?_)
            have hl : lh ls 5 [some (.ref r), some (.int (nI i)), some (.int (nI kk)), some (.int t_13), some (.int b)] := hl
            obtain ⟨t_14, et_14⟩ : ∃ z : Int32, z = b + 1 := ⟨_, rfl⟩
            refine hb_iinc (v := t_14) G dX2_inSegment_54 hl rfl (by rw [et_14]; rfl) (by decide) (fun ls hl => ?_)
            have hl : lh ls 5 [some (.ref r), some (.int (nI i)), some (.int (nI kk)), some (.int t_13), some (.int t_14)] := hl
            refine lv_goto (tgt := 5) G.1 G.2.1 dX2_inSegment_57 (by decide) ?_
            exact ih (j + 1) t_13 t_14 locs ls (by omega) (by omega) (by simp only [mIn]; rw [if_pos ⟨by rw [← er_2]; exact c_3, by rw [← er_6, ← er_9]; exact c_10⟩, et_13, es]; exact nI_1 _) (by rw [et_14, eb]; exact nI_1 j) hL hl
  refine lv_iconst (v := 0) G.1 G.2.1 dX2_inSegment_0 (by decide) ?_
  refine hb_istore_n G dX2_inSegment_1 hl (by decide) (fun ls hl => ?_)
  have hl : lh ls 5 [some (.ref r), some (.int (nI i)), some (.int (nI kk)), some (.int 0), none] := hl
  refine lv_iconst (v := 0) G.1 G.2.1 dX2_inSegment_2 (by decide) ?_
  refine hb_istore G dX2_inSegment_3 hl (by decide) (fun ls hl => ?_)
  have hl : lh ls 5 [some (.ref r), some (.int (nI i)), some (.int (nI kk)), some (.int 0), some (.int 0)] := hl
  exact lp (en + 1) 0 0 0 [] ls (by omega) (by omega) rfl rfl hL hl
set_option maxHeartbeats 4000000 in
set_option maxRecDepth 100000 in
/-- entryOf -/
theorem m_entryOf (g : Gx) (l : Launch) (r S B C : Nat) (a : Nat → Nat) (A : Nat → Nat → Int32) (cd wr lf dn : Int32) (en pl : Nat) (H : Heap) (h : mdAt g r S B C a A cd wr lf dn en pl H) (hB : mdB S B C en) (x : Int32) (n : Nat) (hn : n < mCnt (A 5) x en) : HM g l yX2_entryOf cX2_entryOf 5 (some .int) 0 0 0 0 [.ref r, .int x, .int (nI n)] H (fun v H1 => (∃ e, e < en ∧ A 5 e = x ∧ mCnt (A 5) x e = n ∧ v = some (.int (nI e))) ∧ H1 = H) (f0) := by
  refine HM.ofW (by decide) (Nat.le_of_ble_eq_true rfl) (by simp [Value.category]) ?_
  intro p e s m args below meth c ls G hr hml hlocks hnm hH hl
  have hl : lh ls 5 [some (.ref r), some (.int x), some (.int (nI n)), none, none] := hl
  have hL : ∀ q ∈ ([] : List Loc), (f0) q.base := fun q h => by cases h
  obtain ⟨-, hC1, hC2⟩ := hB
  have hle := mCnt_le (A 5) x en
  have lp : ∀ (k j : Nat) (s2 b : Int32) (rm : Nat) (locs : List Loc) (ls : Array Slot), (en + 1 ≤ j + k) → (j ≤ en) → (s2 = nI rm) → (b = nI j) → (mCnt (A 5) x j + rm = n) → (∀ q ∈ locs, (f0) q.base) → lh ls 5 [some (.ref r), some (.int x), some (.int (nI n)), some (.int s2), some (.int b)] → W p l e ({ frames := 0, cells := 0, slots := 0, locals := 0 } : Room) s m args below meth c H locs 0 0 (hQ below args s (fun v H1 => (∃ e, e < en ∧ A 5 e = x ∧ mCnt (A 5) x e = n ∧ v = some (.int (nI e))) ∧ H1 = H) 0 0 (f0)) (F0 m 5 ls []) := by
    intro k
    induction k with
    | zero =>
      intro j s2 b rm locs ls hd9 hj es eb hI hL hl
      exfalso; omega
    | succ k ih =>
      intro j s2 b rm locs ls hd9 hj es eb hI hL hl
      have hj2 : j < en := by
        rcases Nat.lt_or_ge j en with q | q
        · exact q
        · have : j = en := by omega
          subst this; omega
      refine hb_aload_n G dX2_entryOf_5 hl rfl ?_
      refine hb_get G h.1 rfl inX2 12 (by decide) kf_X2_30 rfl rfl dX2_entryOf_6 ?_
      refine hb_iload G dX2_entryOf_9 hl rfl ?_
      refine hb_iald G (show ia g (a 5) C (A 5) _ from h.2.1 5 (by decide)) (by rw [eb]; exact vp_in_nI (by omega) (by omega)) dX2_entryOf_11 ?_
      refine lv_topi (fun r_1 er_1 => ?_)
      have er_1 : r_1 = A 5 (j) := by rw [er_1, show (b).toNatClampNeg = j by rw [eb]; exact nI_clamp (by omega)]
      refine hb_iload_n G dX2_entryOf_12 hl rfl ?_
      refine lv_icmp_ne (tgt := 20) G.1 G.2.1 dX2_entryOf_13 (by decide) (fun c_2 => ?_) (fun c_2 => ?_)
      · refine hb_iload_n G dX2_entryOf_20 hl rfl ?_
        refine hb_aload_n G dX2_entryOf_21 hl rfl ?_
        refine hb_get G h.1 rfl inX2 12 (by decide) kf_X2_30 rfl rfl dX2_entryOf_22 ?_
        refine hb_iload G dX2_entryOf_25 hl rfl ?_
        refine hb_iald G (show ia g (a 5) C (A 5) _ from h.2.1 5 (by decide)) (by rw [eb]; exact vp_in_nI (by omega) (by omega)) dX2_entryOf_27 ?_
        refine lv_topi (fun r_3 er_3 => ?_)
        have er_3 : r_3 = A 5 (j) := by rw [er_3, show (b).toNatClampNeg = j by rw [eb]; exact nI_clamp (by omega)]
        refine hb_iload_n G dX2_entryOf_28 hl rfl ?_
        refine lv_icmp_ne (tgt := 36) G.1 G.2.1 dX2_entryOf_29 (by decide) (fun c_4 => ?_) (fun c_4 => ?_)
        · refine lv_iconst (v := 0) G.1 G.2.1 dX2_entryOf_36 (by decide) ?_
          refine lv_isub G.1 G.2.1 dX2_entryOf_37 ?_
          refine lv_topi (fun t_5 et_5 => ?_)
          refine hb_istore_n G dX2_entryOf_38 hl (by decide) (fun ls hl => ?_)
          have hl : lh ls 5 [some (.ref r), some (.int x), some (.int (nI n)), some (.int t_5), some (.int b)] := hl
          obtain ⟨t_6, et_6⟩ : ∃ z : Int32, z = b + 1 := ⟨_, rfl⟩
          refine hb_iinc (v := t_6) G dX2_entryOf_39 hl rfl (by rw [et_6]; rfl) (by decide) (fun ls hl => ?_)
          have hl : lh ls 5 [some (.ref r), some (.int x), some (.int (nI n)), some (.int t_5), some (.int t_6)] := hl
          refine lv_goto (tgt := 5) G.1 G.2.1 dX2_entryOf_42 (by decide) ?_
          exact ih (j + 1) t_5 t_6 rm locs ls (by omega) (by omega) (by rw [et_5, es]; exact pk_sub (b := 0) (Nat.zero_le _)) (by rw [et_6, eb]; exact nI_1 j) (by simp only [mCnt]; rw [if_neg (by rw [← er_3]; exact c_4)]; omega) hL hl
        · exact absurd (by rw [er_1, ← er_3]; exact c_4) c_2
      · refine hb_iload_n G dX2_entryOf_16 hl rfl ?_
        refine lv_if_le (tgt := 45) G.1 G.2.1 dX2_entryOf_17 (by decide) (fun c_7 => ?_) (fun c_7 => ?_)
        · have hr0 : rm = 0 := by have := (ic_le es (show (0 : Int32) = nI 0 from rfl) (by omega) (by omega)).mp c_7; omega
          refine hb_iload G dX2_entryOf_45 hl rfl ?_
          exact hb_iret G hr hlocks ⟨⟨j, hj2, by rw [← er_1]; exact c_2, by omega, by rw [eb]⟩, rfl⟩ hL (Nat.le_refl _) (Nat.le_refl _) dX2_entryOf_47
        · have hr0 : 0 < rm := by have := mt (ic_le es (show (0 : Int32) = nI 0 from rfl) (by omega) (by omega)).mpr c_7; omega
          refine hb_iload_n G dX2_entryOf_20 hl rfl ?_
          refine hb_aload_n G dX2_entryOf_21 hl rfl ?_
          refine hb_get G h.1 rfl inX2 12 (by decide) kf_X2_30 rfl rfl dX2_entryOf_22 ?_
          refine hb_iload G dX2_entryOf_25 hl rfl ?_
          refine hb_iald G (show ia g (a 5) C (A 5) _ from h.2.1 5 (by decide)) (by rw [eb]; exact vp_in_nI (by omega) (by omega)) dX2_entryOf_27 ?_
          refine lv_topi (fun r_8 er_8 => ?_)
          have er_8 : r_8 = A 5 (j) := by rw [er_8, show (b).toNatClampNeg = j by rw [eb]; exact nI_clamp (by omega)]
          refine hb_iload_n G dX2_entryOf_28 hl rfl ?_
          refine lv_icmp_ne (tgt := 36) G.1 G.2.1 dX2_entryOf_29 (by decide) (fun c_9 => ?_) (fun c_9 => ?_)
          · exact absurd (by rw [er_8, ← er_1]; exact c_2) c_9
          · refine lv_iconst (v := 1) G.1 G.2.1 dX2_entryOf_32 (by decide) ?_
            refine lv_goto (tgt := 37) G.1 G.2.1 dX2_entryOf_33 (by decide) ?_
            refine lv_isub G.1 G.2.1 dX2_entryOf_37 ?_
            refine lv_topi (fun t_10 et_10 => ?_)
            refine hb_istore_n G dX2_entryOf_38 hl (by decide) (fun ls hl => ?_)
            have hl : lh ls 5 [some (.ref r), some (.int x), some (.int (nI n)), some (.int t_10), some (.int b)] := hl
            obtain ⟨t_11, et_11⟩ : ∃ z : Int32, z = b + 1 := ⟨_, rfl⟩
            refine hb_iinc (v := t_11) G dX2_entryOf_39 hl rfl (by rw [et_11]; rfl) (by decide) (fun ls hl => ?_)
            have hl : lh ls 5 [some (.ref r), some (.int x), some (.int (nI n)), some (.int t_10), some (.int t_11)] := hl
            refine lv_goto (tgt := 5) G.1 G.2.1 dX2_entryOf_42 (by decide) ?_
            exact ih (j + 1) t_10 t_11 (rm - 1) locs ls (by omega) (by omega) (by rw [et_10, es]; exact nI_m1 hr0) (by rw [et_11, eb]; exact nI_1 j) (by simp only [mCnt]; rw [if_pos (by rw [← er_8]; exact c_9)]; omega) hL hl
  refine hb_iload_n G dX2_entryOf_0 hl rfl ?_
  refine hb_istore_n G dX2_entryOf_1 hl (by decide) (fun ls hl => ?_)
  have hl : lh ls 5 [some (.ref r), some (.int x), some (.int (nI n)), some (.int (nI n)), none] := hl
  refine lv_iconst (v := 0) G.1 G.2.1 dX2_entryOf_2 (by decide) ?_
  refine hb_istore G dX2_entryOf_3 hl (by decide) (fun ls hl => ?_)
  have hl : lh ls 5 [some (.ref r), some (.int x), some (.int (nI n)), some (.int (nI n)), some (.int 0)] := hl
  exact lp (en + 1) 0 (nI n) 0 n [] ls (by omega) (by omega) rfl rfl (by simp only [mCnt]; omega) hL hl
set_option maxHeartbeats 4000000 in
set_option maxRecDepth 100000 in
/-- sum -/
theorem m_sum (g : Gx) (l : Launch) (r S B C : Nat) (a : Nat → Nat) (A : Nat → Nat → Int32) (cd wr lf dn : Int32) (en pl : Nat) (H : Heap) (h : mdAt g r S B C a A cd wr lf dn en pl H) (hB : mdB S B C en) (hA : sgOk S A) (i : Nat) (hi : i < 4) : HM g l yX2_sum cX2_sum 4 (some .int) 0 0 0 0 [.ref r, .int (nI i)] H (fun v H1 => v = some (.int (lgSm (A 2) (60 * i) (tn (A 0 i)))) ∧ H1 = H) (f0) := by
  refine HM.ofW (by decide) (Nat.le_of_ble_eq_true rfl) (by simp [Value.category]) ?_
  intro p e s m args below meth c ls G hr hml hlocks hnm hH hl
  have hl : lh ls 4 [some (.ref r), some (.int (nI i)), none, none] := hl
  have hL : ∀ q ∈ ([] : List Loc), (f0) q.base := fun q h => by cases h
  obtain ⟨hs0, hs1, hs2⟩ := hA i hi
  have lp : ∀ (k j : Nat) (s2 b : Int32)  (locs : List Loc) (ls : Array Slot), (tn (A 0 i) + 1 ≤ j + k) → (j ≤ tn (A 0 i)) → (s2 = lgSm (A 2) (60 * i) j) → (b = nI j) → (∀ q ∈ locs, (f0) q.base) → lh ls 4 [some (.ref r), some (.int (nI i)), some (.int s2), some (.int b)] → W p l e ({ frames := 0, cells := 0, slots := 0, locals := 0 } : Room) s m args below meth c H locs 0 0 (hQ below args s (fun v H1 => v = some (.int (lgSm (A 2) (60 * i) (tn (A 0 i)))) ∧ H1 = H) 0 0 (f0)) (F0 m 4 ls []) := by
    intro k
    induction k with
    | zero =>
      intro j s2 b  locs ls hd9 hj es eb hL hl
      exfalso; omega
    | succ k ih =>
      intro j s2 b  locs ls hd9 hj es eb hL hl
      refine hb_iload_n G dX2_sum_4 hl rfl ?_
      refine hb_aload_n G dX2_sum_5 hl rfl ?_
      refine hb_get G h.1 rfl inX2 6 (by decide) kf_X2_13 rfl rfl dX2_sum_6 ?_
      refine hb_iload_n G dX2_sum_9 hl rfl ?_
      refine hb_iald G (show ia g (a 0) 4 (A 0) _ from h.2.1 0 (by decide)) (by rw [show nI i = nI i from rfl]; exact vp_in_nI (by omega) (by decide)) dX2_sum_10 ?_
      refine lv_topi (fun r_1 er_1 => ?_)
      have er_1 : r_1 = A 0 (i) := by rw [er_1, show ((nI i)).toNatClampNeg = i by rw [show nI i = nI i from rfl]; exact nI_clamp (by omega)]
      have er_1 : r_1 = nI (tn (A 0 i)) := by rw [er_1]; exact hs0
      refine lv_icmp_ge (tgt := 34) G.1 G.2.1 dX2_sum_11 (by decide) (fun c_2 => ?_) (fun c_2 => ?_)
      · have hj2 : j = tn (A 0 i) := by have := (ic_le er_1 eb (by omega) (by omega)).mp c_2; omega
        subst hj2
        refine hb_iload_n G dX2_sum_34 hl rfl ?_
        exact hb_iret G hr hlocks ⟨by rw [es], rfl⟩ hL (Nat.le_refl _) (Nat.le_refl _) dX2_sum_35
      · have hj2 : j < tn (A 0 i) := by have := mt (ic_le er_1 eb (by omega) (by omega)).mpr c_2; omega
        refine hb_iload_n G dX2_sum_14 hl rfl ?_
        refine hb_aload_n G dX2_sum_15 hl rfl ?_
        refine hb_get G h.1 rfl inX2 8 (by decide) kf_X2_20 rfl rfl dX2_sum_16 ?_
        refine lv_bipush (v := 60) G.1 G.2.1 dX2_sum_19 (by decide) ?_
        refine hb_iload_n G dX2_sum_21 hl rfl ?_
        refine lv_imul G.1 G.2.1 dX2_sum_22 ?_
        refine lv_topi (fun t_3 et_3 => ?_)
        refine hb_iload_n G dX2_sum_23 hl rfl ?_
        refine lv_iadd G.1 G.2.1 dX2_sum_24 ?_
        refine lv_topi (fun t_4 et_4 => ?_)
        have hix : t_4 = nI (60 * i + j) := by rw [et_4, et_3, eb]; exact nI_60 _ _
        refine hb_iald G (show ia g (a 2) 240 (A 2) _ from h.2.1 2 (by decide)) (by rw [hix]; exact vp_in_nI (by omega) (by decide)) dX2_sum_25 ?_
        refine lv_topi (fun r_5 er_5 => ?_)
        have er_5 : r_5 = A 2 (60 * i + j) := by rw [er_5, show (t_4).toNatClampNeg = 60 * i + j by rw [hix]; exact nI_clamp (by omega)]
        refine lv_iadd G.1 G.2.1 dX2_sum_26 ?_
        refine lv_topi (fun t_6 et_6 => ?_)
        refine hb_istore_n G dX2_sum_27 hl (by decide) (fun ls hl => ?_)
        have hl : lh ls 4 [some (.ref r), some (.int (nI i)), some (.int t_6), some (.int b)] := hl
        obtain ⟨t_7, et_7⟩ : ∃ z : Int32, z = b + 1 := ⟨_, rfl⟩
        refine hb_iinc (v := t_7) G dX2_sum_28 hl rfl (by rw [et_7]; rfl) (by decide) (fun ls hl => ?_)
        have hl : lh ls 4 [some (.ref r), some (.int (nI i)), some (.int t_6), some (.int t_7)] := hl
        refine lv_goto (tgt := 4) G.1 G.2.1 dX2_sum_31 (by decide) ?_
        exact ih (j + 1) t_6 t_7 locs ls (by omega) (by omega) (by rw [et_6, es, er_5]; rfl) (by rw [et_7, eb]; exact nI_1 j) hL hl
  refine lv_iconst (v := 0) G.1 G.2.1 dX2_sum_0 (by decide) ?_
  refine hb_istore_n G dX2_sum_1 hl (by decide) (fun ls hl => ?_)
  have hl : lh ls 4 [some (.ref r), some (.int (nI i)), some (.int 0), none] := hl
  refine lv_iconst (v := 0) G.1 G.2.1 dX2_sum_2 (by decide) ?_
  refine hb_istore_n G dX2_sum_3 hl (by decide) (fun ls hl => ?_)
  have hl : lh ls 4 [some (.ref r), some (.int (nI i)), some (.int 0), some (.int 0)] := hl
  exact lp (tn (A 0 i) + 1) 0 0 0 [] ls (by omega) (by omega) rfl rfl hL hl
set_option maxHeartbeats 4000000 in
set_option maxRecDepth 100000 in
/-- closed -/
theorem m_closed (g : Gx) (l : Launch) (r S B C : Nat) (a : Nat → Nat) (A : Nat → Nat → Int32) (cd wr lf dn : Int32) (en pl : Nat) (H : Heap) (h : mdAt g r S B C a A cd wr lf dn en pl H) (hB : mdB S B C en) (hA : sgOk S A) (i : Nat) (hi : i < 4) : HM g l yX2_closed cX2_closed 2 (some .int) 1 24 0 0 [.ref r, .int (nI i)] H (fun v H1 => v = some (.int (mCl A i en)) ∧ H1 = H) (f0) := by
  refine HM.ofW (by decide) (Nat.le_of_ble_eq_true rfl) (by simp [Value.category]) ?_
  intro p e s m args below meth c ls G hr hml hlocks hnm hH hl
  have hl : lh ls 2 [some (.ref r), some (.int (nI i))] := hl
  have hL : ∀ q ∈ ([] : List Loc), (f0) q.base := fun q h => by cases h
  obtain ⟨hs0, hs1, hs2⟩ := hA i hi
  refine hb_aload_n G dX2_closed_0 hl rfl ?_
  refine hb_get G h.1 rfl inX2 6 (by decide) kf_X2_13 rfl rfl dX2_closed_1 ?_
  refine hb_iload_n G dX2_closed_4 hl rfl ?_
  refine hb_iald G (show ia g (a 0) 4 (A 0) _ from h.2.1 0 (by decide)) (by rw [show nI i = nI i from rfl]; exact vp_in_nI (by omega) (by decide)) dX2_closed_5 ?_
  refine lv_topi (fun r_1 er_1 => ?_)
  have er_1 : r_1 = A 0 (i) := by rw [er_1, show ((nI i)).toNatClampNeg = i by rw [show nI i = nI i from rfl]; exact nI_clamp (by omega)]
  refine lv_if_ne (tgt := 13) G.1 G.2.1 dX2_closed_6 (by decide) (fun c_2 => ?_) (fun c_2 => ?_)
  · have hne : ¬ A 0 i = 0 := by rw [← er_1]; exact c_2
    have hpos : 0 < tn (A 0 i) := Nat.pos_of_ne_zero (fun q => hne (by rw [hs0, q]; rfl))
    refine hb_aload_n G dX2_closed_13 hl rfl ?_
    refine hb_iload_n G dX2_closed_14 hl rfl ?_
    refine hb_callV (As := [.int (nI i)]) (rest := []) G hml (m_count g l r S B C a A cd wr lf dn en pl _ h hB (nI i)) (h.1) rfl km_X2_115 ki_X2_count ks_X2_count kn_X2 ko_X2_count hd_X2_count ⟨Nat.le_of_ble_eq_true rfl, Nat.le_of_ble_eq_true rfl⟩ hl.size rfl (Nat.le_of_ble_eq_true rfl) dX2_closed_15 ⟨Nat.le_of_ble_eq_true rfl, Nat.le_of_ble_eq_true rfl⟩ hL (f0_in) (fun v1 H locs1 hp hL => ?_)
    obtain ⟨rfl, rfl⟩ := hp
    refine lv_topi (fun r_3 er_3 => ?_)
    refine hb_aload_n G dX2_closed_18 hl rfl ?_
    refine hb_iload_n G dX2_closed_19 hl rfl ?_
    refine hb_aload_n G dX2_closed_20 hl rfl ?_
    refine hb_get G h.1 rfl inX2 6 (by decide) kf_X2_13 rfl rfl dX2_closed_21 ?_
    refine hb_iload_n G dX2_closed_24 hl rfl ?_
    refine hb_iald G (show ia g (a 0) 4 (A 0) _ from h.2.1 0 (by decide)) (by rw [show nI i = nI i from rfl]; exact vp_in_nI (by omega) (by decide)) dX2_closed_25 ?_
    refine lv_topi (fun r_4 er_4 => ?_)
    have er_4 : r_4 = A 0 (i) := by rw [er_4, show ((nI i)).toNatClampNeg = i by rw [show nI i = nI i from rfl]; exact nI_clamp (by omega)]
    refine lv_iconst (v := 1) G.1 G.2.1 dX2_closed_26 (by decide) ?_
    refine lv_isub G.1 G.2.1 dX2_closed_27 ?_
    refine lv_topi (fun t_5 et_5 => ?_)
    obtain rfl : t_5 = nI (tn (A 0 i) - 1) := by rw [et_5, er_4, hs0, tn_nI (by omega)]; exact nI_m1 hpos
    refine hb_callV (As := [.int (nI i), .int (nI (tn (A 0 i) - 1))]) (rest := [.int r_3]) G hml (m_inSegment g l r S B C a A cd wr lf dn en pl _ h hB i (tn (A 0 i) - 1) hi (by omega)) (h.1) rfl km_X2_108 ki_X2_inSegment ks_X2_inSegment kn_X2 ko_X2_inSegment hd_X2_inSegment ⟨Nat.le_of_ble_eq_true rfl, Nat.le_of_ble_eq_true rfl⟩ hl.size rfl (Nat.le_of_ble_eq_true rfl) dX2_closed_28 ⟨Nat.le_of_ble_eq_true rfl, Nat.le_of_ble_eq_true rfl⟩ hL (f0_in) (fun v1 H locs1 hp hL => ?_)
    obtain ⟨rfl, rfl⟩ := hp
    refine lv_topi (fun r_6 er_6 => ?_)
    refine lv_isub G.1 G.2.1 dX2_closed_31 ?_
    refine lv_topi (fun t_7 et_7 => ?_)
    exact hb_iret G hr hlocks ⟨by unfold mCl; rw [if_neg hne, et_7, er_3, er_6], rfl⟩ hL (Nat.le_refl _) (Nat.le_refl _) dX2_closed_32
  · refine lv_iconst (v := 0) G.1 G.2.1 dX2_closed_9 (by decide) ?_
    refine lv_goto (tgt := 32) G.1 G.2.1 dX2_closed_10 (by decide) ?_
    exact hb_iret G hr hlocks ⟨by unfold mCl; rw [if_pos (by rw [← er_1]; exact c_2)], rfl⟩ hL (Nat.le_refl _) (Nat.le_refl _) dX2_closed_32
abbrev mIsE (A : Nat → Nat → Int32) (dn : Int32) (en : Nat) (x n : Int32) : Prop := (0 ≤ x ∧ x < 4) ∧ (¬ dn = 0 ∨ (0 ≤ n ∧ n < nI (mCnt (A 5) x en)))
set_option maxHeartbeats 4000000 in
set_option maxRecDepth 100000 in
/-- isEntry -/
theorem m_isEntry (g : Gx) (l : Launch) (r S B C : Nat) (a : Nat → Nat) (A : Nat → Nat → Int32) (cd wr lf dn : Int32) (en pl : Nat) (H : Heap) (h : mdAt g r S B C a A cd wr lf dn en pl H) (hB : mdB S B C en) (x n : Int32) : HM g l yX2_isEntry cX2_isEntry 3 (some .boolean) 1 23 0 0 [.ref r, .int x, .int n] H (fun v H1 => v = some (.int (if mIsE A dn en x n then 1 else 0)) ∧ H1 = H) (f0) := by
  refine HM.ofW (by decide) (Nat.le_of_ble_eq_true rfl) (by simp [Value.category]) ?_
  intro p e s m args below meth c ls G hr hml hlocks hnm hH hl
  have hl : lh ls 3 [some (.ref r), some (.int x), some (.int n)] := hl
  have hL : ∀ q ∈ ([] : List Loc), (f0) q.base := fun q h => by cases h
  refine hb_iload_n G dX2_isEntry_0 hl rfl ?_
  refine hb_callS (As := [.int x]) (rest := []) G hml (m_isLog g l x _) km_X2_78 kt_X2_isLog kn_X2 ko_X2_isLog hd_X2_isLog ⟨Nat.le_of_ble_eq_true rfl, Nat.le_of_ble_eq_true rfl⟩ hl.size rfl (Nat.le_of_ble_eq_true rfl) dX2_isEntry_1 ⟨Nat.le_of_ble_eq_true rfl, Nat.le_of_ble_eq_true rfl⟩ hL (f0_in) (fun v1 H locs1 hp hL => ?_)
  obtain ⟨rfl, rfl⟩ := hp
  refine lv_topi (fun r_1 er_1 => ?_)
  refine lv_if_eq (tgt := 31) G.1 G.2.1 dX2_isEntry_4 (by decide) (fun c_2 => ?_) (fun c_2 => ?_)
  · refine lv_iconst (v := 0) G.1 G.2.1 dX2_isEntry_31 (by decide) ?_
    exact hb_zret G hr hlocks (by decide) ⟨by rw [if_neg (fun q => (it0 er_1).mp c_2 q.1)], rfl⟩ hL (Nat.le_refl _) (Nat.le_refl _) dX2_isEntry_32
  · have hlg : 0 ≤ x ∧ x < 4 := Decidable.not_not.mp (fun q => c_2 ((it0 er_1).mpr q))
    refine hb_aload_n G dX2_isEntry_7 hl rfl ?_
    refine hb_get G h.1 rfl inX2 5 (by decide) kf_X2_60 rfl rfl dX2_isEntry_8 ?_
    refine lv_if_ne (tgt := 27) G.1 G.2.1 dX2_isEntry_11 (by decide) (fun c_3 => ?_) (fun c_3 => ?_)
    · refine lv_iconst (v := 1) G.1 G.2.1 dX2_isEntry_27 (by decide) ?_
      refine lv_goto (tgt := 32) G.1 G.2.1 dX2_isEntry_28 (by decide) ?_
      exact hb_zret G hr hlocks (by decide) ⟨by rw [if_pos ⟨hlg, Or.inl c_3⟩], rfl⟩ hL (Nat.le_refl _) (Nat.le_refl _) dX2_isEntry_32
    · refine hb_iload_n G dX2_isEntry_14 hl rfl ?_
      refine lv_if_lt (tgt := 31) G.1 G.2.1 dX2_isEntry_15 (by decide) (fun c_4 => ?_) (fun c_4 => ?_)
      · refine lv_iconst (v := 0) G.1 G.2.1 dX2_isEntry_31 (by decide) ?_
        exact hb_zret G hr hlocks (by decide) ⟨by rw [if_neg (fun q => q.2.elim (fun q1 => q1 c_3) (fun q2 => i32_nlt.mpr q2.1 c_4))], rfl⟩ hL (Nat.le_refl _) (Nat.le_refl _) dX2_isEntry_32
      · refine hb_iload_n G dX2_isEntry_18 hl rfl ?_
        refine hb_aload_n G dX2_isEntry_19 hl rfl ?_
        refine hb_iload_n G dX2_isEntry_20 hl rfl ?_
        refine hb_callV (As := [.int x]) (rest := [.int n]) G hml (m_count g l r S B C a A cd wr lf dn en pl _ h hB x) (h.1) rfl km_X2_115 ki_X2_count ks_X2_count kn_X2 ko_X2_count hd_X2_count ⟨Nat.le_of_ble_eq_true rfl, Nat.le_of_ble_eq_true rfl⟩ hl.size rfl (Nat.le_of_ble_eq_true rfl) dX2_isEntry_21 ⟨Nat.le_of_ble_eq_true rfl, Nat.le_of_ble_eq_true rfl⟩ hL (f0_in) (fun v1 H locs1 hp hL => ?_)
        obtain ⟨rfl, rfl⟩ := hp
        refine lv_topi (fun r_5 er_5 => ?_)
        refine lv_icmp_ge (tgt := 31) G.1 G.2.1 dX2_isEntry_24 (by decide) (fun c_6 => ?_) (fun c_6 => ?_)
        · refine lv_iconst (v := 0) G.1 G.2.1 dX2_isEntry_31 (by decide) ?_
          exact hb_zret G hr hlocks (by decide) ⟨by rw [if_neg (fun q => q.2.elim (fun q1 => q1 c_3) (fun q2 => i32_nlt.mpr (by rw [← er_5]; exact c_6) q2.2))], rfl⟩ hL (Nat.le_refl _) (Nat.le_refl _) dX2_isEntry_32
        · refine lv_iconst (v := 1) G.1 G.2.1 dX2_isEntry_27 (by decide) ?_
          refine lv_goto (tgt := 32) G.1 G.2.1 dX2_isEntry_28 (by decide) ?_
          exact hb_zret G hr hlocks (by decide) ⟨by rw [if_pos ⟨hlg, Or.inr ⟨i32_nlt.mp c_4, by rw [← er_5]; exact i32_nle.mp c_6⟩⟩], rfl⟩ hL (Nat.le_refl _) (Nat.le_refl _) dX2_isEntry_32
def mCp (A : Nat → Nat → Int32) (f t : Nat) : Nat → Nat → Int32 := va_up (va_up (va_up (va_up (va_up A 5 (upd (A 5) t (A 5 f))) 6 (upd (A 6) t (A 6 f))) 7 (upd (A 7) t (A 7 f))) 8 (upd (A 8) t (A 8 f))) 9 (upd (A 9) t (A 9 f))
theorem mCp_ne {A : Nat → Nat → Int32} {f t k : Nat} (h : k < 5 ∨ 9 < k) : mCp A f t k = A k := by
  unfold mCp
  rw [va_up_ne _ _ (by omega), va_up_ne _ _ (by omega), va_up_ne _ _ (by omega), va_up_ne _ _ (by omega), va_up_ne _ _ (by omega)]
theorem mCp_in {A : Nat → Nat → Int32} {f t k : Nat} (h1 : 5 ≤ k) (h2 : k ≤ 9) : mCp A f t k = upd (A k) t (A k f) := by
  rcases (show k = 5 ∨ k = 6 ∨ k = 7 ∨ k = 8 ∨ k = 9 by omega) with rfl | rfl | rfl | rfl | rfl <;> rfl
set_option maxHeartbeats 4000000 in
set_option maxRecDepth 100000 in
/-- copy -/
theorem m_copy (g : Gx) (l : Launch) (r S B C : Nat) (a : Nat → Nat) (A : Nat → Nat → Int32) (cd wr lf dn : Int32) (en pl : Nat) (H : Heap) (h : mdAt g r S B C a A cd wr lf dn en pl H) (hC : C ≤ 512) (f t : Nat) (hf : f < C) (ht : t < C) : HM g l yX2_copy cX2_copy 3 none 0 0 0 0 [.ref r, .int (nI f), .int (nI t)] H (fun v H1 => v = none ∧ mdAt g r S B C a (mCp A f t) cd wr lf dn en pl H1 ∧ Mo r a H H1) (fM r a) := by
  refine HM.ofW (by decide) (Nat.le_of_ble_eq_true rfl) (by simp [Value.category]) ?_
  intro p e s m args below meth c ls G hr hml hlocks hnm hH hl
  have hl : lh ls 3 [some (.ref r), some (.int (nI f)), some (.int (nI t))] := hl
  have hL : ∀ q ∈ ([] : List Loc), (fM r a) q.base := fun q h => by cases h
  refine hb_aload_n G dX2_copy_0 hl rfl ?_
  refine hb_get G h.1 rfl inX2 12 (by decide) kf_X2_30 rfl rfl dX2_copy_1 ?_
  refine hb_iload_n G dX2_copy_4 hl rfl ?_
  refine hb_aload_n G dX2_copy_5 hl rfl ?_
  refine hb_get G h.1 rfl inX2 12 (by decide) kf_X2_30 rfl rfl dX2_copy_6 ?_
  refine hb_iload_n G dX2_copy_9 hl rfl ?_
  refine hb_iald G (show ia g (a 5) C (A 5) _ from h.2.1 5 (by decide)) (by rw [show nI f = nI f from rfl]; exact vp_in_nI (by omega) (by omega)) dX2_copy_10 ?_
  refine lv_topi (fun r_1 er_1 => ?_)
  have er_1 : r_1 = A 5 (f) := by rw [er_1, show ((nI f)).toNatClampNeg = f by rw [show nI f = nI f from rfl]; exact nI_clamp (by omega)]
  refine hb_iast G (show ia g (a 5) C (A 5) _ from h.2.1 5 (by decide)) (by rw [show nI t = nI t from rfl]; exact vp_in_nI (by omega) (by omega)) hL (fM_a (by decide)) dX2_copy_11 (fun K5 locs5 hg5 hz5 ho5 hL => ?_)
  rw [show ((nI t)).toNatClampNeg = t by rw [show nI t = nI t from rfl]; exact nI_clamp (by omega)] at hg5
  rw [er_1] at hg5
  have hk5 := h.up (k := 5) (by decide) hg5 ⟨hz5, ho5⟩
  have hm5 : Mo r a H K5 := (Mo.rf).tr (Mo.ar (k := 5) ⟨hz5, ho5⟩ (by decide))
  refine hb_aload_n G dX2_copy_12 hl rfl ?_
  refine hb_get G hk5.1 rfl inX2 13 (by decide) kf_X2_33 rfl rfl dX2_copy_13 ?_
  refine hb_iload_n G dX2_copy_16 hl rfl ?_
  refine hb_aload_n G dX2_copy_17 hl rfl ?_
  refine hb_get G hk5.1 rfl inX2 13 (by decide) kf_X2_33 rfl rfl dX2_copy_18 ?_
  refine hb_iload_n G dX2_copy_21 hl rfl ?_
  refine hb_iald G (show ia g (a 6) C (A 6) _ from hk5.2.1 6 (by decide)) (by rw [show nI f = nI f from rfl]; exact vp_in_nI (by omega) (by omega)) dX2_copy_22 ?_
  refine lv_topi (fun r_2 er_2 => ?_)
  have er_2 : r_2 = A 6 (f) := by rw [er_2, show ((nI f)).toNatClampNeg = f by rw [show nI f = nI f from rfl]; exact nI_clamp (by omega)]
  refine hb_iast G (show ia g (a 6) C (A 6) _ from hk5.2.1 6 (by decide)) (by rw [show nI t = nI t from rfl]; exact vp_in_nI (by omega) (by omega)) hL (fM_a (by decide)) dX2_copy_23 (fun K6 locs6 hg6 hz6 ho6 hL => ?_)
  rw [show ((nI t)).toNatClampNeg = t by rw [show nI t = nI t from rfl]; exact nI_clamp (by omega)] at hg6
  rw [er_2] at hg6
  have hk6 := hk5.up (k := 6) (by decide) hg6 ⟨hz6, ho6⟩
  have hm6 : Mo r a H K6 := (hm5).tr (Mo.ar (k := 6) ⟨hz6, ho6⟩ (by decide))
  refine hb_aload_n G dX2_copy_24 hl rfl ?_
  refine hb_get G hk6.1 rfl inX2 14 (by decide) kf_X2_36 rfl rfl dX2_copy_25 ?_
  refine hb_iload_n G dX2_copy_28 hl rfl ?_
  refine hb_aload_n G dX2_copy_29 hl rfl ?_
  refine hb_get G hk6.1 rfl inX2 14 (by decide) kf_X2_36 rfl rfl dX2_copy_30 ?_
  refine hb_iload_n G dX2_copy_33 hl rfl ?_
  refine hb_iald G (show ia g (a 7) C (A 7) _ from hk6.2.1 7 (by decide)) (by rw [show nI f = nI f from rfl]; exact vp_in_nI (by omega) (by omega)) dX2_copy_34 ?_
  refine lv_topi (fun r_3 er_3 => ?_)
  have er_3 : r_3 = A 7 (f) := by rw [er_3, show ((nI f)).toNatClampNeg = f by rw [show nI f = nI f from rfl]; exact nI_clamp (by omega)]
  refine hb_iast G (show ia g (a 7) C (A 7) _ from hk6.2.1 7 (by decide)) (by rw [show nI t = nI t from rfl]; exact vp_in_nI (by omega) (by omega)) hL (fM_a (by decide)) dX2_copy_35 (fun K7 locs7 hg7 hz7 ho7 hL => ?_)
  rw [show ((nI t)).toNatClampNeg = t by rw [show nI t = nI t from rfl]; exact nI_clamp (by omega)] at hg7
  rw [er_3] at hg7
  have hk7 := hk6.up (k := 7) (by decide) hg7 ⟨hz7, ho7⟩
  have hm7 : Mo r a H K7 := (hm6).tr (Mo.ar (k := 7) ⟨hz7, ho7⟩ (by decide))
  refine hb_aload_n G dX2_copy_36 hl rfl ?_
  refine hb_get G hk7.1 rfl inX2 15 (by decide) kf_X2_39 rfl rfl dX2_copy_37 ?_
  refine hb_iload_n G dX2_copy_40 hl rfl ?_
  refine hb_aload_n G dX2_copy_41 hl rfl ?_
  refine hb_get G hk7.1 rfl inX2 15 (by decide) kf_X2_39 rfl rfl dX2_copy_42 ?_
  refine hb_iload_n G dX2_copy_45 hl rfl ?_
  refine hb_iald G (show ia g (a 8) C (A 8) _ from hk7.2.1 8 (by decide)) (by rw [show nI f = nI f from rfl]; exact vp_in_nI (by omega) (by omega)) dX2_copy_46 ?_
  refine lv_topi (fun r_4 er_4 => ?_)
  have er_4 : r_4 = A 8 (f) := by rw [er_4, show ((nI f)).toNatClampNeg = f by rw [show nI f = nI f from rfl]; exact nI_clamp (by omega)]
  refine hb_iast G (show ia g (a 8) C (A 8) _ from hk7.2.1 8 (by decide)) (by rw [show nI t = nI t from rfl]; exact vp_in_nI (by omega) (by omega)) hL (fM_a (by decide)) dX2_copy_47 (fun K8 locs8 hg8 hz8 ho8 hL => ?_)
  rw [show ((nI t)).toNatClampNeg = t by rw [show nI t = nI t from rfl]; exact nI_clamp (by omega)] at hg8
  rw [er_4] at hg8
  have hk8 := hk7.up (k := 8) (by decide) hg8 ⟨hz8, ho8⟩
  have hm8 : Mo r a H K8 := (hm7).tr (Mo.ar (k := 8) ⟨hz8, ho8⟩ (by decide))
  refine hb_aload_n G dX2_copy_48 hl rfl ?_
  refine hb_get G hk8.1 rfl inX2 16 (by decide) kf_X2_42 rfl rfl dX2_copy_49 ?_
  refine hb_iload_n G dX2_copy_52 hl rfl ?_
  refine hb_aload_n G dX2_copy_53 hl rfl ?_
  refine hb_get G hk8.1 rfl inX2 16 (by decide) kf_X2_42 rfl rfl dX2_copy_54 ?_
  refine hb_iload_n G dX2_copy_57 hl rfl ?_
  refine hb_iald G (show ia g (a 9) C (A 9) _ from hk8.2.1 9 (by decide)) (by rw [show nI f = nI f from rfl]; exact vp_in_nI (by omega) (by omega)) dX2_copy_58 ?_
  refine lv_topi (fun r_5 er_5 => ?_)
  have er_5 : r_5 = A 9 (f) := by rw [er_5, show ((nI f)).toNatClampNeg = f by rw [show nI f = nI f from rfl]; exact nI_clamp (by omega)]
  refine hb_iast G (show ia g (a 9) C (A 9) _ from hk8.2.1 9 (by decide)) (by rw [show nI t = nI t from rfl]; exact vp_in_nI (by omega) (by omega)) hL (fM_a (by decide)) dX2_copy_59 (fun K9 locs9 hg9 hz9 ho9 hL => ?_)
  rw [show ((nI t)).toNatClampNeg = t by rw [show nI t = nI t from rfl]; exact nI_clamp (by omega)] at hg9
  rw [er_5] at hg9
  have hk9 := hk8.up (k := 9) (by decide) hg9 ⟨hz9, ho9⟩
  have hm9 : Mo r a H K9 := (hm8).tr (Mo.ar (k := 9) ⟨hz9, ho9⟩ (by decide))
  exact hb_vret G hr hlocks ⟨rfl, hk9, hm9⟩ hL (Nat.le_refl _) (Nat.le_refl _) dX2_copy_60
