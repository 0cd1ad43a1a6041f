def Fo (a : Nat) (H H1 : Heap) : Prop := H1.size = H.size ∧ ∀ q : Nat, q ≠ a → H1[q]? = H[q]?
theorem Fo.rf {a : Nat} {H : Heap} : Fo a H H := ⟨rfl, fun _ _ => rfl⟩
theorem Fo.tr {a : Nat} {H H1 H2 : Heap} (h : Fo a H H1) (h2 : Fo a H1 H2) : Fo a H H2 := ⟨h2.1.trans h.1, fun q hq => (h2.2 q hq).trans (h.2 q hq)⟩
theorem Fo.fr {a x k : Nat} {H H1 : Heap} (h : Fo a H H1) (h1 : x ≤ a) (h2 : a < x + k) : Fr x k H H1 := Fr.one h.1 h.2 h1 h2
def mkSeg (B : Nat) (bu : Nat → Int32) (st : Int32) : Nat → (Nat → Int32)
  | 0 => bu
  | i + 1 => setV (mkSeg B bu st i) B (st + nI i) 1
def mkLog (B S : Nat) (v : LV) (bu : Nat → Int32) : Nat → (Nat → Int32)
  | 0 => bu
  | j + 1 => mkSeg B (mkLog B S v bu j) (v.1 0 j) S
def mkHd (B : Nat) : Nat → (Nat → Int32)
  | 0 => fun _ => 0
  | i + 1 => setV (mkHd B i) B (nI i) 1
def mkD (B S : Nat) (V : Nat → LV) : Nat → (Nat → Int32)
  | 0 => mkHd B 4
  | i + 1 => mkLog B S (V i) (mkD B S V i) (V i).2.1
def frun (bu : Nat → Int32) : Nat → Nat
  | 0 => 0
  | j + 1 => if bu j = 0 then frun bu j + 1 else 0
theorem frun_le (bu : Nat → Int32) : ∀ j, frun bu j ≤ j
  | 0 => Nat.le_refl 0
  | j + 1 => by
    have := frun_le bu j
    simp only [frun]
    split <;> omega
def ffr (bu : Nat → Int32) (S : Nat) : Nat → Nat → Int32
  | 0, _ => -1
  | d + 1, j => if frun bu (j + 1) = S then nI j - nI S + 1 else ffr bu S d (j + 1)
def swp {α : Type} (f : Nat → α) (j : Nat) : Nat → α := fun i => if i = j then f 4 else if i = 4 then f j else f i
def whD (tc n : Int32) : Int32 := if tc < n then tc else n
def whT (tc n : Int32) : Int32 := if tc = -1 then tc else tc - whD tc n
def whN (tc dn n : Int32) : Int32 := if tc = -1 then dn else if tc - whD tc n = 0 then 1 else 0
def whW (tc wr n : Int32) : Int32 := if tc = -1 then wr + n else wr + whD tc n
def whR (tc n : Int32) : Int32 := if tc = -1 then 1 else if whD tc n = n then 1 else 0
set_option maxHeartbeats 4000000 in
set_option maxRecDepth 100000 in
/-- segmentBytes -/
theorem c_segmentBytes (g : Gx) (l : Launch) (d S p4 : Nat) (tc dn wr : Int32) (H : Heap) (hd : ob g d 1 (dkFs d S p4 tc dn wr) H) : HM g l yX1_segmentBytes cX1_segmentBytes 1 (some .int) 0 0 0 0 [.ref d] H (fun r H1 => r = some (.int (nI S * 1024)) ∧ H1 = H) (f0) := by
  refine HM.ofW (by decide) (Nat.le_of_ble_eq_true rfl) (by simp [Value.category]) ?_
  intro p e s m args below meth c ls G hr hml hlocks hnm hH hl
  have hl : lh ls 1 [some (.ref d)] := hl
  have hL : ∀ q ∈ ([] : List Loc), (f0) q.base := fun q h => by cases h
  refine hb_aload_n G dX1_segmentBytes_0 hl rfl ?_
  refine hb_get G hd rfl inX1 0 (by decide) kf_X1_40 rfl rfl dX1_segmentBytes_1 ?_
  refine lv_sipush (v := 1024) G.1 G.2.1 dX1_segmentBytes_4 (by decide) ?_
  refine lv_imul G.1 G.2.1 dX1_segmentBytes_7 ?_
  refine lv_topi (fun t_1 et_1 => ?_)
  exact hb_iret G hr hlocks ⟨by simp only [*], rfl⟩ hL (Nat.le_refl _) (Nat.le_refl _) dX1_segmentBytes_8
set_option maxHeartbeats 4000000 in
set_option maxRecDepth 100000 in
/-- goes: i modulo k is 0 -/
theorem c_goes (g : Gx) (l : Launch) (i k : Int32) (H : Heap) (hk : 0 < k) : HM g l yX1_goes cX1_goes 2 (some .boolean) 0 0 0 0 [.int i, .int k] H (fun r H1 => r = some (.int (if i - i / k * k = 0 then 1 else 0)) ∧ H1 = H) (f0) := by
  refine HM.ofW (by decide) (Nat.le_of_ble_eq_true rfl) (by simp [Value.category]) ?_
  intro p e s m args below meth c ls G hr hml hlocks hnm hH hl
  have hl : lh ls 2 [some (.int i), some (.int k)] := hl
  have hL : ∀ q ∈ ([] : List Loc), (f0) q.base := fun q h => by cases h
  refine hb_iload_n G dX1_goes_0 hl rfl ?_
  refine lv_if_le (tgt := 14) G.1 G.2.1 dX1_goes_1 (by decide) (fun c_1 => ?_) (fun c_1 => ?_)
  · exact absurd hk (i32_nlt.mpr c_1)
  · refine hb_iload_n G dX1_goes_4 hl rfl ?_
    refine hb_iload_n G dX1_goes_5 hl rfl ?_
    refine lv_irem G.1 G.2.1 dX1_goes_6 (fun q => absurd hk (by rw [q]; decide)) ?_
    refine lv_topi (fun t_2 et_2 => ?_)
    refine lv_if_ne (tgt := 14) G.1 G.2.1 dX1_goes_7 (by decide) (fun c_3 => ?_) (fun c_3 => ?_)
    · refine lv_iconst (v := 0) G.1 G.2.1 dX1_goes_14 (by decide) ?_
      exact hb_zret G hr hlocks (by decide) ⟨by rw [if_neg (by rw [← et_2]; exact c_3)], rfl⟩ hL (Nat.le_refl _) (Nat.le_refl _) dX1_goes_15
    · refine lv_iconst (v := 1) G.1 G.2.1 dX1_goes_10 (by decide) ?_
      refine lv_goto (tgt := 15) G.1 G.2.1 dX1_goes_11 (by decide) ?_
      exact hb_zret G hr hlocks (by decide) ⟨by rw [if_pos (by rw [← et_2]; exact c_3)], rfl⟩ hL (Nat.le_refl _) (Nat.le_refl _) dX1_goes_15
set_option maxHeartbeats 4000000 in
set_option maxRecDepth 100000 in
/-- writeThroughHead -/
theorem c_writeThroughHead (g : Gx) (l : Launch) (d S p4 : Nat) (tc dn wr : Int32) (H : Heap) (hd : ob g d 1 (dkFs d S p4 tc dn wr) H) (n : Int32) : HM g l yX1_writeThroughHead cX1_writeThroughHead 3 (some .boolean) 1 30 0 0 [.ref d, .int n] H (fun r H1 => r = some (.int (whR tc n)) ∧ ob g d 1 (dkFs d S p4 (whT tc n) (whN tc dn n) (whW tc wr n)) H1 ∧ Fo d H H1) (f1 d) := by
  refine HM.ofW (by decide) (Nat.le_of_ble_eq_true rfl) (by simp [Value.category]) ?_
  intro p e s m args below meth c ls G hr hml hlocks hnm hH hl
  have hl : lh ls 3 [some (.ref d), some (.int n), none] := hl
  have hL : ∀ q ∈ ([] : List Loc), (f1 d) q.base := fun q h => by cases h
  refine hb_aload_n G dX1_writeThroughHead_0 hl rfl ?_
  refine hb_get G hd rfl inX1 4 (by decide) kf_X1_20 rfl rfl dX1_writeThroughHead_1 ?_
  refine lv_iconst (v := (-1)) G.1 G.2.1 dX1_writeThroughHead_4 (by decide) ?_
  refine lv_icmp_ne (tgt := 20) G.1 G.2.1 dX1_writeThroughHead_5 (by decide) (fun c_1 => ?_) (fun c_1 => ?_)
  · refine hb_iload_n G dX1_writeThroughHead_20 hl rfl ?_
    refine hb_aload_n G dX1_writeThroughHead_21 hl rfl ?_
    refine hb_get G hd rfl inX1 4 (by decide) kf_X1_20 rfl rfl dX1_writeThroughHead_22 ?_
    refine va_mmin G.1 G.2.1 (hml.trans hl.size.symm) G.2.2.1 (G.2.2.2.1 _ km_X1_31) (G.2.2.2.1 _ kt_Ma_min) (G.2.2.2.1 _ kn_Ma) (G.2.2.2.1 _ ko_Ma_min) (Nat.le_of_ble_eq_true rfl) (Nat.le_of_ble_eq_true rfl) (Nat.le_of_ble_eq_true rfl) (Nat.le_of_ble_eq_true rfl) dX1_writeThroughHead_25 ?_
    refine lv_topi (fun r_2 er_2 => ?_)
    have er_2 : r_2 = whD tc n := er_2
    refine hb_istore_n G dX1_writeThroughHead_28 hl (by decide) (fun ls hl => ?_)
    have hl : lh ls 3 [some (.ref d), some (.int n), some (.int r_2)] := hl
    refine hb_aload_n G dX1_writeThroughHead_29 hl rfl ?_
    refine lv_dup G.1 G.2.1 dX1_writeThroughHead_30 rfl ?_
    refine hb_get G hd rfl inX1 6 (by decide) kf_X1_28 rfl rfl dX1_writeThroughHead_31 ?_
    refine hb_iload_n G dX1_writeThroughHead_34 hl rfl ?_
    refine lv_iadd G.1 G.2.1 dX1_writeThroughHead_35 ?_
    refine lv_topi (fun t_3 et_3 => ?_)
    refine hb_put G hd rfl inX1 tyX1 tyX1_ok nmX1 6 (by decide) kf_X1_28 rfl rfl rfl rfl (Nat.le_of_ble_eq_true rfl) hL (rfl) dX1_writeThroughHead_36 (fun H1 locs1 hf1 hz1 ho1 hL => ?_)
    have hf1 : ob g d 1 (dkFs d S p4 tc dn t_3) H1 := hf1
    refine hb_aload_n G dX1_writeThroughHead_39 hl rfl ?_
    refine lv_dup G.1 G.2.1 dX1_writeThroughHead_40 rfl ?_
    refine hb_get G hf1 rfl inX1 4 (by decide) kf_X1_20 rfl rfl dX1_writeThroughHead_41 ?_
    refine hb_iload_n G dX1_writeThroughHead_44 hl rfl ?_
    refine lv_isub G.1 G.2.1 dX1_writeThroughHead_45 ?_
    refine lv_topi (fun t_4 et_4 => ?_)
    refine hb_put G hf1 rfl inX1 tyX1 tyX1_ok nmX1 4 (by decide) kf_X1_20 rfl rfl rfl rfl (Nat.le_of_ble_eq_true rfl) hL (rfl) dX1_writeThroughHead_46 (fun H2 locs2 hf2 hz2 ho2 hL => ?_)
    have hf2 : ob g d 1 (dkFs d S p4 t_4 dn t_3) H2 := hf2
    refine hb_aload_n G dX1_writeThroughHead_49 hl rfl ?_
    refine hb_aload_n G dX1_writeThroughHead_50 hl rfl ?_
    refine hb_get G hf2 rfl inX1 4 (by decide) kf_X1_20 rfl rfl dX1_writeThroughHead_51 ?_
    refine lv_if_ne (tgt := 61) G.1 G.2.1 dX1_writeThroughHead_54 (by decide) (fun c_5 => ?_) (fun c_5 => ?_)
    · refine lv_iconst (v := 0) G.1 G.2.1 dX1_writeThroughHead_61 (by decide) ?_
      refine hb_put G hf2 rfl inX1 tyX1 tyX1_ok nmX1 5 (by decide) kf_X1_24 rfl rfl rfl rfl (Nat.le_of_ble_eq_true rfl) hL (rfl) dX1_writeThroughHead_62 (fun H3 locs3 hf3 hz3 ho3 hL => ?_)
      have hf3 : ob g d 1 (dkFs d S p4 (whT tc n) (whN tc dn n) (whW tc wr n)) H3 := by
        unfold whT whN whW; rw [if_neg c_1, if_neg c_1, if_neg c_1, if_neg (by rw [← er_2, ← et_4]; exact c_5), ← er_2, ← et_4, ← et_3]; exact hf3
      have hF : Fo d H H3 := Fo.tr ⟨hz1, ho1⟩ (Fo.tr ⟨hz2, ho2⟩ ⟨hz3, ho3⟩)
      refine hb_iload_n G dX1_writeThroughHead_65 hl rfl ?_
      refine hb_iload_n G dX1_writeThroughHead_66 hl rfl ?_
      refine lv_icmp_ne (tgt := 74) G.1 G.2.1 dX1_writeThroughHead_67 (by decide) (fun c_6 => ?_) (fun c_6 => ?_)
      · refine lv_iconst (v := 0) G.1 G.2.1 dX1_writeThroughHead_74 (by decide) ?_
        exact hb_zret G hr hlocks (by decide) ⟨by unfold whR; rw [if_neg c_1, if_neg (by rw [← er_2]; exact c_6)], hf3, hF⟩ hL (Nat.le_refl _) (Nat.le_refl _) dX1_writeThroughHead_75
      · refine lv_iconst (v := 1) G.1 G.2.1 dX1_writeThroughHead_70 (by decide) ?_
        refine lv_goto (tgt := 75) G.1 G.2.1 dX1_writeThroughHead_71 (by decide) ?_
        exact hb_zret G hr hlocks (by decide) ⟨by unfold whR; rw [if_neg c_1, if_pos (by rw [← er_2]; exact c_6)], hf3, hF⟩ hL (Nat.le_refl _) (Nat.le_refl _) dX1_writeThroughHead_75
    · refine lv_iconst (v := 1) G.1 G.2.1 dX1_writeThroughHead_57 (by decide) ?_
      refine lv_goto (tgt := 62) G.1 G.2.1 dX1_writeThroughHead_58 (by decide) ?_
      refine hb_put G hf2 rfl inX1 tyX1 tyX1_ok nmX1 5 (by decide) kf_X1_24 rfl rfl rfl rfl (Nat.le_of_ble_eq_true rfl) hL (rfl) dX1_writeThroughHead_62 (fun H3 locs3 hf3 hz3 ho3 hL => ?_)
      have hf3 : ob g d 1 (dkFs d S p4 (whT tc n) (whN tc dn n) (whW tc wr n)) H3 := by
        unfold whT whN whW; rw [if_neg c_1, if_neg c_1, if_neg c_1, if_pos (by rw [← er_2, ← et_4]; exact c_5), ← er_2, ← et_4, ← et_3]; exact hf3
      have hF : Fo d H H3 := Fo.tr ⟨hz1, ho1⟩ (Fo.tr ⟨hz2, ho2⟩ ⟨hz3, ho3⟩)
      refine hb_iload_n G dX1_writeThroughHead_65 hl rfl ?_
      refine hb_iload_n G dX1_writeThroughHead_66 hl rfl ?_
      refine lv_icmp_ne (tgt := 74) G.1 G.2.1 dX1_writeThroughHead_67 (by decide) (fun c_7 => ?_) (fun c_7 => ?_)
      · refine lv_iconst (v := 0) G.1 G.2.1 dX1_writeThroughHead_74 (by decide) ?_
        exact hb_zret G hr hlocks (by decide) ⟨by unfold whR; rw [if_neg c_1, if_neg (by rw [← er_2]; exact c_7)], hf3, hF⟩ hL (Nat.le_refl _) (Nat.le_refl _) dX1_writeThroughHead_75
      · refine lv_iconst (v := 1) G.1 G.2.1 dX1_writeThroughHead_70 (by decide) ?_
        refine lv_goto (tgt := 75) G.1 G.2.1 dX1_writeThroughHead_71 (by decide) ?_
        exact hb_zret G hr hlocks (by decide) ⟨by unfold whR; rw [if_neg c_1, if_pos (by rw [← er_2]; exact c_7)], hf3, hF⟩ hL (Nat.le_refl _) (Nat.le_refl _) dX1_writeThroughHead_75
  · have h1 : tc = -1 := c_1
    refine hb_aload_n G dX1_writeThroughHead_8 hl rfl ?_
    refine lv_dup G.1 G.2.1 dX1_writeThroughHead_9 rfl ?_
    refine hb_get G hd rfl inX1 6 (by decide) kf_X1_28 rfl rfl dX1_writeThroughHead_10 ?_
    refine hb_iload_n G dX1_writeThroughHead_13 hl rfl ?_
    refine lv_iadd G.1 G.2.1 dX1_writeThroughHead_14 ?_
    refine lv_topi (fun t_8 et_8 => ?_)
    refine hb_put G hd rfl inX1 tyX1 tyX1_ok nmX1 6 (by decide) kf_X1_28 rfl rfl rfl rfl (Nat.le_of_ble_eq_true rfl) hL (rfl) dX1_writeThroughHead_15 (fun H1 locs1 hf hz ho hL => ?_)
    refine lv_iconst (v := 1) G.1 G.2.1 dX1_writeThroughHead_18 (by decide) ?_
    refine hb_zret G hr hlocks (by decide) ⟨by unfold whR; rw [if_pos h1], ?_, hz, ho⟩ hL (Nat.le_refl _) (Nat.le_refl _) dX1_writeThroughHead_19
    unfold whT whN whW; rw [if_pos h1, if_pos h1, if_pos h1, ← et_8]; exact hf
set_option maxHeartbeats 4000000 in
set_option maxRecDepth 100000 in
/-- Arrays.fill -/
theorem c_fill (g : Gx) (l : Launch) (a k : Nat) (f : Nat → Int32) (z : Int32) (H : Heap) (hk : k ≤ 512) (ha : ia g a k f H) : HM g l yJ_fill cJ_fill 4 none 0 0 0 0 [.ref a, .int z] H (fun r H1 => r = none ∧ ia g a k (fun _ => z) H1 ∧ Fo a H H1) (f1 a) := by
  refine HM.ofW (by decide) (Nat.le_of_ble_eq_true rfl) (by simp [Value.category]) ?_
  intro p e s m args below meth c ls G hr hml hlocks hnm hH hl
  have hl : lh ls 4 [some (.ref a), some (.int z), none, none] := hl
  have hL : ∀ q ∈ ([] : List Loc), (f1 a) q.base := fun q h => by cases h
  refine lv_iconst (v := 0) G.1 G.2.1 dJ_fill_0 (by decide) ?_
  refine hb_istore_n G dJ_fill_1 hl (by decide) (fun ls hl => ?_)
  have hl : lh ls 4 [some (.ref a), some (.int z), some (.int 0), none] := hl
  refine hb_aload_n G dJ_fill_2 hl rfl ?_
  refine hb_alen_i G ha dJ_fill_3 ?_
  refine hb_istore_n G dJ_fill_4 hl (by decide) (fun ls hl => ?_)
  have hl : lh ls 4 [some (.ref a), some (.int z), some (.int 0), some (.int (nI k))] := hl
  have lp : ∀ (d j : Nat) (b : Int32) (fk : Nat → Int32) (K : Heap) (locs : List Loc) (ls : Array Slot), (k + 1 ≤ j + d) → (j ≤ k) → (b = nI j) → (ia g a k fk K) → (∀ i, i < j → fk i = z) → (Fo a H K) → (∀ q ∈ locs, (f1 a) q.base) → lh ls 4 [some (.ref a), some (.int z), some (.int b), some (.int (nI k))] → W p l e ({ frames := 0, cells := 0, slots := 0, locals := 0 } : Room) s m args below meth c K locs 0 0 (hQ below args s (fun r H1 => r = none ∧ ia g a k (fun _ => z) H1 ∧ Fo a H H1) 0 0 (f1 a)) (F0 m 5 ls []) := by
    intro d
    induction d with
    | zero =>
      intro j b fk K locs ls hd hj eb hK hf hF hL hl
      exfalso; omega
    | succ d ih =>
      intro j b fk K locs ls hd hj eb hK hf hF hL hl
      refine hb_iload_n G dJ_fill_5 hl rfl ?_
      refine hb_iload_n G dJ_fill_6 hl rfl ?_
      refine lv_icmp_ge (tgt := 20) G.1 G.2.1 dJ_fill_7 (by decide) (fun c_1 => ?_) (fun c_1 => ?_)
      · have hj2 : j = k := by have := (ic_le rfl eb (by omega) (by omega)).mp c_1; omega
        subst hj2
        exact hb_vret G hr hlocks ⟨rfl, hK.ext hf, hF⟩ hL (Nat.le_refl _) (Nat.le_refl _) dJ_fill_20
      · have hj2 : j < k := by have := mt (ic_le rfl eb (by omega) (by omega)).mpr c_1; omega
        refine hb_aload_n G dJ_fill_10 hl rfl ?_
        refine hb_iload_n G dJ_fill_11 hl rfl ?_
        refine hb_iload_n G dJ_fill_12 hl rfl ?_
        refine hb_iast G hK (by rw [eb]; exact vp_in_nI hj2 (by omega)) hL rfl dJ_fill_13 (fun K1 locs1 hK1 hz1 ho1 hL => ?_)
        rw [show b.toNatClampNeg = j by rw [eb]; exact nI_clamp (by omega)] at hK1
        obtain ⟨t_2, et_2⟩ : ∃ z : Int32, z = b + 1 := ⟨_, rfl⟩
        refine hb_iinc (v := t_2) G dJ_fill_14 hl rfl (by rw [et_2]; rfl) (by decide) (fun ls hl => ?_)
        have hl : lh ls 4 [some (.ref a), some (.int z), some (.int t_2), some (.int (nI k))] := hl
        refine lv_goto (tgt := 5) G.1 G.2.1 dJ_fill_17 (by decide) ?_
        exact ih (j + 1) t_2 _ K1 locs1 ls (by omega) (by omega) (by rw [et_2, eb]; exact nI_1 j) hK1 (fun i hi => by
            by_cases hij : i = j
            · subst hij; exact pk_us
            · rw [pk_un hij]; exact hf i (by omega)) (hF.tr ⟨hz1, ho1⟩) hL hl
  exact lp (k + 1) 0 0 f H [] ls (by omega) (by omega) rfl ha (fun i hi => absurd hi (by omega)) Fo.rf hL hl
set_option maxHeartbeats 4000000 in
set_option maxRecDepth 100000 in
/-- markSegment -/
theorem c_markSegment (g : Gx) (l : Launch) (d S p4 : Nat) (tc dn wr : Int32) (H : Heap) (hd : ob g d 1 (dkFs d S p4 tc dn wr) H) (B : Nat) (bu : Nat → Int32) (hB : B ≤ 256) (hS : S ≤ 16) (hb : ia g (d + 9) B bu H) (st : Int32) : HM g l yX1_markSegment cX1_markSegment 3 none 1 22 0 0 [.ref d, .int st] H (fun r H1 => r = none ∧ ia g (d + 9) B (mkSeg B bu st S) H1 ∧ Fo (d + 9) H H1) (f1 (d + 9)) := by
  refine HM.ofW (by decide) (Nat.le_of_ble_eq_true rfl) (by simp [Value.category]) ?_
  intro p e s m args below meth c ls G hr hml hlocks hnm hH hl
  have hl : lh ls 3 [some (.ref d), some (.int st), none] := hl
  have hL : ∀ q ∈ ([] : List Loc), (f1 (d + 9)) q.base := fun q h => by cases h
  have lp : ∀ (k j : Nat) (b : Int32) (K : Heap) (locs : List Loc) (ls : Array Slot), (S + 1 ≤ j + k) → (j ≤ S) → (b = nI j) → (ia g (d + 9) B (mkSeg B bu st j) K) → (Fo (d + 9) H K) → (∀ q ∈ locs, (f1 (d + 9)) q.base) → lh ls 3 [some (.ref d), some (.int st), some (.int b)] → W p l e ({ frames := 1, cells := 0, slots := 0, locals := 22 } : Room) s m args below meth c K locs 0 0 (hQ below args s (fun r H1 => r = none ∧ ia g (d + 9) B (mkSeg B bu st S) H1 ∧ Fo (d + 9) H H1) 0 0 (f1 (d + 9))) (F0 m 2 ls []) := by
    intro k
    induction k with
    | zero =>
      intro j b K locs ls hd9 hj eb hK hF hL hl
      exfalso; omega
    | succ k ih =>
      intro j b K locs ls hd9 hj eb hK hF hL hl
      have hdK := hd.kept (hF.2 d (by omega))
      refine hb_iload_n G dX1_markSegment_2 hl rfl ?_
      refine hb_aload_n G dX1_markSegment_3 hl rfl ?_
      refine hb_get G hdK rfl inX1 0 (by decide) kf_X1_40 rfl rfl dX1_markSegment_4 ?_
      refine lv_icmp_ge (tgt := 27) G.1 G.2.1 dX1_markSegment_7 (by decide) (fun c_1 => ?_) (fun c_1 => ?_)
      · have hj2 : j = S := by have := (ic_le rfl eb (by omega) (by omega)).mp c_1; omega
        subst hj2
        exact hb_vret G hr hlocks ⟨rfl, hK, hF⟩ hL (Nat.le_refl _) (Nat.le_refl _) dX1_markSegment_27
      · have hj2 : j < S := by have := mt (ic_le rfl eb (by omega) (by omega)).mpr c_1; omega
        refine hb_aload_n G dX1_markSegment_10 hl rfl ?_
        refine hb_get G hdK rfl inX1 2 (by decide) kf_X1_43 rfl rfl dX1_markSegment_11 ?_
        refine hb_iload_n G dX1_markSegment_14 hl rfl ?_
        refine hb_iload_n G dX1_markSegment_15 hl rfl ?_
        refine lv_iadd G.1 G.2.1 dX1_markSegment_16 ?_
        refine lv_topi (fun t_2 et_2 => ?_)
        refine lv_iconst (v := 1) G.1 G.2.1 dX1_markSegment_17 (by decide) ?_
        refine hb_callS (As := [.ref (d + 9), .int t_2, .int 1]) (rest := []) G hml (c_set g l (d + 9) B _ t_2 1 _ (by omega) hK) km_X1_190 kt_X1_set kn_X1 ko_X1_set hd_X1_set ⟨Nat.le_of_ble_eq_true rfl, Nat.le_of_ble_eq_true rfl⟩ hl.size rfl (Nat.le_of_ble_eq_true rfl) dX1_markSegment_18 ⟨Nat.le_of_ble_eq_true rfl, Nat.le_of_ble_eq_true rfl⟩ hL (f1_in rfl) (fun v1 K1 locs1 hp hL => ?_)
        obtain ⟨rfl, hK1, hz1, ho1⟩ := hp
        rw [et_2, eb] at hK1
        obtain ⟨t_3, et_3⟩ : ∃ z : Int32, z = b + 1 := ⟨_, rfl⟩
        refine hb_iinc (v := t_3) G dX1_markSegment_21 hl rfl (by rw [et_3]; rfl) (by decide) (fun ls hl => ?_)
        have hl : lh ls 3 [some (.ref d), some (.int st), some (.int t_3)] := hl
        refine lv_goto (tgt := 2) G.1 G.2.1 dX1_markSegment_24 (by decide) ?_
        exact ih (j + 1) t_3 K1 locs1 ls (by omega) (by omega) (by rw [et_3, eb]; exact nI_1 j) hK1 (hF.tr ⟨hz1, ho1⟩) hL hl
  refine lv_iconst (v := 0) G.1 G.2.1 dX1_markSegment_0 (by decide) ?_
  refine hb_istore_n G dX1_markSegment_1 hl (by decide) (fun ls hl => ?_)
  have hl : lh ls 3 [some (.ref d), some (.int st), some (.int 0)] := hl
  exact lp (S + 1) 0 0 H [] ls (by omega) (by omega) rfl hb Fo.rf hL hl
set_option maxHeartbeats 4000000 in
set_option maxRecDepth 100000 in
/-- markSegmentsOf -/
theorem c_markSegmentsOf (g : Gx) (l : Launch) (d S p4 : Nat) (tc dn wr : Int32) (H : Heap) (hd : ob g d 1 (dkFs d S p4 tc dn wr) H) (B : Nat) (bu : Nat → Int32) (hB : B ≤ 256) (hS : S ≤ 16) (hb : ia g (d + 9) B bu H) (x : Nat) (v : LV) (hv : lgOk v) (hg : lgAt g x v H) (hx : x + 7 ≤ d + 9 ∨ d + 10 ≤ x) : HM g l yX1_markSegmentsOf cX1_markSegmentsOf 3 none 2 44 0 0 [.ref d, .ref x] H (fun r H1 => r = none ∧ ia g (d + 9) B (mkLog B S v bu v.2.1) H1 ∧ Fo (d + 9) H H1) (f1 (d + 9)) := by
  refine HM.ofW (by decide) (Nat.le_of_ble_eq_true rfl) (by simp [Value.category]) ?_
  intro p e s m args below meth c ls G hr hml hlocks hnm hH hl
  have hl : lh ls 3 [some (.ref d), some (.ref x), none] := hl
  have hL : ∀ q ∈ ([] : List Loc), (f1 (d + 9)) q.base := fun q h => by cases h
  have hv1 := hv.1
  have lp : ∀ (k j : Nat) (b : Int32) (K : Heap) (locs : List Loc) (ls : Array Slot), (v.2.1 + 1 ≤ j + k) → (j ≤ v.2.1) → (b = nI j) → (ia g (d + 9) B (mkLog B S v bu j) K) → (Fo (d + 9) H K) → (∀ q ∈ locs, (f1 (d + 9)) q.base) → lh ls 3 [some (.ref d), some (.ref x), some (.int b)] → W p l e ({ frames := 2, cells := 0, slots := 0, locals := 44 } : Room) s m args below meth c K locs 0 0 (hQ below args s (fun r H1 => r = none ∧ ia g (d + 9) B (mkLog B S v bu v.2.1) H1 ∧ Fo (d + 9) H H1) 0 0 (f1 (d + 9))) (F0 m 2 ls []) := by
    intro k
    induction k with
    | zero =>
      intro j b K locs ls hd9 hj eb hK hF hL hl
      exfalso; omega
    | succ k ih =>
      intro j b K locs ls hd9 hj eb hK hF hL hl
      have hdK := hd.kept (hF.2 d (by omega))
      have hgK := hg.kept (fun q h1 h2 => hF.2 q (by omega))
      refine hb_iload_n G dX1_markSegmentsOf_2 hl rfl ?_
      refine hb_aload_n G dX1_markSegmentsOf_3 hl rfl ?_
      refine hb_get G hgK.1 rfl inX0 2 (by decide) kf_X1_129 rfl rfl dX1_markSegmentsOf_4 ?_
      refine lv_icmp_ge (tgt := 28) G.1 G.2.1 dX1_markSegmentsOf_7 (by decide) (fun c_1 => ?_) (fun c_1 => ?_)
      · have hj2 : j = v.2.1 := by have := (ic_le rfl eb (by omega) (by omega)).mp c_1; omega
        subst hj2
        exact hb_vret G hr hlocks ⟨rfl, hK, hF⟩ hL (Nat.le_refl _) (Nat.le_refl _) dX1_markSegmentsOf_28
      · have hj2 : j < v.2.1 := by have := mt (ic_le rfl eb (by omega) (by omega)).mpr c_1; omega
        refine hb_aload_n G dX1_markSegmentsOf_10 hl rfl ?_
        refine hb_aload_n G dX1_markSegmentsOf_11 hl rfl ?_
        refine hb_get G hgK.1 rfl inX0 0 (by decide) kf_X1_197 rfl rfl dX1_markSegmentsOf_12 ?_
        refine hb_iload_n G dX1_markSegmentsOf_15 hl rfl ?_
        refine hb_callS (As := [.ref (x + 1), .int b]) (rest := [.ref d]) G hml (c_at g l (x + 1) 60 (v.1 0) b _ (by decide) (hgK.2 0 (by decide))) km_X1_138 kt_X1_at kn_X1 ko_X1_at hd_X1_at ⟨Nat.le_of_ble_eq_true rfl, Nat.le_of_ble_eq_true rfl⟩ hl.size rfl (Nat.le_of_ble_eq_true rfl) dX1_markSegmentsOf_16 ⟨Nat.le_of_ble_eq_true rfl, Nat.le_of_ble_eq_true rfl⟩ hL (f0_in) (fun v1 K locs hp hL => ?_)
        obtain ⟨rfl, rfl⟩ := hp
        refine lv_topi (fun r_2 er_2 => ?_)
        obtain rfl : r_2 = v.1 0 j := by rw [er_2, eb, atV_in (by omega) (by decide)]
        refine hb_callV (As := [.int (v.1 0 j)]) (rest := []) G hml (c_markSegment g l d S p4 tc dn wr _ hdK B _ hB hS hK (v.1 0 j)) (hdK) rfl km_X1_181 ki_X1_markSegment ks_X1_markSegment kn_X1 ko_X1_markSegment hd_X1_markSegment ⟨Nat.le_of_ble_eq_true rfl, Nat.le_of_ble_eq_true rfl⟩ hl.size rfl (Nat.le_of_ble_eq_true rfl) dX1_markSegmentsOf_19 ⟨Nat.le_of_ble_eq_true rfl, Nat.le_of_ble_eq_true rfl⟩ hL (fun q h => h) (fun v1 K1 locs1 hp hL => ?_)
        obtain ⟨rfl, hK1, hF1⟩ := hp
        obtain ⟨t_3, et_3⟩ : ∃ z : Int32, z = b + 1 := ⟨_, rfl⟩
        refine hb_iinc (v := t_3) G dX1_markSegmentsOf_22 hl rfl (by rw [et_3]; rfl) (by decide) (fun ls hl => ?_)
        have hl : lh ls 3 [some (.ref d), some (.ref x), some (.int t_3)] := hl
        refine lv_goto (tgt := 2) G.1 G.2.1 dX1_markSegmentsOf_25 (by decide) ?_
        exact ih (j + 1) t_3 K1 locs1 ls (by omega) (by omega) (by rw [et_3, eb]; exact nI_1 j) hK1 (hF.tr hF1) hL hl
  refine lv_iconst (v := 0) G.1 G.2.1 dX1_markSegmentsOf_0 (by decide) ?_
  refine hb_istore_n G dX1_markSegmentsOf_1 hl (by decide) (fun ls hl => ?_)
  have hl : lh ls 3 [some (.ref d), some (.ref x), some (.int 0)] := hl
  exact lp (v.2.1 + 1) 0 0 H [] ls (by omega) (by omega) rfl hb Fo.rf hL hl
set_option maxHeartbeats 4000000 in
set_option maxRecDepth 100000 in
/-- firstFreeRun -/
theorem c_firstFreeRun (g : Gx) (l : Launch) (d S p4 : Nat) (tc dn wr : Int32) (H : Heap) (hd : ob g d 1 (dkFs d S p4 tc dn wr) H) (B : Nat) (bu : Nat → Int32) (hB : B ≤ 256) (hS : S ≤ 16) (hb : ia g (d + 9) B bu H) : HM g l yX1_firstFreeRun cX1_firstFreeRun 3 (some .int) 0 0 0 0 [.ref d] H (fun r H1 => r = some (.int (ffr bu S B 0)) ∧ H1 = H) (f0) := by
  refine HM.ofW (by decide) (Nat.le_of_ble_eq_true rfl) (by simp [Value.category]) ?_
  intro p e s m args below meth c ls G hr hml hlocks hnm hH hl
  have hl : lh ls 3 [some (.ref d), none, none] := hl
  have hL : ∀ q ∈ ([] : List Loc), (f0) q.base := fun q h => by cases h
  have lp : ∀ (k j : Nat) (a b : Int32)  (locs : List Loc) (ls : Array Slot), (B + 1 ≤ j + k) → (j ≤ B) → (a = nI (frun bu j)) → (b = nI j) → (ffr bu S B 0 = ffr bu S (B - j) j) → (∀ q ∈ locs, (f0) q.base) → lh ls 3 [some (.ref d), some (.int a), some (.int b)] → W p l e ({ frames := 0, cells := 0, slots := 0, locals := 0 } : Room) s m args below meth c H locs 0 0 (hQ below args s (fun r H1 => r = some (.int (ffr bu S B 0)) ∧ H1 = H) 0 0 (f0)) (F0 m 4 ls []) := by
    intro k
    induction k with
    | zero =>
      intro j a b  locs ls hd9 hj ea eb hi hL hl
      exfalso; omega
    | succ k ih =>
      intro j a b  locs ls hd9 hj ea eb hi hL hl
      have hfl := frun_le bu j
      refine hb_iload_n G dX1_firstFreeRun_4 hl rfl ?_
      refine hb_aload_n G dX1_firstFreeRun_5 hl rfl ?_
      refine hb_get G hd rfl inX1 2 (by decide) kf_X1_43 rfl rfl dX1_firstFreeRun_6 ?_
      refine hb_alen_i G hb dX1_firstFreeRun_9 ?_
      refine lv_icmp_ge (tgt := 53) G.1 G.2.1 dX1_firstFreeRun_10 (by decide) (fun c_1 => ?_) (fun c_1 => ?_)
      · have hj2 : j = B := by have := (ic_le rfl eb (by omega) (by omega)).mp c_1; omega
        refine lv_iconst (v := (-1)) G.1 G.2.1 dX1_firstFreeRun_53 (by decide) ?_
        exact hb_iret G hr hlocks ⟨by rw [hi, show B - j = 0 by omega]; rfl, rfl⟩ hL (Nat.le_refl _) (Nat.le_refl _) dX1_firstFreeRun_54
      · have hj2 : j < B := by have := mt (ic_le rfl eb (by omega) (by omega)).mpr c_1; omega
        have hs9 : ffr bu S (B - j) j = if frun bu (j + 1) = S then nI j - nI S + 1 else ffr bu S (B - (j + 1)) (j + 1) := by rw [show B - j = (B - (j + 1)) + 1 by omega]; rfl
        refine hb_aload_n G dX1_firstFreeRun_13 hl rfl ?_
        refine hb_get G hd rfl inX1 2 (by decide) kf_X1_43 rfl rfl dX1_firstFreeRun_14 ?_
        refine hb_iload_n G dX1_firstFreeRun_17 hl rfl ?_
        refine hb_iald G hb (by rw [eb]; exact vp_in_nI hj2 (by omega)) dX1_firstFreeRun_18 ?_
        refine lv_topi (fun r_2 er_2 => ?_)
        have er_2 : r_2 = bu j := by rw [er_2, show b.toNatClampNeg = j by rw [eb]; exact nI_clamp (by omega)]
        refine lv_if_ne (tgt := 28) G.1 G.2.1 dX1_firstFreeRun_19 (by decide) (fun c_3 => ?_) (fun c_3 => ?_)
        · have hr1 : frun bu (j + 1) = 0 := by simp only [frun]; rw [if_neg (by rw [← er_2]; exact c_3)]
          refine lv_iconst (v := 0) G.1 G.2.1 dX1_firstFreeRun_28 (by decide) ?_
          refine hb_istore_n G dX1_firstFreeRun_29 hl (by decide) (fun ls hl => ?_)
          have hl : lh ls 3 [some (.ref d), some (.int 0), some (.int b)] := hl
          refine hb_iload_n G dX1_firstFreeRun_30 hl rfl ?_
          refine hb_aload_n G dX1_firstFreeRun_31 hl rfl ?_
          refine hb_get G hd rfl inX1 0 (by decide) kf_X1_40 rfl rfl dX1_firstFreeRun_32 ?_
          have er1 : (0 : Int32) = nI (frun bu (j + 1)) := by rw [hr1]; rfl
          refine lv_icmp_ne (tgt := 47) G.1 G.2.1 dX1_firstFreeRun_35 (by decide) (fun c_4 => ?_) (fun c_4 => ?_)
          · have hne : ¬ frun bu (j + 1) = S := fun h9 => c_4 (by rw [er1, h9])
            obtain ⟨t_5, et_5⟩ : ∃ z : Int32, z = b + 1 := ⟨_, rfl⟩
            refine hb_iinc (v := t_5) G dX1_firstFreeRun_47 hl rfl (by rw [et_5]; rfl) (by decide) (fun ls hl => ?_)
            have hl : lh ls 3 [some (.ref d), some (.int 0), some (.int t_5)] := hl
            refine lv_goto (tgt := 4) G.1 G.2.1 dX1_firstFreeRun_50 (by decide) ?_
            exact ih (j + 1) 0 t_5 locs ls (by omega) (by omega) er1 (by rw [et_5, eb]; exact nI_1 j) (by rw [hi, hs9, if_neg hne]) hL hl
          · have he1 : frun bu (j + 1) = S := (nI_eq (by omega) (by omega)).mp (er1.symm.trans (c_4))
            refine hb_iload_n G dX1_firstFreeRun_38 hl rfl ?_
            refine hb_aload_n G dX1_firstFreeRun_39 hl rfl ?_
            refine hb_get G hd rfl inX1 0 (by decide) kf_X1_40 rfl rfl dX1_firstFreeRun_40 ?_
            refine lv_isub G.1 G.2.1 dX1_firstFreeRun_43 ?_
            refine lv_topi (fun t_6 et_6 => ?_)
            refine lv_iconst (v := 1) G.1 G.2.1 dX1_firstFreeRun_44 (by decide) ?_
            refine lv_iadd G.1 G.2.1 dX1_firstFreeRun_45 ?_
            refine lv_topi (fun t_7 et_7 => ?_)
            exact hb_iret G hr hlocks ⟨by rw [hi, hs9, if_pos he1]; simp only [*], rfl⟩ hL (Nat.le_refl _) (Nat.le_refl _) dX1_firstFreeRun_46
        · have hr1 : frun bu (j + 1) = frun bu j + 1 := by simp only [frun]; rw [if_pos (by rw [← er_2]; exact c_3)]
          refine hb_iload_n G dX1_firstFreeRun_22 hl rfl ?_
          refine lv_iconst (v := 1) G.1 G.2.1 dX1_firstFreeRun_23 (by decide) ?_
          refine lv_iadd G.1 G.2.1 dX1_firstFreeRun_24 ?_
          refine lv_topi (fun t_8 et_8 => ?_)
          refine lv_goto (tgt := 29) G.1 G.2.1 dX1_firstFreeRun_25 (by decide) ?_
          refine hb_istore_n G dX1_firstFreeRun_29 hl (by decide) (fun ls hl => ?_)
          have hl : lh ls 3 [some (.ref d), some (.int t_8), some (.int b)] := hl
          refine hb_iload_n G dX1_firstFreeRun_30 hl rfl ?_
          refine hb_aload_n G dX1_firstFreeRun_31 hl rfl ?_
          refine hb_get G hd rfl inX1 0 (by decide) kf_X1_40 rfl rfl dX1_firstFreeRun_32 ?_
          have er1 : t_8 = nI (frun bu (j + 1)) := by rw [hr1, et_8, ea]; exact nI_1 _
          refine lv_icmp_ne (tgt := 47) G.1 G.2.1 dX1_firstFreeRun_35 (by decide) (fun c_9 => ?_) (fun c_9 => ?_)
          · have hne : ¬ frun bu (j + 1) = S := fun h9 => c_9 (by rw [er1, h9])
            obtain ⟨t_10, et_10⟩ : ∃ z : Int32, z = b + 1 := ⟨_, rfl⟩
            refine hb_iinc (v := t_10) G dX1_firstFreeRun_47 hl rfl (by rw [et_10]; rfl) (by decide) (fun ls hl => ?_)
            have hl : lh ls 3 [some (.ref d), some (.int t_8), some (.int t_10)] := hl
            refine lv_goto (tgt := 4) G.1 G.2.1 dX1_firstFreeRun_50 (by decide) ?_
            exact ih (j + 1) t_8 t_10 locs ls (by omega) (by omega) er1 (by rw [et_10, eb]; exact nI_1 j) (by rw [hi, hs9, if_neg hne]) hL hl
          · have he1 : frun bu (j + 1) = S := (nI_eq (by omega) (by omega)).mp (er1.symm.trans (c_9))
            refine hb_iload_n G dX1_firstFreeRun_38 hl rfl ?_
            refine hb_aload_n G dX1_firstFreeRun_39 hl rfl ?_
            refine hb_get G hd rfl inX1 0 (by decide) kf_X1_40 rfl rfl dX1_firstFreeRun_40 ?_
            refine lv_isub G.1 G.2.1 dX1_firstFreeRun_43 ?_
            refine lv_topi (fun t_11 et_11 => ?_)
            refine lv_iconst (v := 1) G.1 G.2.1 dX1_firstFreeRun_44 (by decide) ?_
            refine lv_iadd G.1 G.2.1 dX1_firstFreeRun_45 ?_
            refine lv_topi (fun t_12 et_12 => ?_)
            exact hb_iret G hr hlocks ⟨by rw [hi, hs9, if_pos he1]; simp only [*], rfl⟩ hL (Nat.le_refl _) (Nat.le_refl _) dX1_firstFreeRun_46
  refine lv_iconst (v := 0) G.1 G.2.1 dX1_firstFreeRun_0 (by decide) ?_
  refine hb_istore_n G dX1_firstFreeRun_1 hl (by decide) (fun ls hl => ?_)
  have hl : lh ls 3 [some (.ref d), some (.int 0), none] := hl
  refine lv_iconst (v := 0) G.1 G.2.1 dX1_firstFreeRun_2 (by decide) ?_
  refine hb_istore_n G dX1_firstFreeRun_3 hl (by decide) (fun ls hl => ?_)
  have hl : lh ls 3 [some (.ref d), some (.int 0), some (.int 0)] := hl
  exact lp (B + 1) 0 0 0 [] ls (by omega) (by omega) rfl rfl rfl hL hl
