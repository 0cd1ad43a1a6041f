def mCnt (f : Nat → Int32) (x : Int32) : Nat → Nat
  | 0 => 0
  | e + 1 => mCnt f x e + (if f e = x then 1 else 0)
theorem mCnt_le (f : Nat → Int32) (x : Int32) : ∀ e, mCnt f x e ≤ e
  | 0 => Nat.le_refl 0
  | e + 1 => by
    have := mCnt_le f x e
    simp only [mCnt]
    split <;> omega
theorem mCnt_mono (f : Nat → Int32) (x : Int32) {a b : Nat} (h : a ≤ b) : mCnt f x a ≤ mCnt f x b := by
  induction b with
  | zero => rw [show a = 0 by omega]; exact Nat.le_refl _
  | succ b ih =>
    by_cases hb : a = b + 1
    · rw [hb]; exact Nat.le_refl _
    · have := ih (by omega)
      simp only [mCnt]; omega
def mIn (A : Nat → Nat → Int32) (x y : Int32) : Nat → Nat
  | 0 => 0
  | e + 1 => mIn A x y e + (if A 5 e = x ∧ A 8 e = y then 1 else 0)
theorem mIn_le (A : Nat → Nat → Int32) (x y : Int32) : ∀ e, mIn A x y e ≤ e
  | 0 => Nat.le_refl 0
  | e + 1 => by
    have := mIn_le A x y e
    simp only [mIn]
    split <;> omega
def mCl (A : Nat → Nat → Int32) (i en : Nat) : Int32 := if A 0 i = 0 then 0 else nI (mCnt (A 5) (nI i) en) - nI (mIn A (nI i) (A 1 (60 * i + (tn (A 0 i) - 1))) en)
theorem nI_60 (i k : Nat) : (60 : Int32) * nI i + nI k = nI (60 * i + k) := by
  rw [show (60 : Int32) = nI 60 from rfl, pk_mul, nI_add]
/-- the reference's lasting bounds -/
def mdB (S B C en : Nat) : Prop := dkB S B ∧ en ≤ C ∧ C ≤ 512
set_option maxHeartbeats 4000000 in
set_option maxRecDepth 100000 in
/-- mark -/
theorem m_mark (g : Gx) (l : Launch) (r S B C : Nat) (a : Nat → Nat) (A : Nat → Nat → Int32) (cd wr lf dn : Int32) (en pl : Nat) (H : Heap) (h : mdAt g r S B C a A cd wr lf dn en pl H) (hSB : dkB S B) (hA : sgOk S A) : HM g l yX2_mark cX2_mark 3 none 1 22 0 0 [.ref r] H (fun v H1 => v = none ∧ mdAt g r S B C a (va_up A 4 (mMkA A S B 4)) cd wr lf dn en pl H1 ∧ Fo (a 4) H H1) (f1 (a 4)) := by
  refine HM.ofW (by decide) (Nat.le_of_ble_eq_true rfl) (by simp [Value.category]) ?_
  intro p e s m args below meth c ls G hr hml hlocks hnm hH hl
  have hl : lh ls 3 [some (.ref r), none, none] := hl
  have hL : ∀ q ∈ ([] : List Loc), (f1 (a 4)) q.base := fun q h => by cases h
  obtain ⟨hS1, hS2, hB1, hB2⟩ := hSB
  have lp2 : ∀ (k j : Nat) (b : Int32) (K : Heap) (locs : List Loc) (ls : Array Slot), (4 + 1 ≤ j + k) → (j ≤ 4) → (b = nI j) → (mdAt g r S B C a (va_up A 4 (mMkA A S B j)) cd wr lf dn en pl K) → (Fo (a 4) H K) → (∀ q ∈ locs, (f1 (a 4)) q.base) → lh ls 3 [some (.ref r), some (.int b), none] → W p l e ({ frames := 1, cells := 0, slots := 0, locals := 22 } : Room) s m args below meth c K locs 0 0 (hQ below args s (fun v H1 => v = none ∧ mdAt g r S B C a (va_up A 4 (mMkA A S B 4)) cd wr lf dn en pl H1 ∧ Fo (a 4) H H1) 0 0 (f1 (a 4))) (F0 m 34 ls []) := by
    intro k
    induction k with
    | zero =>
      intro j b K locs ls hd9 hj eb hk hF hL hl
      exfalso; omega
    | succ k ih =>
      intro j b K locs ls hd9 hj eb hk hF hL hl
      have ihO := ih
      refine hb_iload_n G dX2_mark_34 hl rfl ?_
      refine lv_iconst (v := 4) G.1 G.2.1 dX2_mark_35 (by decide) ?_
      refine lv_icmp_ge (tgt := 78) G.1 G.2.1 dX2_mark_36 (by decide) (fun c_1 => ?_) (fun c_1 => ?_)
      · have hj2 : j = 4 := by have := (ic_le (a := 4) (b := j) rfl eb (by omega) (by omega)).mp c_1; omega
        subst hj2
        exact hb_vret G hr hlocks ⟨rfl, hk, hF⟩ hL (Nat.le_refl _) (Nat.le_refl _) dX2_mark_78
      · have hj2 : j < 4 := by have := mt (ic_le (a := 4) (b := j) rfl eb (by omega) (by omega)).mpr c_1; omega
        obtain ⟨hs0, hs1, hs2⟩ := hA j hj2
        have lpi : ∀ (k2 i2 : Nat) (b2 : Int32) (K : Heap) (locs : List Loc) (ls : Array Slot), (tn (A 0 j) + 1 ≤ i2 + k2) → (i2 ≤ tn (A 0 j)) → (b2 = nI i2) → (mdAt g r S B C a (va_up A 4 (mMkL A S (mMkA A S B j) j i2)) cd wr lf dn en pl K) → (Fo (a 4) H K) → (∀ q ∈ locs, (f1 (a 4)) q.base) → lh ls 3 [some (.ref r), some (.int b), some (.int b2)] → W p l e ({ frames := 1, cells := 0, slots := 0, locals := 22 } : Room) s m args below meth c K locs 0 0 (hQ below args s (fun v H1 => v = none ∧ mdAt g r S B C a (va_up A 4 (mMkA A S B 4)) cd wr lf dn en pl H1 ∧ Fo (a 4) H H1) 0 0 (f1 (a 4))) (F0 m 41 ls []) := by
          intro k2
          induction k2 with
          | zero =>
            intro i2 b2 K locs ls hd8 hi2 eb2 hk hF hL hl
            exfalso; omega
          | succ k2 ih =>
            intro i2 b2 K locs ls hd8 hi2 eb2 hk hF hL hl
            refine hb_iload_n G dX2_mark_41 hl rfl ?_
            refine hb_aload_n G dX2_mark_42 hl rfl ?_
            refine hb_get G hk.1 rfl inX2 6 (by decide) kf_X2_13 rfl rfl dX2_mark_43 ?_
            refine hb_iload_n G dX2_mark_46 hl rfl ?_
            refine hb_iald G (show ia g (a 0) 4 ((va_up A 4 (mMkL A S (mMkA A S B j) j i2)) 0) _ from hk.2.1 0 (by decide)) (by rw [eb]; exact vp_in_nI (by omega) (by decide)) dX2_mark_47 ?_
            refine lv_topi (fun r_2 er_2 => ?_)
            have er_2 : r_2 = (va_up A 4 (mMkL A S (mMkA A S B j) j i2)) 0 (j) := by rw [er_2, show (b).toNatClampNeg = j by rw [eb]; exact nI_clamp (by omega)]
            have er_2 : r_2 = nI (tn (A 0 j)) := by rw [er_2]; exact hs0
            refine lv_icmp_ge (tgt := 72) G.1 G.2.1 dX2_mark_48 (by decide) (fun c_3 => ?_) (fun c_3 => ?_)
            · have hi3 : i2 = tn (A 0 j) := by have := (ic_le er_2 eb2 (by omega) (by omega)).mp c_3; omega
              subst hi3
              obtain ⟨t_4, et_4⟩ : ∃ z : Int32, z = b + 1 := ⟨_, rfl⟩
              refine hb_iinc (v := t_4) G dX2_mark_72 hl rfl (by rw [et_4]; rfl) (by decide) (fun ls hl => ?_)
              have hl : lh ls 3 [some (.ref r), some (.int t_4), some (.int b2)] := hl
              refine lv_goto (tgt := 34) G.1 G.2.1 dX2_mark_75 (by decide) ?_
              exact ihO (j + 1) t_4 K locs ls (by omega) (by omega) (by rw [et_4, eb]; exact nI_1 j) hk hF hL (hl.drop 2)
            · have hi3 : i2 < tn (A 0 j) := by have := mt (ic_le er_2 eb2 (by omega) (by omega)).mpr c_3; omega
              obtain ⟨hx1, hx2⟩ := hs2 i2 hi3
              refine hb_aload_n G dX2_mark_51 hl rfl ?_
              refine hb_aload_n G dX2_mark_52 hl rfl ?_
              refine hb_get G hk.1 rfl inX2 7 (by decide) kf_X2_17 rfl rfl dX2_mark_53 ?_
              refine lv_bipush (v := 60) G.1 G.2.1 dX2_mark_56 (by decide) ?_
              refine hb_iload_n G dX2_mark_58 hl rfl ?_
              refine lv_imul G.1 G.2.1 dX2_mark_59 ?_
              refine lv_topi (fun t_5 et_5 => ?_)
              refine hb_iload_n G dX2_mark_60 hl rfl ?_
              refine lv_iadd G.1 G.2.1 dX2_mark_61 ?_
              refine lv_topi (fun t_6 et_6 => ?_)
              have hix : t_6 = nI (60 * j + i2) := by rw [et_6, et_5, eb, eb2]; exact nI_60 _ _
              refine hb_iald G (show ia g (a 1) 240 ((va_up A 4 (mMkL A S (mMkA A S B j) j i2)) 1) _ from hk.2.1 1 (by decide)) (by rw [hix]; exact vp_in_nI (by omega) (by decide)) dX2_mark_62 ?_
              refine lv_topi (fun r_7 er_7 => ?_)
              have er_7 : r_7 = (va_up A 4 (mMkL A S (mMkA A S B j) j i2)) 1 (60 * j + i2) := by rw [er_7, show (t_6).toNatClampNeg = 60 * j + i2 by rw [hix]; exact nI_clamp (by omega)]
              obtain rfl : r_7 = nI (tn (A 1 (60 * j + i2))) := by rw [er_7]; exact hx1
              refine hb_callV (As := [.int (nI (tn (A 1 (60 * j + i2))))]) (rest := []) G hml (m_hold g l r S B C a _ cd wr lf dn en pl _ hk hS2 _ hx2) (hk.1) rfl km_X2_64 ki_X2_hold ks_X2_hold kn_X2 ko_X2_hold hd_X2_hold ⟨Nat.le_of_ble_eq_true rfl, Nat.le_of_ble_eq_true rfl⟩ hl.size rfl (Nat.le_of_ble_eq_true rfl) dX2_mark_63 ⟨Nat.le_of_ble_eq_true rfl, Nat.le_of_ble_eq_true rfl⟩ hL (fun q h => h) (fun v1 K1 locs1 hp hL => ?_)
              obtain ⟨rfl, hk1, hF1⟩ := hp
              rw [va_up_self, bx_uu] at hk1
              obtain ⟨t_8, et_8⟩ : ∃ z : Int32, z = b2 + 1 := ⟨_, rfl⟩
              refine hb_iinc (v := t_8) G dX2_mark_66 hl rfl (by rw [et_8]; rfl) (by decide) (fun ls hl => ?_)
              have hl : lh ls 3 [some (.ref r), some (.int b), some (.int t_8)] := hl
              refine lv_goto (tgt := 41) G.1 G.2.1 dX2_mark_69 (by decide) ?_
              exact ih (i2 + 1) t_8 K1 locs1 ls (by omega) (by omega) (by rw [et_8, eb2]; exact nI_1 i2) hk1 (hF.tr hF1) hL hl
        refine lv_iconst (v := 0) G.1 G.2.1 dX2_mark_39 (by decide) ?_
        refine hb_istore_n G dX2_mark_40 hl (by decide) (fun ls hl => ?_)
        have hl : lh ls 3 [some (.ref r), some (.int b), some (.int 0)] := hl
        exact lpi (tn (A 0 j) + 1) 0 0 K locs ls (by omega) (by omega) rfl hk hF hL hl
  have lp1 : ∀ (k j : Nat) (b : Int32) (K : Heap) (locs : List Loc) (ls : Array Slot), (B + 1 ≤ j + k) → (j ≤ B) → (b = nI j) → (mdAt g r S B C a (va_up A 4 (mMk0 (A 4) j)) cd wr lf dn en pl K) → (Fo (a 4) H K) → (∀ q ∈ locs, (f1 (a 4)) q.base) → lh ls 3 [some (.ref r), some (.int b), none] → W p l e ({ frames := 1, cells := 0, slots := 0, locals := 22 } : Room) s m args below meth c K locs 0 0 (hQ below args s (fun v H1 => v = none ∧ mdAt g r S B C a (va_up A 4 (mMkA A S B 4)) cd wr lf dn en pl H1 ∧ Fo (a 4) H H1) 0 0 (f1 (a 4))) (F0 m 2 ls []) := by
    intro k
    induction k with
    | zero =>
      intro j b K locs ls hd9 hj eb hk hF hL hl
      exfalso; omega
    | succ k ih =>
      intro j b K locs ls hd9 hj eb hk hF hL hl
      refine hb_iload_n G dX2_mark_2 hl rfl ?_
      refine hb_aload_n G dX2_mark_3 hl rfl ?_
      refine hb_get G hk.1 rfl inX2 2 (by decide) kf_X2_54 rfl rfl dX2_mark_4 ?_
      refine lv_icmp_ge (tgt := 32) G.1 G.2.1 dX2_mark_7 (by decide) (fun c_9 => ?_) (fun c_9 => ?_)
      · have hj2 : j = B := by have := (ic_le rfl eb (by omega) (by omega)).mp c_9; omega
        subst hj2
        refine lv_iconst (v := 0) G.1 G.2.1 dX2_mark_32 (by decide) ?_
        refine hb_istore_n G dX2_mark_33 hl (by decide) (fun ls hl => ?_)
        have hl : lh ls 3 [some (.ref r), some (.int 0), none] := hl
        exact lp2 5 0 0 K locs ls (by omega) (by omega) rfl hk hF hL hl
      · have hj2 : j < B := by have := mt (ic_le rfl eb (by omega) (by omega)).mpr c_9; omega
        have h4 : za g (a 4) 256 (mMk0 (A 4) j) K := by have h9 := hk.2.1 4 (by decide); rw [va_up_self] at h9; exact h9
        refine hb_aload_n G dX2_mark_10 hl rfl ?_
        refine hb_get G hk.1 rfl inX2 10 (by decide) kf_X2_26 rfl rfl dX2_mark_11 ?_
        refine hb_iload_n G dX2_mark_14 hl rfl ?_
        refine hb_iload_n G dX2_mark_15 hl rfl ?_
        refine lv_iconst (v := 4) G.1 G.2.1 dX2_mark_16 (by decide) ?_
        refine lv_icmp_ge (tgt := 24) G.1 G.2.1 dX2_mark_17 (by decide) (fun c_10 => ?_) (fun c_10 => ?_)
        · refine lv_iconst (v := 0) G.1 G.2.1 dX2_mark_24 (by decide) ?_
          refine hb_zast G h4 (by rw [eb]; exact vp_in_nI (by omega) (by decide)) rfl hL rfl dX2_mark_25 (fun K1 locs1 hK1 hz1 ho1 hL => ?_)
          rw [show b.toNatClampNeg = j by rw [eb]; exact nI_clamp (by omega)] at hK1
          have hk1 := hk.up (k := 4) (by decide) hK1 ⟨hz1, ho1⟩
          rw [bx_uu] at hk1
          obtain ⟨t_11, et_11⟩ : ∃ z : Int32, z = b + 1 := ⟨_, rfl⟩
          refine hb_iinc (v := t_11) G dX2_mark_26 hl rfl (by rw [et_11]; rfl) (by decide) (fun ls hl => ?_)
          have hl : lh ls 3 [some (.ref r), some (.int t_11), none] := hl
          refine lv_goto (tgt := 2) G.1 G.2.1 dX2_mark_29 (by decide) ?_
          exact ih (j + 1) t_11 K1 locs1 ls (by omega) (by omega) (by rw [et_11, eb]; exact nI_1 j) (by simp only [mMk0]; rw [if_neg (by have := (ic_le (a := 4) (b := j) rfl eb (by omega) (by omega)).mp c_10; omega)]; exact hk1) (hF.tr ⟨hz1, ho1⟩) hL hl
        · refine lv_iconst (v := 1) G.1 G.2.1 dX2_mark_20 (by decide) ?_
          refine lv_goto (tgt := 25) G.1 G.2.1 dX2_mark_21 (by decide) ?_
          refine hb_zast G h4 (by rw [eb]; exact vp_in_nI (by omega) (by decide)) rfl hL rfl dX2_mark_25 (fun K1 locs1 hK1 hz1 ho1 hL => ?_)
          rw [show b.toNatClampNeg = j by rw [eb]; exact nI_clamp (by omega)] at hK1
          have hk1 := hk.up (k := 4) (by decide) hK1 ⟨hz1, ho1⟩
          rw [bx_uu] at hk1
          obtain ⟨t_12, et_12⟩ : ∃ z : Int32, z = b + 1 := ⟨_, rfl⟩
          refine hb_iinc (v := t_12) G dX2_mark_26 hl rfl (by rw [et_12]; rfl) (by decide) (fun ls hl => ?_)
          have hl : lh ls 3 [some (.ref r), some (.int t_12), none] := hl
          refine lv_goto (tgt := 2) G.1 G.2.1 dX2_mark_29 (by decide) ?_
          exact ih (j + 1) t_12 K1 locs1 ls (by omega) (by omega) (by rw [et_12, eb]; exact nI_1 j) (by simp only [mMk0]; rw [if_pos (by have := mt (ic_le (a := 4) (b := j) rfl eb (by omega) (by omega)).mpr c_10; omega)]; exact hk1) (hF.tr ⟨hz1, ho1⟩) hL hl
  refine lv_iconst (v := 0) G.1 G.2.1 dX2_mark_0 (by decide) ?_
  refine hb_istore_n G dX2_mark_1 hl (by decide) (fun ls hl => ?_)
  have hl : lh ls 3 [some (.ref r), some (.int 0), none] := hl
  exact lp1 (B + 1) 0 0 H [] ls (by omega) (by omega) rfl (by rw [show va_up A 4 (mMk0 (A 4) 0) = A from up_same A 4]; exact h) Fo.rf hL hl
set_option maxHeartbeats 4000000 in
set_option maxRecDepth 100000 in
/-- place -/
theorem m_place (g : Gx) (l : Launch) (r S B C : Nat) (a : Nat → Nat) (A : Nat → Nat → Int32) (cd wr lf dn : Int32) (en pl : Nat) (H : Heap) (h : mdAt g r S B C a A cd wr lf dn en pl H) (hSB : dkB S B) : HM g l yX2_place cX2_place 4 (some .int) 0 0 0 0 [.ref r] H (fun v H1 => v = some (.int (mPl (A 4) S (B + 1 - S - 4) 4)) ∧ H1 = H) (f0) := by
  refine HM.ofW (by decide) (Nat.le_of_ble_eq_true rfl) (by simp [Value.category]) ?_
  intro p e s m args below meth c ls G hr hml hlocks hnm hH hl
  have hl : lh ls 4 [some (.ref r), none, none, none] := hl
  have hL : ∀ q ∈ ([] : List Loc), (f0) q.base := fun q h => by cases h
  obtain ⟨hS1, hS2, hB1, hB2⟩ := hSB
  have lp : ∀ (k j : Nat) (b : Int32)  (locs : List Loc) (ls : Array Slot), (B + 1 - S - 4 + 1 ≤ j + k) → (j ≤ B + 1 - S - 4) → (b = nI (4 + j)) → (mPl (A 4) S (B + 1 - S - 4) 4 = mPl (A 4) S (B + 1 - S - 4 - j) (4 + j)) → (∀ q ∈ locs, (f0) q.base) → lh ls 4 [some (.ref r), some (.int b), none, none] → W p l e ({ frames := 0, cells := 0, slots := 0, locals := 0 } : Room) s m args below meth c H locs 0 0 (hQ below args s (fun v H1 => v = some (.int (mPl (A 4) S (B + 1 - S - 4) 4)) ∧ H1 = H) 0 0 (f0)) (F0 m 2 ls []) := by
    intro k
    induction k with
    | zero =>
      intro j b  locs ls hd9 hj eb hI hL hl
      exfalso; omega
    | succ k ih =>
      intro j b  locs ls hd9 hj eb hI hL hl
      have ihO := ih
      refine hb_iload_n G dX2_place_2 hl rfl ?_
      refine hb_aload_n G dX2_place_3 hl rfl ?_
      refine hb_get G h.1 rfl inX2 1 (by decide) kf_X2_51 rfl rfl dX2_place_4 ?_
      refine lv_iadd G.1 G.2.1 dX2_place_7 ?_
      refine lv_topi (fun t_1 et_1 => ?_)
      refine hb_aload_n G dX2_place_8 hl rfl ?_
      refine hb_get G h.1 rfl inX2 2 (by decide) kf_X2_54 rfl rfl dX2_place_9 ?_
      have hbs : t_1 = nI (4 + j + S) := by rw [et_1, eb]; exact nI_add _ _
      refine lv_icmp_gt (tgt := 66) G.1 G.2.1 dX2_place_12 (by decide) (fun c_2 => ?_) (fun c_2 => ?_)
      · have hj2 : B < 4 + j + S := by have := (ic_lt rfl hbs (by omega) (by omega)).mp c_2; omega
        refine lv_iconst (v := (-1)) G.1 G.2.1 dX2_place_66 (by decide) ?_
        exact hb_iret G hr hlocks ⟨by rw [hI, show B + 1 - S - 4 - j = 0 by omega]; rfl, rfl⟩ hL (Nat.le_refl _) (Nat.le_refl _) dX2_place_67
      · have hj2 : 4 + j + S ≤ B := by have := mt (ic_lt rfl hbs (by omega) (by omega)).mpr c_2; omega
        have hs9 : mPl (A 4) S (B + 1 - S - 4 - j) (4 + j) = if mFrB (A 4) (4 + j) S = true then nI (4 + j) else mPl (A 4) S (B + 1 - S - 4 - (j + 1)) (4 + (j + 1)) := by rw [show B + 1 - S - 4 - j = (B + 1 - S - 4 - (j + 1)) + 1 by omega]; rfl
        have lpi : ∀ (k2 i2 : Nat) (b2 b3 : Int32)  (locs : List Loc) (ls : Array Slot), (S + 1 ≤ i2 + k2) → (i2 ≤ S) → (b2 = if mFrB (A 4) (4 + j) i2 = true then 1 else 0) → (b3 = nI (4 + j + i2)) → (∀ q ∈ locs, (f0) q.base) → lh ls 4 [some (.ref r), some (.int b), some (.int b2), some (.int b3)] → W p l e ({ frames := 0, cells := 0, slots := 0, locals := 0 } : Room) s m args below meth c H locs 0 0 (hQ below args s (fun v H1 => v = some (.int (mPl (A 4) S (B + 1 - S - 4) 4)) ∧ H1 = H) 0 0 (f0)) (F0 m 19 ls []) := by
          intro k2
          induction k2 with
          | zero =>
            intro i2 b2 b3  locs ls hd8 hi2 eb2 eb3 hL hl
            exfalso; omega
          | succ k2 ih =>
            intro i2 b2 b3  locs ls hd8 hi2 eb2 eb3 hL hl
            refine hb_iload_n G dX2_place_19 hl rfl ?_
            refine hb_iload_n G dX2_place_20 hl rfl ?_
            refine hb_aload_n G dX2_place_21 hl rfl ?_
            refine hb_get G h.1 rfl inX2 1 (by decide) kf_X2_51 rfl rfl dX2_place_22 ?_
            refine lv_iadd G.1 G.2.1 dX2_place_25 ?_
            refine lv_topi (fun t_3 et_3 => ?_)
            have hbs2 : t_3 = nI (4 + j + S) := by rw [et_3, eb]; exact nI_add _ _
            refine lv_icmp_ge (tgt := 54) G.1 G.2.1 dX2_place_26 (by decide) (fun c_4 => ?_) (fun c_4 => ?_)
            · have hi3 : i2 = S := by have := (ic_le hbs2 eb3 (by omega) (by omega)).mp c_4; omega
              subst hi3
              refine hb_iload_n G dX2_place_54 hl rfl ?_
              refine lv_if_eq (tgt := 60) G.1 G.2.1 dX2_place_55 (by decide) (fun c_5 => ?_) (fun c_5 => ?_)
              · have hfr : ¬ mFrB (A 4) (4 + j) i2 = true := (it0 eb2).mp c_5
                obtain ⟨t_6, et_6⟩ : ∃ z : Int32, z = b + 1 := ⟨_, rfl⟩
                refine hb_iinc (v := t_6) G dX2_place_60 hl rfl (by rw [et_6]; rfl) (by decide) (fun ls hl => ?_)
                have hl : lh ls 4 [some (.ref r), some (.int t_6), some (.int b2), some (.int b3)] := hl
                refine lv_goto (tgt := 2) G.1 G.2.1 dX2_place_63 (by decide) ?_
                exact ihO (j + 1) t_6 locs ls (by omega) (by omega) (by rw [et_6, eb]; exact nI_1 _) (by rw [hI, hs9, if_neg hfr]) hL ((hl.drop 2).drop 3)
              · have hfr : mFrB (A 4) (4 + j) i2 = true := Decidable.not_not.mp (fun q => c_5 ((it0 eb2).mpr q))
                refine hb_iload_n G dX2_place_58 hl rfl ?_
                exact hb_iret G hr hlocks ⟨by rw [hI, hs9, if_pos hfr, eb], rfl⟩ hL (Nat.le_refl _) (Nat.le_refl _) dX2_place_59
            · have hi3 : i2 < S := by have := mt (ic_le hbs2 eb3 (by omega) (by omega)).mpr c_4; omega
              refine hb_iload_n G dX2_place_29 hl rfl ?_
              refine lv_if_eq (tgt := 46) G.1 G.2.1 dX2_place_30 (by decide) (fun c_7 => ?_) (fun c_7 => ?_)
              · refine lv_iconst (v := 0) G.1 G.2.1 dX2_place_46 (by decide) ?_
                refine hb_istore_n G dX2_place_47 hl (by decide) (fun ls hl => ?_)
                have hl : lh ls 4 [some (.ref r), some (.int b), some (.int 0), some (.int b3)] := hl
                obtain ⟨t_8, et_8⟩ : ∃ z : Int32, z = b3 + 1 := ⟨_, rfl⟩
                refine hb_iinc (v := t_8) G dX2_place_48 hl rfl (by rw [et_8]; rfl) (by decide) (fun ls hl => ?_)
                have hl : lh ls 4 [some (.ref r), some (.int b), some (.int 0), some (.int t_8)] := hl
                refine lv_goto (tgt := 19) G.1 G.2.1 dX2_place_51 (by decide) ?_
                exact ih (i2 + 1) 0 t_8 locs ls (by omega) (by omega) ((if_neg (show ¬ (mFrB (A 4) (4 + j) i2 && A 4 (4 + j + i2) == 0) = true by simp [(it0 eb2).mp c_7])).symm) (by rw [et_8, eb3]; exact nI_1 _) hL hl
              · have hfr : mFrB (A 4) (4 + j) i2 = true := Decidable.not_not.mp (fun q => c_7 ((it0 eb2).mpr q))
                refine hb_aload_n G dX2_place_33 hl rfl ?_
                refine hb_get G h.1 rfl inX2 10 (by decide) kf_X2_26 rfl rfl dX2_place_34 ?_
                refine hb_iload_n G dX2_place_37 hl rfl ?_
                refine hb_zald G (show za g (a 4) 256 (A 4) _ from h.2.1 4 (by decide)) (by rw [eb3]; exact vp_in_nI (by omega) (by decide)) dX2_place_38 ?_
                refine lv_topi (fun r_9 er_9 => ?_)
                have er_9 : r_9 = A 4 (4 + j + i2) := by rw [er_9, show (b3).toNatClampNeg = 4 + j + i2 by rw [eb3]; exact nI_clamp (by omega)]
                refine lv_if_ne (tgt := 46) G.1 G.2.1 dX2_place_39 (by decide) (fun c_10 => ?_) (fun c_10 => ?_)
                · refine lv_iconst (v := 0) G.1 G.2.1 dX2_place_46 (by decide) ?_
                  refine hb_istore_n G dX2_place_47 hl (by decide) (fun ls hl => ?_)
                  have hl : lh ls 4 [some (.ref r), some (.int b), some (.int 0), some (.int b3)] := hl
                  obtain ⟨t_11, et_11⟩ : ∃ z : Int32, z = b3 + 1 := ⟨_, rfl⟩
                  refine hb_iinc (v := t_11) G dX2_place_48 hl rfl (by rw [et_11]; rfl) (by decide) (fun ls hl => ?_)
                  have hl : lh ls 4 [some (.ref r), some (.int b), some (.int 0), some (.int t_11)] := hl
                  refine lv_goto (tgt := 19) G.1 G.2.1 dX2_place_51 (by decide) ?_
                  exact ih (i2 + 1) 0 t_11 locs ls (by omega) (by omega) ((if_neg (show ¬ (mFrB (A 4) (4 + j) i2 && A 4 (4 + j + i2) == 0) = true by rw [← er_9]; simp [c_10])).symm) (by rw [et_11, eb3]; exact nI_1 _) hL hl
                · refine lv_iconst (v := 1) G.1 G.2.1 dX2_place_42 (by decide) ?_
                  refine lv_goto (tgt := 47) G.1 G.2.1 dX2_place_43 (by decide) ?_
                  refine hb_istore_n G dX2_place_47 hl (by decide) (fun ls hl => ?_)
                  have hl : lh ls 4 [some (.ref r), some (.int b), some (.int 1), some (.int b3)] := hl
                  obtain ⟨t_12, et_12⟩ : ∃ z : Int32, z = b3 + 1 := ⟨_, rfl⟩
                  refine hb_iinc (v := t_12) G dX2_place_48 hl rfl (by rw [et_12]; rfl) (by decide) (fun ls hl => ?_)
                  have hl : lh ls 4 [some (.ref r), some (.int b), some (.int 1), some (.int t_12)] := hl
                  refine lv_goto (tgt := 19) G.1 G.2.1 dX2_place_51 (by decide) ?_
                  exact ih (i2 + 1) 1 t_12 locs ls (by omega) (by omega) ((if_pos (show (mFrB (A 4) (4 + j) i2 && A 4 (4 + j + i2) == 0) = true by rw [← er_9]; simp [hfr, c_10])).symm) (by rw [et_12, eb3]; exact nI_1 _) hL hl
        refine lv_iconst (v := 1) G.1 G.2.1 dX2_place_15 (by decide) ?_
        refine hb_istore_n G dX2_place_16 hl (by decide) (fun ls hl => ?_)
        have hl : lh ls 4 [some (.ref r), some (.int b), some (.int 1), none] := hl
        refine hb_iload_n G dX2_place_17 hl rfl ?_
        refine hb_istore_n G dX2_place_18 hl (by decide) (fun ls hl => ?_)
        have hl : lh ls 4 [some (.ref r), some (.int b), some (.int 1), some (.int b)] := hl
        exact lpi (S + 1) 0 1 b locs ls (by omega) (by omega) rfl eb hL hl
  refine lv_iconst (v := 4) G.1 G.2.1 dX2_place_0 (by decide) ?_
  refine hb_istore_n G dX2_place_1 hl (by decide) (fun ls hl => ?_)
  have hl : lh ls 4 [some (.ref r), some (.int 4), none, none] := hl
  exact lp (B + 1 - S - 4 + 1) 0 4 [] ls (by omega) (by omega) rfl rfl hL hl
set_option maxHeartbeats 4000000 in
set_option maxRecDepth 100000 in
/-- spend -/
theorem m_spend (g : Gx) (l : Launch) (r S B C : Nat) (a : Nat → Nat) (A : Nat → Nat → Int32) (cd wr lf dn : Int32) (en pl : Nat) (H : Heap) (h : mdAt g r S B C a A cd wr lf dn en pl H) (n : Int32) : HM g l yX2_spend cX2_spend 4 (some .boolean) 0 0 0 0 [.ref r, .int n] H (fun v H1 => v = some (.int (spR lf n)) ∧ mdAt g r S B C a A cd (wr + spW lf n) (spL lf n) (spN lf n) en pl H1 ∧ Fo r H H1) (f1 r) := by
  refine HM.ofW (by decide) (Nat.le_of_ble_eq_true rfl) (by simp [Value.category]) ?_
  intro p e s m args below meth c ls G hr hml hlocks hnm hH hl
  have hl : lh ls 4 [some (.ref r), some (.int n), none, none] := hl
  have hL : ∀ q ∈ ([] : List Loc), (f1 r) q.base := fun q h => by cases h
  refine hb_aload_n G dX2_spend_0 hl rfl ?_
  refine hb_get G h.1 rfl inX2 4 (by decide) kf_X2_7 rfl rfl dX2_spend_1 ?_
  refine lv_if_lt (tgt := 19) G.1 G.2.1 dX2_spend_4 (by decide) (fun c_1 => ?_) (fun c_1 => ?_)
  · have hsp : ¬ spF lf n := fun q => i32_nlt.mpr q.1 c_1
    have hW : spW lf n = n := by unfold spW; rw [if_neg hsp]
    have hN : spN lf n = 0 := by unfold spN; rw [if_neg hsp]
    refine lv_iconst (v := 0) G.1 G.2.1 dX2_spend_19 (by decide) ?_
    refine hb_istore_n G dX2_spend_20 hl (by decide) (fun ls hl => ?_)
    have hl : lh ls 4 [some (.ref r), some (.int n), some (.int 0), none] := hl
    refine hb_iload_n G dX2_spend_21 hl rfl ?_
    refine lv_if_eq (tgt := 32) G.1 G.2.1 dX2_spend_22 (by decide) (fun c_2 => ?_) (fun c_2 => ?_)
    · refine hb_iload_n G dX2_spend_32 hl rfl ?_
      refine hb_istore_n G dX2_spend_33 hl (by decide) (fun ls hl => ?_)
      have hl : lh ls 4 [some (.ref r), some (.int n), some (.int 0), some (.int n)] := hl
      refine hb_aload_n G dX2_spend_34 hl rfl ?_
      refine lv_dup G.1 G.2.1 dX2_spend_35 rfl ?_
      refine hb_get G h.1 rfl inX2 3 (by decide) kf_X2_68 rfl rfl dX2_spend_36 ?_
      refine hb_iload_n G dX2_spend_39 hl rfl ?_
      refine lv_iadd G.1 G.2.1 dX2_spend_40 ?_
      refine lv_topi (fun t_3 et_3 => ?_)
      refine hb_put G h.1 rfl inX2 tyX2 tyX2_ok nmX2 3 (by decide) kf_X2_68 rfl rfl rfl rfl (Nat.le_of_ble_eq_true rfl) hL (rfl) dX2_spend_41 (fun K1 locs1 hf1 hz1 ho1 hL => ?_)
      have hk1 := h.fd (wr2 := t_3) hf1 ⟨hz1, ho1⟩
      refine hb_aload_n G dX2_spend_44 hl rfl ?_
      refine lv_dup G.1 G.2.1 dX2_spend_45 rfl ?_
      refine hb_get G hk1.1 rfl inX2 4 (by decide) kf_X2_7 rfl rfl dX2_spend_46 ?_
      refine hb_aload_n G dX2_spend_49 hl rfl ?_
      refine hb_get G hk1.1 rfl inX2 4 (by decide) kf_X2_7 rfl rfl dX2_spend_50 ?_
      refine lv_if_ge (tgt := 60) G.1 G.2.1 dX2_spend_53 (by decide) (fun c_4 => ?_) (fun c_4 => ?_)
      · have hlf : spL lf n = lf - spW lf n := by unfold spL; rw [if_neg (i32_nlt.mpr c_4)]
        refine hb_iload_n G dX2_spend_60 hl rfl ?_
        refine lv_isub G.1 G.2.1 dX2_spend_61 ?_
        refine lv_topi (fun t_5 et_5 => ?_)
        refine hb_put G hk1.1 rfl inX2 tyX2 tyX2_ok nmX2 4 (by decide) kf_X2_7 rfl rfl rfl rfl (Nat.le_of_ble_eq_true rfl) hL (rfl) dX2_spend_62 (fun K2 locs2 hf2 hz2 ho2 hL => ?_)
        have hk2 := hk1.fd (lf2 := t_5) hf2 ⟨hz2, ho2⟩
        refine hb_aload_n G dX2_spend_65 hl rfl ?_
        refine hb_iload_n G dX2_spend_66 hl rfl ?_
        refine hb_put G hk2.1 rfl inX2 tyX2 tyX2_ok nmX2 5 (by decide) kf_X2_60 rfl rfl rfl rfl (Nat.le_of_ble_eq_true rfl) hL (rfl) dX2_spend_67 (fun K3 locs3 hf3 hz3 ho3 hL => ?_)
        have hk3 := hk2.fd (dn2 := 0) hf3 ⟨hz3, ho3⟩
        have hkk : mdAt g r S B C a A cd (wr + spW lf n) (spL lf n) (spN lf n) en pl K3 := by
          rw [hlf, hN, hW, ← et_3]
          have h9 : t_5 = lf - n := et_5
          first | (rw [← h9]; exact hk3) | (rw [show lf - 0 = lf - 0 from rfl, ← h9]; exact hk3)
        have hF : Fo r H K3 := Fo.tr ⟨hz1, ho1⟩ (Fo.tr ⟨hz2, ho2⟩ ⟨hz3, ho3⟩)
        refine hb_iload_n G dX2_spend_70 hl rfl ?_
        refine hb_iload_n G dX2_spend_71 hl rfl ?_
        refine lv_icmp_ne (tgt := 79) G.1 G.2.1 dX2_spend_72 (by decide) (fun c_6 => ?_) (fun c_6 => ?_)
        · refine lv_iconst (v := 0) G.1 G.2.1 dX2_spend_79 (by decide) ?_
          exact hb_zret G hr hlocks (by decide) ⟨by unfold spR; rw [if_neg (by rw [hW]; exact c_6)], hkk, hF⟩ hL (Nat.le_refl _) (Nat.le_refl _) dX2_spend_80
        · refine lv_iconst (v := 1) G.1 G.2.1 dX2_spend_75 (by decide) ?_
          refine lv_goto (tgt := 80) G.1 G.2.1 dX2_spend_76 (by decide) ?_
          exact hb_zret G hr hlocks (by decide) ⟨by unfold spR; rw [if_pos (by first | (rw [hW]; done) | (rw [hW]; exact c_6))], hkk, hF⟩ hL (Nat.le_refl _) (Nat.le_refl _) dX2_spend_80
      · have hlf : spL lf n = lf - 0 := by unfold spL; rw [if_pos (i32_nle.mp c_4)]
        refine lv_iconst (v := 0) G.1 G.2.1 dX2_spend_56 (by decide) ?_
        refine lv_goto (tgt := 61) G.1 G.2.1 dX2_spend_57 (by decide) ?_
        refine lv_isub G.1 G.2.1 dX2_spend_61 ?_
        refine lv_topi (fun t_7 et_7 => ?_)
        refine hb_put G hk1.1 rfl inX2 tyX2 tyX2_ok nmX2 4 (by decide) kf_X2_7 rfl rfl rfl rfl (Nat.le_of_ble_eq_true rfl) hL (rfl) dX2_spend_62 (fun K2 locs2 hf2 hz2 ho2 hL => ?_)
        have hk2 := hk1.fd (lf2 := t_7) hf2 ⟨hz2, ho2⟩
        refine hb_aload_n G dX2_spend_65 hl rfl ?_
        refine hb_iload_n G dX2_spend_66 hl rfl ?_
        refine hb_put G hk2.1 rfl inX2 tyX2 tyX2_ok nmX2 5 (by decide) kf_X2_60 rfl rfl rfl rfl (Nat.le_of_ble_eq_true rfl) hL (rfl) dX2_spend_67 (fun K3 locs3 hf3 hz3 ho3 hL => ?_)
        have hk3 := hk2.fd (dn2 := 0) hf3 ⟨hz3, ho3⟩
        have hkk : mdAt g r S B C a A cd (wr + spW lf n) (spL lf n) (spN lf n) en pl K3 := by
          rw [hlf, hN, hW, ← et_3]
          have h9 : t_7 = lf - 0 := et_7
          first | (rw [← h9]; exact hk3) | (rw [show lf - 0 = lf - 0 from rfl, ← h9]; exact hk3)
        have hF : Fo r H K3 := Fo.tr ⟨hz1, ho1⟩ (Fo.tr ⟨hz2, ho2⟩ ⟨hz3, ho3⟩)
        refine hb_iload_n G dX2_spend_70 hl rfl ?_
        refine hb_iload_n G dX2_spend_71 hl rfl ?_
        refine lv_icmp_ne (tgt := 79) G.1 G.2.1 dX2_spend_72 (by decide) (fun c_8 => ?_) (fun c_8 => ?_)
        · refine lv_iconst (v := 0) G.1 G.2.1 dX2_spend_79 (by decide) ?_
          exact hb_zret G hr hlocks (by decide) ⟨by unfold spR; rw [if_neg (by rw [hW]; exact c_8)], hkk, hF⟩ hL (Nat.le_refl _) (Nat.le_refl _) dX2_spend_80
        · refine lv_iconst (v := 1) G.1 G.2.1 dX2_spend_75 (by decide) ?_
          refine lv_goto (tgt := 80) G.1 G.2.1 dX2_spend_76 (by decide) ?_
          exact hb_zret G hr hlocks (by decide) ⟨by unfold spR; rw [if_pos (by first | (rw [hW]; done) | (rw [hW]; exact c_8))], hkk, hF⟩ hL (Nat.le_refl _) (Nat.le_refl _) dX2_spend_80
    · exact absurd rfl c_2
  · refine hb_aload_n G dX2_spend_7 hl rfl ?_
    refine hb_get G h.1 rfl inX2 4 (by decide) kf_X2_7 rfl rfl dX2_spend_8 ?_
    refine hb_iload_n G dX2_spend_11 hl rfl ?_
    refine lv_icmp_gt (tgt := 19) G.1 G.2.1 dX2_spend_12 (by decide) (fun c_9 => ?_) (fun c_9 => ?_)
    · have hsp : ¬ spF lf n := fun q => i32_nlt.mpr q.2 c_9
      have hW : spW lf n = n := by unfold spW; rw [if_neg hsp]
      have hN : spN lf n = 0 := by unfold spN; rw [if_neg hsp]
      refine lv_iconst (v := 0) G.1 G.2.1 dX2_spend_19 (by decide) ?_
      refine hb_istore_n G dX2_spend_20 hl (by decide) (fun ls hl => ?_)
      have hl : lh ls 4 [some (.ref r), some (.int n), some (.int 0), none] := hl
      refine hb_iload_n G dX2_spend_21 hl rfl ?_
      refine lv_if_eq (tgt := 32) G.1 G.2.1 dX2_spend_22 (by decide) (fun c_10 => ?_) (fun c_10 => ?_)
      · refine hb_iload_n G dX2_spend_32 hl rfl ?_
        refine hb_istore_n G dX2_spend_33 hl (by decide) (fun ls hl => ?_)
        have hl : lh ls 4 [some (.ref r), some (.int n), some (.int 0), some (.int n)] := hl
        refine hb_aload_n G dX2_spend_34 hl rfl ?_
        refine lv_dup G.1 G.2.1 dX2_spend_35 rfl ?_
        refine hb_get G h.1 rfl inX2 3 (by decide) kf_X2_68 rfl rfl dX2_spend_36 ?_
        refine hb_iload_n G dX2_spend_39 hl rfl ?_
        refine lv_iadd G.1 G.2.1 dX2_spend_40 ?_
        refine lv_topi (fun t_11 et_11 => ?_)
        refine hb_put G h.1 rfl inX2 tyX2 tyX2_ok nmX2 3 (by decide) kf_X2_68 rfl rfl rfl rfl (Nat.le_of_ble_eq_true rfl) hL (rfl) dX2_spend_41 (fun K1 locs1 hf1 hz1 ho1 hL => ?_)
        have hk1 := h.fd (wr2 := t_11) hf1 ⟨hz1, ho1⟩
        refine hb_aload_n G dX2_spend_44 hl rfl ?_
        refine lv_dup G.1 G.2.1 dX2_spend_45 rfl ?_
        refine hb_get G hk1.1 rfl inX2 4 (by decide) kf_X2_7 rfl rfl dX2_spend_46 ?_
        refine hb_aload_n G dX2_spend_49 hl rfl ?_
        refine hb_get G hk1.1 rfl inX2 4 (by decide) kf_X2_7 rfl rfl dX2_spend_50 ?_
        refine lv_if_ge (tgt := 60) G.1 G.2.1 dX2_spend_53 (by decide) (fun c_12 => ?_) (fun c_12 => ?_)
        · have hlf : spL lf n = lf - spW lf n := by unfold spL; rw [if_neg (i32_nlt.mpr c_12)]
          refine hb_iload_n G dX2_spend_60 hl rfl ?_
          refine lv_isub G.1 G.2.1 dX2_spend_61 ?_
          refine lv_topi (fun t_13 et_13 => ?_)
          refine hb_put G hk1.1 rfl inX2 tyX2 tyX2_ok nmX2 4 (by decide) kf_X2_7 rfl rfl rfl rfl (Nat.le_of_ble_eq_true rfl) hL (rfl) dX2_spend_62 (fun K2 locs2 hf2 hz2 ho2 hL => ?_)
          have hk2 := hk1.fd (lf2 := t_13) hf2 ⟨hz2, ho2⟩
          refine hb_aload_n G dX2_spend_65 hl rfl ?_
          refine hb_iload_n G dX2_spend_66 hl rfl ?_
          refine hb_put G hk2.1 rfl inX2 tyX2 tyX2_ok nmX2 5 (by decide) kf_X2_60 rfl rfl rfl rfl (Nat.le_of_ble_eq_true rfl) hL (rfl) dX2_spend_67 (fun K3 locs3 hf3 hz3 ho3 hL => ?_)
          have hk3 := hk2.fd (dn2 := 0) hf3 ⟨hz3, ho3⟩
          have hkk : mdAt g r S B C a A cd (wr + spW lf n) (spL lf n) (spN lf n) en pl K3 := by
            rw [hlf, hN, hW, ← et_11]
            have h9 : t_13 = lf - n := et_13
            first | (rw [← h9]; exact hk3) | (rw [show lf - 0 = lf - 0 from rfl, ← h9]; exact hk3)
          have hF : Fo r H K3 := Fo.tr ⟨hz1, ho1⟩ (Fo.tr ⟨hz2, ho2⟩ ⟨hz3, ho3⟩)
          refine hb_iload_n G dX2_spend_70 hl rfl ?_
          refine hb_iload_n G dX2_spend_71 hl rfl ?_
          refine lv_icmp_ne (tgt := 79) G.1 G.2.1 dX2_spend_72 (by decide) (fun c_14 => ?_) (fun c_14 => ?_)
          · refine lv_iconst (v := 0) G.1 G.2.1 dX2_spend_79 (by decide) ?_
            exact hb_zret G hr hlocks (by decide) ⟨by unfold spR; rw [if_neg (by rw [hW]; exact c_14)], hkk, hF⟩ hL (Nat.le_refl _) (Nat.le_refl _) dX2_spend_80
          · refine lv_iconst (v := 1) G.1 G.2.1 dX2_spend_75 (by decide) ?_
            refine lv_goto (tgt := 80) G.1 G.2.1 dX2_spend_76 (by decide) ?_
            exact hb_zret G hr hlocks (by decide) ⟨by unfold spR; rw [if_pos (by first | (rw [hW]; done) | (rw [hW]; exact c_14))], hkk, hF⟩ hL (Nat.le_refl _) (Nat.le_refl _) dX2_spend_80
        · have hlf : spL lf n = lf - 0 := by unfold spL; rw [if_pos (i32_nle.mp c_12)]
          refine lv_iconst (v := 0) G.1 G.2.1 dX2_spend_56 (by decide) ?_
          refine lv_goto (tgt := 61) G.1 G.2.1 dX2_spend_57 (by decide) ?_
          refine lv_isub G.1 G.2.1 dX2_spend_61 ?_
          refine lv_topi (fun t_15 et_15 => ?_)
          refine hb_put G hk1.1 rfl inX2 tyX2 tyX2_ok nmX2 4 (by decide) kf_X2_7 rfl rfl rfl rfl (Nat.le_of_ble_eq_true rfl) hL (rfl) dX2_spend_62 (fun K2 locs2 hf2 hz2 ho2 hL => ?_)
          have hk2 := hk1.fd (lf2 := t_15) hf2 ⟨hz2, ho2⟩
          refine hb_aload_n G dX2_spend_65 hl rfl ?_
          refine hb_iload_n G dX2_spend_66 hl rfl ?_
          refine hb_put G hk2.1 rfl inX2 tyX2 tyX2_ok nmX2 5 (by decide) kf_X2_60 rfl rfl rfl rfl (Nat.le_of_ble_eq_true rfl) hL (rfl) dX2_spend_67 (fun K3 locs3 hf3 hz3 ho3 hL => ?_)
          have hk3 := hk2.fd (dn2 := 0) hf3 ⟨hz3, ho3⟩
          have hkk : mdAt g r S B C a A cd (wr + spW lf n) (spL lf n) (spN lf n) en pl K3 := by
            rw [hlf, hN, hW, ← et_11]
            have h9 : t_15 = lf - 0 := et_15
            first | (rw [← h9]; exact hk3) | (rw [show lf - 0 = lf - 0 from rfl, ← h9]; exact hk3)
          have hF : Fo r H K3 := Fo.tr ⟨hz1, ho1⟩ (Fo.tr ⟨hz2, ho2⟩ ⟨hz3, ho3⟩)
          refine hb_iload_n G dX2_spend_70 hl rfl ?_
          refine hb_iload_n G dX2_spend_71 hl rfl ?_
          refine lv_icmp_ne (tgt := 79) G.1 G.2.1 dX2_spend_72 (by decide) (fun c_16 => ?_) (fun c_16 => ?_)
          · refine lv_iconst (v := 0) G.1 G.2.1 dX2_spend_79 (by decide) ?_
            exact hb_zret G hr hlocks (by decide) ⟨by unfold spR; rw [if_neg (by rw [hW]; exact c_16)], hkk, hF⟩ hL (Nat.le_refl _) (Nat.le_refl _) dX2_spend_80
          · refine lv_iconst (v := 1) G.1 G.2.1 dX2_spend_75 (by decide) ?_
            refine lv_goto (tgt := 80) G.1 G.2.1 dX2_spend_76 (by decide) ?_
            exact hb_zret G hr hlocks (by decide) ⟨by unfold spR; rw [if_pos (by first | (rw [hW]; done) | (rw [hW]; exact c_16))], hkk, hF⟩ hL (Nat.le_refl _) (Nat.le_refl _) dX2_spend_80
      · exact absurd rfl c_10
    · have hsp : spF lf n := ⟨i32_nlt.mp c_1, i32_nlt.mp c_9⟩
      have hW : spW lf n = lf := by unfold spW; rw [if_pos hsp]
      have hN : spN lf n = 1 := by unfold spN; rw [if_pos hsp]
      refine lv_iconst (v := 1) G.1 G.2.1 dX2_spend_15 (by decide) ?_
      refine lv_goto (tgt := 20) G.1 G.2.1 dX2_spend_16 (by decide) ?_
      refine hb_istore_n G dX2_spend_20 hl (by decide) (fun ls hl => ?_)
      have hl : lh ls 4 [some (.ref r), some (.int n), some (.int 1), none] := hl
      refine hb_iload_n G dX2_spend_21 hl rfl ?_
      refine lv_if_eq (tgt := 32) G.1 G.2.1 dX2_spend_22 (by decide) (fun c_17 => ?_) (fun c_17 => ?_)
      · exact absurd c_17 (by decide)
      · refine hb_aload_n G dX2_spend_25 hl rfl ?_
        refine hb_get G h.1 rfl inX2 4 (by decide) kf_X2_7 rfl rfl dX2_spend_26 ?_
        refine lv_goto (tgt := 33) G.1 G.2.1 dX2_spend_29 (by decide) ?_
        refine hb_istore_n G dX2_spend_33 hl (by decide) (fun ls hl => ?_)
        have hl : lh ls 4 [some (.ref r), some (.int n), some (.int 1), some (.int lf)] := hl
        refine hb_aload_n G dX2_spend_34 hl rfl ?_
        refine lv_dup G.1 G.2.1 dX2_spend_35 rfl ?_
        refine hb_get G h.1 rfl inX2 3 (by decide) kf_X2_68 rfl rfl dX2_spend_36 ?_
        refine hb_iload_n G dX2_spend_39 hl rfl ?_
        refine lv_iadd G.1 G.2.1 dX2_spend_40 ?_
        refine lv_topi (fun t_18 et_18 => ?_)
        refine hb_put G h.1 rfl inX2 tyX2 tyX2_ok nmX2 3 (by decide) kf_X2_68 rfl rfl rfl rfl (Nat.le_of_ble_eq_true rfl) hL (rfl) dX2_spend_41 (fun K1 locs1 hf1 hz1 ho1 hL => ?_)
        have hk1 := h.fd (wr2 := t_18) hf1 ⟨hz1, ho1⟩
        refine hb_aload_n G dX2_spend_44 hl rfl ?_
        refine lv_dup G.1 G.2.1 dX2_spend_45 rfl ?_
        refine hb_get G hk1.1 rfl inX2 4 (by decide) kf_X2_7 rfl rfl dX2_spend_46 ?_
        refine hb_aload_n G dX2_spend_49 hl rfl ?_
        refine hb_get G hk1.1 rfl inX2 4 (by decide) kf_X2_7 rfl rfl dX2_spend_50 ?_
        refine lv_if_ge (tgt := 60) G.1 G.2.1 dX2_spend_53 (by decide) (fun c_19 => ?_) (fun c_19 => ?_)
        · have hlf : spL lf n = lf - spW lf n := by unfold spL; rw [if_neg (i32_nlt.mpr c_19)]
          refine hb_iload_n G dX2_spend_60 hl rfl ?_
          refine lv_isub G.1 G.2.1 dX2_spend_61 ?_
          refine lv_topi (fun t_20 et_20 => ?_)
          refine hb_put G hk1.1 rfl inX2 tyX2 tyX2_ok nmX2 4 (by decide) kf_X2_7 rfl rfl rfl rfl (Nat.le_of_ble_eq_true rfl) hL (rfl) dX2_spend_62 (fun K2 locs2 hf2 hz2 ho2 hL => ?_)
          have hk2 := hk1.fd (lf2 := t_20) hf2 ⟨hz2, ho2⟩
          refine hb_aload_n G dX2_spend_65 hl rfl ?_
          refine hb_iload_n G dX2_spend_66 hl rfl ?_
          refine hb_put G hk2.1 rfl inX2 tyX2 tyX2_ok nmX2 5 (by decide) kf_X2_60 rfl rfl rfl rfl (Nat.le_of_ble_eq_true rfl) hL (rfl) dX2_spend_67 (fun K3 locs3 hf3 hz3 ho3 hL => ?_)
          have hk3 := hk2.fd (dn2 := 1) hf3 ⟨hz3, ho3⟩
          have hkk : mdAt g r S B C a A cd (wr + spW lf n) (spL lf n) (spN lf n) en pl K3 := by
            rw [hlf, hN, hW, ← et_18]
            have h9 : t_20 = lf - lf := et_20
            first | (rw [← h9]; exact hk3) | (rw [show lf - 0 = lf - 0 from rfl, ← h9]; exact hk3)
          have hF : Fo r H K3 := Fo.tr ⟨hz1, ho1⟩ (Fo.tr ⟨hz2, ho2⟩ ⟨hz3, ho3⟩)
          refine hb_iload_n G dX2_spend_70 hl rfl ?_
          refine hb_iload_n G dX2_spend_71 hl rfl ?_
          refine lv_icmp_ne (tgt := 79) G.1 G.2.1 dX2_spend_72 (by decide) (fun c_21 => ?_) (fun c_21 => ?_)
          · refine lv_iconst (v := 0) G.1 G.2.1 dX2_spend_79 (by decide) ?_
            exact hb_zret G hr hlocks (by decide) ⟨by unfold spR; rw [if_neg (by rw [hW]; exact c_21)], hkk, hF⟩ hL (Nat.le_refl _) (Nat.le_refl _) dX2_spend_80
          · refine lv_iconst (v := 1) G.1 G.2.1 dX2_spend_75 (by decide) ?_
            refine lv_goto (tgt := 80) G.1 G.2.1 dX2_spend_76 (by decide) ?_
            exact hb_zret G hr hlocks (by decide) ⟨by unfold spR; rw [if_pos (by first | (rw [hW]; done) | (rw [hW]; exact c_21))], hkk, hF⟩ hL (Nat.le_refl _) (Nat.le_refl _) dX2_spend_80
        · have hlf : spL lf n = lf - 0 := by unfold spL; rw [if_pos (i32_nle.mp c_19)]
          refine lv_iconst (v := 0) G.1 G.2.1 dX2_spend_56 (by decide) ?_
          refine lv_goto (tgt := 61) G.1 G.2.1 dX2_spend_57 (by decide) ?_
          refine lv_isub G.1 G.2.1 dX2_spend_61 ?_
          refine lv_topi (fun t_22 et_22 => ?_)
          refine hb_put G hk1.1 rfl inX2 tyX2 tyX2_ok nmX2 4 (by decide) kf_X2_7 rfl rfl rfl rfl (Nat.le_of_ble_eq_true rfl) hL (rfl) dX2_spend_62 (fun K2 locs2 hf2 hz2 ho2 hL => ?_)
          have hk2 := hk1.fd (lf2 := t_22) hf2 ⟨hz2, ho2⟩
          refine hb_aload_n G dX2_spend_65 hl rfl ?_
          refine hb_iload_n G dX2_spend_66 hl rfl ?_
          refine hb_put G hk2.1 rfl inX2 tyX2 tyX2_ok nmX2 5 (by decide) kf_X2_60 rfl rfl rfl rfl (Nat.le_of_ble_eq_true rfl) hL (rfl) dX2_spend_67 (fun K3 locs3 hf3 hz3 ho3 hL => ?_)
          have hk3 := hk2.fd (dn2 := 1) hf3 ⟨hz3, ho3⟩
          have hkk : mdAt g r S B C a A cd (wr + spW lf n) (spL lf n) (spN lf n) en pl K3 := by
            rw [hlf, hN, hW, ← et_18]
            have h9 : t_22 = lf - 0 := et_22
            first | (rw [← h9]; exact hk3) | (rw [show lf - 0 = lf - 0 from rfl, ← h9]; exact hk3)
          have hF : Fo r H K3 := Fo.tr ⟨hz1, ho1⟩ (Fo.tr ⟨hz2, ho2⟩ ⟨hz3, ho3⟩)
          refine hb_iload_n G dX2_spend_70 hl rfl ?_
          refine hb_iload_n G dX2_spend_71 hl rfl ?_
          refine lv_icmp_ne (tgt := 79) G.1 G.2.1 dX2_spend_72 (by decide) (fun c_23 => ?_) (fun c_23 => ?_)
          · refine lv_iconst (v := 0) G.1 G.2.1 dX2_spend_79 (by decide) ?_
            exact hb_zret G hr hlocks (by decide) ⟨by unfold spR; rw [if_neg (by rw [hW]; exact c_23)], hkk, hF⟩ hL (Nat.le_refl _) (Nat.le_refl _) dX2_spend_80
          · refine lv_iconst (v := 1) G.1 G.2.1 dX2_spend_75 (by decide) ?_
            refine lv_goto (tgt := 80) G.1 G.2.1 dX2_spend_76 (by decide) ?_
            exact hb_zret G hr hlocks (by decide) ⟨by unfold spR; rw [if_pos (by first | (rw [hW]; done) | (rw [hW]; exact c_23))], hkk, hF⟩ hL (Nat.le_refl _) (Nat.le_refl _) dX2_spend_80
