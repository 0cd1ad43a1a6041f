def mRt (A : Nat → Nat → Int32) (i en : Nat) (most : Int32) : Nat → Nat → Int32 → Nat → Nat × Nat
  | 0, k, _, lo => (k, lo)
  | d + 1, k, rs, lo => if most ≤ rs - A 2 (60 * i + k) then mRt A i en most d (k + 1) (rs - A 2 (60 * i + k)) (lo + mIn A (nI i) (A 1 (60 * i + k)) en) else (k, lo)
theorem mRt_le (A : Nat → Nat → Int32) (i en : Nat) (most : Int32) : ∀ d k rs lo, (mRt A i en most d k rs lo).1 ≤ k + d ∧ (mRt A i en most d k rs lo).2 ≤ lo + d * en
  | 0, k, rs, lo => ⟨Nat.le_refl _, by simp [mRt]⟩
  | d + 1, k, rs, lo => by
    have h1 := mRt_le A i en most d (k + 1) (rs - A 2 (60 * i + k)) (lo + mIn A (nI i) (A 1 (60 * i + k)) en)
    have h2 := mIn_le A (nI i) (A 1 (60 * i + k)) en
    have h3 : (d + 1) * en = d * en + en := Nat.succ_mul d en
    simp only [mRt]
    split
    · omega
    · simp
def mSh (f : Nat → Int32) (b g : Nat) : Nat → (Nat → Int32)
  | 0 => f
  | j + 1 => upd (mSh f b g j) (b + j) (f (b + g + j))
theorem mSh_ge (f : Nat → Int32) (b g : Nat) : ∀ j q, b + j ≤ q → mSh f b g j q = f q
  | 0, _, _ => rfl
  | j + 1, q, h => by
    simp only [mSh]
    rw [pk_un (by omega)]
    exact mSh_ge f b g j q (by omega)
def cK (kp : Nat → Bool) : Nat → Nat
  | 0 => 0
  | e + 1 => cK kp e + (if kp e = true then 1 else 0)
theorem cK_le (kp : Nat → Bool) : ∀ e, cK kp e ≤ e
  | 0 => Nat.le_refl 0
  | e + 1 => by
    have := cK_le kp e
    simp only [cK]
    split <;> omega
theorem cK_mono (kp : Nat → Bool) {a b : Nat} (h : a ≤ b) : cK kp a ≤ cK kp b := by
  induction b with
  | zero => rw [show a = 0 by omega]; exact Nat.le_refl _
  | succ b ih =>
    by_cases hb : a = b + 1
    · rw [hb]; exact Nat.le_refl _
    · have := ih (by omega)
      simp only [cK]; omega
/-- rows 5 .. 9 keep the entries that kp names, in their order, from the front -/
def mComp (A A2 : Nat → Nat → Int32) (kp : Nat → Bool) (en : Nat) : Prop := ∀ k e, 5 ≤ k → k ≤ 9 → e < en → kp e = true → A2 k (cK kp e) = A k e
/-- an entry stays in retention: it's none of the first lo of log i -/
def kpR (A : Nat → Nat → Int32) (i lo : Nat) : Nat → Bool := fun e => !(decide (A 5 e = nI i) && decide (mCnt (A 5) (nI i) e < lo))
abbrev mOkR (x n : Int32) : Prop := (0 ≤ x ∧ x < 4) ∧ 0 ≤ n
def mRV (A : Nat → Nat → Int32) (i en : Nat) (n : Int32) : Nat × Nat := mRt A i en n (tn (A 0 i) - 1) 0 (lgSm (A 2) (60 * i) (tn (A 0 i))) 0
def mRetd (g : Gx) (r S B C : Nat) (a : Nat → Nat) (A : Nat → Nat → Int32) (cd wr lf dn : Int32) (en pl : Nat) (x n : Int32) (H : Heap) (v : Option Value) (H1 : Heap) : Prop :=
  (¬ goC (if mOkR x n then 1 else 0) dn = 0 ∧ v = some (.int 0) ∧ mdAt g r S B C a A (goC (if mOkR x n then 1 else 0) dn) wr lf dn en pl H1 ∧ Mo r a H H1) ∨
  (∃ i, i < 4 ∧ x = nI i ∧ 0 ≤ n ∧ dn = 0 ∧
    (((mRV A i en n).1 = 0 ∧ v = some (.int 0) ∧ mdAt g r S B C a A 0 wr lf dn en pl H1 ∧ Mo r a H H1) ∨
     (¬ (mRV A i en n).1 = 0 ∧ v = some (.int (if spN lf 1 = 0 then nI (mRV A i en n).1 else -3)) ∧ Mo r a H H1 ∧
       ((spR lf 1 = 0 ∧ mdAt g r S B C a A 0 (wr + spW lf 1) (spL lf 1) (spN lf 1) en pl H1) ∨
        (¬ spR lf 1 = 0 ∧ ∃ A2 : Nat → Nat → Int32, mdAt g r S B C a A2 0 (wr + spW lf 1) (spL lf 1) (spN lf 1) (cK (kpR A i (mRV A i en n).2) en) pl H1 ∧ A2 0 = upd (A 0) i (A 0 i - nI (mRV A i en n).1) ∧ A2 1 = mSh (A 1) (60 * i) (mRV A i en n).1 (tn (A 0 i) - (mRV A i en n).1) ∧ A2 2 = mSh (A 2) (60 * i) (mRV A i en n).1 (tn (A 0 i) - (mRV A i en n).1) ∧ A2 3 = A 3 ∧ mComp A A2 (kpR A i (mRV A i en n).2) en)))))
set_option maxHeartbeats 4000000 in
set_option maxRecDepth 100000 in
/-- retain -/
theorem m_retain (g : Gx) (l : Launch) (r S B C : Nat) (a : Nat → Nat) (A : Nat → Nat → Int32) (cd wr lf dn : Int32) (en pl : Nat) (H : Heap) (h : mdAt g r S B C a A cd wr lf dn en pl H) (hSB : dkB S B) (hA : sgOk S A) (hC1 : en ≤ C) (hC2 : C ≤ 512) (x n : Int32) : HM g l yX2_retain cX2_retain 11 (some .int) 2 66 0 0 [.ref r, .int x, .int n] H (mRetd g r S B C a A cd wr lf dn en pl x n H) (fM r a) := by
  refine HM.ofW (by decide) (Nat.le_of_ble_eq_true rfl) (by simp [Value.category]) ?_
  intro p e s m args below meth c ls G hr hml hlocks hnm hH hl
  have hl : lh ls 11 [some (.ref r), some (.int x), some (.int n), none, none, none, none, none, none, none, none] := hl
  have hL : ∀ q ∈ ([] : List Loc), (fM r a) q.base := fun q h => by cases h
  have hMr : ∀ q, f1 r q → fM r a q := fun q h9 => Or.inl h9
  have hB : mdB S B C en := ⟨hSB, hC1, hC2⟩
  refine hb_aload_n G dX2_retain_0 hl rfl ?_
  refine hb_iload_n G dX2_retain_1 hl rfl ?_
  refine hb_callS (As := [.int x]) (rest := [.ref r]) G hml (m_isLog g l x _) km_X2_78 kt_X2_isLog kn_X2 ko_X2_isLog hd_X2_isLog ⟨Nat.le_of_ble_eq_true rfl, Nat.le_of_ble_eq_true rfl⟩ hl.size rfl (Nat.le_of_ble_eq_true rfl) dX2_retain_2 ⟨Nat.le_of_ble_eq_true rfl, Nat.le_of_ble_eq_true rfl⟩ hL (f0_in) (fun v1 H locs1 hp hL => ?_)
  obtain ⟨rfl, rfl⟩ := hp
  refine lv_topi (fun r_1 er_1 => ?_)
  refine lv_if_eq (tgt := 16) G.1 G.2.1 dX2_retain_5 (by decide) (fun c_2 => ?_) (fun c_2 => ?_)
  · refine lv_iconst (v := 0) G.1 G.2.1 dX2_retain_16 (by decide) ?_
    have hok : ¬ (mOkR x n) := fun q => (it0 er_1).mp c_2 q.1
    refine hb_callV (As := [.int 0]) (rest := []) G hml (m_goes g l r S B C a A cd wr lf dn en pl _ h 0) (h.1) rfl km_X2_82 ki_X2_goes ks_X2_goes kn_X2 ko_X2_goes hd_X2_goes ⟨Nat.le_of_ble_eq_true rfl, Nat.le_of_ble_eq_true rfl⟩ hl.size rfl (Nat.le_of_ble_eq_true rfl) dX2_retain_17 ⟨Nat.le_of_ble_eq_true rfl, Nat.le_of_ble_eq_true rfl⟩ hL (hMr) (fun v1 K1 locs1 hp hL => ?_)
    obtain ⟨rfl, hk, hF⟩ := hp
    refine lv_topi (fun r_3 er_3 => ?_)
    refine lv_if_ne (tgt := 25) G.1 G.2.1 dX2_retain_20 (by decide) (fun c_4 => ?_) (fun c_4 => ?_)
    · exact absurd (by rw [er_3]; rfl) c_4
    · refine lv_iconst (v := 0) G.1 G.2.1 dX2_retain_23 (by decide) ?_
      exact hb_iret G hr hlocks (Or.inl ⟨by rw [if_neg hok]; show ¬ goC 0 dn = 0; unfold goC; rw [if_pos rfl]; decide, rfl, by rw [if_neg hok]; exact hk, Mo.fd hF⟩) hL (Nat.le_of_ble_eq_true rfl) (Nat.le_of_ble_eq_true rfl) dX2_retain_24
  · have hlg : 0 ≤ x ∧ x < 4 := Decidable.not_not.mp (fun q => c_2 ((it0 er_1).mpr q))
    refine hb_iload_n G dX2_retain_8 hl rfl ?_
    refine lv_if_lt (tgt := 16) G.1 G.2.1 dX2_retain_9 (by decide) (fun c_5 => ?_) (fun c_5 => ?_)
    · refine lv_iconst (v := 0) G.1 G.2.1 dX2_retain_16 (by decide) ?_
      have hok : ¬ (mOkR x n) := fun q => i32_nlt.mpr q.2 c_5
      refine hb_callV (As := [.int 0]) (rest := []) G hml (m_goes g l r S B C a A cd wr lf dn en pl _ h 0) (h.1) rfl km_X2_82 ki_X2_goes ks_X2_goes kn_X2 ko_X2_goes hd_X2_goes ⟨Nat.le_of_ble_eq_true rfl, Nat.le_of_ble_eq_true rfl⟩ hl.size rfl (Nat.le_of_ble_eq_true rfl) dX2_retain_17 ⟨Nat.le_of_ble_eq_true rfl, Nat.le_of_ble_eq_true rfl⟩ hL (hMr) (fun v1 K1 locs1 hp hL => ?_)
      obtain ⟨rfl, hk, hF⟩ := hp
      refine lv_topi (fun r_6 er_6 => ?_)
      refine lv_if_ne (tgt := 25) G.1 G.2.1 dX2_retain_20 (by decide) (fun c_7 => ?_) (fun c_7 => ?_)
      · exact absurd (by rw [er_6]; rfl) c_7
      · refine lv_iconst (v := 0) G.1 G.2.1 dX2_retain_23 (by decide) ?_
        exact hb_iret G hr hlocks (Or.inl ⟨by rw [if_neg hok]; show ¬ goC 0 dn = 0; unfold goC; rw [if_pos rfl]; decide, rfl, by rw [if_neg hok]; exact hk, Mo.fd hF⟩) hL (Nat.le_of_ble_eq_true rfl) (Nat.le_of_ble_eq_true rfl) dX2_retain_24
    · have hok : mOkR x n := ⟨hlg, i32_nlt.mp c_5⟩
      refine lv_iconst (v := 1) G.1 G.2.1 dX2_retain_12 (by decide) ?_
      refine lv_goto (tgt := 17) G.1 G.2.1 dX2_retain_13 (by decide) ?_
      refine hb_callV (As := [.int 1]) (rest := []) G hml (m_goes g l r S B C a A cd wr lf dn en pl _ h 1) (h.1) rfl km_X2_82 ki_X2_goes ks_X2_goes kn_X2 ko_X2_goes hd_X2_goes ⟨Nat.le_of_ble_eq_true rfl, Nat.le_of_ble_eq_true rfl⟩ hl.size rfl (Nat.le_of_ble_eq_true rfl) dX2_retain_17 ⟨Nat.le_of_ble_eq_true rfl, Nat.le_of_ble_eq_true rfl⟩ hL (hMr) (fun v1 K1 locs1 hp hL => ?_)
      obtain ⟨rfl, hk, hF⟩ := hp
      have hg1 : goC 1 dn = if dn = 0 then 0 else 2 := by unfold goC; rw [if_neg (by decide)]
      refine lv_topi (fun r_8 er_8 => ?_)
      refine lv_if_ne (tgt := 25) G.1 G.2.1 dX2_retain_20 (by decide) (fun c_9 => ?_) (fun c_9 => ?_)
      · have hg0 : goC 1 dn = 0 := Decidable.not_not.mp (fun q => c_9 ((it0 er_8).mpr q))
        have hdn : dn = 0 := Decidable.not_not.mp (fun q => by rw [hg1, if_neg q] at hg0; exact absurd hg0 (by decide))
        rw [hg0] at hk
        obtain ⟨i, hi, rfl⟩ := dkIs_of hlg
        obtain ⟨hs0, hs1, hs2⟩ := hA i hi
        have hRle := mRt_le A i en n (tn (A 0 i) - 1) 0 (lgSm (A 2) (60 * i) (tn (A 0 i))) 0
        have hRle : (mRV A i en n).1 ≤ 0 + (tn (A 0 i) - 1) ∧ (mRV A i en n).2 ≤ 0 + (tn (A 0 i) - 1) * en := hRle
        have hmul : (tn (A 0 i) - 1) * en ≤ 60 * 512 := Nat.mul_le_mul (by omega) (by omega)
        generalize hRe : mRV A i en n = RV at hRle
        have ex : ∀ (lo4 rs5 : Int32) (locs : List Loc) (ls : Array Slot), lo4 = nI RV.2 → (∀ q ∈ locs, fM r a q.base) → lh ls 11 [some (.ref r), some (.int (nI i)), some (.int n), some (.int (nI RV.1)), some (.int lo4), some (.int rs5), some (.int 0), none, none, none, none] → W p l e ({ frames := 2, cells := 0, slots := 0, locals := 66 } : Room) s m args below meth c K1 locs 0 0 (hQ below args s (mRetd g r S B C a A cd wr lf dn en pl (nI i) n H) 0 0 (fM r a)) (F0 m 120 ls []) := by
          intro lo4 rs5 locs ls elo hL hl
          refine hb_iload_n G dX2_retain_120 hl rfl ?_
          refine lv_if_ne (tgt := 126) G.1 G.2.1 dX2_retain_121 (by decide) (fun c_10 => ?_) (fun c_10 => ?_)
          · have hg9 : ¬ RV.1 = 0 := fun q => c_10 (by rw [q]; rfl)
            refine hb_aload_n G dX2_retain_126 hl rfl ?_
            refine lv_iconst (v := 1) G.1 G.2.1 dX2_retain_127 (by decide) ?_
            refine hb_callV (As := [.int 1]) (rest := []) G hml (m_spend g l r S B C a A 0 wr lf dn en pl _ hk 1) (hk.1) rfl km_X2_97 ki_X2_spend ks_X2_spend kn_X2 ko_X2_spend hd_X2_spend ⟨Nat.le_of_ble_eq_true rfl, Nat.le_of_ble_eq_true rfl⟩ hl.size rfl (Nat.le_of_ble_eq_true rfl) dX2_retain_128 ⟨Nat.le_of_ble_eq_true rfl, Nat.le_of_ble_eq_true rfl⟩ hL (hMr) (fun v1 K2 locs2 hp hL => ?_)
            obtain ⟨rfl, hk2, hF2⟩ := hp
            have hm2 : Mo r a _ K2 := (Mo.fd hF).tr (Mo.fd hF2)
            refine lv_topi (fun r_11 er_11 => ?_)
            refine lv_if_eq (tgt := 308) G.1 G.2.1 dX2_retain_131 (by decide) (fun c_12 => ?_) (fun c_12 => ?_)
            · refine hb_aload_n G dX2_retain_308 hl rfl ?_
              refine hb_get G hk2.1 rfl inX2 5 (by decide) kf_X2_60 rfl rfl dX2_retain_309 ?_
              refine lv_if_eq (tgt := 320) G.1 G.2.1 dX2_retain_312 (by decide) (fun c_13 => ?_) (fun c_13 => ?_)
              · refine hb_iload_n G dX2_retain_320 hl rfl ?_
                exact hb_iret G hr hlocks (Or.inr ⟨i, hi, rfl, hok.2, hdn, by rw [hRe]; exact Or.inr ⟨hg9, by rw [if_pos c_13], hm2, Or.inl ⟨by rw [← er_11]; exact c_12, hk2⟩⟩⟩) hL (Nat.le_of_ble_eq_true rfl) (Nat.le_of_ble_eq_true rfl) dX2_retain_321
              · refine lv_bipush (v := (-3)) G.1 G.2.1 dX2_retain_315 (by decide) ?_
                refine lv_goto (tgt := 321) G.1 G.2.1 dX2_retain_317 (by decide) ?_
                exact hb_iret G hr hlocks (Or.inr ⟨i, hi, rfl, hok.2, hdn, by rw [hRe]; exact Or.inr ⟨hg9, by rw [if_neg c_13], hm2, Or.inl ⟨by rw [← er_11]; exact c_12, hk2⟩⟩⟩) hL (Nat.le_of_ble_eq_true rfl) (Nat.le_of_ble_eq_true rfl) dX2_retain_321
            · have hspR : ¬ spR lf 1 = 0 := by rw [← er_11]; exact c_12
              have hgs : RV.1 < tn (A 0 i) := by omega
              generalize hkp : kpR A i RV.2 = kp at *
              have lpc : ∀ (k9 e2 : Nat) (me ke eb : Int32) (A2 : Nat → Nat → Int32) (K : Heap) (locs : List Loc) (ls : Array Slot), (en + 1 ≤ e2 + k9) → (e2 ≤ en) → (eb = nI e2) → (me = nI (mCnt (A 5) (nI i) e2)) → (ke = nI (cK kp e2)) → (mdAt g r S B C a A2 0 (wr + spW lf 1) (spL lf 1) (spN lf 1) en pl K) → (A2 0 = upd (A 0) i (A 0 i - nI RV.1)) → (A2 1 = mSh (A 1) (60 * i) RV.1 (tn (A 0 i) - RV.1)) → (A2 2 = mSh (A 2) (60 * i) RV.1 (tn (A 0 i) - RV.1)) → (A2 3 = A 3) → (mComp A A2 kp e2) → (∀ k q, 5 ≤ k → k ≤ 9 → e2 ≤ q → A2 k q = A k q) → (Mo r a H K) → (∀ q ∈ locs, (fM r a) q.base) → lh ls 11 [some (.ref r), some (.int (nI i)), some (.int n), some (.int (nI RV.1)), some (.int lo4), some (.int rs5), some (.int 0), some (.int me), some (.int ke), some (.int eb), none] → W p l e ({ frames := 2, cells := 0, slots := 0, locals := 66 } : Room) s m args below meth c K locs 0 0 (hQ below args s (mRetd g r S B C a A cd wr lf dn en pl (nI i) n H) 0 0 (fM r a)) (F0 m 225 ls []) := by
                intro k9
                induction k9 with
                | zero =>
                  intro e2 me ke eb A2 K locs ls hd9 he2 ee em ek hK h01 h02 h03 h04 hcm hge hmK hL hl
                  exfalso; omega
                | succ k9 ih =>
                  intro e2 me ke eb A2 K locs ls hd9 he2 ee em ek hK h01 h02 h03 h04 hcm hge hmK hL hl
                  have hcl := cK_le kp e2
                  have hmc := mCnt_le (A 5) (nI i) e2
                  refine hb_iload G dX2_retain_225 hl rfl ?_
                  refine hb_aload_n G dX2_retain_227 hl rfl ?_
                  refine hb_get G hK.1 rfl inX2 11 (by decide) kf_X2_71 rfl rfl dX2_retain_228 ?_
                  refine lv_icmp_ge (tgt := 302) G.1 G.2.1 dX2_retain_231 (by decide) (fun c_14 => ?_) (fun c_14 => ?_)
                  · have he3 : e2 = en := by have := (ic_le rfl ee (by omega) (by omega)).mp c_14; omega
                    subst he3
                    refine hb_aload_n G dX2_retain_302 hl rfl ?_
                    refine hb_iload G dX2_retain_303 hl rfl ?_
                    refine hb_put G hK.1 rfl inX2 tyX2 tyX2_ok nmX2 11 (by decide) kf_X2_71 rfl rfl rfl rfl (Nat.le_of_ble_eq_true rfl) hL (Or.inl rfl) dX2_retain_305 (fun K5 locs5 hf5 hz5 ho5 hL => ?_)
                    have hf5 : ob g r 2 (mdFs S B a 0 (wr + spW lf 1) (spL lf 1) (spN lf 1) (cK kp e2) pl) K5 := by rw [ek] at hf5; exact hf5
                    have hk5 := hK.fd hf5 ⟨hz5, ho5⟩
                    have hm5 : Mo r a _ K5 := hmK.tr (Mo.fd ⟨hz5, ho5⟩)
                    refine hb_aload_n G dX2_retain_308 hl rfl ?_
                    refine hb_get G hk5.1 rfl inX2 5 (by decide) kf_X2_60 rfl rfl dX2_retain_309 ?_
                    refine lv_if_eq (tgt := 320) G.1 G.2.1 dX2_retain_312 (by decide) (fun c_15 => ?_) (fun c_15 => ?_)
                    · refine hb_iload_n G dX2_retain_320 hl rfl ?_
                      exact hb_iret G hr hlocks (Or.inr ⟨i, hi, rfl, hok.2, hdn, by rw [hRe]; exact Or.inr ⟨hg9, by rw [if_pos c_15], hm5, Or.inr ⟨hspR, A2, by rw [hkp]; exact hk5, h01, h02, h03, h04, by rw [hkp]; exact hcm⟩⟩⟩) hL (Nat.le_of_ble_eq_true rfl) (Nat.le_of_ble_eq_true rfl) dX2_retain_321
                    · refine lv_bipush (v := (-3)) G.1 G.2.1 dX2_retain_315 (by decide) ?_
                      refine lv_goto (tgt := 321) G.1 G.2.1 dX2_retain_317 (by decide) ?_
                      exact hb_iret G hr hlocks (Or.inr ⟨i, hi, rfl, hok.2, hdn, by rw [hRe]; exact Or.inr ⟨hg9, by rw [if_neg c_15], hm5, Or.inr ⟨hspR, A2, by rw [hkp]; exact hk5, h01, h02, h03, h04, by rw [hkp]; exact hcm⟩⟩⟩) hL (Nat.le_of_ble_eq_true rfl) (Nat.le_of_ble_eq_true rfl) dX2_retain_321
                  · have he3 : e2 < en := by have := mt (ic_le rfl ee (by omega) (by omega)).mpr c_14; omega
                    have hof : A2 5 e2 = A 5 e2 := hge 5 e2 (by decide) (by decide) (Nat.le_refl _)
                    refine hb_aload_n G dX2_retain_234 hl rfl ?_
                    refine hb_get G hK.1 rfl inX2 12 (by decide) kf_X2_30 rfl rfl dX2_retain_235 ?_
                    refine hb_iload G dX2_retain_238 hl rfl ?_
                    refine hb_iald G (show ia g (a 5) C (A2 5) _ from hK.2.1 5 (by decide)) (by rw [ee]; exact vp_in_nI (by omega) (by omega)) dX2_retain_240 ?_
                    refine lv_topi (fun r_16 er_16 => ?_)
                    have er_16 : r_16 = A2 5 (e2) := by rw [er_16, show (eb).toNatClampNeg = e2 by rw [ee]; exact nI_clamp (by omega)]
                    rw [hof] at er_16
                    refine hb_iload_n G dX2_retain_241 hl rfl ?_
                    refine lv_icmp_ne (tgt := 256) G.1 G.2.1 dX2_retain_242 (by decide) (fun c_17 => ?_) (fun c_17 => ?_)
                    · have hA5 : ¬ A 5 e2 = nI i := by rw [← er_16]; exact c_17
                      refine lv_iconst (v := 0) G.1 G.2.1 dX2_retain_256 (by decide) ?_
                      refine hb_istore G dX2_retain_257 hl (by decide) (fun ls hl => ?_)
                      have hl : lh ls 11 [some (.ref r), some (.int (nI i)), some (.int n), some (.int (nI RV.1)), some (.int lo4), some (.int rs5), some (.int 0), some (.int me), some (.int ke), some (.int eb), some (.int 0)] := hl
                      refine hb_iload G dX2_retain_259 hl rfl ?_
                      refine hb_aload_n G dX2_retain_261 hl rfl ?_
                      refine hb_get G hK.1 rfl inX2 12 (by decide) kf_X2_30 rfl rfl dX2_retain_262 ?_
                      refine hb_iload G dX2_retain_265 hl rfl ?_
                      refine hb_iald G (show ia g (a 5) C (A2 5) _ from hK.2.1 5 (by decide)) (by rw [ee]; exact vp_in_nI (by omega) (by omega)) dX2_retain_267 ?_
                      refine lv_topi (fun r_18 er_18 => ?_)
                      have er_18 : r_18 = A2 5 (e2) := by rw [er_18, show (eb).toNatClampNeg = e2 by rw [ee]; exact nI_clamp (by omega)]
                      rw [hof] at er_18
                      refine hb_iload_n G dX2_retain_268 hl rfl ?_
                      refine lv_icmp_ne (tgt := 276) G.1 G.2.1 dX2_retain_269 (by decide) (fun c_19 => ?_) (fun c_19 => ?_)
                      · refine lv_iconst (v := 0) G.1 G.2.1 dX2_retain_276 (by decide) ?_
                        refine lv_iadd G.1 G.2.1 dX2_retain_277 ?_
                        refine lv_topi (fun t_20 et_20 => ?_)
                        refine hb_istore G dX2_retain_278 hl (by decide) (fun ls hl => ?_)
                        have hl : lh ls 11 [some (.ref r), some (.int (nI i)), some (.int n), some (.int (nI RV.1)), some (.int lo4), some (.int rs5), some (.int 0), some (.int t_20), some (.int ke), some (.int eb), some (.int 0)] := hl
                        refine hb_iload G dX2_retain_280 hl rfl ?_
                        refine lv_if_ne (tgt := 296) G.1 G.2.1 dX2_retain_282 (by decide) (fun c_21 => ?_) (fun c_21 => ?_)
                        · exact absurd rfl c_21
                        · have hkt : kp e2 = true := by rw [← hkp]; unfold kpR; simp [hA5]
                          subst ee
                          subst ek
                          refine hb_aload_n G dX2_retain_285 hl rfl ?_
                          refine hb_iload G dX2_retain_286 hl rfl ?_
                          refine hb_iload G dX2_retain_288 hl rfl ?_
                          refine hb_callV (As := [.int (nI e2), .int (nI (cK kp e2))]) (rest := []) G hml (m_copy g l r S B C a A2 0 (wr + spW lf 1) (spL lf 1) (spN lf 1) en pl _ hK hC2 e2 (cK kp e2) (by omega) (by omega)) (hK.1) rfl km_X2_111 ki_X2_copy ks_X2_copy kn_X2 ko_X2_copy hd_X2_copy ⟨Nat.le_of_ble_eq_true rfl, Nat.le_of_ble_eq_true rfl⟩ hl.size rfl (Nat.le_of_ble_eq_true rfl) dX2_retain_290 ⟨Nat.le_of_ble_eq_true rfl, Nat.le_of_ble_eq_true rfl⟩ hL (fun q h => h) (fun v1 K6 locs6 hp hL => ?_)
                          obtain ⟨rfl, hk6, hm6⟩ := hp
                          obtain ⟨t_22, et_22⟩ : ∃ z : Int32, z = (nI (cK kp e2)) + 1 := ⟨_, rfl⟩
                          refine hb_iinc (v := t_22) G dX2_retain_293 hl rfl (by rw [et_22]; rfl) (by decide) (fun ls hl => ?_)
                          have hl : lh ls 11 [some (.ref r), some (.int (nI i)), some (.int n), some (.int (nI RV.1)), some (.int lo4), some (.int rs5), some (.int 0), some (.int t_20), some (.int t_22), some (.int (nI e2)), some (.int 0)] := hl
                          obtain ⟨t_23, et_23⟩ : ∃ z : Int32, z = (nI e2) + 1 := ⟨_, rfl⟩
                          refine hb_iinc (v := t_23) G dX2_retain_296 hl rfl (by rw [et_23]; rfl) (by decide) (fun ls hl => ?_)
                          have hl : lh ls 11 [some (.ref r), some (.int (nI i)), some (.int n), some (.int (nI RV.1)), some (.int lo4), some (.int rs5), some (.int 0), some (.int t_20), some (.int t_22), some (.int t_23), some (.int 0)] := hl
                          refine lv_goto (tgt := 225) G.1 G.2.1 dX2_retain_299 (by decide) ?_
                          exact ih (e2 + 1) t_20 t_22 t_23 (mCp A2 e2 (cK kp e2)) K6 locs6 ls (by omega) (by omega) (by rw [et_23]; exact nI_1 e2) (by rw [et_20, em]; simp only [mCnt]; rw [if_neg hA5]; exact by rw [Nat.add_zero]; exact nI_add _ 0) (by rw [et_22]; simp only [cK]; rw [if_pos hkt]; exact nI_1 _) hk6 (by rw [mCp_ne (by omega)]; exact h01) (by rw [mCp_ne (by omega)]; exact h02) (by rw [mCp_ne (by omega)]; exact h03) (by rw [mCp_ne (by omega)]; exact h04) (fun k e5 q1 q2 q3 q4 => by
                              rw [mCp_in q1 q2]
                              by_cases h8 : e5 = e2
                              · subst h8; rw [pk_us]; exact hge k e5 q1 q2 (Nat.le_refl _)
                              · have h7 : cK kp (e5 + 1) ≤ cK kp e2 := cK_mono kp (by omega)
                                simp only [cK] at h7
                                rw [q4, if_pos rfl] at h7
                                rw [pk_un (by omega)]; exact hcm k e5 q1 q2 (by omega) q4) (fun k q q1 q2 q3 => by rw [mCp_in q1 q2, pk_un (by omega)]; exact hge k q q1 q2 (by omega)) (hmK.tr hm6) hL (hl.drop 10)
                      · exact absurd (by rw [← er_18]; exact c_19) hA5
                    · have hA5 : A 5 e2 = nI i := by rw [← er_16]; exact c_17
                      refine hb_iload G dX2_retain_245 hl rfl ?_
                      refine hb_iload G dX2_retain_247 hl rfl ?_
                      refine lv_icmp_ge (tgt := 256) G.1 G.2.1 dX2_retain_249 (by decide) (fun c_24 => ?_) (fun c_24 => ?_)
                      · refine lv_iconst (v := 0) G.1 G.2.1 dX2_retain_256 (by decide) ?_
                        refine hb_istore G dX2_retain_257 hl (by decide) (fun ls hl => ?_)
                        have hl : lh ls 11 [some (.ref r), some (.int (nI i)), some (.int n), some (.int (nI RV.1)), some (.int lo4), some (.int rs5), some (.int 0), some (.int me), some (.int ke), some (.int eb), some (.int 0)] := hl
                        refine hb_iload G dX2_retain_259 hl rfl ?_
                        refine hb_aload_n G dX2_retain_261 hl rfl ?_
                        refine hb_get G hK.1 rfl inX2 12 (by decide) kf_X2_30 rfl rfl dX2_retain_262 ?_
                        refine hb_iload G dX2_retain_265 hl rfl ?_
                        refine hb_iald G (show ia g (a 5) C (A2 5) _ from hK.2.1 5 (by decide)) (by rw [ee]; exact vp_in_nI (by omega) (by omega)) dX2_retain_267 ?_
                        refine lv_topi (fun r_25 er_25 => ?_)
                        have er_25 : r_25 = A2 5 (e2) := by rw [er_25, show (eb).toNatClampNeg = e2 by rw [ee]; exact nI_clamp (by omega)]
                        rw [hof] at er_25
                        refine hb_iload_n G dX2_retain_268 hl rfl ?_
                        refine lv_icmp_ne (tgt := 276) G.1 G.2.1 dX2_retain_269 (by decide) (fun c_26 => ?_) (fun c_26 => ?_)
                        · exact absurd (by rw [er_25]; exact hA5) c_26
                        · refine lv_iconst (v := 1) G.1 G.2.1 dX2_retain_272 (by decide) ?_
                          refine lv_goto (tgt := 277) G.1 G.2.1 dX2_retain_273 (by decide) ?_
                          refine lv_iadd G.1 G.2.1 dX2_retain_277 ?_
                          refine lv_topi (fun t_27 et_27 => ?_)
                          refine hb_istore G dX2_retain_278 hl (by decide) (fun ls hl => ?_)
                          have hl : lh ls 11 [some (.ref r), some (.int (nI i)), some (.int n), some (.int (nI RV.1)), some (.int lo4), some (.int rs5), some (.int 0), some (.int t_27), some (.int ke), some (.int eb), some (.int 0)] := hl
                          refine hb_iload G dX2_retain_280 hl rfl ?_
                          refine lv_if_ne (tgt := 296) G.1 G.2.1 dX2_retain_282 (by decide) (fun c_28 => ?_) (fun c_28 => ?_)
                          · exact absurd rfl c_28
                          · have hkt : kp e2 = true := by rw [← hkp]; unfold kpR; simp [show ¬ mCnt (A 5) (nI i) e2 < RV.2 by have := (ic_le elo em (by omega) (by omega)).mp c_24; omega]
                            subst ee
                            subst ek
                            refine hb_aload_n G dX2_retain_285 hl rfl ?_
                            refine hb_iload G dX2_retain_286 hl rfl ?_
                            refine hb_iload G dX2_retain_288 hl rfl ?_
                            refine hb_callV (As := [.int (nI e2), .int (nI (cK kp e2))]) (rest := []) G hml (m_copy g l r S B C a A2 0 (wr + spW lf 1) (spL lf 1) (spN lf 1) en pl _ hK hC2 e2 (cK kp e2) (by omega) (by omega)) (hK.1) rfl km_X2_111 ki_X2_copy ks_X2_copy kn_X2 ko_X2_copy hd_X2_copy ⟨Nat.le_of_ble_eq_true rfl, Nat.le_of_ble_eq_true rfl⟩ hl.size rfl (Nat.le_of_ble_eq_true rfl) dX2_retain_290 ⟨Nat.le_of_ble_eq_true rfl, Nat.le_of_ble_eq_true rfl⟩ hL (fun q h => h) (fun v1 K6 locs6 hp hL => ?_)
                            obtain ⟨rfl, hk6, hm6⟩ := hp
                            obtain ⟨t_29, et_29⟩ : ∃ z : Int32, z = (nI (cK kp e2)) + 1 := ⟨_, rfl⟩
                            refine hb_iinc (v := t_29) G dX2_retain_293 hl rfl (by rw [et_29]; rfl) (by decide) (fun ls hl => ?_)
                            have hl : lh ls 11 [some (.ref r), some (.int (nI i)), some (.int n), some (.int (nI RV.1)), some (.int lo4), some (.int rs5), some (.int 0), some (.int t_27), some (.int t_29), some (.int (nI e2)), some (.int 0)] := hl
                            obtain ⟨t_30, et_30⟩ : ∃ z : Int32, z = (nI e2) + 1 := ⟨_, rfl⟩
                            refine hb_iinc (v := t_30) G dX2_retain_296 hl rfl (by rw [et_30]; rfl) (by decide) (fun ls hl => ?_)
                            have hl : lh ls 11 [some (.ref r), some (.int (nI i)), some (.int n), some (.int (nI RV.1)), some (.int lo4), some (.int rs5), some (.int 0), some (.int t_27), some (.int t_29), some (.int t_30), some (.int 0)] := hl
                            refine lv_goto (tgt := 225) G.1 G.2.1 dX2_retain_299 (by decide) ?_
                            exact ih (e2 + 1) t_27 t_29 t_30 (mCp A2 e2 (cK kp e2)) K6 locs6 ls (by omega) (by omega) (by rw [et_30]; exact nI_1 e2) (by rw [et_27, em]; simp only [mCnt]; rw [if_pos hA5]; exact nI_1 _) (by rw [et_29]; simp only [cK]; rw [if_pos hkt]; exact nI_1 _) hk6 (by rw [mCp_ne (by omega)]; exact h01) (by rw [mCp_ne (by omega)]; exact h02) (by rw [mCp_ne (by omega)]; exact h03) (by rw [mCp_ne (by omega)]; exact h04) (fun k e5 q1 q2 q3 q4 => by
                                rw [mCp_in q1 q2]
                                by_cases h8 : e5 = e2
                                · subst h8; rw [pk_us]; exact hge k e5 q1 q2 (Nat.le_refl _)
                                · have h7 : cK kp (e5 + 1) ≤ cK kp e2 := cK_mono kp (by omega)
                                  simp only [cK] at h7
                                  rw [q4, if_pos rfl] at h7
                                  rw [pk_un (by omega)]; exact hcm k e5 q1 q2 (by omega) q4) (fun k q q1 q2 q3 => by rw [mCp_in q1 q2, pk_un (by omega)]; exact hge k q q1 q2 (by omega)) (hmK.tr hm6) hL (hl.drop 10)
                      · refine lv_iconst (v := 1) G.1 G.2.1 dX2_retain_252 (by decide) ?_
                        refine lv_goto (tgt := 257) G.1 G.2.1 dX2_retain_253 (by decide) ?_
                        refine hb_istore G dX2_retain_257 hl (by decide) (fun ls hl => ?_)
                        have hl : lh ls 11 [some (.ref r), some (.int (nI i)), some (.int n), some (.int (nI RV.1)), some (.int lo4), some (.int rs5), some (.int 0), some (.int me), some (.int ke), some (.int eb), some (.int 1)] := hl
                        refine hb_iload G dX2_retain_259 hl rfl ?_
                        refine hb_aload_n G dX2_retain_261 hl rfl ?_
                        refine hb_get G hK.1 rfl inX2 12 (by decide) kf_X2_30 rfl rfl dX2_retain_262 ?_
                        refine hb_iload G dX2_retain_265 hl rfl ?_
                        refine hb_iald G (show ia g (a 5) C (A2 5) _ from hK.2.1 5 (by decide)) (by rw [ee]; exact vp_in_nI (by omega) (by omega)) dX2_retain_267 ?_
                        refine lv_topi (fun r_31 er_31 => ?_)
                        have er_31 : r_31 = A2 5 (e2) := by rw [er_31, show (eb).toNatClampNeg = e2 by rw [ee]; exact nI_clamp (by omega)]
                        rw [hof] at er_31
                        refine hb_iload_n G dX2_retain_268 hl rfl ?_
                        refine lv_icmp_ne (tgt := 276) G.1 G.2.1 dX2_retain_269 (by decide) (fun c_32 => ?_) (fun c_32 => ?_)
                        · exact absurd (by rw [er_31]; exact hA5) c_32
                        · refine lv_iconst (v := 1) G.1 G.2.1 dX2_retain_272 (by decide) ?_
                          refine lv_goto (tgt := 277) G.1 G.2.1 dX2_retain_273 (by decide) ?_
                          refine lv_iadd G.1 G.2.1 dX2_retain_277 ?_
                          refine lv_topi (fun t_33 et_33 => ?_)
                          refine hb_istore G dX2_retain_278 hl (by decide) (fun ls hl => ?_)
                          have hl : lh ls 11 [some (.ref r), some (.int (nI i)), some (.int n), some (.int (nI RV.1)), some (.int lo4), some (.int rs5), some (.int 0), some (.int t_33), some (.int ke), some (.int eb), some (.int 1)] := hl
                          refine hb_iload G dX2_retain_280 hl rfl ?_
                          refine lv_if_ne (tgt := 296) G.1 G.2.1 dX2_retain_282 (by decide) (fun c_34 => ?_) (fun c_34 => ?_)
                          · have hkf : kp e2 = false := by rw [← hkp]; unfold kpR; simp [hA5, show mCnt (A 5) (nI i) e2 < RV.2 by have := mt (ic_le elo em (by omega) (by omega)).mpr c_24; omega]
                            obtain ⟨t_35, et_35⟩ : ∃ z : Int32, z = eb + 1 := ⟨_, rfl⟩
                            refine hb_iinc (v := t_35) G dX2_retain_296 hl rfl (by rw [et_35]; rfl) (by decide) (fun ls hl => ?_)
                            have hl : lh ls 11 [some (.ref r), some (.int (nI i)), some (.int n), some (.int (nI RV.1)), some (.int lo4), some (.int rs5), some (.int 0), some (.int t_33), some (.int ke), some (.int t_35), some (.int 1)] := hl
                            refine lv_goto (tgt := 225) G.1 G.2.1 dX2_retain_299 (by decide) ?_
                            exact ih (e2 + 1) t_33 ke t_35 A2 K locs ls (by omega) (by omega) (by rw [et_35, ee]; exact nI_1 e2) (by rw [et_33, em]; simp only [mCnt]; rw [if_pos hA5]; exact nI_1 _) (by rw [ek]; simp only [cK]; rw [hkf]; rfl) hK h01 h02 h03 h04 (fun k e5 q1 q2 q3 q4 => by
                                by_cases h8 : e5 = e2
                                · subst h8; rw [hkf] at q4; cases q4
                                · exact hcm k e5 q1 q2 (by omega) q4) (fun k q q1 q2 q3 => hge k q q1 q2 (by omega)) hmK hL (hl.drop 10)
                          · exact absurd c_34 (by decide)
              have lps : ∀ (k9 j : Nat) (kb : Int32) (K : Heap) (locs : List Loc) (ls : Array Slot), (tn (A 0 i) - RV.1 + 1 ≤ j + k9) → (j ≤ tn (A 0 i) - RV.1) → (kb = nI (RV.1 + j)) → (mdAt g r S B C a (va_up (va_up A 1 (mSh (A 1) (60 * i) RV.1 j)) 2 (mSh (A 2) (60 * i) RV.1 j)) 0 (wr + spW lf 1) (spL lf 1) (spN lf 1) en pl K) → (Mo r a H K) → (∀ q ∈ locs, (fM r a) q.base) → lh ls 11 [some (.ref r), some (.int (nI i)), some (.int n), some (.int (nI RV.1)), some (.int lo4), some (.int rs5), some (.int 0), some (.int kb), none, none, none] → W p l e ({ frames := 2, cells := 0, slots := 0, locals := 66 } : Room) s m args below meth c K locs 0 0 (hQ below args s (mRetd g r S B C a A cd wr lf dn en pl (nI i) n H) 0 0 (fM r a)) (F0 m 137 ls []) := by
                intro k9
                induction k9 with
                | zero =>
                  intro j kb K locs ls hd9 hj ekb hK hmK hL hl
                  exfalso; omega
                | succ k9 ih =>
                  intro j kb K locs ls hd9 hj ekb hK hmK hL hl
                  refine hb_iload G dX2_retain_137 hl rfl ?_
                  refine hb_aload_n G dX2_retain_139 hl rfl ?_
                  refine hb_get G hK.1 rfl inX2 6 (by decide) kf_X2_13 rfl rfl dX2_retain_140 ?_
                  refine hb_iload_n G dX2_retain_143 hl rfl ?_
                  refine hb_iald G (show ia g (a 0) 4 ((va_up (va_up A 1 (mSh (A 1) (60 * i) RV.1 j)) 2 (mSh (A 2) (60 * i) RV.1 j)) 0) _ from hK.2.1 0 (by decide)) (by rw [show nI i = nI i from rfl]; exact vp_in_nI (by omega) (by decide)) dX2_retain_144 ?_
                  refine lv_topi (fun r_36 er_36 => ?_)
                  have er_36 : r_36 = (va_up (va_up A 1 (mSh (A 1) (60 * i) RV.1 j)) 2 (mSh (A 2) (60 * i) RV.1 j)) 0 (i) := by rw [er_36, show ((nI i)).toNatClampNeg = i by rw [show nI i = nI i from rfl]; exact nI_clamp (by omega)]
                  have hr0 : r_36 = nI (tn (A 0 i)) := by rw [er_36]; exact hs0
                  refine lv_icmp_ge (tgt := 206) G.1 G.2.1 dX2_retain_145 (by decide) (fun c_37 => ?_) (fun c_37 => ?_)
                  · have hj2 : j = tn (A 0 i) - RV.1 := by have := (ic_le hr0 ekb (by omega) (by omega)).mp c_37; omega
                    subst hj2
                    refine hb_aload_n G dX2_retain_206 hl rfl ?_
                    refine hb_get G hK.1 rfl inX2 6 (by decide) kf_X2_13 rfl rfl dX2_retain_207 ?_
                    refine hb_iload_n G dX2_retain_210 hl rfl ?_
                    refine lv_dup2_11 G.1 G.2.1 dX2_retain_211 rfl rfl ?_
                    refine hb_iald G (show ia g (a 0) 4 ((va_up (va_up A 1 (mSh (A 1) (60 * i) RV.1 (tn (A 0 i) - RV.1))) 2 (mSh (A 2) (60 * i) RV.1 (tn (A 0 i) - RV.1))) 0) _ from hK.2.1 0 (by decide)) (by rw [show nI i = nI i from rfl]; exact vp_in_nI (by omega) (by decide)) dX2_retain_212 ?_
                    refine lv_topi (fun r_38 er_38 => ?_)
                    have er_38 : r_38 = (va_up (va_up A 1 (mSh (A 1) (60 * i) RV.1 (tn (A 0 i) - RV.1))) 2 (mSh (A 2) (60 * i) RV.1 (tn (A 0 i) - RV.1))) 0 (i) := by rw [er_38, show ((nI i)).toNatClampNeg = i by rw [show nI i = nI i from rfl]; exact nI_clamp (by omega)]
                    refine hb_iload_n G dX2_retain_213 hl rfl ?_
                    refine lv_isub G.1 G.2.1 dX2_retain_214 ?_
                    refine lv_topi (fun t_39 et_39 => ?_)
                    refine hb_iast G (show ia g (a 0) 4 ((va_up (va_up A 1 (mSh (A 1) (60 * i) RV.1 (tn (A 0 i) - RV.1))) 2 (mSh (A 2) (60 * i) RV.1 (tn (A 0 i) - RV.1))) 0) _ from hK.2.1 0 (by decide)) (vp_in_nI hi (by decide)) hL (fM_a (by decide)) dX2_retain_215 (fun K7 locs7 hg7 hz7 ho7 hL => ?_)
                    rw [nI_clamp (by omega), et_39, er_38] at hg7
                    have hk7 := hK.up (k := 0) (by decide) hg7 ⟨hz7, ho7⟩
                    refine lv_iconst (v := 0) G.1 G.2.1 dX2_retain_216 (by decide) ?_
                    refine hb_istore G dX2_retain_217 hl (by decide) (fun ls hl => ?_)
                    have hl : lh ls 11 [some (.ref r), some (.int (nI i)), some (.int n), some (.int (nI RV.1)), some (.int lo4), some (.int rs5), some (.int 0), some (.int 0), none, none, none] := hl
                    refine lv_iconst (v := 0) G.1 G.2.1 dX2_retain_219 (by decide) ?_
                    refine hb_istore G dX2_retain_220 hl (by decide) (fun ls hl => ?_)
                    have hl : lh ls 11 [some (.ref r), some (.int (nI i)), some (.int n), some (.int (nI RV.1)), some (.int lo4), some (.int rs5), some (.int 0), some (.int 0), some (.int 0), none, none] := hl
                    refine lv_iconst (v := 0) G.1 G.2.1 dX2_retain_222 (by decide) ?_
                    refine hb_istore G dX2_retain_223 hl (by decide) (fun ls hl => ?_)
                    have hl : lh ls 11 [some (.ref r), some (.int (nI i)), some (.int n), some (.int (nI RV.1)), some (.int lo4), some (.int rs5), some (.int 0), some (.int 0), some (.int 0), some (.int 0), none] := hl
                    exact lpc (en + 1) 0 0 0 0 _ K7 locs7 ls (by omega) (by omega) rfl rfl rfl hk7 rfl rfl rfl rfl (fun k e5 _ _ q => absurd q (by omega)) (fun k q q1 q2 _ => by rw [va_up_ne _ _ (by omega), va_up_ne _ _ (by omega), va_up_ne _ _ (by omega)]) (hmK.tr (Mo.ar (k := 0) ⟨hz7, ho7⟩ (by decide))) hL hl
                  · have hj2 : RV.1 + j < tn (A 0 i) := by have := mt (ic_le hr0 ekb (by omega) (by omega)).mpr c_37; omega
                    refine hb_aload_n G dX2_retain_148 hl rfl ?_
                    refine hb_get G hK.1 rfl inX2 7 (by decide) kf_X2_17 rfl rfl dX2_retain_149 ?_
                    refine lv_bipush (v := 60) G.1 G.2.1 dX2_retain_152 (by decide) ?_
                    refine hb_iload_n G dX2_retain_154 hl rfl ?_
                    refine lv_imul G.1 G.2.1 dX2_retain_155 ?_
                    refine lv_topi (fun t_40 et_40 => ?_)
                    refine hb_iload G dX2_retain_156 hl rfl ?_
                    refine lv_iadd G.1 G.2.1 dX2_retain_158 ?_
                    refine lv_topi (fun t_41 et_41 => ?_)
                    refine hb_iload_n G dX2_retain_159 hl rfl ?_
                    refine lv_isub G.1 G.2.1 dX2_retain_160 ?_
                    refine lv_topi (fun t_42 et_42 => ?_)
                    refine hb_aload_n G dX2_retain_161 hl rfl ?_
                    refine hb_get G hK.1 rfl inX2 7 (by decide) kf_X2_17 rfl rfl dX2_retain_162 ?_
                    refine lv_bipush (v := 60) G.1 G.2.1 dX2_retain_165 (by decide) ?_
                    refine hb_iload_n G dX2_retain_167 hl rfl ?_
                    refine lv_imul G.1 G.2.1 dX2_retain_168 ?_
                    refine lv_topi (fun t_43 et_43 => ?_)
                    refine hb_iload G dX2_retain_169 hl rfl ?_
                    refine lv_iadd G.1 G.2.1 dX2_retain_171 ?_
                    refine lv_topi (fun t_44 et_44 => ?_)
                    have hsrc : t_44 = nI (60 * i + (RV.1 + j)) := by rw [et_44, et_43, ekb]; exact nI_60 _ _
                    have hdst : t_42 = nI (60 * i + j) := by rw [et_42, et_41, et_40, ekb, nI_60, pk_sub (by omega), show 60 * i + (RV.1 + j) - RV.1 = 60 * i + j by omega]
                    refine hb_iald G (show ia g (a 1) 240 ((va_up (va_up A 1 (mSh (A 1) (60 * i) RV.1 j)) 2 (mSh (A 2) (60 * i) RV.1 j)) 1) _ from hK.2.1 1 (by decide)) (by rw [hsrc]; exact vp_in_nI (by omega) (by decide)) dX2_retain_172 ?_
                    refine lv_topi (fun r_45 er_45 => ?_)
                    have er_45 : r_45 = (va_up (va_up A 1 (mSh (A 1) (60 * i) RV.1 j)) 2 (mSh (A 2) (60 * i) RV.1 j)) 1 (60 * i + (RV.1 + j)) := by rw [er_45, show (t_44).toNatClampNeg = 60 * i + (RV.1 + j) by rw [hsrc]; exact nI_clamp (by omega)]
                    have er_45 : r_45 = A 1 (60 * i + RV.1 + j) := by rw [er_45]; show mSh (A 1) (60 * i) RV.1 j (60 * i + (RV.1 + j)) = _; rw [mSh_ge _ _ _ _ _ (by omega), Nat.add_assoc]
                    refine hb_iast G (show ia g (a 1) 240 ((va_up (va_up A 1 (mSh (A 1) (60 * i) RV.1 j)) 2 (mSh (A 2) (60 * i) RV.1 j)) 1) _ from hK.2.1 1 (by decide)) (by rw [hdst]; exact vp_in_nI (by omega) (by decide)) hL (fM_a (by decide)) dX2_retain_173 (fun L1 locs hg1 hz1 ho1 hL => ?_)
                    rw [show (t_42).toNatClampNeg = 60 * i + j by rw [hdst]; exact nI_clamp (by omega), er_45] at hg1
                    have hK10 := hK.up (k := 1) (by decide) hg1 ⟨hz1, ho1⟩
                    have hK1 : mdAt g r S B C a (va_up (va_up A 1 (mSh (A 1) (60 * i) RV.1 (j + 1))) 2 (mSh (A 2) (60 * i) RV.1 j)) 0 (wr + spW lf 1) (spL lf 1) (spN lf 1) en pl L1 := by
                      have h9 : va_up (va_up (va_up A 1 (mSh (A 1) (60 * i) RV.1 j)) 2 (mSh (A 2) (60 * i) RV.1 j)) 1 (upd (mSh (A 1) (60 * i) RV.1 j) (60 * i + j) (A 1 (60 * i + RV.1 + j))) = va_up (va_up A 1 (mSh (A 1) (60 * i) RV.1 (j + 1))) 2 (mSh (A 2) (60 * i) RV.1 j) := by
                        funext q
                        by_cases q1 : q = 1
                        · subst q1; rfl
                        · by_cases q2 : q = 2
                          · subst q2; rfl
                          · rw [va_up_ne _ _ q1, va_up_ne _ _ q2, va_up_ne _ _ q1, va_up_ne _ _ q2, va_up_ne _ _ q1]
                      rw [← h9]; exact hK10
                    refine hb_aload_n G dX2_retain_174 hl rfl ?_
                    refine hb_get G hK1.1 rfl inX2 8 (by decide) kf_X2_20 rfl rfl dX2_retain_175 ?_
                    refine lv_bipush (v := 60) G.1 G.2.1 dX2_retain_178 (by decide) ?_
                    refine hb_iload_n G dX2_retain_180 hl rfl ?_
                    refine lv_imul G.1 G.2.1 dX2_retain_181 ?_
                    refine lv_topi (fun t_46 et_46 => ?_)
                    refine hb_iload G dX2_retain_182 hl rfl ?_
                    refine lv_iadd G.1 G.2.1 dX2_retain_184 ?_
                    refine lv_topi (fun t_47 et_47 => ?_)
                    refine hb_iload_n G dX2_retain_185 hl rfl ?_
                    refine lv_isub G.1 G.2.1 dX2_retain_186 ?_
                    refine lv_topi (fun t_48 et_48 => ?_)
                    refine hb_aload_n G dX2_retain_187 hl rfl ?_
                    refine hb_get G hK1.1 rfl inX2 8 (by decide) kf_X2_20 rfl rfl dX2_retain_188 ?_
                    refine lv_bipush (v := 60) G.1 G.2.1 dX2_retain_191 (by decide) ?_
                    refine hb_iload_n G dX2_retain_193 hl rfl ?_
                    refine lv_imul G.1 G.2.1 dX2_retain_194 ?_
                    refine lv_topi (fun t_49 et_49 => ?_)
                    refine hb_iload G dX2_retain_195 hl rfl ?_
                    refine lv_iadd G.1 G.2.1 dX2_retain_197 ?_
                    refine lv_topi (fun t_50 et_50 => ?_)
                    have hsrc : t_50 = nI (60 * i + (RV.1 + j)) := by rw [et_50, et_49, ekb]; exact nI_60 _ _
                    have hdst : t_48 = nI (60 * i + j) := by rw [et_48, et_47, et_46, ekb, nI_60, pk_sub (by omega), show 60 * i + (RV.1 + j) - RV.1 = 60 * i + j by omega]
                    refine hb_iald G (show ia g (a 2) 240 ((va_up (va_up A 1 (mSh (A 1) (60 * i) RV.1 (j + 1))) 2 (mSh (A 2) (60 * i) RV.1 j)) 2) _ from hK1.2.1 2 (by decide)) (by rw [hsrc]; exact vp_in_nI (by omega) (by decide)) dX2_retain_198 ?_
                    refine lv_topi (fun r_51 er_51 => ?_)
                    have er_51 : r_51 = (va_up (va_up A 1 (mSh (A 1) (60 * i) RV.1 (j + 1))) 2 (mSh (A 2) (60 * i) RV.1 j)) 2 (60 * i + (RV.1 + j)) := by rw [er_51, show (t_50).toNatClampNeg = 60 * i + (RV.1 + j) by rw [hsrc]; exact nI_clamp (by omega)]
                    have er_51 : r_51 = A 2 (60 * i + RV.1 + j) := by rw [er_51]; show mSh (A 2) (60 * i) RV.1 j (60 * i + (RV.1 + j)) = _; rw [mSh_ge _ _ _ _ _ (by omega), Nat.add_assoc]
                    refine hb_iast G (show ia g (a 2) 240 ((va_up (va_up A 1 (mSh (A 1) (60 * i) RV.1 (j + 1))) 2 (mSh (A 2) (60 * i) RV.1 j)) 2) _ from hK1.2.1 2 (by decide)) (by rw [hdst]; exact vp_in_nI (by omega) (by decide)) hL (fM_a (by decide)) dX2_retain_199 (fun L2 locs hg2 hz2 ho2 hL => ?_)
                    rw [show (t_48).toNatClampNeg = 60 * i + j by rw [hdst]; exact nI_clamp (by omega), er_51] at hg2
                    have hK20 := hK1.up (k := 2) (by decide) hg2 ⟨hz2, ho2⟩
                    rw [bx_uu] at hK20
                    obtain ⟨t_52, et_52⟩ : ∃ z : Int32, z = kb + 1 := ⟨_, rfl⟩
                    refine hb_iinc (v := t_52) G dX2_retain_200 hl rfl (by rw [et_52]; rfl) (by decide) (fun ls hl => ?_)
                    have hl : lh ls 11 [some (.ref r), some (.int (nI i)), some (.int n), some (.int (nI RV.1)), some (.int lo4), some (.int rs5), some (.int 0), some (.int t_52), none, none, none] := hl
                    refine lv_goto (tgt := 137) G.1 G.2.1 dX2_retain_203 (by decide) ?_
                    exact ih (j + 1) t_52 L2 locs ls (by omega) (by omega) (by rw [et_52, ekb]; exact nI_1 _) hK20 (hmK.tr ((Mo.ar (k := 1) ⟨hz1, ho1⟩ (by decide)).tr (Mo.ar (k := 2) ⟨hz2, ho2⟩ (by decide)))) hL hl
              refine hb_iload_n G dX2_retain_134 hl rfl ?_
              refine hb_istore G dX2_retain_135 hl (by decide) (fun ls hl => ?_)
              have hl : lh ls 11 [some (.ref r), some (.int (nI i)), some (.int n), some (.int (nI RV.1)), some (.int lo4), some (.int rs5), some (.int 0), some (.int (nI RV.1)), none, none, none] := hl
              exact lps (tn (A 0 i) - RV.1 + 1) 0 (nI RV.1) K2 locs2 ls (by omega) (by omega) rfl (by show mdAt g r S B C a (va_up (va_up A 1 (A 1)) 2 (A 2)) _ _ _ _ _ _ _; rw [up_same, up_same]; exact hk2) hm2 hL hl
          · have hg9 : RV.1 = 0 := (nI_eq (by omega) (by decide)).mp c_10
            refine lv_iconst (v := 0) G.1 G.2.1 dX2_retain_124 (by decide) ?_
            exact hb_iret G hr hlocks (Or.inr ⟨i, hi, rfl, hok.2, hdn, by rw [hRe]; exact Or.inl ⟨hg9, rfl, hk, Mo.fd hF⟩⟩) hL (Nat.le_of_ble_eq_true rfl) (Nat.le_of_ble_eq_true rfl) dX2_retain_125
        have lp : ∀ (k9 j : Nat) (gb lb rb : Int32) (lo : Nat) (locs : List Loc) (ls : Array Slot), (tn (A 0 i) - 1 + 1 ≤ j + k9) → (j ≤ tn (A 0 i) - 1) → (gb = nI j) → (lb = nI lo) → (lo ≤ j * 512) → (RV = mRt A i en n (tn (A 0 i) - 1 - j) j rb lo) → (∀ q ∈ locs, (fM r a) q.base) → lh ls 11 [some (.ref r), some (.int (nI i)), some (.int n), some (.int gb), some (.int lb), some (.int rb), some (.int 1), none, none, none, none] → W p l e ({ frames := 2, cells := 0, slots := 0, locals := 66 } : Room) s m args below meth c K1 locs 0 0 (hQ below args s (mRetd g r S B C a A cd wr lf dn en pl (nI i) n H) 0 0 (fM r a)) (F0 m 40 ls []) := by
          intro k9
          induction k9 with
          | zero =>
            intro j gb lb rb lo locs ls hd9 hj eg el hlo hI hL hl
            exfalso; omega
          | succ k9 ih =>
            intro j gb lb rb lo locs ls hd9 hj eg el hlo hI hL hl
            have hj6 : j * 512 ≤ 60 * 512 := Nat.mul_le_mul (by omega) (by omega)
            refine hb_iload G dX2_retain_40 hl rfl ?_
            refine lv_if_eq (tgt := 120) G.1 G.2.1 dX2_retain_42 (by decide) (fun c_53 => ?_) (fun c_53 => ?_)
            · exact absurd c_53 (by decide)
            · refine hb_iload_n G dX2_retain_45 hl rfl ?_
              refine lv_iconst (v := 1) G.1 G.2.1 dX2_retain_46 (by decide) ?_
              refine lv_iadd G.1 G.2.1 dX2_retain_47 ?_
              refine lv_topi (fun t_54 et_54 => ?_)
              refine hb_aload_n G dX2_retain_48 hl rfl ?_
              refine hb_get G hk.1 rfl inX2 6 (by decide) kf_X2_13 rfl rfl dX2_retain_49 ?_
              refine hb_iload_n G dX2_retain_52 hl rfl ?_
              refine hb_iald G (show ia g (a 0) 4 (A 0) _ from hk.2.1 0 (by decide)) (by rw [show nI i = nI i from rfl]; exact vp_in_nI (by omega) (by decide)) dX2_retain_53 ?_
              refine lv_topi (fun r_55 er_55 => ?_)
              have er_55 : r_55 = A 0 (i) := by rw [er_55, show ((nI i)).toNatClampNeg = i by rw [show nI i = nI i from rfl]; exact nI_clamp (by omega)]
              have hr0 : r_55 = nI (tn (A 0 i)) := by rw [er_55]; exact hs0
              have htg : t_54 = nI (j + 1) := by rw [et_54, eg]; exact nI_1 j
              refine lv_icmp_ge (tgt := 79) G.1 G.2.1 dX2_retain_54 (by decide) (fun c_56 => ?_) (fun c_56 => ?_)
              · refine lv_iconst (v := 0) G.1 G.2.1 dX2_retain_79 (by decide) ?_
                have hR9 : RV = (j, lo) := by have := (ic_le hr0 htg (by omega) (by omega)).mp c_56; rw [hI, show tn (A 0 i) - 1 - j = 0 by omega]; rfl
                refine hb_istore G dX2_retain_80 hl (by decide) (fun ls hl => ?_)
                have hl : lh ls 11 [some (.ref r), some (.int (nI i)), some (.int n), some (.int gb), some (.int lb), some (.int rb), some (.int 0), none, none, none, none] := hl
                refine hb_iload G dX2_retain_82 hl rfl ?_
                refine lv_if_eq (tgt := 40) G.1 G.2.1 dX2_retain_84 (by decide) (fun c_57 => ?_) (fun c_57 => ?_)
                · refine hb_iload G dX2_retain_40 hl rfl ?_
                  refine lv_if_eq (tgt := 120) G.1 G.2.1 dX2_retain_42 (by decide) (fun c_58 => ?_) (fun c_58 => ?_)
                  · have ho1 : RV.1 = j := by rw [hR9]
                    have ho2 : RV.2 = lo := by rw [hR9]
                    exact ex lb rb locs ls (by rw [ho2]; exact el) hL (by rw [ho1, ← eg]; exact hl)
                  · exact absurd rfl c_58
                · exact absurd rfl c_57
              · have hj2 : j + 1 < tn (A 0 i) := by have := mt (ic_le hr0 htg (by omega) (by omega)).mpr c_56; omega
                have hs9 : mRt A i en n (tn (A 0 i) - 1 - j) j rb lo = if n ≤ rb - A 2 (60 * i + j) then mRt A i en n (tn (A 0 i) - 1 - (j + 1)) (j + 1) (rb - A 2 (60 * i + j)) (lo + mIn A (nI i) (A 1 (60 * i + j)) en) else (j, lo) := by rw [show tn (A 0 i) - 1 - j = (tn (A 0 i) - 1 - (j + 1)) + 1 by omega]; rfl
                refine hb_iload G dX2_retain_57 hl rfl ?_
                refine hb_aload_n G dX2_retain_59 hl rfl ?_
                refine hb_get G hk.1 rfl inX2 8 (by decide) kf_X2_20 rfl rfl dX2_retain_60 ?_
                refine lv_bipush (v := 60) G.1 G.2.1 dX2_retain_63 (by decide) ?_
                refine hb_iload_n G dX2_retain_65 hl rfl ?_
                refine lv_imul G.1 G.2.1 dX2_retain_66 ?_
                refine lv_topi (fun t_59 et_59 => ?_)
                refine hb_iload_n G dX2_retain_67 hl rfl ?_
                refine lv_iadd G.1 G.2.1 dX2_retain_68 ?_
                refine lv_topi (fun t_60 et_60 => ?_)
                have hixt_60 : t_60 = nI (60 * i + j) := by rw [et_60, et_59, eg]; exact nI_60 _ _
                refine hb_iald G (show ia g (a 2) 240 (A 2) _ from hk.2.1 2 (by decide)) (by rw [hixt_60]; exact vp_in_nI (by omega) (by decide)) dX2_retain_69 ?_
                refine lv_topi (fun r_61 er_61 => ?_)
                have er_61 : r_61 = A 2 (60 * i + j) := by rw [er_61, show (t_60).toNatClampNeg = 60 * i + j by rw [hixt_60]; exact nI_clamp (by omega)]
                refine lv_isub G.1 G.2.1 dX2_retain_70 ?_
                refine lv_topi (fun t_62 et_62 => ?_)
                refine hb_iload_n G dX2_retain_71 hl rfl ?_
                refine lv_icmp_lt (tgt := 79) G.1 G.2.1 dX2_retain_72 (by decide) (fun c_63 => ?_) (fun c_63 => ?_)
                · refine lv_iconst (v := 0) G.1 G.2.1 dX2_retain_79 (by decide) ?_
                  have hR9 : RV = (j, lo) := by rw [hI, hs9, if_neg (by rw [← er_61, ← et_62]; exact i32_nle.mpr c_63)]
                  refine hb_istore G dX2_retain_80 hl (by decide) (fun ls hl => ?_)
                  have hl : lh ls 11 [some (.ref r), some (.int (nI i)), some (.int n), some (.int gb), some (.int lb), some (.int rb), some (.int 0), none, none, none, none] := hl
                  refine hb_iload G dX2_retain_82 hl rfl ?_
                  refine lv_if_eq (tgt := 40) G.1 G.2.1 dX2_retain_84 (by decide) (fun c_64 => ?_) (fun c_64 => ?_)
                  · refine hb_iload G dX2_retain_40 hl rfl ?_
                    refine lv_if_eq (tgt := 120) G.1 G.2.1 dX2_retain_42 (by decide) (fun c_65 => ?_) (fun c_65 => ?_)
                    · have ho1 : RV.1 = j := by rw [hR9]
                      have ho2 : RV.2 = lo := by rw [hR9]
                      exact ex lb rb locs ls (by rw [ho2]; exact el) hL (by rw [ho1, ← eg]; exact hl)
                    · exact absurd rfl c_65
                  · exact absurd rfl c_64
                · have hgo := i32_nlt.mp c_63
                  refine lv_iconst (v := 1) G.1 G.2.1 dX2_retain_75 (by decide) ?_
                  refine lv_goto (tgt := 80) G.1 G.2.1 dX2_retain_76 (by decide) ?_
                  refine hb_istore G dX2_retain_80 hl (by decide) (fun ls hl => ?_)
                  have hl : lh ls 11 [some (.ref r), some (.int (nI i)), some (.int n), some (.int gb), some (.int lb), some (.int rb), some (.int 1), none, none, none, none] := hl
                  refine hb_iload G dX2_retain_82 hl rfl ?_
                  refine lv_if_eq (tgt := 40) G.1 G.2.1 dX2_retain_84 (by decide) (fun c_66 => ?_) (fun c_66 => ?_)
                  · exact absurd c_66 (by decide)
                  · refine hb_iload G dX2_retain_87 hl rfl ?_
                    refine hb_aload_n G dX2_retain_89 hl rfl ?_
                    refine hb_get G hk.1 rfl inX2 8 (by decide) kf_X2_20 rfl rfl dX2_retain_90 ?_
                    refine lv_bipush (v := 60) G.1 G.2.1 dX2_retain_93 (by decide) ?_
                    refine hb_iload_n G dX2_retain_95 hl rfl ?_
                    refine lv_imul G.1 G.2.1 dX2_retain_96 ?_
                    refine lv_topi (fun t_67 et_67 => ?_)
                    refine hb_iload_n G dX2_retain_97 hl rfl ?_
                    refine lv_iadd G.1 G.2.1 dX2_retain_98 ?_
                    refine lv_topi (fun t_68 et_68 => ?_)
                    have hixt_68 : t_68 = nI (60 * i + j) := by rw [et_68, et_67, eg]; exact nI_60 _ _
                    refine hb_iald G (show ia g (a 2) 240 (A 2) _ from hk.2.1 2 (by decide)) (by rw [hixt_68]; exact vp_in_nI (by omega) (by decide)) dX2_retain_99 ?_
                    refine lv_topi (fun r_69 er_69 => ?_)
                    have er_69 : r_69 = A 2 (60 * i + j) := by rw [er_69, show (t_68).toNatClampNeg = 60 * i + j by rw [hixt_68]; exact nI_clamp (by omega)]
                    refine lv_isub G.1 G.2.1 dX2_retain_100 ?_
                    refine lv_topi (fun t_70 et_70 => ?_)
                    refine hb_istore G dX2_retain_101 hl (by decide) (fun ls hl => ?_)
                    have hl : lh ls 11 [some (.ref r), some (.int (nI i)), some (.int n), some (.int gb), some (.int lb), some (.int t_70), some (.int 1), none, none, none, none] := hl
                    refine hb_iload G dX2_retain_103 hl rfl ?_
                    refine hb_aload_n G dX2_retain_105 hl rfl ?_
                    refine hb_iload_n G dX2_retain_106 hl rfl ?_
                    refine hb_iload_n G dX2_retain_107 hl rfl ?_
                    subst eg
                    refine hb_callV (As := [.int (nI i), .int (nI j)]) (rest := [.int lb]) G hml (m_inSegment g l r S B C a A 0 wr lf dn en pl _ hk hB i j hi (by omega)) (hk.1) rfl km_X2_108 ki_X2_inSegment ks_X2_inSegment kn_X2 ko_X2_inSegment hd_X2_inSegment ⟨Nat.le_of_ble_eq_true rfl, Nat.le_of_ble_eq_true rfl⟩ hl.size rfl (Nat.le_of_ble_eq_true rfl) dX2_retain_108 ⟨Nat.le_of_ble_eq_true rfl, Nat.le_of_ble_eq_true rfl⟩ hL (f0_in) (fun v1 K1 locs hp hL => ?_)
                    obtain ⟨rfl, rfl⟩ := hp
                    refine lv_topi (fun r_71 er_71 => ?_)
                    refine lv_iadd G.1 G.2.1 dX2_retain_111 ?_
                    refine lv_topi (fun t_72 et_72 => ?_)
                    refine hb_istore G dX2_retain_112 hl (by decide) (fun ls hl => ?_)
                    have hl : lh ls 11 [some (.ref r), some (.int (nI i)), some (.int n), some (.int (nI j)), some (.int t_72), some (.int t_70), some (.int 1), none, none, none, none] := hl
                    obtain ⟨t_73, et_73⟩ : ∃ z : Int32, z = (nI j) + 1 := ⟨_, rfl⟩
                    refine hb_iinc (v := t_73) G dX2_retain_114 hl rfl (by rw [et_73]; rfl) (by decide) (fun ls hl => ?_)
                    have hl : lh ls 11 [some (.ref r), some (.int (nI i)), some (.int n), some (.int t_73), some (.int t_72), some (.int t_70), some (.int 1), none, none, none, none] := hl
                    refine lv_goto (tgt := 40) G.1 G.2.1 dX2_retain_117 (by decide) ?_
                    have hin9 := mIn_le A (nI i) (A 1 (60 * i + j)) en
                    exact ih (j + 1) t_73 t_72 t_70 (lo + mIn A (nI i) (A 1 (60 * i + j)) en) locs ls (by omega) (by omega) (by rw [et_73]; exact nI_1 j) (by rw [et_72, el, er_71]; exact nI_add _ _) (by omega) (by rw [hI, hs9, if_pos (by rw [← er_61, ← et_62]; exact hgo), et_70, er_69]) hL hl
        refine lv_iconst (v := 0) G.1 G.2.1 dX2_retain_25 (by decide) ?_
        refine hb_istore_n G dX2_retain_26 hl (by decide) (fun ls hl => ?_)
        have hl : lh ls 11 [some (.ref r), some (.int (nI i)), some (.int n), some (.int 0), none, none, none, none, none, none, none] := hl
        refine lv_iconst (v := 0) G.1 G.2.1 dX2_retain_27 (by decide) ?_
        refine hb_istore G dX2_retain_28 hl (by decide) (fun ls hl => ?_)
        have hl : lh ls 11 [some (.ref r), some (.int (nI i)), some (.int n), some (.int 0), some (.int 0), none, none, none, none, none, none] := hl
        refine hb_aload_n G dX2_retain_30 hl rfl ?_
        refine hb_iload_n G dX2_retain_31 hl rfl ?_
        refine hb_callV (As := [.int (nI i)]) (rest := []) G hml (m_sum g l r S B C a A 0 wr lf dn en pl _ hk hB hA i hi) (hk.1) rfl km_X2_104 ki_X2_sum ks_X2_sum kn_X2 ko_X2_sum hd_X2_sum ⟨Nat.le_of_ble_eq_true rfl, Nat.le_of_ble_eq_true rfl⟩ hl.size rfl (Nat.le_of_ble_eq_true rfl) dX2_retain_32 ⟨Nat.le_of_ble_eq_true rfl, Nat.le_of_ble_eq_true rfl⟩ hL (f0_in) (fun v1 K1 locs1 hp hL => ?_)
        obtain ⟨rfl, rfl⟩ := hp
        refine hb_istore G dX2_retain_35 hl (by decide) (fun ls hl => ?_)
        have hl : lh ls 11 [some (.ref r), some (.int (nI i)), some (.int n), some (.int 0), some (.int 0), some (.int (lgSm (A 2) (60 * i) (tn (A 0 i)))), none, none, none, none, none] := hl
        refine lv_iconst (v := 1) G.1 G.2.1 dX2_retain_37 (by decide) ?_
        refine hb_istore G dX2_retain_38 hl (by decide) (fun ls hl => ?_)
        have hl : lh ls 11 [some (.ref r), some (.int (nI i)), some (.int n), some (.int 0), some (.int 0), some (.int (lgSm (A 2) (60 * i) (tn (A 0 i)))), some (.int 1), none, none, none, none] := hl
        exact lp (tn (A 0 i) - 1 + 1) 0 0 0 _ 0 locs1 ls (by omega) (by omega) rfl rfl (by omega) hRe.symm hL hl
      · have hg2 := (it0 er_8).mp c_9
        refine lv_iconst (v := 0) G.1 G.2.1 dX2_retain_23 (by decide) ?_
        exact hb_iret G hr hlocks (Or.inl ⟨by rw [if_pos hok]; exact hg2, rfl, by rw [if_pos hok]; exact hk, Mo.fd hF⟩) hL (Nat.le_of_ble_eq_true rfl) (Nat.le_of_ble_eq_true rfl) dX2_retain_24
