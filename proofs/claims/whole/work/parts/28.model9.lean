def mTB (pb : Nat → Int32) : Nat → Int32
  | 0 => 1
  | s + 1 => mTB pb s + tcV 0 (pb s)
abbrev mOkT (x k : Int32) : Prop := (0 ≤ x ∧ x < 4) ∧ 1 ≤ k ∧ k ≤ 1000
/-- the plan of thinning log i by k, at its end -/
def thP (A : Nat → Nat → Int32) (S B : Nat) (k : Int32) (al : Nat) (sz : Nat → Int32) : PS := pRun S B k sz (pIni A S B) al
/-- what thinning wants of the rows -/
def thPre (A : Nat → Nat → Int32) (S B en i : Nat) (k : Int32) (al : Nat) (sz : Nat → Int32) : Prop := mCl A i en = nI al ∧ al ≤ mCnt (A 5) (nI i) en ∧ (∀ e, e < en → A 5 e = nI i → A 6 e = sz (mCnt (A 5) (nI i) e)) ∧ (∀ j, j ≤ al → (pRun S B k sz (pIni A S B) j).2.2.2.2 ≤ 59) ∧ (¬ (thP A S B k al sz).1 = 0 → ∀ j, j ≤ al → (hR (thP A S B k al sz).2.2.2.1 sz k j).1 < 60) ∧ (¬ (nI al + k - 1) / k = 0 → 0 < tn (A 0 i))
def mThd (g : Gx) (r S B C : Nat) (a : Nat → Nat) (A : Nat → Nat → Int32) (cd wr lf dn : Int32) (en pl : Nat) (al : Nat → Nat) (sz : Nat → Nat → Int32) (x k : Int32) (H : Heap) (v : Option Value) (H1 : Heap) : Prop :=
  (¬ goC (if mOkT x k then 1 else 0) dn = 0 ∧ v = some (.int 0) ∧ mdAt g r S B C a A (goC (if mOkT x k then 1 else 0) dn) wr lf dn en pl H1 ∧ Mo r a H H1) ∨
  (∃ i, i < 4 ∧ x = nI i ∧ (1 ≤ k ∧ k ≤ 1000) ∧ dn = 0 ∧ ∃ P : PS, P = thP A S B k (al i) (sz i) ∧
    (((nI (al i) + k - 1) / k = 0 ∧ v = some (.int 0) ∧ mdAt g r S B C a A 0 wr lf dn en pl H1 ∧ Mo r a H H1) ∨
     (¬ (nI (al i) + k - 1) / k = 0 ∧ P.1 = 0 ∧ v = some (.int (-2)) ∧ mdAt g r S B C a (mPA A P) 0 wr lf dn en P.2.2.2.2 H1 ∧ Mo r a H H1) ∨
     (¬ (nI (al i) + k - 1) / k = 0 ∧ ¬ P.1 = 0 ∧ v = some (.int (if spN lf (mTB P.2.2.2.1 P.2.2.2.2) = 0 then (nI (al i) + k - 1) / k else -3)) ∧ Mo r a H H1 ∧
       ((spR lf (mTB P.2.2.2.1 P.2.2.2.2) = 0 ∧ mdAt g r S B C a (mPA A P) 0 (wr + spW lf (mTB P.2.2.2.1 P.2.2.2.2)) (spL lf (mTB P.2.2.2.1 P.2.2.2.2)) (spN lf (mTB P.2.2.2.1 P.2.2.2.2)) en P.2.2.2.2 H1) ∨
        (¬ spR lf (mTB P.2.2.2.1 P.2.2.2.2) = 0 ∧ ∃ A3 : Nat → Nat → Int32, mdAt g r S B C a A3 0 (wr + spW lf (mTB P.2.2.2.1 P.2.2.2.2)) (spL lf (mTB P.2.2.2.1 P.2.2.2.2)) (spN lf (mTB P.2.2.2.1 P.2.2.2.2)) (cK (kpT (mPA A P) i (al i) k) en) P.2.2.2.2 H1 ∧ mHap (mPA A P) A3 i (al i) P.2.2.2.2 k (sz i) en)))))
set_option maxHeartbeats 4000000 in
set_option maxRecDepth 100000 in
/-- thin -/
theorem m_thin (g : Gx) (l : Launch) (r S B C : Nat) (a : Nat → Nat) (A : Nat → Nat → Int32) (cd wr lf dn : Int32) (en pl : Nat) (H : Heap) (h : mdAt g r S B C a A cd wr lf dn en pl H) (hB : mdB S B C en) (hA : sgOk S A) (al : Nat → Nat) (sz : Nat → Nat → Int32) (x k : Int32) (hpre : ∀ i, i < 4 → x = nI i → 1 ≤ k ∧ k ≤ 1000 → thPre A S B en i k (al i) (sz i)) : HM g l yX2_thin cX2_thin 6 (some .int) 3 78 0 0 [.ref r, .int x, .int k] H (mThd g r S B C a A cd wr lf dn en pl al sz x k H) (fM r a) := by
  refine HM.ofW (by decide) (Nat.le_of_ble_eq_true rfl) (by simp [Value.category]) ?_
  intro p e s m args below meth c ls G hr hml hlocks hnm hH hl
  have hl : lh ls 6 [some (.ref r), some (.int x), some (.int k), none, none, none] := hl
  have hL : ∀ q ∈ ([] : List Loc), (fM r a) q.base := fun q h => by cases h
  have hMr : ∀ q, f1 r q → fM r a q := fun q h9 => Or.inl h9
  refine hb_aload_n G dX2_thin_0 hl rfl ?_
  refine hb_iload_n G dX2_thin_1 hl rfl ?_
  refine hb_callS (As := [.int x]) (rest := [.ref r]) G hml (m_isLog g l x _) km_X2_78 kt_X2_isLog kn_X2 ko_X2_isLog hd_X2_isLog ⟨Nat.le_of_ble_eq_true rfl, Nat.le_of_ble_eq_true rfl⟩ hl.size rfl (Nat.le_of_ble_eq_true rfl) dX2_thin_2 ⟨Nat.le_of_ble_eq_true rfl, Nat.le_of_ble_eq_true rfl⟩ hL (f0_in) (fun v1 H locs1 hp hL => ?_)
  obtain ⟨rfl, rfl⟩ := hp
  refine lv_topi (fun r_1 er_1 => ?_)
  refine lv_if_eq (tgt := 24) G.1 G.2.1 dX2_thin_5 (by decide) (fun c_2 => ?_) (fun c_2 => ?_)
  · refine lv_iconst (v := 0) G.1 G.2.1 dX2_thin_24 (by decide) ?_
    have hok : ¬ (mOkT x k) := fun q => (it0 er_1).mp c_2 q.1
    refine hb_callV (As := [.int 0]) (rest := []) G hml (m_goes g l r S B C a A cd wr lf dn en pl _ h 0) (h.1) rfl km_X2_82 ki_X2_goes ks_X2_goes kn_X2 ko_X2_goes hd_X2_goes ⟨Nat.le_of_ble_eq_true rfl, Nat.le_of_ble_eq_true rfl⟩ hl.size rfl (Nat.le_of_ble_eq_true rfl) dX2_thin_25 ⟨Nat.le_of_ble_eq_true rfl, Nat.le_of_ble_eq_true rfl⟩ hL (hMr) (fun v1 K1 locs1 hp hL => ?_)
    obtain ⟨rfl, hk, hF⟩ := hp
    refine lv_topi (fun r_3 er_3 => ?_)
    refine lv_if_ne (tgt := 33) G.1 G.2.1 dX2_thin_28 (by decide) (fun c_4 => ?_) (fun c_4 => ?_)
    · exact absurd (by rw [er_3]; rfl) c_4
    · refine lv_iconst (v := 0) G.1 G.2.1 dX2_thin_31 (by decide) ?_
      exact hb_iret G hr hlocks (Or.inl ⟨by rw [if_neg hok]; show ¬ goC 0 dn = 0; unfold goC; rw [if_pos rfl]; decide, rfl, by rw [if_neg hok]; exact hk, Mo.fd hF⟩) hL (Nat.le_of_ble_eq_true rfl) (Nat.le_of_ble_eq_true rfl) dX2_thin_32
  · have hlg : 0 ≤ x ∧ x < 4 := Decidable.not_not.mp (fun q => c_2 ((it0 er_1).mpr q))
    refine hb_iload_n G dX2_thin_8 hl rfl ?_
    refine lv_iconst (v := 1) G.1 G.2.1 dX2_thin_9 (by decide) ?_
    refine lv_icmp_lt (tgt := 24) G.1 G.2.1 dX2_thin_10 (by decide) (fun c_5 => ?_) (fun c_5 => ?_)
    · refine lv_iconst (v := 0) G.1 G.2.1 dX2_thin_24 (by decide) ?_
      have hok : ¬ (mOkT x k) := fun q => i32_nlt.mpr q.2.1 c_5
      refine hb_callV (As := [.int 0]) (rest := []) G hml (m_goes g l r S B C a A cd wr lf dn en pl _ h 0) (h.1) rfl km_X2_82 ki_X2_goes ks_X2_goes kn_X2 ko_X2_goes hd_X2_goes ⟨Nat.le_of_ble_eq_true rfl, Nat.le_of_ble_eq_true rfl⟩ hl.size rfl (Nat.le_of_ble_eq_true rfl) dX2_thin_25 ⟨Nat.le_of_ble_eq_true rfl, Nat.le_of_ble_eq_true rfl⟩ hL (hMr) (fun v1 K1 locs1 hp hL => ?_)
      obtain ⟨rfl, hk, hF⟩ := hp
      refine lv_topi (fun r_6 er_6 => ?_)
      refine lv_if_ne (tgt := 33) G.1 G.2.1 dX2_thin_28 (by decide) (fun c_7 => ?_) (fun c_7 => ?_)
      · exact absurd (by rw [er_6]; rfl) c_7
      · refine lv_iconst (v := 0) G.1 G.2.1 dX2_thin_31 (by decide) ?_
        exact hb_iret G hr hlocks (Or.inl ⟨by rw [if_neg hok]; show ¬ goC 0 dn = 0; unfold goC; rw [if_pos rfl]; decide, rfl, by rw [if_neg hok]; exact hk, Mo.fd hF⟩) hL (Nat.le_of_ble_eq_true rfl) (Nat.le_of_ble_eq_true rfl) dX2_thin_32
    · refine hb_iload_n G dX2_thin_13 hl rfl ?_
      refine lv_sipush (v := 1000) G.1 G.2.1 dX2_thin_14 (by decide) ?_
      refine lv_icmp_gt (tgt := 24) G.1 G.2.1 dX2_thin_17 (by decide) (fun c_8 => ?_) (fun c_8 => ?_)
      · refine lv_iconst (v := 0) G.1 G.2.1 dX2_thin_24 (by decide) ?_
        have hok : ¬ (mOkT x k) := fun q => i32_nlt.mpr q.2.2 c_8
        refine hb_callV (As := [.int 0]) (rest := []) G hml (m_goes g l r S B C a A cd wr lf dn en pl _ h 0) (h.1) rfl km_X2_82 ki_X2_goes ks_X2_goes kn_X2 ko_X2_goes hd_X2_goes ⟨Nat.le_of_ble_eq_true rfl, Nat.le_of_ble_eq_true rfl⟩ hl.size rfl (Nat.le_of_ble_eq_true rfl) dX2_thin_25 ⟨Nat.le_of_ble_eq_true rfl, Nat.le_of_ble_eq_true rfl⟩ hL (hMr) (fun v1 K1 locs1 hp hL => ?_)
        obtain ⟨rfl, hk, hF⟩ := hp
        refine lv_topi (fun r_9 er_9 => ?_)
        refine lv_if_ne (tgt := 33) G.1 G.2.1 dX2_thin_28 (by decide) (fun c_10 => ?_) (fun c_10 => ?_)
        · exact absurd (by rw [er_9]; rfl) c_10
        · refine lv_iconst (v := 0) G.1 G.2.1 dX2_thin_31 (by decide) ?_
          exact hb_iret G hr hlocks (Or.inl ⟨by rw [if_neg hok]; show ¬ goC 0 dn = 0; unfold goC; rw [if_pos rfl]; decide, rfl, by rw [if_neg hok]; exact hk, Mo.fd hF⟩) hL (Nat.le_of_ble_eq_true rfl) (Nat.le_of_ble_eq_true rfl) dX2_thin_32
      · have hok : mOkT x k := ⟨hlg, i32_nlt.mp c_5, i32_nlt.mp c_8⟩
        refine lv_iconst (v := 1) G.1 G.2.1 dX2_thin_20 (by decide) ?_
        refine lv_goto (tgt := 25) G.1 G.2.1 dX2_thin_21 (by decide) ?_
        refine hb_callV (As := [.int 1]) (rest := []) G hml (m_goes g l r S B C a A cd wr lf dn en pl _ h 1) (h.1) rfl km_X2_82 ki_X2_goes ks_X2_goes kn_X2 ko_X2_goes hd_X2_goes ⟨Nat.le_of_ble_eq_true rfl, Nat.le_of_ble_eq_true rfl⟩ hl.size rfl (Nat.le_of_ble_eq_true rfl) dX2_thin_25 ⟨Nat.le_of_ble_eq_true rfl, Nat.le_of_ble_eq_true rfl⟩ hL (hMr) (fun v1 K1 locs1 hp hL => ?_)
        obtain ⟨rfl, hk, hF⟩ := hp
        have hg1 : goC 1 dn = if dn = 0 then 0 else 2 := by unfold goC; rw [if_neg (by decide)]
        refine lv_topi (fun r_11 er_11 => ?_)
        refine lv_if_ne (tgt := 33) G.1 G.2.1 dX2_thin_28 (by decide) (fun c_12 => ?_) (fun c_12 => ?_)
        · have hg0 : goC 1 dn = 0 := Decidable.not_not.mp (fun q => c_12 ((it0 er_11).mpr q))
          have hdn : dn = 0 := Decidable.not_not.mp (fun q => by rw [hg1, if_neg q] at hg0; exact absurd hg0 (by decide))
          rw [hg0] at hk
          obtain ⟨i, hi, rfl⟩ := dkIs_of hlg
          obtain ⟨hal, hal2, hsz, hpl, hsg, hns⟩ := hpre i hi rfl hok.2
          have hk1 : ¬ k = 0 := fun q => by have := hok.2.1; rw [q] at this; exact absurd this (by decide)
          obtain ⟨P, eP⟩ : ∃ z, z = thP A S B k (al i) (sz i) := ⟨_, rfl⟩
          refine hb_aload_n G dX2_thin_33 hl rfl ?_
          refine hb_iload_n G dX2_thin_34 hl rfl ?_
          refine hb_callV (As := [.int (nI i)]) (rest := []) G hml (m_closed g l r S B C a A 0 wr lf dn en pl _ hk hB hA i hi) (hk.1) rfl km_X2_121 ki_X2_closed ks_X2_closed kn_X2 ko_X2_closed hd_X2_closed ⟨Nat.le_of_ble_eq_true rfl, Nat.le_of_ble_eq_true rfl⟩ hl.size rfl (Nat.le_of_ble_eq_true rfl) dX2_thin_35 ⟨Nat.le_of_ble_eq_true rfl, Nat.le_of_ble_eq_true rfl⟩ hL (f0_in) (fun v1 K1 locs1 hp hL => ?_)
          obtain ⟨rfl, rfl⟩ := hp
          rw [hal]
          refine hb_iload_n G dX2_thin_38 hl rfl ?_
          refine lv_iadd G.1 G.2.1 dX2_thin_39 ?_
          refine lv_topi (fun t_13 et_13 => ?_)
          refine lv_iconst (v := 1) G.1 G.2.1 dX2_thin_40 (by decide) ?_
          refine lv_isub G.1 G.2.1 dX2_thin_41 ?_
          refine lv_topi (fun t_14 et_14 => ?_)
          refine hb_iload_n G dX2_thin_42 hl rfl ?_
          refine lv_idiv G.1 G.2.1 dX2_thin_43 (hk1) ?_
          refine lv_topi (fun t_15 et_15 => ?_)
          refine hb_istore_n G dX2_thin_44 hl (by decide) (fun ls hl => ?_)
          have hl : lh ls 6 [some (.ref r), some (.int (nI i)), some (.int k), some (.int t_15), none, none] := hl
          obtain ⟨g9, eg9⟩ : ∃ z, z = (nI (al i) + k - 1) / k := ⟨_, rfl⟩
          obtain rfl : t_15 = g9 := by rw [et_15, et_14, et_13, eg9]
          rw [← eg9] at hns
          refine hb_iload_n G dX2_thin_45 hl rfl ?_
          refine lv_if_ne (tgt := 51) G.1 G.2.1 dX2_thin_46 (by decide) (fun c_16 => ?_) (fun c_16 => ?_)
          · have hg9 : ¬ (nI (al i) + k - 1) / k = 0 := by rw [← eg9]; exact c_16
            have hpl2 : P.2.2.2.2 ≤ 59 := by rw [eP]; exact hpl _ (Nat.le_refl _)
            refine hb_aload_n G dX2_thin_51 hl rfl ?_
            refine hb_iload_n G dX2_thin_52 hl rfl ?_
            refine hb_iload_n G dX2_thin_53 hl rfl ?_
            refine hb_callV (As := [.int (nI i), .int k]) (rest := []) G hml (m_plan g l r S B C a A 0 wr lf dn en pl _ hk hB hA i hi k hk1 (al i) (sz i) hal hal2 hsz hpl) (hk.1) rfl km_X2_127 ki_X2_plan ks_X2_plan kn_X2 ko_X2_plan hd_X2_plan ⟨Nat.le_of_ble_eq_true rfl, Nat.le_of_ble_eq_true rfl⟩ hl.size rfl (Nat.le_of_ble_eq_true rfl) dX2_thin_54 ⟨Nat.le_of_ble_eq_true rfl, Nat.le_of_ble_eq_true rfl⟩ hL (fun q h => h) (fun v1 K2 locs2 hp hL => ?_)
            rw [show pRun S B k (sz i) (pIni A S B) (al i) = P from eP.symm] at hp
            obtain ⟨rfl, hk2, hm2⟩ := hp
            have hm2 : Mo r a _ K2 := (Mo.fd hF).tr hm2
            refine lv_topi (fun r_17 er_17 => ?_)
            refine lv_if_ne (tgt := 63) G.1 G.2.1 dX2_thin_57 (by decide) (fun c_18 => ?_) (fun c_18 => ?_)
            · have hP1 : ¬ P.1 = 0 := fun q => c_18 (by rw [er_17, if_pos q])
              have lp : ∀ (k9 j : Nat) (nb sb : Int32)  (locs : List Loc) (ls : Array Slot), (P.2.2.2.2 + 1 ≤ j + k9) → (j ≤ P.2.2.2.2) → (sb = nI j) → (nb = mTB P.2.2.2.1 j) → (∀ q ∈ locs, (fM r a) q.base) → lh ls 6 [some (.ref r), some (.int (nI i)), some (.int k), some (.int t_15), some (.int nb), some (.int sb)] → W p l e ({ frames := 3, cells := 0, slots := 0, locals := 78 } : Room) s m args below meth c K2 locs 0 0 (hQ below args s (mThd g r S B C a A cd wr lf dn en pl al sz (nI i) k H) 0 0 (fM r a)) (F0 m 69 ls []) := by
                intro k9
                induction k9 with
                | zero =>
                  intro j nb sb  locs ls hd9 hj esb enb hL hl
                  exfalso; omega
                | succ k9 ih =>
                  intro j nb sb  locs ls hd9 hj esb enb hL hl
                  refine hb_iload G dX2_thin_69 hl rfl ?_
                  refine hb_aload_n G dX2_thin_71 hl rfl ?_
                  refine hb_get G hk2.1 rfl inX2 17 (by decide) kf_X2_118 rfl rfl dX2_thin_72 ?_
                  refine lv_icmp_ge (tgt := 100) G.1 G.2.1 dX2_thin_75 (by decide) (fun c_19 => ?_) (fun c_19 => ?_)
                  · have hj2 : j = P.2.2.2.2 := by have := (ic_le rfl esb (by omega) (by omega)).mp c_19; omega
                    subst enb
                    rw [hj2] at *
                    have hl : lh ls 6 [some (.ref r), some (.int (nI i)), some (.int k), some (.int t_15), some (.int (mTB P.2.2.2.1 P.2.2.2.2)), some (.int sb)] := hl
                    refine hb_aload_n G dX2_thin_100 hl rfl ?_
                    refine hb_iload G dX2_thin_101 hl rfl ?_
                    refine hb_callV (As := [.int (mTB P.2.2.2.1 P.2.2.2.2)]) (rest := []) G hml (m_spend g l r S B C a (mPA A P) 0 wr lf dn en P.2.2.2.2 _ hk2 (mTB P.2.2.2.1 P.2.2.2.2)) (hk2.1) rfl km_X2_97 ki_X2_spend ks_X2_spend kn_X2 ko_X2_spend hd_X2_spend ⟨Nat.le_of_ble_eq_true rfl, Nat.le_of_ble_eq_true rfl⟩ hl.size rfl (Nat.le_of_ble_eq_true rfl) dX2_thin_103 ⟨Nat.le_of_ble_eq_true rfl, Nat.le_of_ble_eq_true rfl⟩ hL (hMr) (fun v1 K3 locs3 hp hL => ?_)
                    obtain ⟨rfl, hk3, hF3⟩ := hp
                    have hm3 : Mo r a _ K3 := hm2.tr (Mo.fd hF3)
                    refine lv_topi (fun r_20 er_20 => ?_)
                    refine lv_if_eq (tgt := 115) G.1 G.2.1 dX2_thin_106 (by decide) (fun c_21 => ?_) (fun c_21 => ?_)
                    · refine hb_aload_n G dX2_thin_115 hl rfl ?_
                      refine hb_get G hk3.1 rfl inX2 5 (by decide) kf_X2_60 rfl rfl dX2_thin_116 ?_
                      refine lv_if_eq (tgt := 127) G.1 G.2.1 dX2_thin_119 (by decide) (fun c_22 => ?_) (fun c_22 => ?_)
                      · refine hb_iload_n G dX2_thin_127 hl rfl ?_
                        exact hb_iret G hr hlocks (Or.inr ⟨i, hi, rfl, hok.2, hdn, P, eP, Or.inr (Or.inr ⟨hg9, hP1, by rw [if_pos c_22, ← eg9], hm3, Or.inl ⟨by rw [← er_20]; exact c_21, hk3⟩⟩)⟩) hL (Nat.le_of_ble_eq_true rfl) (Nat.le_of_ble_eq_true rfl) dX2_thin_128
                      · refine lv_bipush (v := (-3)) G.1 G.2.1 dX2_thin_122 (by decide) ?_
                        refine lv_goto (tgt := 128) G.1 G.2.1 dX2_thin_124 (by decide) ?_
                        exact hb_iret G hr hlocks (Or.inr ⟨i, hi, rfl, hok.2, hdn, P, eP, Or.inr (Or.inr ⟨hg9, hP1, by rw [if_neg c_22], hm3, Or.inl ⟨by rw [← er_20]; exact c_21, hk3⟩⟩)⟩) hL (Nat.le_of_ble_eq_true rfl) (Nat.le_of_ble_eq_true rfl) dX2_thin_128
                    · refine hb_aload_n G dX2_thin_109 hl rfl ?_
                      refine hb_iload_n G dX2_thin_110 hl rfl ?_
                      refine hb_iload_n G dX2_thin_111 hl rfl ?_
                      refine hb_callV (As := [.int (nI i), .int k]) (rest := []) G hml (m_happen g l r S B C a (mPA A P) 0 _ _ _ en P.2.2.2.2 _ hk3 hB hA i hi (hns (by rw [eg9]; exact hg9)) k hk1 (al i) (sz i) ((mCl_eq (A := A) (A2 := mPA A P) rfl rfl rfl rfl i en).trans hal) hal2 hsz hpl2 (fun j9 h9 => by have := hsg (by rw [← eP]; exact hP1) j9 h9; rw [← eP] at this; exact this)) (hk3.1) rfl km_X2_131 ki_X2_happen ks_X2_happen kn_X2 ko_X2_happen hd_X2_happen ⟨Nat.le_of_ble_eq_true rfl, Nat.le_of_ble_eq_true rfl⟩ hl.size rfl (Nat.le_of_ble_eq_true rfl) dX2_thin_112 ⟨Nat.le_of_ble_eq_true rfl, Nat.le_of_ble_eq_true rfl⟩ hL (fun q h => h) (fun v1 K4 locs4 hp hL => ?_)
                      obtain ⟨rfl, A3, hk4, hha, hm4⟩ := hp
                      refine hb_aload_n G dX2_thin_115 hl rfl ?_
                      refine hb_get G hk4.1 rfl inX2 5 (by decide) kf_X2_60 rfl rfl dX2_thin_116 ?_
                      refine lv_if_eq (tgt := 127) G.1 G.2.1 dX2_thin_119 (by decide) (fun c_23 => ?_) (fun c_23 => ?_)
                      · refine hb_iload_n G dX2_thin_127 hl rfl ?_
                        exact hb_iret G hr hlocks (Or.inr ⟨i, hi, rfl, hok.2, hdn, P, eP, Or.inr (Or.inr ⟨hg9, hP1, by rw [if_pos c_23, ← eg9], (hm3.tr hm4), Or.inr ⟨by rw [← er_20]; exact c_21, A3, hk4, hha⟩⟩)⟩) hL (Nat.le_of_ble_eq_true rfl) (Nat.le_of_ble_eq_true rfl) dX2_thin_128
                      · refine lv_bipush (v := (-3)) G.1 G.2.1 dX2_thin_122 (by decide) ?_
                        refine lv_goto (tgt := 128) G.1 G.2.1 dX2_thin_124 (by decide) ?_
                        exact hb_iret G hr hlocks (Or.inr ⟨i, hi, rfl, hok.2, hdn, P, eP, Or.inr (Or.inr ⟨hg9, hP1, by rw [if_neg c_23], (hm3.tr hm4), Or.inr ⟨by rw [← er_20]; exact c_21, A3, hk4, hha⟩⟩)⟩) hL (Nat.le_of_ble_eq_true rfl) (Nat.le_of_ble_eq_true rfl) dX2_thin_128
                  · have hj2 : j < P.2.2.2.2 := by have := mt (ic_le rfl esb (by omega) (by omega)).mpr c_19; omega
                    refine hb_iload G dX2_thin_78 hl rfl ?_
                    refine lv_iconst (v := 0) G.1 G.2.1 dX2_thin_80 (by decide) ?_
                    refine hb_aload_n G dX2_thin_81 hl rfl ?_
                    refine hb_get G hk2.1 rfl inX2 19 (by decide) kf_X2_48 rfl rfl dX2_thin_82 ?_
                    refine hb_iload G dX2_thin_85 hl rfl ?_
                    refine hb_iald G (show ia g (a 11) 60 ((mPA A P) 11) _ from hk2.2.1 11 (by decide)) (by rw [esb]; exact vp_in_nI (by omega) (by decide)) dX2_thin_87 ?_
                    refine lv_topi (fun r_24 er_24 => ?_)
                    have er_24 : r_24 = (mPA A P) 11 (j) := by rw [er_24, show (sb).toNatClampNeg = j by rw [esb]; exact nI_clamp (by omega)]
                    refine hb_callS (As := [.int 0, .int r_24]) (rest := [.int nb]) G hml (m_touched g l 0 r_24 _) km_X2_93 kt_X2_touched kn_X2 ko_X2_touched hd_X2_touched ⟨Nat.le_of_ble_eq_true rfl, Nat.le_of_ble_eq_true rfl⟩ hl.size rfl (Nat.le_of_ble_eq_true rfl) dX2_thin_88 ⟨Nat.le_of_ble_eq_true rfl, Nat.le_of_ble_eq_true rfl⟩ hL (f0_in) (fun v1 K2 locs2 hp hL => ?_)
                    obtain ⟨rfl, rfl⟩ := hp
                    refine lv_topi (fun r_25 er_25 => ?_)
                    refine lv_iadd G.1 G.2.1 dX2_thin_91 ?_
                    refine lv_topi (fun t_26 et_26 => ?_)
                    refine hb_istore G dX2_thin_92 hl (by decide) (fun ls hl => ?_)
                    have hl : lh ls 6 [some (.ref r), some (.int (nI i)), some (.int k), some (.int t_15), some (.int t_26), some (.int sb)] := hl
                    obtain ⟨t_27, et_27⟩ : ∃ z : Int32, z = sb + 1 := ⟨_, rfl⟩
                    refine hb_iinc (v := t_27) G dX2_thin_94 hl rfl (by rw [et_27]; rfl) (by decide) (fun ls hl => ?_)
                    have hl : lh ls 6 [some (.ref r), some (.int (nI i)), some (.int k), some (.int t_15), some (.int t_26), some (.int t_27)] := hl
                    refine lv_goto (tgt := 69) G.1 G.2.1 dX2_thin_97 (by decide) ?_
                    exact ih (j + 1) t_26 t_27 locs2 ls (by omega) (by omega) (by rw [et_27, esb]; exact nI_1 _) (by rw [et_26, enb, er_25, er_24]; rfl) hL hl
              refine lv_iconst (v := 1) G.1 G.2.1 dX2_thin_63 (by decide) ?_
              refine hb_istore G dX2_thin_64 hl (by decide) (fun ls hl => ?_)
              have hl : lh ls 6 [some (.ref r), some (.int (nI i)), some (.int k), some (.int t_15), some (.int 1), none] := hl
              refine lv_iconst (v := 0) G.1 G.2.1 dX2_thin_66 (by decide) ?_
              refine hb_istore G dX2_thin_67 hl (by decide) (fun ls hl => ?_)
              have hl : lh ls 6 [some (.ref r), some (.int (nI i)), some (.int k), some (.int t_15), some (.int 1), some (.int 0)] := hl
              exact lp (P.2.2.2.2 + 1) 0 1 0 _ ls (by omega) (by omega) rfl rfl hL hl
            · have hP1 : P.1 = 0 := Decidable.not_not.mp (fun q => by rw [er_17, if_neg q] at c_18; exact absurd c_18 (by decide))
              refine lv_bipush (v := (-2)) G.1 G.2.1 dX2_thin_60 (by decide) ?_
              exact hb_iret G hr hlocks (Or.inr ⟨i, hi, rfl, hok.2, hdn, P, eP, Or.inr (Or.inl ⟨hg9, hP1, rfl, hk2, hm2⟩)⟩) hL (Nat.le_of_ble_eq_true rfl) (Nat.le_of_ble_eq_true rfl) dX2_thin_62
          · refine lv_iconst (v := 0) G.1 G.2.1 dX2_thin_49 (by decide) ?_
            exact hb_iret G hr hlocks (Or.inr ⟨i, hi, rfl, hok.2, hdn, P, eP, Or.inl ⟨by rw [← eg9]; exact c_16, rfl, hk, Mo.fd hF⟩⟩) hL (Nat.le_of_ble_eq_true rfl) (Nat.le_of_ble_eq_true rfl) dX2_thin_50
        · have hg2 := (it0 er_11).mp c_12
          refine lv_iconst (v := 0) G.1 G.2.1 dX2_thin_31 (by decide) ?_
          exact hb_iret G hr hlocks (Or.inl ⟨by rw [if_pos hok]; exact hg2, rfl, by rw [if_pos hok]; exact hk, Mo.fd hF⟩) hL (Nat.le_of_ble_eq_true rfl) (Nat.le_of_ble_eq_true rfl) dX2_thin_32
