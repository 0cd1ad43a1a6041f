abbrev mOkL (x w : Int32) : Prop := (0 ≤ x ∧ x < 4) ∧ 0 ≤ w ∧ w ≤ 3
def mLog (A : Nat → Nat → Int32) (i en : Nat) (w : Int32) : Int32 := if w = 0 then nI (mCnt (A 5) (nI i) en) else if w = 1 then A 0 i else if w = 2 then lgSm (A 2) (60 * i) (tn (A 0 i)) else A 3 i
set_option maxHeartbeats 4000000 in
set_option maxRecDepth 100000 in
/-- log -/
theorem m_log (g : Gx) (l : Launch) (r S B C : Nat) (a : Nat → Nat) (A : Nat → Nat → Int32) (cd wr lf dn : Int32) (en pl : Nat) (H : Heap) (h : mdAt g r S B C a A cd wr lf dn en pl H) (hB : mdB S B C en) (hA : sgOk S A) (x w : Int32) : HM g l yX2_log cX2_log 3 (some .int) 1 23 0 0 [.ref r, .int x, .int w] H (fun v H1 => (¬ goC (if mOkL x w then 1 else 0) dn = 0 ∧ v = some (.int 0) ∧ mdAt g r S B C a A (goC (if mOkL x w then 1 else 0) dn) wr lf dn en pl H1 ∧ Mo r a H H1) ∨ (∃ i, i < 4 ∧ x = nI i ∧ (0 ≤ w ∧ w ≤ 3) ∧ dn = 0 ∧ v = some (.int (mLog A i en w)) ∧ mdAt g r S B C a A 0 wr lf dn en pl H1 ∧ Mo r a H H1)) (fM r a) := by
  refine HM.ofW (by decide) (Nat.le_of_ble_eq_true rfl) (by simp [Value.category]) ?_
  intro p e s m args below meth c ls G hr hml hlocks hnm hH hl
  have hl : lh ls 3 [some (.ref r), some (.int x), some (.int w)] := hl
  have hL : ∀ q ∈ ([] : List Loc), (fM r a) q.base := fun q h => by cases h
  have hMr : ∀ q, f1 r q → fM r a q := fun q h9 => Or.inl h9
  refine hb_aload_n G dX2_log_0 hl rfl ?_
  refine hb_iload_n G dX2_log_1 hl rfl ?_
  refine hb_callS (As := [.int x]) (rest := [.ref r]) G hml (m_isLog g l x _) km_X2_78 kt_X2_isLog kn_X2 ko_X2_isLog hd_X2_isLog ⟨Nat.le_of_ble_eq_true rfl, Nat.le_of_ble_eq_true rfl⟩ hl.size rfl (Nat.le_of_ble_eq_true rfl) dX2_log_2 ⟨Nat.le_of_ble_eq_true rfl, Nat.le_of_ble_eq_true rfl⟩ hL (f0_in) (fun v1 H locs1 hp hL => ?_)
  obtain ⟨rfl, rfl⟩ := hp
  refine lv_topi (fun r_1 er_1 => ?_)
  refine lv_if_eq (tgt := 21) G.1 G.2.1 dX2_log_5 (by decide) (fun c_2 => ?_) (fun c_2 => ?_)
  · refine lv_iconst (v := 0) G.1 G.2.1 dX2_log_21 (by decide) ?_
    have hok : ¬ (mOkL x w) := fun q => (it0 er_1).mp c_2 q.1
    refine hb_callV (As := [.int 0]) (rest := []) G hml (m_goes g l r S B C a A cd wr lf dn en pl _ h 0) (h.1) rfl km_X2_82 ki_X2_goes ks_X2_goes kn_X2 ko_X2_goes hd_X2_goes ⟨Nat.le_of_ble_eq_true rfl, Nat.le_of_ble_eq_true rfl⟩ hl.size rfl (Nat.le_of_ble_eq_true rfl) dX2_log_22 ⟨Nat.le_of_ble_eq_true rfl, Nat.le_of_ble_eq_true rfl⟩ hL (hMr) (fun v1 K1 locs1 hp hL => ?_)
    obtain ⟨rfl, hk, hF⟩ := hp
    refine lv_topi (fun r_3 er_3 => ?_)
    refine lv_if_ne (tgt := 30) G.1 G.2.1 dX2_log_25 (by decide) (fun c_4 => ?_) (fun c_4 => ?_)
    · exact absurd (by rw [er_3]; rfl) c_4
    · refine lv_iconst (v := 0) G.1 G.2.1 dX2_log_28 (by decide) ?_
      exact hb_iret G hr hlocks (Or.inl ⟨by rw [if_neg hok]; show ¬ goC 0 dn = 0; unfold goC; rw [if_pos rfl]; decide, rfl, by rw [if_neg hok]; exact hk, Mo.fd hF⟩) hL (Nat.le_of_ble_eq_true rfl) (Nat.le_of_ble_eq_true rfl) dX2_log_29
  · have hlg : 0 ≤ x ∧ x < 4 := Decidable.not_not.mp (fun q => c_2 ((it0 er_1).mpr q))
    refine hb_iload_n G dX2_log_8 hl rfl ?_
    refine lv_if_lt (tgt := 21) G.1 G.2.1 dX2_log_9 (by decide) (fun c_5 => ?_) (fun c_5 => ?_)
    · refine lv_iconst (v := 0) G.1 G.2.1 dX2_log_21 (by decide) ?_
      have hok : ¬ (mOkL x w) := fun q => i32_nlt.mpr q.2.1 c_5
      refine hb_callV (As := [.int 0]) (rest := []) G hml (m_goes g l r S B C a A cd wr lf dn en pl _ h 0) (h.1) rfl km_X2_82 ki_X2_goes ks_X2_goes kn_X2 ko_X2_goes hd_X2_goes ⟨Nat.le_of_ble_eq_true rfl, Nat.le_of_ble_eq_true rfl⟩ hl.size rfl (Nat.le_of_ble_eq_true rfl) dX2_log_22 ⟨Nat.le_of_ble_eq_true rfl, Nat.le_of_ble_eq_true rfl⟩ hL (hMr) (fun v1 K1 locs1 hp hL => ?_)
      obtain ⟨rfl, hk, hF⟩ := hp
      refine lv_topi (fun r_6 er_6 => ?_)
      refine lv_if_ne (tgt := 30) G.1 G.2.1 dX2_log_25 (by decide) (fun c_7 => ?_) (fun c_7 => ?_)
      · exact absurd (by rw [er_6]; rfl) c_7
      · refine lv_iconst (v := 0) G.1 G.2.1 dX2_log_28 (by decide) ?_
        exact hb_iret G hr hlocks (Or.inl ⟨by rw [if_neg hok]; show ¬ goC 0 dn = 0; unfold goC; rw [if_pos rfl]; decide, rfl, by rw [if_neg hok]; exact hk, Mo.fd hF⟩) hL (Nat.le_of_ble_eq_true rfl) (Nat.le_of_ble_eq_true rfl) dX2_log_29
    · refine hb_iload_n G dX2_log_12 hl rfl ?_
      refine lv_iconst (v := 3) G.1 G.2.1 dX2_log_13 (by decide) ?_
      refine lv_icmp_gt (tgt := 21) G.1 G.2.1 dX2_log_14 (by decide) (fun c_8 => ?_) (fun c_8 => ?_)
      · refine lv_iconst (v := 0) G.1 G.2.1 dX2_log_21 (by decide) ?_
        have hok : ¬ (mOkL x w) := fun q => i32_nlt.mpr q.2.2 c_8
        refine hb_callV (As := [.int 0]) (rest := []) G hml (m_goes g l r S B C a A cd wr lf dn en pl _ h 0) (h.1) rfl km_X2_82 ki_X2_goes ks_X2_goes kn_X2 ko_X2_goes hd_X2_goes ⟨Nat.le_of_ble_eq_true rfl, Nat.le_of_ble_eq_true rfl⟩ hl.size rfl (Nat.le_of_ble_eq_true rfl) dX2_log_22 ⟨Nat.le_of_ble_eq_true rfl, Nat.le_of_ble_eq_true rfl⟩ hL (hMr) (fun v1 K1 locs1 hp hL => ?_)
        obtain ⟨rfl, hk, hF⟩ := hp
        refine lv_topi (fun r_9 er_9 => ?_)
        refine lv_if_ne (tgt := 30) G.1 G.2.1 dX2_log_25 (by decide) (fun c_10 => ?_) (fun c_10 => ?_)
        · exact absurd (by rw [er_9]; rfl) c_10
        · refine lv_iconst (v := 0) G.1 G.2.1 dX2_log_28 (by decide) ?_
          exact hb_iret G hr hlocks (Or.inl ⟨by rw [if_neg hok]; show ¬ goC 0 dn = 0; unfold goC; rw [if_pos rfl]; decide, rfl, by rw [if_neg hok]; exact hk, Mo.fd hF⟩) hL (Nat.le_of_ble_eq_true rfl) (Nat.le_of_ble_eq_true rfl) dX2_log_29
      · have hok : mOkL x w := ⟨hlg, i32_nlt.mp c_5, i32_nlt.mp c_8⟩
        refine lv_iconst (v := 1) G.1 G.2.1 dX2_log_17 (by decide) ?_
        refine lv_goto (tgt := 22) G.1 G.2.1 dX2_log_18 (by decide) ?_
        refine hb_callV (As := [.int 1]) (rest := []) G hml (m_goes g l r S B C a A cd wr lf dn en pl _ h 1) (h.1) rfl km_X2_82 ki_X2_goes ks_X2_goes kn_X2 ko_X2_goes hd_X2_goes ⟨Nat.le_of_ble_eq_true rfl, Nat.le_of_ble_eq_true rfl⟩ hl.size rfl (Nat.le_of_ble_eq_true rfl) dX2_log_22 ⟨Nat.le_of_ble_eq_true rfl, Nat.le_of_ble_eq_true rfl⟩ hL (hMr) (fun v1 K1 locs1 hp hL => ?_)
        obtain ⟨rfl, hk, hF⟩ := hp
        have hg1 : goC 1 dn = if dn = 0 then 0 else 2 := by unfold goC; rw [if_neg (by decide)]
        refine lv_topi (fun r_11 er_11 => ?_)
        refine lv_if_ne (tgt := 30) G.1 G.2.1 dX2_log_25 (by decide) (fun c_12 => ?_) (fun c_12 => ?_)
        · have hg0 : goC 1 dn = 0 := Decidable.not_not.mp (fun q => c_12 ((it0 er_11).mpr q))
          have hdn : dn = 0 := Decidable.not_not.mp (fun q => by rw [hg1, if_neg q] at hg0; exact absurd hg0 (by decide))
          rw [hg0] at hk
          obtain ⟨i, hi, rfl⟩ := dkIs_of hlg
          obtain ⟨hs0, hs1, hs2⟩ := hA i hi
          refine hb_iload_n G dX2_log_30 hl rfl ?_
          refine lv_if_ne (tgt := 42) G.1 G.2.1 dX2_log_31 (by decide) (fun c_13 => ?_) (fun c_13 => ?_)
          · refine hb_iload_n G dX2_log_42 hl rfl ?_
            refine lv_iconst (v := 1) G.1 G.2.1 dX2_log_43 (by decide) ?_
            refine lv_icmp_ne (tgt := 56) G.1 G.2.1 dX2_log_44 (by decide) (fun c_14 => ?_) (fun c_14 => ?_)
            · refine hb_iload_n G dX2_log_56 hl rfl ?_
              refine lv_iconst (v := 2) G.1 G.2.1 dX2_log_57 (by decide) ?_
              refine lv_icmp_ne (tgt := 69) G.1 G.2.1 dX2_log_58 (by decide) (fun c_15 => ?_) (fun c_15 => ?_)
              · refine hb_aload_n G dX2_log_69 hl rfl ?_
                refine hb_get G hk.1 rfl inX2 9 (by decide) kf_X2_23 rfl rfl dX2_log_70 ?_
                refine hb_iload_n G dX2_log_73 hl rfl ?_
                refine hb_iald G (show ia g (a 3) 4 (A 3) _ from hk.2.1 3 (by decide)) (by rw [show nI i = nI i from rfl]; exact vp_in_nI (by omega) (by decide)) dX2_log_74 ?_
                refine lv_topi (fun r_16 er_16 => ?_)
                have er_16 : r_16 = A 3 (i) := by rw [er_16, show ((nI i)).toNatClampNeg = i by rw [show nI i = nI i from rfl]; exact nI_clamp (by omega)]
                exact hb_iret G hr hlocks (Or.inr ⟨i, hi, rfl, hok.2, hdn, by unfold mLog; rw [if_neg c_13, if_neg c_14, if_neg c_15, er_16], hk, Mo.fd hF⟩) hL (Nat.le_of_ble_eq_true rfl) (Nat.le_of_ble_eq_true rfl) dX2_log_75
              · refine hb_aload_n G dX2_log_61 hl rfl ?_
                refine hb_iload_n G dX2_log_62 hl rfl ?_
                refine hb_callV (As := [.int (nI i)]) (rest := []) G hml (m_sum g l r S B C a A 0 wr lf dn en pl _ hk hB hA i hi) (hk.1) rfl km_X2_104 ki_X2_sum ks_X2_sum kn_X2 ko_X2_sum hd_X2_sum ⟨Nat.le_of_ble_eq_true rfl, Nat.le_of_ble_eq_true rfl⟩ hl.size rfl (Nat.le_of_ble_eq_true rfl) dX2_log_63 ⟨Nat.le_of_ble_eq_true rfl, Nat.le_of_ble_eq_true rfl⟩ hL (f0_in) (fun v1 K1 locs1 hp hL => ?_)
                obtain ⟨rfl, rfl⟩ := hp
                refine lv_goto (tgt := 75) G.1 G.2.1 dX2_log_66 (by decide) ?_
                exact hb_iret G hr hlocks (Or.inr ⟨i, hi, rfl, hok.2, hdn, by unfold mLog; rw [if_neg c_13, if_neg c_14, if_pos c_15], hk, Mo.fd hF⟩) hL (Nat.le_of_ble_eq_true rfl) (Nat.le_of_ble_eq_true rfl) dX2_log_75
            · refine hb_aload_n G dX2_log_47 hl rfl ?_
              refine hb_get G hk.1 rfl inX2 6 (by decide) kf_X2_13 rfl rfl dX2_log_48 ?_
              refine hb_iload_n G dX2_log_51 hl rfl ?_
              refine hb_iald G (show ia g (a 0) 4 (A 0) _ from hk.2.1 0 (by decide)) (by rw [show nI i = nI i from rfl]; exact vp_in_nI (by omega) (by decide)) dX2_log_52 ?_
              refine lv_topi (fun r_17 er_17 => ?_)
              have er_17 : r_17 = A 0 (i) := by rw [er_17, show ((nI i)).toNatClampNeg = i by rw [show nI i = nI i from rfl]; exact nI_clamp (by omega)]
              refine lv_goto (tgt := 75) G.1 G.2.1 dX2_log_53 (by decide) ?_
              exact hb_iret G hr hlocks (Or.inr ⟨i, hi, rfl, hok.2, hdn, by unfold mLog; rw [if_neg c_13, if_pos c_14, er_17], hk, Mo.fd hF⟩) hL (Nat.le_of_ble_eq_true rfl) (Nat.le_of_ble_eq_true rfl) dX2_log_75
          · refine hb_aload_n G dX2_log_34 hl rfl ?_
            refine hb_iload_n G dX2_log_35 hl rfl ?_
            refine hb_callV (As := [.int (nI i)]) (rest := []) G hml (m_count g l r S B C a A 0 wr lf dn en pl _ hk hB (nI i)) (hk.1) rfl km_X2_115 ki_X2_count ks_X2_count kn_X2 ko_X2_count hd_X2_count ⟨Nat.le_of_ble_eq_true rfl, Nat.le_of_ble_eq_true rfl⟩ hl.size rfl (Nat.le_of_ble_eq_true rfl) dX2_log_36 ⟨Nat.le_of_ble_eq_true rfl, Nat.le_of_ble_eq_true rfl⟩ hL (f0_in) (fun v1 K1 locs1 hp hL => ?_)
            obtain ⟨rfl, rfl⟩ := hp
            refine lv_goto (tgt := 75) G.1 G.2.1 dX2_log_39 (by decide) ?_
            exact hb_iret G hr hlocks (Or.inr ⟨i, hi, rfl, hok.2, hdn, by unfold mLog; rw [if_pos c_13], hk, Mo.fd hF⟩) hL (Nat.le_of_ble_eq_true rfl) (Nat.le_of_ble_eq_true rfl) dX2_log_75
        · have hg2 := (it0 er_11).mp c_12
          refine lv_iconst (v := 0) G.1 G.2.1 dX2_log_28 (by decide) ?_
          exact hb_iret G hr hlocks (Or.inl ⟨by rw [if_pos hok]; exact hg2, rfl, by rw [if_pos hok]; exact hk, Mo.fd hF⟩) hL (Nat.le_of_ble_eq_true rfl) (Nat.le_of_ble_eq_true rfl) dX2_log_29
abbrev mOkE (A : Nat → Nat → Int32) (dn : Int32) (en : Nat) (x n w : Int32) : Prop := mIsE A dn en x n ∧ 0 ≤ w ∧ w ≤ 2
def mEnt (A : Nat → Nat → Int32) (i e : Nat) (w y : Int32) : Prop := (w = 0 ∧ y = A 6 e) ∨ (w = 1 ∧ y = A 8 e + A 9 e / 1024) ∨ (w = 2 ∧ ∃ k, k < 60 ∧ y = nI k ∧ A 1 (60 * i + k) = A 8 e ∧ ∀ q, q < k → ¬ A 1 (60 * i + q) = A 8 e)
def mEntd (g : Gx) (r S B C : Nat) (a : Nat → Nat) (A : Nat → Nat → Int32) (cd wr lf dn : Int32) (en pl : Nat) (x n w : Int32) (H : Heap) (v : Option Value) (H1 : Heap) : Prop := (¬ goC (if mOkE A dn en x n w then 1 else 0) dn = 0 ∧ v = some (.int 0) ∧ mdAt g r S B C a A (goC (if mOkE A dn en x n w then 1 else 0) dn) wr lf dn en pl H1 ∧ Mo r a H H1) ∨ (∃ i, i < 4 ∧ x = nI i ∧ (0 ≤ w ∧ w ≤ 2) ∧ dn = 0 ∧ ∃ e, e < en ∧ A 5 e = nI i ∧ n = nI (mCnt (A 5) (nI i) e) ∧ ∃ y, v = some (.int y) ∧ mEnt A i e w y ∧ mdAt g r S B C a A 0 wr lf dn en pl H1 ∧ Mo r a H H1)
theorem i32_cl (x : Int32) : tn x < 2 ^ 31 := by unfold tn Int32.toNatClampNeg; have := x.toInt_lt; omega
set_option maxHeartbeats 4000000 in
set_option maxRecDepth 100000 in
/-- entry -/
theorem m_entry (g : Gx) (l : Launch) (r S B C : Nat) (a : Nat → Nat) (A : Nat → Nat → Int32) (cd wr lf dn : Int32) (en pl : Nat) (H : Heap) (h : mdAt g r S B C a A cd wr lf dn en pl H) (hB : mdB S B C en) (hA : sgOk S A) (x n w : Int32) (hse : ∀ i, i < 4 → ∀ e, e < en → A 5 e = nI i → ∃ k, k < 60 ∧ A 1 (60 * i + k) = A 8 e) : HM g l yX2_entry cX2_entry 6 (some .int) 2 45 0 0 [.ref r, .int x, .int n, .int w] H (mEntd g r S B C a A cd wr lf dn en pl x n w H) (fM r a) := by
  refine HM.ofW (by decide) (Nat.le_of_ble_eq_true rfl) (by simp [Value.category]) ?_
  intro p e s m args below meth c ls G hr hml hlocks hnm hH hl
  have hl : lh ls 6 [some (.ref r), some (.int x), some (.int n), some (.int w), none, none] := hl
  have hL : ∀ q ∈ ([] : List Loc), (fM r a) q.base := fun q h => by cases h
  have hMr : ∀ q, f1 r q → fM r a q := fun q h9 => Or.inl h9
  refine hb_aload_n G dX2_entry_0 hl rfl ?_
  refine hb_aload_n G dX2_entry_1 hl rfl ?_
  refine hb_iload_n G dX2_entry_2 hl rfl ?_
  refine hb_iload_n G dX2_entry_3 hl rfl ?_
  refine hb_callV (As := [.int x, .int n]) (rest := [.ref r]) G hml (m_isEntry g l r S B C a A cd wr lf dn en pl _ h hB x n) (h.1) rfl km_X2_134 ki_X2_isEntry ks_X2_isEntry kn_X2 ko_X2_isEntry hd_X2_isEntry ⟨Nat.le_of_ble_eq_true rfl, Nat.le_of_ble_eq_true rfl⟩ hl.size rfl (Nat.le_of_ble_eq_true rfl) dX2_entry_4 ⟨Nat.le_of_ble_eq_true rfl, Nat.le_of_ble_eq_true rfl⟩ hL (f0_in) (fun v1 H locs1 hp hL => ?_)
  obtain ⟨rfl, rfl⟩ := hp
  refine lv_topi (fun r_1 er_1 => ?_)
  refine lv_if_eq (tgt := 23) G.1 G.2.1 dX2_entry_7 (by decide) (fun c_2 => ?_) (fun c_2 => ?_)
  · refine lv_iconst (v := 0) G.1 G.2.1 dX2_entry_23 (by decide) ?_
    have hok : ¬ (mOkE A dn en x n w) := fun q => (it0 er_1).mp c_2 q.1
    refine hb_callV (As := [.int 0]) (rest := []) G hml (m_goes g l r S B C a A cd wr lf dn en pl _ h 0) (h.1) rfl km_X2_82 ki_X2_goes ks_X2_goes kn_X2 ko_X2_goes hd_X2_goes ⟨Nat.le_of_ble_eq_true rfl, Nat.le_of_ble_eq_true rfl⟩ hl.size rfl (Nat.le_of_ble_eq_true rfl) dX2_entry_24 ⟨Nat.le_of_ble_eq_true rfl, Nat.le_of_ble_eq_true rfl⟩ hL (hMr) (fun v1 K1 locs1 hp hL => ?_)
    obtain ⟨rfl, hk, hF⟩ := hp
    refine lv_topi (fun r_3 er_3 => ?_)
    refine lv_if_ne (tgt := 32) G.1 G.2.1 dX2_entry_27 (by decide) (fun c_4 => ?_) (fun c_4 => ?_)
    · exact absurd (by rw [er_3]; rfl) c_4
    · refine lv_iconst (v := 0) G.1 G.2.1 dX2_entry_30 (by decide) ?_
      exact hb_iret G hr hlocks (Or.inl ⟨by rw [if_neg hok]; show ¬ goC 0 dn = 0; unfold goC; rw [if_pos rfl]; decide, rfl, by rw [if_neg hok]; exact hk, Mo.fd hF⟩) hL (Nat.le_of_ble_eq_true rfl) (Nat.le_of_ble_eq_true rfl) dX2_entry_31
  · have hie : mIsE A dn en x n := Decidable.not_not.mp (fun q => c_2 ((it0 er_1).mpr q))
    refine hb_iload_n G dX2_entry_10 hl rfl ?_
    refine lv_if_lt (tgt := 23) G.1 G.2.1 dX2_entry_11 (by decide) (fun c_5 => ?_) (fun c_5 => ?_)
    · refine lv_iconst (v := 0) G.1 G.2.1 dX2_entry_23 (by decide) ?_
      have hok : ¬ (mOkE A dn en x n w) := fun q => i32_nlt.mpr q.2.1 c_5
      refine hb_callV (As := [.int 0]) (rest := []) G hml (m_goes g l r S B C a A cd wr lf dn en pl _ h 0) (h.1) rfl km_X2_82 ki_X2_goes ks_X2_goes kn_X2 ko_X2_goes hd_X2_goes ⟨Nat.le_of_ble_eq_true rfl, Nat.le_of_ble_eq_true rfl⟩ hl.size rfl (Nat.le_of_ble_eq_true rfl) dX2_entry_24 ⟨Nat.le_of_ble_eq_true rfl, Nat.le_of_ble_eq_true rfl⟩ hL (hMr) (fun v1 K1 locs1 hp hL => ?_)
      obtain ⟨rfl, hk, hF⟩ := hp
      refine lv_topi (fun r_6 er_6 => ?_)
      refine lv_if_ne (tgt := 32) G.1 G.2.1 dX2_entry_27 (by decide) (fun c_7 => ?_) (fun c_7 => ?_)
      · exact absurd (by rw [er_6]; rfl) c_7
      · refine lv_iconst (v := 0) G.1 G.2.1 dX2_entry_30 (by decide) ?_
        exact hb_iret G hr hlocks (Or.inl ⟨by rw [if_neg hok]; show ¬ goC 0 dn = 0; unfold goC; rw [if_pos rfl]; decide, rfl, by rw [if_neg hok]; exact hk, Mo.fd hF⟩) hL (Nat.le_of_ble_eq_true rfl) (Nat.le_of_ble_eq_true rfl) dX2_entry_31
    · refine hb_iload_n G dX2_entry_14 hl rfl ?_
      refine lv_iconst (v := 2) G.1 G.2.1 dX2_entry_15 (by decide) ?_
      refine lv_icmp_gt (tgt := 23) G.1 G.2.1 dX2_entry_16 (by decide) (fun c_8 => ?_) (fun c_8 => ?_)
      · refine lv_iconst (v := 0) G.1 G.2.1 dX2_entry_23 (by decide) ?_
        have hok : ¬ (mOkE A dn en x n w) := fun q => i32_nlt.mpr q.2.2 c_8
        refine hb_callV (As := [.int 0]) (rest := []) G hml (m_goes g l r S B C a A cd wr lf dn en pl _ h 0) (h.1) rfl km_X2_82 ki_X2_goes ks_X2_goes kn_X2 ko_X2_goes hd_X2_goes ⟨Nat.le_of_ble_eq_true rfl, Nat.le_of_ble_eq_true rfl⟩ hl.size rfl (Nat.le_of_ble_eq_true rfl) dX2_entry_24 ⟨Nat.le_of_ble_eq_true rfl, Nat.le_of_ble_eq_true rfl⟩ hL (hMr) (fun v1 K1 locs1 hp hL => ?_)
        obtain ⟨rfl, hk, hF⟩ := hp
        refine lv_topi (fun r_9 er_9 => ?_)
        refine lv_if_ne (tgt := 32) G.1 G.2.1 dX2_entry_27 (by decide) (fun c_10 => ?_) (fun c_10 => ?_)
        · exact absurd (by rw [er_9]; rfl) c_10
        · refine lv_iconst (v := 0) G.1 G.2.1 dX2_entry_30 (by decide) ?_
          exact hb_iret G hr hlocks (Or.inl ⟨by rw [if_neg hok]; show ¬ goC 0 dn = 0; unfold goC; rw [if_pos rfl]; decide, rfl, by rw [if_neg hok]; exact hk, Mo.fd hF⟩) hL (Nat.le_of_ble_eq_true rfl) (Nat.le_of_ble_eq_true rfl) dX2_entry_31
      · have hok : mOkE A dn en x n w := ⟨hie, i32_nlt.mp c_5, i32_nlt.mp c_8⟩
        refine lv_iconst (v := 1) G.1 G.2.1 dX2_entry_19 (by decide) ?_
        refine lv_goto (tgt := 24) G.1 G.2.1 dX2_entry_20 (by decide) ?_
        refine hb_callV (As := [.int 1]) (rest := []) G hml (m_goes g l r S B C a A cd wr lf dn en pl _ h 1) (h.1) rfl km_X2_82 ki_X2_goes ks_X2_goes kn_X2 ko_X2_goes hd_X2_goes ⟨Nat.le_of_ble_eq_true rfl, Nat.le_of_ble_eq_true rfl⟩ hl.size rfl (Nat.le_of_ble_eq_true rfl) dX2_entry_24 ⟨Nat.le_of_ble_eq_true rfl, Nat.le_of_ble_eq_true rfl⟩ hL (hMr) (fun v1 K1 locs1 hp hL => ?_)
        obtain ⟨rfl, hk, hF⟩ := hp
        have hg1 : goC 1 dn = if dn = 0 then 0 else 2 := by unfold goC; rw [if_neg (by decide)]
        refine lv_topi (fun r_11 er_11 => ?_)
        refine lv_if_ne (tgt := 32) G.1 G.2.1 dX2_entry_27 (by decide) (fun c_12 => ?_) (fun c_12 => ?_)
        · have hg0 : goC 1 dn = 0 := Decidable.not_not.mp (fun q => c_12 ((it0 er_11).mpr q))
          have hdn : dn = 0 := Decidable.not_not.mp (fun q => by rw [hg1, if_neg q] at hg0; exact absurd hg0 (by decide))
          rw [hg0] at hk
          obtain ⟨i, hi, rfl⟩ := dkIs_of hie.1
          obtain ⟨hs0, hs1, hs2⟩ := hA i hi
          obtain ⟨hn0, hn1⟩ := hie.2.resolve_left (fun q => q hdn)
          have hmle := mCnt_le (A 5) (nI i) en
          have hCB := hB.2
          obtain ⟨j, hj9, hjj, rfl⟩ : ∃ j : Nat, j < 2 ^ 31 ∧ j = tn n ∧ n = nI j := ⟨tn n, i32_cl n, rfl, (nI_tc (i32_le.mp hn0)).symm⟩
          have hjc : j < mCnt (A 5) (nI i) en := (nI_ltI hj9 (by omega)).mp hn1
          have hl : lh ls 6 [some (.ref r), some (.int (nI i)), some (.int (nI j)), some (.int w), none, none] := hl
          refine hb_aload_n G dX2_entry_32 hl rfl ?_
          refine hb_iload_n G dX2_entry_33 hl rfl ?_
          refine hb_iload_n G dX2_entry_34 hl rfl ?_
          refine hb_callV (As := [.int (nI i), .int (nI j)]) (rest := []) G hml (m_entryOf g l r S B C a A 0 wr lf dn en pl _ hk hB (nI i) j hjc) (hk.1) rfl km_X2_124 ki_X2_entryOf ks_X2_entryOf kn_X2 ko_X2_entryOf hd_X2_entryOf ⟨Nat.le_of_ble_eq_true rfl, Nat.le_of_ble_eq_true rfl⟩ hl.size rfl (Nat.le_of_ble_eq_true rfl) dX2_entry_35 ⟨Nat.le_of_ble_eq_true rfl, Nat.le_of_ble_eq_true rfl⟩ hL (f0_in) (fun v1 K1 locs1 hp hL => ?_)
          obtain ⟨⟨e5, he5, he6, he7, rfl⟩, rfl⟩ := hp
          refine hb_istore G dX2_entry_38 hl (by decide) (fun ls hl => ?_)
          have hl : lh ls 6 [some (.ref r), some (.int (nI i)), some (.int (nI j)), some (.int w), some (.int (nI e5)), none] := hl
          refine hb_iload_n G dX2_entry_40 hl rfl ?_
          refine lv_iconst (v := 2) G.1 G.2.1 dX2_entry_41 (by decide) ?_
          refine lv_icmp_ge (tgt := 79) G.1 G.2.1 dX2_entry_42 (by decide) (fun c_13 => ?_) (fun c_13 => ?_)
          · have hk0 := hk
            have lp : ∀ (k9 j9 : Nat) (kb : Int32) (kt : Nat) (locs : List Loc) (ls : Array Slot), (kt + 1 ≤ j9 + k9) → (j9 ≤ kt) → (kt < 60 ∧ A 1 (60 * i + kt) = A 8 e5) → (kb = nI j9) → (∀ q, q < j9 → ¬ A 1 (60 * i + q) = A 8 e5) → (∀ q ∈ locs, (fM r a) q.base) → lh ls 6 [some (.ref r), some (.int (nI i)), some (.int (nI j)), some (.int w), some (.int (nI e5)), some (.int kb)] → W p l e ({ frames := 2, cells := 0, slots := 0, locals := 45 } : Room) s m args below meth c K1 locs 0 0 (hQ below args s (mEntd g r S B C a A cd wr lf dn en pl (nI i) (nI j) w H) 0 0 (fM r a)) (F0 m 82 ls []) := by
              intro k9
              induction k9 with
              | zero =>
                intro j9 kb kt locs ls hd9 hj8 hkt ekb hno hL hl
                exfalso; omega
              | succ k9 ih =>
                intro j9 kb kt locs ls hd9 hj8 hkt ekb hno hL hl
                refine hb_aload_n G dX2_entry_82 hl rfl ?_
                refine hb_get G hk.1 rfl inX2 7 (by decide) kf_X2_17 rfl rfl dX2_entry_83 ?_
                refine lv_bipush (v := 60) G.1 G.2.1 dX2_entry_86 (by decide) ?_
                refine hb_iload_n G dX2_entry_88 hl rfl ?_
                refine lv_imul G.1 G.2.1 dX2_entry_89 ?_
                refine lv_topi (fun t_14 et_14 => ?_)
                refine hb_iload G dX2_entry_90 hl rfl ?_
                refine lv_iadd G.1 G.2.1 dX2_entry_92 ?_
                refine lv_topi (fun t_15 et_15 => ?_)
                have hix : t_15 = nI (60 * i + j9) := by rw [et_15, et_14, ekb]; exact nI_60 _ _
                refine hb_iald G (show ia g (a 1) 240 (A 1) _ from hk.2.1 1 (by decide)) (by rw [hix]; exact vp_in_nI (by omega) (by decide)) dX2_entry_93 ?_
                refine lv_topi (fun r_16 er_16 => ?_)
                have er_16 : r_16 = A 1 (60 * i + j9) := by rw [er_16, show (t_15).toNatClampNeg = 60 * i + j9 by rw [hix]; exact nI_clamp (by omega)]
                refine hb_aload_n G dX2_entry_94 hl rfl ?_
                refine hb_get G hk.1 rfl inX2 15 (by decide) kf_X2_39 rfl rfl dX2_entry_95 ?_
                refine hb_iload G dX2_entry_98 hl rfl ?_
                refine hb_iald G (show ia g (a 8) C (A 8) _ from hk.2.1 8 (by decide)) (by rw [show nI e5 = nI e5 from rfl]; exact vp_in_nI (by omega) (by omega)) dX2_entry_100 ?_
                refine lv_topi (fun r_17 er_17 => ?_)
                have er_17 : r_17 = A 8 (e5) := by rw [er_17, show ((nI e5)).toNatClampNeg = e5 by rw [show nI e5 = nI e5 from rfl]; exact nI_clamp (by omega)]
                refine lv_icmp_eq (tgt := 110) G.1 G.2.1 dX2_entry_101 (by decide) (fun c_18 => ?_) (fun c_18 => ?_)
                · have hfd : A 1 (60 * i + j9) = A 8 e5 := by rw [← er_16, ← er_17]; exact c_18
                  refine hb_iload G dX2_entry_110 hl rfl ?_
                  exact hb_iret G hr hlocks (Or.inr ⟨i, hi, rfl, hok.2, hdn, e5, he5, he6, by rw [he7], kb, rfl, Or.inr (Or.inr ⟨Int32.le_antisymm hok.2.2 c_13, j9, by omega, ekb, hfd, hno⟩), hk, Mo.fd hF⟩) hL (Nat.le_of_ble_eq_true rfl) (Nat.le_of_ble_eq_true rfl) dX2_entry_112
                · have hnf : ¬ A 1 (60 * i + j9) = A 8 e5 := by rw [← er_16, ← er_17]; exact c_18
                  have hjk : ¬ j9 = kt := fun q => hnf (by rw [q]; exact hkt.2)
                  obtain ⟨t_19, et_19⟩ : ∃ z : Int32, z = kb + 1 := ⟨_, rfl⟩
                  refine hb_iinc (v := t_19) G dX2_entry_104 hl rfl (by rw [et_19]; rfl) (by decide) (fun ls hl => ?_)
                  have hl : lh ls 6 [some (.ref r), some (.int (nI i)), some (.int (nI j)), some (.int w), some (.int (nI e5)), some (.int t_19)] := hl
                  refine lv_goto (tgt := 82) G.1 G.2.1 dX2_entry_107 (by decide) ?_
                  exact ih (j9 + 1) t_19 kt _ ls (by omega) (by omega) hkt (by rw [et_19, ekb]; exact nI_1 _) (fun q hq => by
                      by_cases h8 : q = j9
                      · rw [h8]; exact hnf
                      · exact hno q (by omega)) hL hl
            refine lv_iconst (v := 0) G.1 G.2.1 dX2_entry_79 (by decide) ?_
            refine hb_istore G dX2_entry_80 hl (by decide) (fun ls hl => ?_)
            have hl : lh ls 6 [some (.ref r), some (.int (nI i)), some (.int (nI j)), some (.int w), some (.int (nI e5)), some (.int 0)] := hl
            obtain ⟨kt, hkt⟩ := hse i hi e5 he5 he6
            exact lp (kt + 1) 0 0 kt _ ls (by omega) (by omega) hkt rfl (fun _ q => absurd q (by omega)) hL hl
          · refine hb_iload_n G dX2_entry_45 hl rfl ?_
            refine lv_if_ne (tgt := 59) G.1 G.2.1 dX2_entry_46 (by decide) (fun c_20 => ?_) (fun c_20 => ?_)
            · refine hb_aload_n G dX2_entry_59 hl rfl ?_
              refine hb_get G hk.1 rfl inX2 15 (by decide) kf_X2_39 rfl rfl dX2_entry_60 ?_
              refine hb_iload G dX2_entry_63 hl rfl ?_
              refine hb_iald G (show ia g (a 8) C (A 8) _ from hk.2.1 8 (by decide)) (by rw [show nI e5 = nI e5 from rfl]; exact vp_in_nI (by omega) (by omega)) dX2_entry_65 ?_
              refine lv_topi (fun r_21 er_21 => ?_)
              have er_21 : r_21 = A 8 (e5) := by rw [er_21, show ((nI e5)).toNatClampNeg = e5 by rw [show nI e5 = nI e5 from rfl]; exact nI_clamp (by omega)]
              refine hb_aload_n G dX2_entry_66 hl rfl ?_
              refine hb_get G hk.1 rfl inX2 16 (by decide) kf_X2_42 rfl rfl dX2_entry_67 ?_
              refine hb_iload G dX2_entry_70 hl rfl ?_
              refine hb_iald G (show ia g (a 9) C (A 9) _ from hk.2.1 9 (by decide)) (by rw [show nI e5 = nI e5 from rfl]; exact vp_in_nI (by omega) (by omega)) dX2_entry_72 ?_
              refine lv_topi (fun r_22 er_22 => ?_)
              have er_22 : r_22 = A 9 (e5) := by rw [er_22, show ((nI e5)).toNatClampNeg = e5 by rw [show nI e5 = nI e5 from rfl]; exact nI_clamp (by omega)]
              refine lv_sipush (v := 1024) G.1 G.2.1 dX2_entry_73 (by decide) ?_
              refine lv_idiv G.1 G.2.1 dX2_entry_76 (by decide) ?_
              refine lv_topi (fun t_23 et_23 => ?_)
              refine lv_iadd G.1 G.2.1 dX2_entry_77 ?_
              refine lv_topi (fun t_24 et_24 => ?_)
              have hw1 : w = 1 := by
                have q1 := i32_le.mp hok.2.1
                have q2 := i32_lt.mp (i32_nle.mp c_13)
                have q3 : ¬ w.toInt = 0 := fun q => c_20 (i32_ext q)
                rw [show (0 : Int32).toInt = 0 from rfl] at q1
                rw [show (2 : Int32).toInt = 2 from rfl] at q2
                exact i32_ext (by rw [show (1 : Int32).toInt = 1 from rfl]; omega)
              exact hb_iret G hr hlocks (Or.inr ⟨i, hi, rfl, hok.2, hdn, e5, he5, he6, by rw [he7], t_24, rfl, Or.inr (Or.inl ⟨hw1, by rw [et_24, et_23, er_21, er_22]⟩), hk, Mo.fd hF⟩) hL (Nat.le_of_ble_eq_true rfl) (Nat.le_of_ble_eq_true rfl) dX2_entry_78
            · refine hb_aload_n G dX2_entry_49 hl rfl ?_
              refine hb_get G hk.1 rfl inX2 13 (by decide) kf_X2_33 rfl rfl dX2_entry_50 ?_
              refine hb_iload G dX2_entry_53 hl rfl ?_
              refine hb_iald G (show ia g (a 6) C (A 6) _ from hk.2.1 6 (by decide)) (by rw [show nI e5 = nI e5 from rfl]; exact vp_in_nI (by omega) (by omega)) dX2_entry_55 ?_
              refine lv_topi (fun r_25 er_25 => ?_)
              have er_25 : r_25 = A 6 (e5) := by rw [er_25, show ((nI e5)).toNatClampNeg = e5 by rw [show nI e5 = nI e5 from rfl]; exact nI_clamp (by omega)]
              refine lv_goto (tgt := 78) G.1 G.2.1 dX2_entry_56 (by decide) ?_
              exact hb_iret G hr hlocks (Or.inr ⟨i, hi, rfl, hok.2, hdn, e5, he5, he6, by rw [he7], r_25, rfl, Or.inl ⟨c_20, er_25⟩, hk, Mo.fd hF⟩) hL (Nat.le_of_ble_eq_true rfl) (Nat.le_of_ble_eq_true rfl) dX2_entry_78
        · have hg2 := (it0 er_11).mp c_12
          refine lv_iconst (v := 0) G.1 G.2.1 dX2_entry_30 (by decide) ?_
          exact hb_iret G hr hlocks (Or.inl ⟨by rw [if_pos hok]; exact hg2, rfl, by rw [if_pos hok]; exact hk, Mo.fd hF⟩) hL (Nat.le_of_ble_eq_true rfl) (Nat.le_of_ble_eq_true rfl) dX2_entry_31
abbrev mOkB (A : Nat → Nat → Int32) (sz : Nat → Nat → Int32) (dn : Int32) (en : Nat) (x n k : Int32) : Prop := mIsE A dn en x n ∧ (¬ dn = 0 ∨ (0 ≤ k ∧ k < sz (tn x) (tn n)))
set_option maxHeartbeats 4000000 in
set_option maxRecDepth 100000 in
/-- byteAt -/
theorem m_byteAt (g : Gx) (l : Launch) (r S B C : Nat) (a : Nat → Nat) (A : Nat → Nat → Int32) (cd wr lf dn : Int32) (en pl : Nat) (H : Heap) (h : mdAt g r S B C a A cd wr lf dn en pl H) (hB : mdB S B C en) (hA : sgOk S A) (sz : Nat → Nat → Int32) (x n k : Int32) (hsz : ∀ i, i < 4 → ∀ e, e < en → A 5 e = nI i → A 6 e = sz i (mCnt (A 5) (nI i) e)) : HM g l yX2_byteAt cX2_byteAt 4 (some .int) 2 45 0 0 [.ref r, .int x, .int n, .int k] H (fun v H1 => (¬ goC (if mOkB A sz dn en x n k then 1 else 0) dn = 0 ∧ v = some (.int 0) ∧ mdAt g r S B C a A (goC (if mOkB A sz dn en x n k then 1 else 0) dn) wr lf dn en pl H1 ∧ Mo r a H H1) ∨ (∃ i, i < 4 ∧ x = nI i ∧ dn = 0 ∧ ∃ e, e < en ∧ A 5 e = nI i ∧ n = nI (mCnt (A 5) (nI i) e) ∧ (0 ≤ k ∧ k < A 6 e) ∧ v = some (.int ((A 7 e + k) &&& 255)) ∧ mdAt g r S B C a A 0 wr lf dn en pl H1 ∧ Mo r a H H1)) (fM r a) := by
  refine HM.ofW (by decide) (Nat.le_of_ble_eq_true rfl) (by simp [Value.category]) ?_
  intro p e s m args below meth c ls G hr hml hlocks hnm hH hl
  have hl : lh ls 4 [some (.ref r), some (.int x), some (.int n), some (.int k)] := hl
  have hL : ∀ q ∈ ([] : List Loc), (fM r a) q.base := fun q h => by cases h
  have hMr : ∀ q, f1 r q → fM r a q := fun q h9 => Or.inl h9
  refine hb_aload_n G dX2_byteAt_0 hl rfl ?_
  refine hb_aload_n G dX2_byteAt_1 hl rfl ?_
  refine hb_iload_n G dX2_byteAt_2 hl rfl ?_
  refine hb_iload_n G dX2_byteAt_3 hl rfl ?_
  refine hb_callV (As := [.int x, .int n]) (rest := [.ref r]) G hml (m_isEntry g l r S B C a A cd wr lf dn en pl _ h hB x n) (h.1) rfl km_X2_134 ki_X2_isEntry ks_X2_isEntry kn_X2 ko_X2_isEntry hd_X2_isEntry ⟨Nat.le_of_ble_eq_true rfl, Nat.le_of_ble_eq_true rfl⟩ hl.size rfl (Nat.le_of_ble_eq_true rfl) dX2_byteAt_4 ⟨Nat.le_of_ble_eq_true rfl, Nat.le_of_ble_eq_true rfl⟩ hL (f0_in) (fun v1 H locs1 hp hL => ?_)
  obtain ⟨rfl, rfl⟩ := hp
  refine lv_topi (fun r_1 er_1 => ?_)
  refine lv_if_eq (tgt := 40) G.1 G.2.1 dX2_byteAt_7 (by decide) (fun c_2 => ?_) (fun c_2 => ?_)
  · refine lv_iconst (v := 0) G.1 G.2.1 dX2_byteAt_40 (by decide) ?_
    have hok : ¬ (mOkB A sz dn en x n k) := fun q => (it0 er_1).mp c_2 q.1
    refine hb_callV (As := [.int 0]) (rest := []) G hml (m_goes g l r S B C a A cd wr lf dn en pl _ h 0) (h.1) rfl km_X2_82 ki_X2_goes ks_X2_goes kn_X2 ko_X2_goes hd_X2_goes ⟨Nat.le_of_ble_eq_true rfl, Nat.le_of_ble_eq_true rfl⟩ hl.size rfl (Nat.le_of_ble_eq_true rfl) dX2_byteAt_41 ⟨Nat.le_of_ble_eq_true rfl, Nat.le_of_ble_eq_true rfl⟩ hL (hMr) (fun v1 K1 locs1 hp hL => ?_)
    obtain ⟨rfl, hk, hF⟩ := hp
    refine lv_topi (fun r_3 er_3 => ?_)
    refine lv_if_ne (tgt := 49) G.1 G.2.1 dX2_byteAt_44 (by decide) (fun c_4 => ?_) (fun c_4 => ?_)
    · exact absurd (by rw [er_3]; rfl) c_4
    · refine lv_iconst (v := 0) G.1 G.2.1 dX2_byteAt_47 (by decide) ?_
      exact hb_iret G hr hlocks (Or.inl ⟨by rw [if_neg hok]; show ¬ goC 0 dn = 0; unfold goC; rw [if_pos rfl]; decide, rfl, by rw [if_neg hok]; exact hk, Mo.fd hF⟩) hL (Nat.le_of_ble_eq_true rfl) (Nat.le_of_ble_eq_true rfl) dX2_byteAt_48
  · have hie : mIsE A dn en x n := Decidable.not_not.mp (fun q => c_2 ((it0 er_1).mpr q))
    refine hb_aload_n G dX2_byteAt_10 hl rfl ?_
    refine hb_get G h.1 rfl inX2 5 (by decide) kf_X2_60 rfl rfl dX2_byteAt_11 ?_
    refine lv_if_ne (tgt := 36) G.1 G.2.1 dX2_byteAt_14 (by decide) (fun c_5 => ?_) (fun c_5 => ?_)
    · have hok : mOkB A sz dn en x n k := ⟨hie, Or.inl c_5⟩
      refine lv_iconst (v := 1) G.1 G.2.1 dX2_byteAt_36 (by decide) ?_
      refine lv_goto (tgt := 41) G.1 G.2.1 dX2_byteAt_37 (by decide) ?_
      refine hb_callV (As := [.int 1]) (rest := []) G hml (m_goes g l r S B C a A cd wr lf dn en pl _ h 1) (h.1) rfl km_X2_82 ki_X2_goes ks_X2_goes kn_X2 ko_X2_goes hd_X2_goes ⟨Nat.le_of_ble_eq_true rfl, Nat.le_of_ble_eq_true rfl⟩ hl.size rfl (Nat.le_of_ble_eq_true rfl) dX2_byteAt_41 ⟨Nat.le_of_ble_eq_true rfl, Nat.le_of_ble_eq_true rfl⟩ hL (hMr) (fun v1 K1 locs1 hp hL => ?_)
      obtain ⟨rfl, hk, hF⟩ := hp
      have hg1 : goC 1 dn = if dn = 0 then 0 else 2 := by unfold goC; rw [if_neg (by decide)]
      refine lv_topi (fun r_6 er_6 => ?_)
      refine lv_if_ne (tgt := 49) G.1 G.2.1 dX2_byteAt_44 (by decide) (fun c_7 => ?_) (fun c_7 => ?_)
      · have hg0 : goC 1 dn = 0 := Decidable.not_not.mp (fun q => c_7 ((it0 er_6).mpr q))
        exact absurd hg0 (by rw [hg1, if_neg c_5]; decide)
      · have hg2 := (it0 er_6).mp c_7
        refine lv_iconst (v := 0) G.1 G.2.1 dX2_byteAt_47 (by decide) ?_
        exact hb_iret G hr hlocks (Or.inl ⟨by rw [if_pos hok]; exact hg2, rfl, by rw [if_pos hok]; exact hk, Mo.fd hF⟩) hL (Nat.le_of_ble_eq_true rfl) (Nat.le_of_ble_eq_true rfl) dX2_byteAt_48
    · have hdn : dn = 0 := c_5
      refine hb_iload_n G dX2_byteAt_17 hl rfl ?_
      refine lv_if_lt (tgt := 40) G.1 G.2.1 dX2_byteAt_18 (by decide) (fun c_8 => ?_) (fun c_8 => ?_)
      · refine lv_iconst (v := 0) G.1 G.2.1 dX2_byteAt_40 (by decide) ?_
        have hok : ¬ (mOkB A sz dn en x n k) := fun q => q.2.elim (fun q1 => q1 hdn) (fun q1 => i32_nlt.mpr q1.1 c_8)
        refine hb_callV (As := [.int 0]) (rest := []) G hml (m_goes g l r S B C a A cd wr lf dn en pl _ h 0) (h.1) rfl km_X2_82 ki_X2_goes ks_X2_goes kn_X2 ko_X2_goes hd_X2_goes ⟨Nat.le_of_ble_eq_true rfl, Nat.le_of_ble_eq_true rfl⟩ hl.size rfl (Nat.le_of_ble_eq_true rfl) dX2_byteAt_41 ⟨Nat.le_of_ble_eq_true rfl, Nat.le_of_ble_eq_true rfl⟩ hL (hMr) (fun v1 K1 locs1 hp hL => ?_)
        obtain ⟨rfl, hk, hF⟩ := hp
        refine lv_topi (fun r_9 er_9 => ?_)
        refine lv_if_ne (tgt := 49) G.1 G.2.1 dX2_byteAt_44 (by decide) (fun c_10 => ?_) (fun c_10 => ?_)
        · exact absurd (by rw [er_9]; rfl) c_10
        · refine lv_iconst (v := 0) G.1 G.2.1 dX2_byteAt_47 (by decide) ?_
          exact hb_iret G hr hlocks (Or.inl ⟨by rw [if_neg hok]; show ¬ goC 0 dn = 0; unfold goC; rw [if_pos rfl]; decide, rfl, by rw [if_neg hok]; exact hk, Mo.fd hF⟩) hL (Nat.le_of_ble_eq_true rfl) (Nat.le_of_ble_eq_true rfl) dX2_byteAt_48
      · obtain ⟨i, hi, rfl⟩ := dkIs_of hie.1
        have htn : tn (nI i) = i := tn_nI (by omega)
        obtain ⟨hn0, hn1⟩ := hie.2.resolve_left (fun q => q hdn)
        have hmle := mCnt_le (A 5) (nI i) en
        have hCB := hB.2
        obtain ⟨j, hj9, hjj, rfl⟩ : ∃ j : Nat, j < 2 ^ 31 ∧ j = tn n ∧ n = nI j := ⟨tn n, i32_cl n, rfl, (nI_tc (i32_le.mp hn0)).symm⟩
        have hjc : j < mCnt (A 5) (nI i) en := (nI_ltI hj9 (by omega)).mp hn1
        have hl : lh ls 4 [some (.ref r), some (.int (nI i)), some (.int (nI j)), some (.int k)] := hl
        refine hb_iload_n G dX2_byteAt_21 hl rfl ?_
        refine hb_aload_n G dX2_byteAt_22 hl rfl ?_
        refine hb_get G h.1 rfl inX2 13 (by decide) kf_X2_33 rfl rfl dX2_byteAt_23 ?_
        refine hb_aload_n G dX2_byteAt_26 hl rfl ?_
        refine hb_iload_n G dX2_byteAt_27 hl rfl ?_
        refine hb_iload_n G dX2_byteAt_28 hl rfl ?_
        refine hb_callV (As := [.int (nI i), .int (nI j)]) (rest := [.ref (a 6), .int k, .ref r]) G hml (m_entryOf g l r S B C a A cd wr lf dn en pl _ h hB (nI i) j hjc) (h.1) rfl km_X2_124 ki_X2_entryOf ks_X2_entryOf kn_X2 ko_X2_entryOf hd_X2_entryOf ⟨Nat.le_of_ble_eq_true rfl, Nat.le_of_ble_eq_true rfl⟩ hl.size rfl (Nat.le_of_ble_eq_true rfl) dX2_byteAt_29 ⟨Nat.le_of_ble_eq_true rfl, Nat.le_of_ble_eq_true rfl⟩ hL (f0_in) (fun v1 H locs1 hp hL => ?_)
        obtain ⟨⟨e5, he5, he6, he7, rfl⟩, rfl⟩ := hp
        refine hb_iald G (show ia g (a 6) C (A 6) _ from h.2.1 6 (by decide)) (by rw [show nI e5 = nI e5 from rfl]; exact vp_in_nI (by omega) (by omega)) dX2_byteAt_32 ?_
        refine lv_topi (fun r_11 er_11 => ?_)
        have er_11 : r_11 = A 6 (e5) := by rw [er_11, show ((nI e5)).toNatClampNeg = e5 by rw [show nI e5 = nI e5 from rfl]; exact nI_clamp (by omega)]
        have h6 : A 6 e5 = sz (tn (nI i)) (tn (nI j)) := by rw [htn, ← hjj, hsz i hi e5 he5 he6, he7]
        refine lv_icmp_ge (tgt := 40) G.1 G.2.1 dX2_byteAt_33 (by decide) (fun c_12 => ?_) (fun c_12 => ?_)
        · refine lv_iconst (v := 0) G.1 G.2.1 dX2_byteAt_40 (by decide) ?_
          have hok : ¬ (mOkB A sz dn en (nI i) (nI j) k) := fun q => q.2.elim (fun q1 => q1 hdn) (fun q1 => i32_nlt.mpr c_12 (by rw [er_11, h6]; exact q1.2))
          refine hb_callV (As := [.int 0]) (rest := []) G hml (m_goes g l r S B C a A cd wr lf dn en pl _ h 0) (h.1) rfl km_X2_82 ki_X2_goes ks_X2_goes kn_X2 ko_X2_goes hd_X2_goes ⟨Nat.le_of_ble_eq_true rfl, Nat.le_of_ble_eq_true rfl⟩ hl.size rfl (Nat.le_of_ble_eq_true rfl) dX2_byteAt_41 ⟨Nat.le_of_ble_eq_true rfl, Nat.le_of_ble_eq_true rfl⟩ hL (hMr) (fun v1 K1 locs1 hp hL => ?_)
          obtain ⟨rfl, hk, hF⟩ := hp
          refine lv_topi (fun r_13 er_13 => ?_)
          refine lv_if_ne (tgt := 49) G.1 G.2.1 dX2_byteAt_44 (by decide) (fun c_14 => ?_) (fun c_14 => ?_)
          · exact absurd (by rw [er_13]; rfl) c_14
          · refine lv_iconst (v := 0) G.1 G.2.1 dX2_byteAt_47 (by decide) ?_
            exact hb_iret G hr hlocks (Or.inl ⟨by rw [if_neg hok]; show ¬ goC 0 dn = 0; unfold goC; rw [if_pos rfl]; decide, rfl, by rw [if_neg hok]; exact hk, Mo.fd hF⟩) hL (Nat.le_of_ble_eq_true rfl) (Nat.le_of_ble_eq_true rfl) dX2_byteAt_48
        · have hok : mOkB A sz dn en (nI i) (nI j) k := ⟨hie, Or.inr ⟨i32_nlt.mp c_8, by rw [← h6, ← er_11]; exact i32_nle.mp c_12⟩⟩
          refine lv_iconst (v := 1) G.1 G.2.1 dX2_byteAt_36 (by decide) ?_
          refine lv_goto (tgt := 41) G.1 G.2.1 dX2_byteAt_37 (by decide) ?_
          refine hb_callV (As := [.int 1]) (rest := []) G hml (m_goes g l r S B C a A cd wr lf dn en pl _ h 1) (h.1) rfl km_X2_82 ki_X2_goes ks_X2_goes kn_X2 ko_X2_goes hd_X2_goes ⟨Nat.le_of_ble_eq_true rfl, Nat.le_of_ble_eq_true rfl⟩ hl.size rfl (Nat.le_of_ble_eq_true rfl) dX2_byteAt_41 ⟨Nat.le_of_ble_eq_true rfl, Nat.le_of_ble_eq_true rfl⟩ hL (hMr) (fun v1 K1 locs1 hp hL => ?_)
          obtain ⟨rfl, hk, hF⟩ := hp
          have hg1 : goC 1 dn = if dn = 0 then 0 else 2 := by unfold goC; rw [if_neg (by decide)]
          refine lv_topi (fun r_15 er_15 => ?_)
          refine lv_if_ne (tgt := 49) G.1 G.2.1 dX2_byteAt_44 (by decide) (fun c_16 => ?_) (fun c_16 => ?_)
          · have hg0 : goC 1 dn = 0 := by rw [hg1, if_pos hdn]
            rw [hg0] at hk
            refine hb_aload_n G dX2_byteAt_49 hl rfl ?_
            refine hb_get G hk.1 rfl inX2 14 (by decide) kf_X2_36 rfl rfl dX2_byteAt_50 ?_
            refine hb_aload_n G dX2_byteAt_53 hl rfl ?_
            refine hb_iload_n G dX2_byteAt_54 hl rfl ?_
            refine hb_iload_n G dX2_byteAt_55 hl rfl ?_
            refine hb_callV (As := [.int (nI i), .int (nI j)]) (rest := [.ref (a 7)]) G hml (m_entryOf g l r S B C a A 0 wr lf dn en pl _ hk hB (nI i) j hjc) (hk.1) rfl km_X2_124 ki_X2_entryOf ks_X2_entryOf kn_X2 ko_X2_entryOf hd_X2_entryOf ⟨Nat.le_of_ble_eq_true rfl, Nat.le_of_ble_eq_true rfl⟩ hl.size rfl (Nat.le_of_ble_eq_true rfl) dX2_byteAt_56 ⟨Nat.le_of_ble_eq_true rfl, Nat.le_of_ble_eq_true rfl⟩ hL (f0_in) (fun v1 K1 locs1 hp hL => ?_)
            obtain ⟨⟨e8, he8, hf6, hf7, rfl⟩, rfl⟩ := hp
            have h68 : A 6 e8 = A 6 e5 := by rw [hsz i hi e8 he8 hf6, hsz i hi e5 he5 he6, hf7, he7]
            refine hb_iald G (show ia g (a 7) C (A 7) _ from hk.2.1 7 (by decide)) (by rw [show nI e8 = nI e8 from rfl]; exact vp_in_nI (by omega) (by omega)) dX2_byteAt_59 ?_
            refine lv_topi (fun r_17 er_17 => ?_)
            have er_17 : r_17 = A 7 (e8) := by rw [er_17, show ((nI e8)).toNatClampNeg = e8 by rw [show nI e8 = nI e8 from rfl]; exact nI_clamp (by omega)]
            refine hb_iload_n G dX2_byteAt_60 hl rfl ?_
            refine lv_iadd G.1 G.2.1 dX2_byteAt_61 ?_
            refine lv_topi (fun t_18 et_18 => ?_)
            refine lv_sipush (v := 255) G.1 G.2.1 dX2_byteAt_62 (by decide) ?_
            refine lv_iand G.1 G.2.1 dX2_byteAt_65 ?_
            refine lv_topi (fun t_19 et_19 => ?_)
            exact hb_iret G hr hlocks (Or.inr ⟨i, hi, rfl, hdn, e8, he8, hf6, by rw [hf7], ⟨i32_nlt.mp c_8, by rw [h68, ← er_11]; exact i32_nle.mp c_12⟩, by rw [et_19, et_18, er_17], hk, Mo.fd hF⟩) hL (Nat.le_of_ble_eq_true rfl) (Nat.le_of_ble_eq_true rfl) dX2_byteAt_66
          · have hg2 := (it0 er_15).mp c_16
            refine lv_iconst (v := 0) G.1 G.2.1 dX2_byteAt_47 (by decide) ?_
            exact hb_iret G hr hlocks (Or.inl ⟨by rw [if_pos hok]; exact hg2, rfl, by rw [if_pos hok]; exact hk, Mo.fd hF⟩) hL (Nat.le_of_ble_eq_true rfl) (Nat.le_of_ble_eq_true rfl) dX2_byteAt_48
abbrev mOkC (n : Int32) : Prop := -1 ≤ n ∧ n ≤ 1000
set_option maxHeartbeats 4000000 in
set_option maxRecDepth 100000 in
/-- crash -/
theorem m_crash (g : Gx) (l : Launch) (r S B C : Nat) (a : Nat → Nat) (A : Nat → Nat → Int32) (cd wr lf dn : Int32) (en pl : Nat) (H : Heap) (h : mdAt g r S B C a A cd wr lf dn en pl H) (n : Int32) : HM g l yX2_crash cX2_crash 2 none 1 21 0 0 [.ref r, .int n] H (fun v H1 => v = none ∧ ((¬ goC (if mOkC n then 1 else 0) dn = 0 ∧ mdAt g r S B C a A (goC (if mOkC n then 1 else 0) dn) wr lf dn en pl H1 ∧ Mo r a H H1) ∨ (mOkC n ∧ dn = 0 ∧ mdAt g r S B C a A 0 wr n (if n = 0 then 1 else 0) en pl H1 ∧ Mo r a H H1))) (fM r a) := by
  refine HM.ofW (by decide) (Nat.le_of_ble_eq_true rfl) (by simp [Value.category]) ?_
  intro p e s m args below meth c ls G hr hml hlocks hnm hH hl
  have hl : lh ls 2 [some (.ref r), some (.int n)] := hl
  have hL : ∀ q ∈ ([] : List Loc), (fM r a) q.base := fun q h => by cases h
  have hMr : ∀ q, f1 r q → fM r a q := fun q h9 => Or.inl h9
  refine hb_aload_n G dX2_crash_0 hl rfl ?_
  refine hb_iload_n G dX2_crash_1 hl rfl ?_
  refine lv_iconst (v := (-1)) G.1 G.2.1 dX2_crash_2 (by decide) ?_
  refine lv_icmp_lt (tgt := 17) G.1 G.2.1 dX2_crash_3 (by decide) (fun c_1 => ?_) (fun c_1 => ?_)
  · refine lv_iconst (v := 0) G.1 G.2.1 dX2_crash_17 (by decide) ?_
    have hok : ¬ mOkC n := fun q => i32_nlt.mpr q.1 c_1
    refine hb_callV (As := [.int 0]) (rest := []) G hml (m_goes g l r S B C a A cd wr lf dn en pl _ h 0) (h.1) rfl km_X2_82 ki_X2_goes ks_X2_goes kn_X2 ko_X2_goes hd_X2_goes ⟨Nat.le_of_ble_eq_true rfl, Nat.le_of_ble_eq_true rfl⟩ hl.size rfl (Nat.le_of_ble_eq_true rfl) dX2_crash_18 ⟨Nat.le_of_ble_eq_true rfl, Nat.le_of_ble_eq_true rfl⟩ hL (hMr) (fun v1 K1 locs1 hp hL => ?_)
    obtain ⟨rfl, hk, hF⟩ := hp
    refine lv_topi (fun r_2 er_2 => ?_)
    refine lv_if_eq (tgt := 42) G.1 G.2.1 dX2_crash_21 (by decide) (fun c_3 => ?_) (fun c_3 => ?_)
    · exact hb_vret G hr hlocks ⟨rfl, Or.inl ⟨by rw [if_neg hok]; show ¬ goC 0 dn = 0; unfold goC; rw [if_pos rfl]; decide, by rw [if_neg hok]; exact hk, Mo.fd hF⟩⟩ hL (Nat.le_of_ble_eq_true rfl) (Nat.le_of_ble_eq_true rfl) dX2_crash_42
    · exact absurd (by rw [er_2]; rfl) c_3
  · refine hb_iload_n G dX2_crash_6 hl rfl ?_
    refine lv_sipush (v := 1000) G.1 G.2.1 dX2_crash_7 (by decide) ?_
    refine lv_icmp_gt (tgt := 17) G.1 G.2.1 dX2_crash_10 (by decide) (fun c_4 => ?_) (fun c_4 => ?_)
    · refine lv_iconst (v := 0) G.1 G.2.1 dX2_crash_17 (by decide) ?_
      have hok : ¬ mOkC n := fun q => i32_nlt.mpr q.2 c_4
      refine hb_callV (As := [.int 0]) (rest := []) G hml (m_goes g l r S B C a A cd wr lf dn en pl _ h 0) (h.1) rfl km_X2_82 ki_X2_goes ks_X2_goes kn_X2 ko_X2_goes hd_X2_goes ⟨Nat.le_of_ble_eq_true rfl, Nat.le_of_ble_eq_true rfl⟩ hl.size rfl (Nat.le_of_ble_eq_true rfl) dX2_crash_18 ⟨Nat.le_of_ble_eq_true rfl, Nat.le_of_ble_eq_true rfl⟩ hL (hMr) (fun v1 K1 locs1 hp hL => ?_)
      obtain ⟨rfl, hk, hF⟩ := hp
      refine lv_topi (fun r_5 er_5 => ?_)
      refine lv_if_eq (tgt := 42) G.1 G.2.1 dX2_crash_21 (by decide) (fun c_6 => ?_) (fun c_6 => ?_)
      · exact hb_vret G hr hlocks ⟨rfl, Or.inl ⟨by rw [if_neg hok]; show ¬ goC 0 dn = 0; unfold goC; rw [if_pos rfl]; decide, by rw [if_neg hok]; exact hk, Mo.fd hF⟩⟩ hL (Nat.le_of_ble_eq_true rfl) (Nat.le_of_ble_eq_true rfl) dX2_crash_42
      · exact absurd (by rw [er_5]; rfl) c_6
    · have hok : mOkC n := ⟨i32_nlt.mp c_1, i32_nlt.mp c_4⟩
      refine lv_iconst (v := 1) G.1 G.2.1 dX2_crash_13 (by decide) ?_
      refine lv_goto (tgt := 18) G.1 G.2.1 dX2_crash_14 (by decide) ?_
      refine hb_callV (As := [.int 1]) (rest := []) G hml (m_goes g l r S B C a A cd wr lf dn en pl _ h 1) (h.1) rfl km_X2_82 ki_X2_goes ks_X2_goes kn_X2 ko_X2_goes hd_X2_goes ⟨Nat.le_of_ble_eq_true rfl, Nat.le_of_ble_eq_true rfl⟩ hl.size rfl (Nat.le_of_ble_eq_true rfl) dX2_crash_18 ⟨Nat.le_of_ble_eq_true rfl, Nat.le_of_ble_eq_true rfl⟩ hL (hMr) (fun v1 K1 locs1 hp hL => ?_)
      obtain ⟨rfl, hk, hF⟩ := hp
      have hg1 : goC 1 dn = if dn = 0 then 0 else 2 := by unfold goC; rw [if_neg (by decide)]
      refine lv_topi (fun r_7 er_7 => ?_)
      refine lv_if_eq (tgt := 42) G.1 G.2.1 dX2_crash_21 (by decide) (fun c_8 => ?_) (fun c_8 => ?_)
      · have hg2 := (it0 er_7).mp c_8
        exact hb_vret G hr hlocks ⟨rfl, Or.inl ⟨by rw [if_pos hok]; exact hg2, by rw [if_pos hok]; exact hk, Mo.fd hF⟩⟩ hL (Nat.le_of_ble_eq_true rfl) (Nat.le_of_ble_eq_true rfl) dX2_crash_42
      · have hg0 : goC 1 dn = 0 := Decidable.not_not.mp (fun q => c_8 ((it0 er_7).mpr q))
        have hdn : dn = 0 := Decidable.not_not.mp (fun q => by rw [hg1, if_neg q] at hg0; exact absurd hg0 (by decide))
        rw [hg0] at hk
        refine hb_aload_n G dX2_crash_24 hl rfl ?_
        refine hb_iload_n G dX2_crash_25 hl rfl ?_
        refine hb_put G hk.1 rfl inX2 tyX2 tyX2_ok nmX2 4 (by decide) kf_X2_7 rfl rfl rfl rfl (Nat.le_of_ble_eq_true rfl) hL (Or.inl rfl) dX2_crash_26 (fun K2 locs2 hf2 hz2 ho2 hL => ?_)
        have hk2 := hk.fd (cd2 := 0) (wr2 := wr) (lf2 := n) (dn2 := dn) (en2 := en) (pl2 := pl) hf2 ⟨hz2, ho2⟩
        refine hb_aload_n G dX2_crash_29 hl rfl ?_
        refine hb_iload_n G dX2_crash_30 hl rfl ?_
        refine lv_if_ne (tgt := 38) G.1 G.2.1 dX2_crash_31 (by decide) (fun c_9 => ?_) (fun c_9 => ?_)
        · refine lv_iconst (v := 0) G.1 G.2.1 dX2_crash_38 (by decide) ?_
          refine hb_put G hk2.1 rfl inX2 tyX2 tyX2_ok nmX2 5 (by decide) kf_X2_60 rfl rfl rfl rfl (Nat.le_of_ble_eq_true rfl) hL (Or.inl rfl) dX2_crash_39 (fun K3 locs3 hf3 hz3 ho3 hL => ?_)
          have hk3 := hk2.fd (cd2 := 0) (wr2 := wr) (lf2 := n) (dn2 := 0) (en2 := en) (pl2 := pl) hf3 ⟨hz3, ho3⟩
          exact hb_vret G hr hlocks ⟨rfl, Or.inr ⟨hok, hdn, by rw [if_neg c_9]; exact hk3, (Mo.fd hF).tr ((Mo.fd ⟨hz2, ho2⟩).tr (Mo.fd ⟨hz3, ho3⟩))⟩⟩ hL (Nat.le_of_ble_eq_true rfl) (Nat.le_of_ble_eq_true rfl) dX2_crash_42
        · refine lv_iconst (v := 1) G.1 G.2.1 dX2_crash_34 (by decide) ?_
          refine lv_goto (tgt := 39) G.1 G.2.1 dX2_crash_35 (by decide) ?_
          refine hb_put G hk2.1 rfl inX2 tyX2 tyX2_ok nmX2 5 (by decide) kf_X2_60 rfl rfl rfl rfl (Nat.le_of_ble_eq_true rfl) hL (Or.inl rfl) dX2_crash_39 (fun K3 locs3 hf3 hz3 ho3 hL => ?_)
          have hk3 := hk2.fd (cd2 := 0) (wr2 := wr) (lf2 := n) (dn2 := 1) (en2 := en) (pl2 := pl) hf3 ⟨hz3, ho3⟩
          exact hb_vret G hr hlocks ⟨rfl, Or.inr ⟨hok, hdn, by rw [if_pos c_9]; exact hk3, (Mo.fd hF).tr ((Mo.fd ⟨hz2, ho2⟩).tr (Mo.fd ⟨hz3, ho3⟩))⟩⟩ hL (Nat.le_of_ble_eq_true rfl) (Nat.le_of_ble_eq_true rfl) dX2_crash_42
set_option maxHeartbeats 4000000 in
set_option maxRecDepth 100000 in
/-- recover -/
theorem m_recover (g : Gx) (l : Launch) (r S B C : Nat) (a : Nat → Nat) (A : Nat → Nat → Int32) (cd wr lf dn : Int32) (en pl : Nat) (H : Heap) (h : mdAt g r S B C a A cd wr lf dn en pl H) : HM g l yX2_recover cX2_recover 1 (some .int) 0 0 0 0 [.ref r] H (fun v H1 => v = some (.int (nI en)) ∧ mdAt g r S B C a A 0 wr (-1) 0 en pl H1 ∧ Mo r a H H1) (fM r a) := by
  refine HM.ofW (by decide) (Nat.le_of_ble_eq_true rfl) (by simp [Value.category]) ?_
  intro p e s m args below meth c ls G hr hml hlocks hnm hH hl
  have hl : lh ls 1 [some (.ref r)] := hl
  have hL : ∀ q ∈ ([] : List Loc), (fM r a) q.base := fun q h => by cases h
  refine hb_aload_n G dX2_recover_0 hl rfl ?_
  refine lv_iconst (v := 0) G.1 G.2.1 dX2_recover_1 (by decide) ?_
  refine hb_put G h.1 rfl inX2 tyX2 tyX2_ok nmX2 0 (by decide) kf_X2_57 rfl rfl rfl rfl (Nat.le_of_ble_eq_true rfl) hL (Or.inl rfl) dX2_recover_2 (fun K1 locs1 hf1 hz1 ho1 hL => ?_)
  have hk1 := h.fd (cd2 := 0) (wr2 := wr) (lf2 := lf) (dn2 := dn) (en2 := en) (pl2 := pl) hf1 ⟨hz1, ho1⟩
  refine hb_aload_n G dX2_recover_5 hl rfl ?_
  refine lv_iconst (v := 0) G.1 G.2.1 dX2_recover_6 (by decide) ?_
  refine hb_put G hk1.1 rfl inX2 tyX2 tyX2_ok nmX2 5 (by decide) kf_X2_60 rfl rfl rfl rfl (Nat.le_of_ble_eq_true rfl) hL (Or.inl rfl) dX2_recover_7 (fun K2 locs2 hf2 hz2 ho2 hL => ?_)
  have hk2 := hk1.fd (cd2 := 0) (wr2 := wr) (lf2 := lf) (dn2 := 0) (en2 := en) (pl2 := pl) hf2 ⟨hz2, ho2⟩
  refine hb_aload_n G dX2_recover_10 hl rfl ?_
  refine lv_iconst (v := (-1)) G.1 G.2.1 dX2_recover_11 (by decide) ?_
  refine hb_put G hk2.1 rfl inX2 tyX2 tyX2_ok nmX2 4 (by decide) kf_X2_7 rfl rfl rfl rfl (Nat.le_of_ble_eq_true rfl) hL (Or.inl rfl) dX2_recover_12 (fun K3 locs3 hf3 hz3 ho3 hL => ?_)
  have hk3 := hk2.fd (cd2 := 0) (wr2 := wr) (lf2 := -1) (dn2 := 0) (en2 := en) (pl2 := pl) hf3 ⟨hz3, ho3⟩
  refine hb_aload_n G dX2_recover_15 hl rfl ?_
  refine hb_get G hk3.1 rfl inX2 11 (by decide) kf_X2_71 rfl rfl dX2_recover_16 ?_
  exact hb_iret G hr hlocks ⟨rfl, hk3, (Mo.fd ⟨hz1, ho1⟩).tr ((Mo.fd ⟨hz2, ho2⟩).tr (Mo.fd ⟨hz3, ho3⟩))⟩ hL (Nat.le_of_ble_eq_true rfl) (Nat.le_of_ble_eq_true rfl) dX2_recover_19
set_option maxHeartbeats 4000000 in
set_option maxRecDepth 100000 in
/-- isDown -/
theorem m_isDown (g : Gx) (l : Launch) (r S B C : Nat) (a : Nat → Nat) (A : Nat → Nat → Int32) (cd wr lf dn : Int32) (en pl : Nat) (H : Heap) (h : mdAt g r S B C a A cd wr lf dn en pl H) (hdn : dn = 0 ∨ dn = 1) : HM g l yX2_isDown cX2_isDown 1 (some .boolean) 0 0 0 0 [.ref r] H (fun v H1 => v = some (.int dn) ∧ mdAt g r S B C a A 0 wr lf dn en pl H1 ∧ Mo r a H H1) (fM r a) := by
  refine HM.ofW (by decide) (Nat.le_of_ble_eq_true rfl) (by simp [Value.category]) ?_
  intro p e s m args below meth c ls G hr hml hlocks hnm hH hl
  have hl : lh ls 1 [some (.ref r)] := hl
  have hL : ∀ q ∈ ([] : List Loc), (fM r a) q.base := fun q h => by cases h
  refine hb_aload_n G dX2_isDown_0 hl rfl ?_
  refine lv_iconst (v := 0) G.1 G.2.1 dX2_isDown_1 (by decide) ?_
  refine hb_put G h.1 rfl inX2 tyX2 tyX2_ok nmX2 0 (by decide) kf_X2_57 rfl rfl rfl rfl (Nat.le_of_ble_eq_true rfl) hL (Or.inl rfl) dX2_isDown_2 (fun K1 locs1 hf1 hz1 ho1 hL => ?_)
  have hk1 := h.fd (cd2 := 0) (wr2 := wr) (lf2 := lf) (dn2 := dn) (en2 := en) (pl2 := pl) hf1 ⟨hz1, ho1⟩
  refine hb_aload_n G dX2_isDown_5 hl rfl ?_
  refine hb_get G hk1.1 rfl inX2 5 (by decide) kf_X2_60 rfl rfl dX2_isDown_6 ?_
  rcases hdn with rfl | rfl
  · exact hb_zret G hr hlocks (by decide) ⟨rfl, hk1, Mo.fd ⟨hz1, ho1⟩⟩ hL (Nat.le_of_ble_eq_true rfl) (Nat.le_of_ble_eq_true rfl) dX2_isDown_9
  · exact hb_zret G hr hlocks (by decide) ⟨rfl, hk1, Mo.fd ⟨hz1, ho1⟩⟩ hL (Nat.le_of_ble_eq_true rfl) (Nat.le_of_ble_eq_true rfl) dX2_isDown_9
set_option maxHeartbeats 4000000 in
set_option maxRecDepth 100000 in
/-- writes -/
theorem m_writes (g : Gx) (l : Launch) (r S B C : Nat) (a : Nat → Nat) (A : Nat → Nat → Int32) (cd wr lf dn : Int32) (en pl : Nat) (H : Heap) (h : mdAt g r S B C a A cd wr lf dn en pl H) : HM g l yX2_writes cX2_writes 1 (some .int) 0 0 0 0 [.ref r] H (fun v H1 => v = some (.int wr) ∧ mdAt g r S B C a A 0 wr lf dn en pl H1 ∧ Mo r a H H1) (fM r a) := by
  refine HM.ofW (by decide) (Nat.le_of_ble_eq_true rfl) (by simp [Value.category]) ?_
  intro p e s m args below meth c ls G hr hml hlocks hnm hH hl
  have hl : lh ls 1 [some (.ref r)] := hl
  have hL : ∀ q ∈ ([] : List Loc), (fM r a) q.base := fun q h => by cases h
  refine hb_aload_n G dX2_writes_0 hl rfl ?_
  refine lv_iconst (v := 0) G.1 G.2.1 dX2_writes_1 (by decide) ?_
  refine hb_put G h.1 rfl inX2 tyX2 tyX2_ok nmX2 0 (by decide) kf_X2_57 rfl rfl rfl rfl (Nat.le_of_ble_eq_true rfl) hL (Or.inl rfl) dX2_writes_2 (fun K1 locs1 hf1 hz1 ho1 hL => ?_)
  have hk1 := h.fd (cd2 := 0) (wr2 := wr) (lf2 := lf) (dn2 := dn) (en2 := en) (pl2 := pl) hf1 ⟨hz1, ho1⟩
  refine hb_aload_n G dX2_writes_5 hl rfl ?_
  refine hb_get G hk1.1 rfl inX2 3 (by decide) kf_X2_68 rfl rfl dX2_writes_6 ?_
  exact hb_iret G hr hlocks ⟨rfl, hk1, Mo.fd ⟨hz1, ho1⟩⟩ hL (Nat.le_of_ble_eq_true rfl) (Nat.le_of_ble_eq_true rfl) dX2_writes_9
set_option maxHeartbeats 4000000 in
set_option maxRecDepth 100000 in
/-- free -/
theorem m_free (g : Gx) (l : Launch) (r S B C : Nat) (a : Nat → Nat) (A : Nat → Nat → Int32) (cd wr lf dn : Int32) (en pl : Nat) (H : Heap) (h : mdAt g r S B C a A cd wr lf dn en pl H) (hSB : dkB S B) (hA : sgOk S A) : HM g l yX2_free cX2_free 3 (some .int) 2 44 0 0 [.ref r] H (fun v H1 => (¬ dn = 0 ∧ v = some (.int 0) ∧ mdAt g r S B C a A 1 wr lf dn en pl H1 ∧ Mo r a H H1) ∨ (dn = 0 ∧ v = some (.int (nI (cntF (mMkA A S B 4) B))) ∧ mdAt g r S B C a (mH A S B) 0 wr lf dn en pl H1 ∧ Mo r a H H1)) (fM r a) := by
  refine HM.ofW (by decide) (Nat.le_of_ble_eq_true rfl) (by simp [Value.category]) ?_
  intro p e s m args below meth c ls G hr hml hlocks hnm hH hl
  have hl : lh ls 3 [some (.ref r), none, none] := hl
  have hL : ∀ q ∈ ([] : List Loc), (fM r a) q.base := fun q h => by cases h
  have hM4 : ∀ q, f1 (a 4) q → fM r a q := fun q h9 => Or.inr ⟨4, by decide, h9⟩
  obtain ⟨hS1, hS2, hB1, hB2⟩ := hSB
  have hSB : dkB S B := ⟨hS1, hS2, hB1, hB2⟩
  refine hb_aload_n G dX2_free_0 hl rfl ?_
  refine hb_aload_n G dX2_free_1 hl rfl ?_
  refine hb_get G h.1 rfl inX2 5 (by decide) kf_X2_60 rfl rfl dX2_free_2 ?_
  refine lv_if_eq (tgt := 12) G.1 G.2.1 dX2_free_5 (by decide) (fun c_1 => ?_) (fun c_1 => ?_)
  · refine lv_iconst (v := 0) G.1 G.2.1 dX2_free_12 (by decide) ?_
    refine hb_put G h.1 rfl inX2 tyX2 tyX2_ok nmX2 0 (by decide) kf_X2_57 rfl rfl rfl rfl (Nat.le_of_ble_eq_true rfl) hL (Or.inl rfl) dX2_free_13 (fun K1 locs1 hf1 hz1 ho1 hL => ?_)
    have hk1 := h.fd (cd2 := 0) (wr2 := wr) (lf2 := lf) (dn2 := dn) (en2 := en) (pl2 := pl) hf1 ⟨hz1, ho1⟩
    refine hb_aload_n G dX2_free_16 hl rfl ?_
    refine hb_get G hk1.1 rfl inX2 0 (by decide) kf_X2_57 rfl rfl dX2_free_17 ?_
    refine lv_if_le (tgt := 25) G.1 G.2.1 dX2_free_20 (by decide) (fun c_2 => ?_) (fun c_2 => ?_)
    · refine hb_aload_n G dX2_free_25 hl rfl ?_
      refine hb_callV (As := []) (rest := []) G hml (m_mark g l r S B C a A 0 wr lf dn en pl _ hk1 hSB hA) (hk1.1) rfl km_X2_86 ki_X2_mark ks_X2_mark kn_X2 ko_X2_mark hd_X2_mark ⟨Nat.le_of_ble_eq_true rfl, Nat.le_of_ble_eq_true rfl⟩ hl.size rfl (Nat.le_of_ble_eq_true rfl) dX2_free_26 ⟨Nat.le_of_ble_eq_true rfl, Nat.le_of_ble_eq_true rfl⟩ hL (hM4) (fun v1 K2 locs2 hp hL => ?_)
      obtain ⟨rfl, hk2, hF2⟩ := hp
      have hk2 : mdAt g r S B C a (mH A S B) 0 wr lf dn en pl K2 := hk2
      have hm2 : Mo r a H K2 := (Mo.fd ⟨hz1, ho1⟩).tr (Mo.ar (k := 4) hF2 (by decide))
      have lp : ∀ (k9 j : Nat) (nb bb : Int32)  (locs : List Loc) (ls : Array Slot), (B + 1 ≤ j + k9) → (j ≤ B) → (bb = nI j) → (nb = nI (cntF (mMkA A S B 4) j)) → (∀ q ∈ locs, (fM r a) q.base) → lh ls 3 [some (.ref r), some (.int nb), some (.int bb)] → W p l e ({ frames := 2, cells := 0, slots := 0, locals := 44 } : Room) s m args below meth c K2 locs 0 0 (hQ below args s (fun v H1 => (¬ dn = 0 ∧ v = some (.int 0) ∧ mdAt g r S B C a A 1 wr lf dn en pl H1 ∧ Mo r a H H1) ∨ (dn = 0 ∧ v = some (.int (nI (cntF (mMkA A S B 4) B))) ∧ mdAt g r S B C a (mH A S B) 0 wr lf dn en pl H1 ∧ Mo r a H H1)) 0 0 (fM r a)) (F0 m 33 ls []) := by
        intro k9
        induction k9 with
        | zero =>
          intro j nb bb  locs ls hd9 hj ebb enb hL hl
          exfalso; omega
        | succ k9 ih =>
          intro j nb bb  locs ls hd9 hj ebb enb hL hl
          refine hb_iload_n G dX2_free_33 hl rfl ?_
          refine hb_aload_n G dX2_free_34 hl rfl ?_
          refine hb_get G hk2.1 rfl inX2 2 (by decide) kf_X2_54 rfl rfl dX2_free_35 ?_
          refine lv_icmp_ge (tgt := 64) G.1 G.2.1 dX2_free_38 (by decide) (fun c_3 => ?_) (fun c_3 => ?_)
          · have hj2 : j = B := by have := (ic_le rfl ebb (by omega) (by omega)).mp c_3; omega
            subst hj2
            refine hb_iload_n G dX2_free_64 hl rfl ?_
            exact hb_iret G hr hlocks (Or.inr ⟨c_1, by rw [enb], hk2, hm2⟩) hL (Nat.le_of_ble_eq_true rfl) (Nat.le_of_ble_eq_true rfl) dX2_free_65
          · have hj2 : j < B := by have := mt (ic_le rfl ebb (by omega) (by omega)).mpr c_3; omega
            refine hb_iload_n G dX2_free_41 hl rfl ?_
            refine hb_aload_n G dX2_free_42 hl rfl ?_
            refine hb_get G hk2.1 rfl inX2 10 (by decide) kf_X2_26 rfl rfl dX2_free_43 ?_
            refine hb_iload_n G dX2_free_46 hl rfl ?_
            refine hb_zald G (show za g (a 4) 256 ((mH A S B) 4) _ from hk2.2.1 4 (by decide)) (by rw [ebb]; exact vp_in_nI (by omega) (by decide)) dX2_free_47 ?_
            refine lv_topi (fun r_4 er_4 => ?_)
            have er_4 : r_4 = (mH A S B) 4 (j) := by rw [er_4, show (bb).toNatClampNeg = j by rw [ebb]; exact nI_clamp (by omega)]
            have er_4 : r_4 = mMkA A S B 4 j := er_4
            refine lv_if_eq (tgt := 55) G.1 G.2.1 dX2_free_48 (by decide) (fun c_5 => ?_) (fun c_5 => ?_)
            · refine lv_iconst (v := 1) G.1 G.2.1 dX2_free_55 (by decide) ?_
              refine lv_iadd G.1 G.2.1 dX2_free_56 ?_
              refine lv_topi (fun t_6 et_6 => ?_)
              refine hb_istore_n G dX2_free_57 hl (by decide) (fun ls hl => ?_)
              have hl : lh ls 3 [some (.ref r), some (.int t_6), some (.int bb)] := hl
              obtain ⟨t_7, et_7⟩ : ∃ z : Int32, z = bb + 1 := ⟨_, rfl⟩
              refine hb_iinc (v := t_7) G dX2_free_58 hl rfl (by rw [et_7]; rfl) (by decide) (fun ls hl => ?_)
              have hl : lh ls 3 [some (.ref r), some (.int t_6), some (.int t_7)] := hl
              refine lv_goto (tgt := 33) G.1 G.2.1 dX2_free_61 (by decide) ?_
              exact ih (j + 1) t_6 t_7 locs ls (by omega) (by omega) (by rw [et_7, ebb]; exact nI_1 _) (by rw [et_6, enb]; simp only [cntF]; rw [if_pos (by rw [← er_4]; exact c_5)]; exact nI_1 _) hL hl
            · refine lv_iconst (v := 0) G.1 G.2.1 dX2_free_51 (by decide) ?_
              refine lv_goto (tgt := 56) G.1 G.2.1 dX2_free_52 (by decide) ?_
              refine lv_iadd G.1 G.2.1 dX2_free_56 ?_
              refine lv_topi (fun t_8 et_8 => ?_)
              refine hb_istore_n G dX2_free_57 hl (by decide) (fun ls hl => ?_)
              have hl : lh ls 3 [some (.ref r), some (.int t_8), some (.int bb)] := hl
              obtain ⟨t_9, et_9⟩ : ∃ z : Int32, z = bb + 1 := ⟨_, rfl⟩
              refine hb_iinc (v := t_9) G dX2_free_58 hl rfl (by rw [et_9]; rfl) (by decide) (fun ls hl => ?_)
              have hl : lh ls 3 [some (.ref r), some (.int t_8), some (.int t_9)] := hl
              refine lv_goto (tgt := 33) G.1 G.2.1 dX2_free_61 (by decide) ?_
              exact ih (j + 1) t_8 t_9 locs ls (by omega) (by omega) (by rw [et_9, ebb]; exact nI_1 _) (by rw [et_8, enb]; simp only [cntF]; rw [if_neg (by rw [← er_4]; exact c_5)]; exact nI_add _ 0) hL hl
      refine lv_iconst (v := 0) G.1 G.2.1 dX2_free_29 (by decide) ?_
      refine hb_istore_n G dX2_free_30 hl (by decide) (fun ls hl => ?_)
      have hl : lh ls 3 [some (.ref r), some (.int 0), none] := hl
      refine lv_iconst (v := 0) G.1 G.2.1 dX2_free_31 (by decide) ?_
      refine hb_istore_n G dX2_free_32 hl (by decide) (fun ls hl => ?_)
      have hl : lh ls 3 [some (.ref r), some (.int 0), some (.int 0)] := hl
      exact lp (B + 1) 0 0 0 _ ls (by omega) (by omega) rfl rfl hL hl
    · exact absurd (by decide) c_2
  · refine lv_iconst (v := 1) G.1 G.2.1 dX2_free_8 (by decide) ?_
    refine lv_goto (tgt := 13) G.1 G.2.1 dX2_free_9 (by decide) ?_
    refine hb_put G h.1 rfl inX2 tyX2 tyX2_ok nmX2 0 (by decide) kf_X2_57 rfl rfl rfl rfl (Nat.le_of_ble_eq_true rfl) hL (Or.inl rfl) dX2_free_13 (fun K1 locs1 hf1 hz1 ho1 hL => ?_)
    have hk1 := h.fd (cd2 := 1) (wr2 := wr) (lf2 := lf) (dn2 := dn) (en2 := en) (pl2 := pl) hf1 ⟨hz1, ho1⟩
    refine hb_aload_n G dX2_free_16 hl rfl ?_
    refine hb_get G hk1.1 rfl inX2 0 (by decide) kf_X2_57 rfl rfl dX2_free_17 ?_
    refine lv_if_le (tgt := 25) G.1 G.2.1 dX2_free_20 (by decide) (fun c_10 => ?_) (fun c_10 => ?_)
    · exact absurd c_10 (by decide)
    · refine lv_iconst (v := 0) G.1 G.2.1 dX2_free_23 (by decide) ?_
      exact hb_iret G hr hlocks (Or.inl ⟨c_1, rfl, hk1, Mo.fd ⟨hz1, ho1⟩⟩) hL (Nat.le_of_ble_eq_true rfl) (Nat.le_of_ble_eq_true rfl) dX2_free_24
