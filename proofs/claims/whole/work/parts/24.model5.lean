abbrev mOkA (x n : Int32) : Prop := (0 ≤ x ∧ x < 4) ∧ 1 ≤ n ∧ n ≤ 20000
/-- the reference's rows behind mark() -/
def mH (A : Nat → Nat → Int32) (S B : Nat) : Nat → Nat → Int32 := va_up A 4 (mMkA A S B 4)
abbrev mFit (A : Nat → Nat → Int32) (S i : Nat) (n : Int32) : Prop := 0 < tn (A 0 i) ∧ A 2 (60 * i + (tn (A 0 i) - 1)) + (n + 4) ≤ 1024 * nI S
def mWh (A : Nat → Nat → Int32) (S B i : Nat) (n : Int32) : Int32 := if mFit A S i n then A 1 (60 * i + (tn (A 0 i) - 1)) else if tn (A 0 i) = 60 then -1 else mPl (mMkA A S B 4) S (B + 1 - S - 4) 4
def mFrm (A : Nat → Nat → Int32) (S i : Nat) (n : Int32) : Int32 := if mFit A S i n then A 2 (60 * i + (tn (A 0 i) - 1)) else 0
def mCn (A : Nat → Nat → Int32) (S i : Nat) (n : Int32) : Int32 := tcV (mFrm A S i n) (n + 4) + 1
/-- rows 0 .. 3 when an entry has come -/
def mAp (A : Nat → Nat → Int32) (S B i : Nat) (n : Int32) : Nat → Nat → Int32 :=
  if mFit A S i n then va_up (va_up (mH A S B) 2 (upd (A 2) (60 * i + (tn (A 0 i) - 1)) (A 2 (60 * i + (tn (A 0 i) - 1)) + (n + 4)))) 3 (upd (A 3) i (A 3 i + 1))
  else va_up (va_up (va_up (va_up (va_up (mH A S B) 1 (upd (A 1) (60 * i + tn (A 0 i)) (mWh A S B i n))) 2 (upd (A 2) (60 * i + tn (A 0 i)) 0)) 0 (upd (A 0) i (A 0 i + 1))) 2 (upd (upd (A 2) (60 * i + tn (A 0 i)) 0) (60 * i + tn (A 0 i)) (0 + (n + 4)))) 3 (upd (A 3) i (A 3 i + 1))
/-- what append answers, and the state behind it -/
def mAppd (g : Gx) (r S B C : Nat) (a : Nat → Nat) (A : Nat → Nat → Int32) (cd wr lf dn : Int32) (en pl : Nat) (x n b : Int32) (H : Heap) (v : Option Value) (H1 : Heap) : Prop :=
  (¬ goC (if mOkA x n then 1 else 0) dn = 0 ∧ v = some (.int 0) ∧ mdAt g r S B C a A (goC (if mOkA x n then 1 else 0) dn) wr lf dn en pl H1 ∧ Mg r a a H H1) ∨
  (∃ i, i < 4 ∧ x = nI i ∧ 1 ≤ n ∧ n ≤ 20000 ∧ dn = 0 ∧
    ((1024 * nI S < n + 4 ∧ v = some (.int (-5)) ∧ mdAt g r S B C a A 0 wr lf dn en pl H1 ∧ Mg r a a H H1) ∨
     (¬ 1024 * nI S < n + 4 ∧ mWh A S B i n < 0 ∧ v = some (.int (-2)) ∧ mdAt g r S B C a (mH A S B) 0 wr lf dn en pl H1 ∧ Mg r a a H H1) ∨
     (¬ 1024 * nI S < n + 4 ∧ ¬ mWh A S B i n < 0 ∧ v = some (.int (if spN lf (mCn A S i n) = 0 then mCn A S i n else -3)) ∧
       ((spR lf (mCn A S i n) = 0 ∧ mdAt g r S B C a (mH A S B) 0 (wr + spW lf (mCn A S i n)) (spL lf (mCn A S i n)) (spN lf (mCn A S i n)) en pl H1 ∧ Mg r a a H H1) ∨
        (¬ spR lf (mCn A S i n) = 0 ∧ ∃ (C2 : Nat) (a2 : Nat → Nat) (A2 : Nat → Nat → Int32), mdAt g r S B C2 a2 A2 0 (wr + spW lf (mCn A S i n)) (spL lf (mCn A S i n)) (spN lf (mCn A S i n)) (en + 1) pl H1 ∧ (C2 = C ∧ en < C ∨ C2 = 2 * C ∧ en = C) ∧ mAdded (mAp A S B i n) A2 en x n b (mWh A S B i n) (mFrm A S i n) ∧ Mg r a a2 H H1)))))
set_option maxHeartbeats 4000000 in
set_option maxRecDepth 100000 in
/-- append -/
theorem m_append (g : Gx) (l : Launch) (r S B C : Nat) (a : Nat → Nat) (A : Nat → Nat → Int32) (cd wr lf dn : Int32) (en pl : Nat) (H : Heap) (h : mdAt g r S B C a A cd wr lf dn en pl H) (hSB : dkB S B) (hA : sgOk S A) (hC0 : 64 ≤ C) (hC1 : en ≤ C) (hC2 : C ≤ 512) (hen : en < 512) (hC3 : en = C → C ≤ 256) (x n b : Int32) : HM g l yX2_append cX2_append 10 (some .int) 2 66 5 2560 [.ref r, .int x, .int n, .int b] H (mAppd g r S B C a A cd wr lf dn en pl x n b H) (fN r a H.size) := by
  refine HM.ofW (by decide) (Nat.le_of_ble_eq_true rfl) (by simp [Value.category]) ?_
  intro p e s m args below meth c ls G hr hml hlocks hnm hH hl
  have hl : lh ls 10 [some (.ref r), some (.int x), some (.int n), some (.int b), none, none, none, none, none, none] := hl
  have hL : ∀ q ∈ ([] : List Loc), (fN r a H.size) q.base := fun q h => by cases h
  have hMr : ∀ q, f1 r q → fN r a H.size q := fun q h9 => Or.inl (Or.inl h9)
  have hM4 : ∀ q, f1 (a 4) q → fN r a H.size q := fun q h9 => Or.inl (Or.inr ⟨4, by decide, h9⟩)
  refine hb_aload_n G dX2_append_0 hl rfl ?_
  refine hb_iload_n G dX2_append_1 hl rfl ?_
  refine hb_callS (As := [.int x]) (rest := [.ref r]) G hml (m_isLog g l x _) km_X2_78 kt_X2_isLog kn_X2 ko_X2_isLog hd_X2_isLog ⟨Nat.le_of_ble_eq_true rfl, Nat.le_of_ble_eq_true rfl⟩ hl.size rfl (Nat.le_of_ble_eq_true rfl) dX2_append_2 ⟨Nat.le_of_ble_eq_true rfl, Nat.le_of_ble_eq_true rfl⟩ hL (f0_in) (fun v1 H locs1 hp hL => ?_)
  obtain ⟨rfl, rfl⟩ := hp
  refine lv_topi (fun r_1 er_1 => ?_)
  refine lv_if_eq (tgt := 24) G.1 G.2.1 dX2_append_5 (by decide) (fun c_2 => ?_) (fun c_2 => ?_)
  · refine lv_iconst (v := 0) G.1 G.2.1 dX2_append_24 (by decide) ?_
    have hok : ¬ mOkA x n := fun q => (it0 er_1).mp c_2 q.1
    refine hb_callV (As := [.int 0]) (rest := []) G hml (m_goes g l r S B C a A cd wr lf dn en pl _ h 0) (h.1) rfl km_X2_82 ki_X2_goes ks_X2_goes kn_X2 ko_X2_goes hd_X2_goes ⟨Nat.le_of_ble_eq_true rfl, Nat.le_of_ble_eq_true rfl⟩ hl.size rfl (Nat.le_of_ble_eq_true rfl) dX2_append_25 ⟨Nat.le_of_ble_eq_true rfl, Nat.le_of_ble_eq_true rfl⟩ hL (hMr) (fun v1 K1 locs1 hp hL => ?_)
    obtain ⟨rfl, hk, hF⟩ := hp
    refine lv_topi (fun r_3 er_3 => ?_)
    refine lv_if_ne (tgt := 33) G.1 G.2.1 dX2_append_28 (by decide) (fun c_4 => ?_) (fun c_4 => ?_)
    · exact absurd (by rw [er_3]; rfl) c_4
    · refine lv_iconst (v := 0) G.1 G.2.1 dX2_append_31 (by decide) ?_
      exact hb_iret G hr hlocks (Or.inl ⟨by rw [if_neg hok]; show ¬ goC 0 dn = 0; unfold goC; rw [if_pos rfl]; decide, rfl, by rw [if_neg hok]; exact hk, Mg.of (Mo.fd hF)⟩) hL (Nat.le_of_ble_eq_true rfl) (Nat.le_of_ble_eq_true rfl) dX2_append_32
  · have hlg : 0 ≤ x ∧ x < 4 := Decidable.not_not.mp (fun q => c_2 ((it0 er_1).mpr q))
    refine hb_iload_n G dX2_append_8 hl rfl ?_
    refine lv_iconst (v := 1) G.1 G.2.1 dX2_append_9 (by decide) ?_
    refine lv_icmp_lt (tgt := 24) G.1 G.2.1 dX2_append_10 (by decide) (fun c_5 => ?_) (fun c_5 => ?_)
    · refine lv_iconst (v := 0) G.1 G.2.1 dX2_append_24 (by decide) ?_
      have hok : ¬ mOkA x n := fun q => i32_nlt.mpr q.2.1 c_5
      refine hb_callV (As := [.int 0]) (rest := []) G hml (m_goes g l r S B C a A cd wr lf dn en pl _ h 0) (h.1) rfl km_X2_82 ki_X2_goes ks_X2_goes kn_X2 ko_X2_goes hd_X2_goes ⟨Nat.le_of_ble_eq_true rfl, Nat.le_of_ble_eq_true rfl⟩ hl.size rfl (Nat.le_of_ble_eq_true rfl) dX2_append_25 ⟨Nat.le_of_ble_eq_true rfl, Nat.le_of_ble_eq_true rfl⟩ hL (hMr) (fun v1 K1 locs1 hp hL => ?_)
      obtain ⟨rfl, hk, hF⟩ := hp
      refine lv_topi (fun r_6 er_6 => ?_)
      refine lv_if_ne (tgt := 33) G.1 G.2.1 dX2_append_28 (by decide) (fun c_7 => ?_) (fun c_7 => ?_)
      · exact absurd (by rw [er_6]; rfl) c_7
      · refine lv_iconst (v := 0) G.1 G.2.1 dX2_append_31 (by decide) ?_
        exact hb_iret G hr hlocks (Or.inl ⟨by rw [if_neg hok]; show ¬ goC 0 dn = 0; unfold goC; rw [if_pos rfl]; decide, rfl, by rw [if_neg hok]; exact hk, Mg.of (Mo.fd hF)⟩) hL (Nat.le_of_ble_eq_true rfl) (Nat.le_of_ble_eq_true rfl) dX2_append_32
    · refine hb_iload_n G dX2_append_13 hl rfl ?_
      refine lv_sipush (v := 20000) G.1 G.2.1 dX2_append_14 (by decide) ?_
      refine lv_icmp_gt (tgt := 24) G.1 G.2.1 dX2_append_17 (by decide) (fun c_8 => ?_) (fun c_8 => ?_)
      · refine lv_iconst (v := 0) G.1 G.2.1 dX2_append_24 (by decide) ?_
        have hok : ¬ mOkA x n := fun q => i32_nlt.mpr q.2.2 c_8
        refine hb_callV (As := [.int 0]) (rest := []) G hml (m_goes g l r S B C a A cd wr lf dn en pl _ h 0) (h.1) rfl km_X2_82 ki_X2_goes ks_X2_goes kn_X2 ko_X2_goes hd_X2_goes ⟨Nat.le_of_ble_eq_true rfl, Nat.le_of_ble_eq_true rfl⟩ hl.size rfl (Nat.le_of_ble_eq_true rfl) dX2_append_25 ⟨Nat.le_of_ble_eq_true rfl, Nat.le_of_ble_eq_true rfl⟩ hL (hMr) (fun v1 K1 locs1 hp hL => ?_)
        obtain ⟨rfl, hk, hF⟩ := hp
        refine lv_topi (fun r_9 er_9 => ?_)
        refine lv_if_ne (tgt := 33) G.1 G.2.1 dX2_append_28 (by decide) (fun c_10 => ?_) (fun c_10 => ?_)
        · exact absurd (by rw [er_9]; rfl) c_10
        · refine lv_iconst (v := 0) G.1 G.2.1 dX2_append_31 (by decide) ?_
          exact hb_iret G hr hlocks (Or.inl ⟨by rw [if_neg hok]; show ¬ goC 0 dn = 0; unfold goC; rw [if_pos rfl]; decide, rfl, by rw [if_neg hok]; exact hk, Mg.of (Mo.fd hF)⟩) hL (Nat.le_of_ble_eq_true rfl) (Nat.le_of_ble_eq_true rfl) dX2_append_32
      · have hok : mOkA x n := ⟨hlg, i32_nlt.mp c_5, i32_nlt.mp c_8⟩
        refine lv_iconst (v := 1) G.1 G.2.1 dX2_append_20 (by decide) ?_
        refine lv_goto (tgt := 25) G.1 G.2.1 dX2_append_21 (by decide) ?_
        refine hb_callV (As := [.int 1]) (rest := []) G hml (m_goes g l r S B C a A cd wr lf dn en pl _ h 1) (h.1) rfl km_X2_82 ki_X2_goes ks_X2_goes kn_X2 ko_X2_goes hd_X2_goes ⟨Nat.le_of_ble_eq_true rfl, Nat.le_of_ble_eq_true rfl⟩ hl.size rfl (Nat.le_of_ble_eq_true rfl) dX2_append_25 ⟨Nat.le_of_ble_eq_true rfl, Nat.le_of_ble_eq_true rfl⟩ hL (hMr) (fun v1 K1 locs1 hp hL => ?_)
        obtain ⟨rfl, hk, hF⟩ := hp
        have hg1 : goC 1 dn = if dn = 0 then 0 else 2 := by unfold goC; rw [if_neg (by decide)]
        refine lv_topi (fun r_11 er_11 => ?_)
        refine lv_if_ne (tgt := 33) G.1 G.2.1 dX2_append_28 (by decide) (fun c_12 => ?_) (fun c_12 => ?_)
        · have hg0 : goC 1 dn = 0 := Decidable.not_not.mp (fun q => c_12 ((it0 er_11).mpr q))
          have hdn : dn = 0 := Decidable.not_not.mp (fun q => by rw [hg1, if_neg q] at hg0; exact absurd hg0 (by decide))
          rw [hg0] at hk
          obtain ⟨i, hi, rfl⟩ := dkIs_of hlg
          obtain ⟨hs0, hs1, hs2⟩ := hA i hi
          have hB4 := hSB.2.2.2
          have hS2 := hSB.2.1
          refine hb_iload_n G dX2_append_33 hl rfl ?_
          refine lv_iconst (v := 4) G.1 G.2.1 dX2_append_34 (by decide) ?_
          refine lv_iadd G.1 G.2.1 dX2_append_35 ?_
          refine lv_topi (fun t_13 et_13 => ?_)
          obtain rfl : t_13 = n + 4 := et_13
          refine hb_istore G dX2_append_36 hl (by decide) (fun ls hl => ?_)
          have hl : lh ls 10 [some (.ref r), some (.int (nI i)), some (.int n), some (.int b), some (.int (n + 4)), none, none, none, none, none] := hl
          refine hb_iload G dX2_append_38 hl rfl ?_
          refine lv_sipush (v := 1024) G.1 G.2.1 dX2_append_40 (by decide) ?_
          refine hb_aload_n G dX2_append_43 hl rfl ?_
          refine hb_get G hk.1 rfl inX2 1 (by decide) kf_X2_51 rfl rfl dX2_append_44 ?_
          refine lv_imul G.1 G.2.1 dX2_append_47 ?_
          refine lv_topi (fun t_14 et_14 => ?_)
          obtain rfl : t_14 = 1024 * nI S := et_14
          refine lv_icmp_le (tgt := 54) G.1 G.2.1 dX2_append_48 (by decide) (fun c_15 => ?_) (fun c_15 => ?_)
          · have hla : ¬ 1024 * nI S < n + 4 := i32_nlt.mpr c_15
            refine lv_bipush (v := 60) G.1 G.2.1 dX2_append_54 (by decide) ?_
            refine hb_iload_n G dX2_append_56 hl rfl ?_
            refine lv_imul G.1 G.2.1 dX2_append_57 ?_
            refine lv_topi (fun t_16 et_16 => ?_)
            refine hb_aload_n G dX2_append_58 hl rfl ?_
            refine hb_get G hk.1 rfl inX2 6 (by decide) kf_X2_13 rfl rfl dX2_append_59 ?_
            refine hb_iload_n G dX2_append_62 hl rfl ?_
            refine hb_iald G (show ia g (a 0) 4 (A 0) _ from hk.2.1 0 (by decide)) (by rw [show nI i = nI i from rfl]; exact vp_in_nI (by omega) (by decide)) dX2_append_63 ?_
            refine lv_topi (fun r_17 er_17 => ?_)
            have er_17 : r_17 = A 0 (i) := by rw [er_17, show ((nI i)).toNatClampNeg = i by rw [show nI i = nI i from rfl]; exact nI_clamp (by omega)]
            have hrs : r_17 = nI (tn (A 0 i)) := by rw [er_17]; exact hs0
            refine lv_iadd G.1 G.2.1 dX2_append_64 ?_
            refine lv_topi (fun t_18 et_18 => ?_)
            refine lv_iconst (v := 1) G.1 G.2.1 dX2_append_65 (by decide) ?_
            refine lv_isub G.1 G.2.1 dX2_append_66 ?_
            refine lv_topi (fun t_19 et_19 => ?_)
            have h5 : 0 < tn (A 0 i) → t_19 = nI (60 * i + (tn (A 0 i) - 1)) := fun q => by rw [et_19, et_18, et_16, hrs, nI_60, nI_m1 (by omega), show 60 * i + tn (A 0 i) - 1 = 60 * i + (tn (A 0 i) - 1) by omega]
            refine hb_istore G dX2_append_67 hl (by decide) (fun ls hl => ?_)
            have hl : lh ls 10 [some (.ref r), some (.int (nI i)), some (.int n), some (.int b), some (.int (n + 4)), some (.int t_19), none, none, none, none] := hl
            refine hb_aload_n G dX2_append_69 hl rfl ?_
            refine hb_get G hk.1 rfl inX2 6 (by decide) kf_X2_13 rfl rfl dX2_append_70 ?_
            refine hb_iload_n G dX2_append_73 hl rfl ?_
            refine hb_iald G (show ia g (a 0) 4 (A 0) _ from hk.2.1 0 (by decide)) (by rw [show nI i = nI i from rfl]; exact vp_in_nI (by omega) (by decide)) dX2_append_74 ?_
            refine lv_topi (fun r_20 er_20 => ?_)
            have er_20 : r_20 = A 0 (i) := by rw [er_20, show ((nI i)).toNatClampNeg = i by rw [show nI i = nI i from rfl]; exact nI_clamp (by omega)]
            have hrs2 : r_20 = nI (tn (A 0 i)) := by rw [er_20]; exact hs0
            refine lv_if_le (tgt := 103) G.1 G.2.1 dX2_append_75 (by decide) (fun c_21 => ?_) (fun c_21 => ?_)
            · have hfit : ¬ mFit A S i n := fun q => by have := (ic_le hrs2 (show (0 : Int32) = nI 0 from rfl) (by omega) (by decide)).mp c_21; have := q.1; omega
              refine lv_iconst (v := 0) G.1 G.2.1 dX2_append_103 (by decide) ?_
              refine hb_istore G dX2_append_104 hl (by decide) (fun ls hl => ?_)
              have hl : lh ls 10 [some (.ref r), some (.int (nI i)), some (.int n), some (.int b), some (.int (n + 4)), some (.int t_19), some (.int 0), none, none, none] := hl
              refine hb_aload_n G dX2_append_106 hl rfl ?_
              refine hb_callV (As := []) (rest := []) G hml (m_mark g l r S B C a A 0 wr lf dn en pl _ hk hSB hA) (hk.1) rfl km_X2_86 ki_X2_mark ks_X2_mark kn_X2 ko_X2_mark hd_X2_mark ⟨Nat.le_of_ble_eq_true rfl, Nat.le_of_ble_eq_true rfl⟩ hl.size rfl (Nat.le_of_ble_eq_true rfl) dX2_append_107 ⟨Nat.le_of_ble_eq_true rfl, Nat.le_of_ble_eq_true rfl⟩ hL (hM4) (fun v1 K2 locs2 hp hL => ?_)
              obtain ⟨rfl, hk2, hF2⟩ := hp
              have hk2 : mdAt g r S B C a (mH A S B) 0 wr lf dn en pl K2 := hk2
              have hm2 : Mo r a _ K2 := (Mo.fd hF).tr (Mo.ar (k := 4) hF2 (by decide))
              refine hb_iload G dX2_append_110 hl rfl ?_
              refine lv_if_eq (tgt := 125) G.1 G.2.1 dX2_append_112 (by decide) (fun c_22 => ?_) (fun c_22 => ?_)
              · refine hb_aload_n G dX2_append_125 hl rfl ?_
                refine hb_get G hk2.1 rfl inX2 6 (by decide) kf_X2_13 rfl rfl dX2_append_126 ?_
                refine hb_iload_n G dX2_append_129 hl rfl ?_
                refine hb_iald G (show ia g (a 0) 4 ((mH A S B) 0) _ from hk2.2.1 0 (by decide)) (by rw [show nI i = nI i from rfl]; exact vp_in_nI (by omega) (by decide)) dX2_append_130 ?_
                refine lv_topi (fun r_23 er_23 => ?_)
                have er_23 : r_23 = (mH A S B) 0 (i) := by rw [er_23, show ((nI i)).toNatClampNeg = i by rw [show nI i = nI i from rfl]; exact nI_clamp (by omega)]
                have hr3 : r_23 = nI (tn (A 0 i)) := by rw [er_23]; exact hs0
                refine lv_bipush (v := 60) G.1 G.2.1 dX2_append_131 (by decide) ?_
                refine lv_icmp_ne (tgt := 140) G.1 G.2.1 dX2_append_133 (by decide) (fun c_24 => ?_) (fun c_24 => ?_)
                · have hn60 : ¬ tn (A 0 i) = 60 := fun q => c_24 (by rw [hr3, q]; rfl)
                  refine hb_aload_n G dX2_append_140 hl rfl ?_
                  refine hb_callV (As := []) (rest := []) G hml (m_place g l r S B C a (mH A S B) 0 wr lf dn en pl _ hk2 hSB) (hk2.1) rfl km_X2_89 ki_X2_place ks_X2_place kn_X2 ko_X2_place hd_X2_place ⟨Nat.le_of_ble_eq_true rfl, Nat.le_of_ble_eq_true rfl⟩ hl.size rfl (Nat.le_of_ble_eq_true rfl) dX2_append_141 ⟨Nat.le_of_ble_eq_true rfl, Nat.le_of_ble_eq_true rfl⟩ hL (f0_in) (fun v1 K2 locs2 hp hL => ?_)
                  obtain ⟨rfl, rfl⟩ := hp
                  refine lv_topi (fun r_25 er_25 => ?_)
                  have hwh : mWh A S B i n = r_25 := by unfold mWh; rw [if_neg hfit, if_neg hn60, er_25]; rfl
                  refine hb_istore G dX2_append_144 hl (by decide) (fun ls hl => ?_)
                  have hl : lh ls 10 [some (.ref r), some (.int (nI i)), some (.int n), some (.int b), some (.int (n + 4)), some (.int t_19), some (.int 0), some (.int r_25), none, none] := hl
                  refine hb_iload G dX2_append_146 hl rfl ?_
                  refine lv_if_ge (tgt := 154) G.1 G.2.1 dX2_append_148 (by decide) (fun c_26 => ?_) (fun c_26 => ?_)
                  · have hwn : ¬ mWh A S B i n < 0 := by rw [hwh]; exact i32_nlt.mpr c_26
                    refine hb_iload G dX2_append_154 hl rfl ?_
                    refine lv_if_eq (tgt := 169) G.1 G.2.1 dX2_append_156 (by decide) (fun c_27 => ?_) (fun c_27 => ?_)
                    · refine lv_iconst (v := 0) G.1 G.2.1 dX2_append_169 (by decide) ?_
                      have hfz : (0 : Int32) = mFrm A S i n := by unfold mFrm; rw [if_neg hfit]
                      refine hb_istore G dX2_append_170 hl (by decide) (fun ls hl => ?_)
                      have hl : lh ls 10 [some (.ref r), some (.int (nI i)), some (.int n), some (.int b), some (.int (n + 4)), some (.int t_19), some (.int 0), some (.int r_25), some (.int 0), none] := hl
                      refine hb_iload G dX2_append_172 hl rfl ?_
                      refine hb_iload G dX2_append_174 hl rfl ?_
                      refine hb_callS (As := [.int 0, .int (n + 4)]) (rest := []) G hml (m_touched g l 0 (n + 4) _) km_X2_93 kt_X2_touched kn_X2 ko_X2_touched hd_X2_touched ⟨Nat.le_of_ble_eq_true rfl, Nat.le_of_ble_eq_true rfl⟩ hl.size rfl (Nat.le_of_ble_eq_true rfl) dX2_append_176 ⟨Nat.le_of_ble_eq_true rfl, Nat.le_of_ble_eq_true rfl⟩ hL (f0_in) (fun v1 K2 locs2 hp hL => ?_)
                      obtain ⟨rfl, rfl⟩ := hp
                      refine lv_topi (fun r_28 er_28 => ?_)
                      refine lv_iconst (v := 1) G.1 G.2.1 dX2_append_179 (by decide) ?_
                      refine lv_iadd G.1 G.2.1 dX2_append_180 ?_
                      refine lv_topi (fun t_29 et_29 => ?_)
                      obtain rfl : t_29 = mCn A S i n := by rw [et_29, er_28]; unfold mCn; rw [← hfz]
                      refine hb_istore G dX2_append_181 hl (by decide) (fun ls hl => ?_)
                      have hl : lh ls 10 [some (.ref r), some (.int (nI i)), some (.int n), some (.int b), some (.int (n + 4)), some (.int t_19), some (.int 0), some (.int r_25), some (.int 0), some (.int (mCn A S i n))] := hl
                      refine hb_aload_n G dX2_append_183 hl rfl ?_
                      refine hb_iload G dX2_append_184 hl rfl ?_
                      refine hb_callV (As := [.int (mCn A S i n)]) (rest := []) G hml (m_spend g l r S B C a (mH A S B) 0 wr lf dn en pl _ hk2 (mCn A S i n)) (hk2.1) rfl km_X2_97 ki_X2_spend ks_X2_spend kn_X2 ko_X2_spend hd_X2_spend ⟨Nat.le_of_ble_eq_true rfl, Nat.le_of_ble_eq_true rfl⟩ hl.size rfl (Nat.le_of_ble_eq_true rfl) dX2_append_186 ⟨Nat.le_of_ble_eq_true rfl, Nat.le_of_ble_eq_true rfl⟩ hL (hMr) (fun v1 K3 locs3 hp hL => ?_)
                      obtain ⟨rfl, hk3, hF3⟩ := hp
                      have hm3 : Mo r a _ K3 := hm2.tr (Mo.fd hF3)
                      refine lv_topi (fun r_30 er_30 => ?_)
                      refine lv_if_eq (tgt := 270) G.1 G.2.1 dX2_append_189 (by decide) (fun c_31 => ?_) (fun c_31 => ?_)
                      · refine hb_aload_n G dX2_append_270 hl rfl ?_
                        refine hb_get G hk3.1 rfl inX2 5 (by decide) kf_X2_60 rfl rfl dX2_append_271 ?_
                        refine lv_if_eq (tgt := 282) G.1 G.2.1 dX2_append_274 (by decide) (fun c_32 => ?_) (fun c_32 => ?_)
                        · refine hb_iload G dX2_append_282 hl rfl ?_
                          exact hb_iret G hr hlocks (Or.inr ⟨i, hi, rfl, hok.2.1, hok.2.2, hdn, Or.inr (Or.inr ⟨hla, hwn, by rw [if_pos c_32], Or.inl ⟨by rw [← er_30]; exact c_31, hk3, Mg.of hm3⟩⟩)⟩) hL (Nat.le_of_ble_eq_true rfl) (Nat.le_of_ble_eq_true rfl) dX2_append_284
                        · refine lv_bipush (v := (-3)) G.1 G.2.1 dX2_append_277 (by decide) ?_
                          refine lv_goto (tgt := 284) G.1 G.2.1 dX2_append_279 (by decide) ?_
                          exact hb_iret G hr hlocks (Or.inr ⟨i, hi, rfl, hok.2.1, hok.2.2, hdn, Or.inr (Or.inr ⟨hla, hwn, by rw [if_neg c_32], Or.inl ⟨by rw [← er_30]; exact c_31, hk3, Mg.of hm3⟩⟩)⟩) hL (Nat.le_of_ble_eq_true rfl) (Nat.le_of_ble_eq_true rfl) dX2_append_284
                      · refine hb_iload G dX2_append_192 hl rfl ?_
                        refine lv_if_ne (tgt := 237) G.1 G.2.1 dX2_append_194 (by decide) (fun c_33 => ?_) (fun c_33 => ?_)
                        · exact absurd (by decide) c_33
                        · have hlt : tn (A 0 i) < 60 := by rcases Nat.lt_or_ge (tn (A 0 i)) 60 with q | q; exact q; exact absurd (by omega) hn60
                          refine lv_bipush (v := 60) G.1 G.2.1 dX2_append_197 (by decide) ?_
                          refine hb_iload_n G dX2_append_199 hl rfl ?_
                          refine lv_imul G.1 G.2.1 dX2_append_200 ?_
                          refine lv_topi (fun t_34 et_34 => ?_)
                          refine hb_aload_n G dX2_append_201 hl rfl ?_
                          refine hb_get G hk3.1 rfl inX2 6 (by decide) kf_X2_13 rfl rfl dX2_append_202 ?_
                          refine hb_iload_n G dX2_append_205 hl rfl ?_
                          refine hb_iald G (show ia g (a 0) 4 ((mH A S B) 0) _ from hk3.2.1 0 (by decide)) (by rw [show nI i = nI i from rfl]; exact vp_in_nI (by omega) (by decide)) dX2_append_206 ?_
                          refine lv_topi (fun r_35 er_35 => ?_)
                          have er_35 : r_35 = (mH A S B) 0 (i) := by rw [er_35, show ((nI i)).toNatClampNeg = i by rw [show nI i = nI i from rfl]; exact nI_clamp (by omega)]
                          have hr4 : r_35 = nI (tn (A 0 i)) := by rw [er_35]; exact hs0
                          refine lv_iadd G.1 G.2.1 dX2_append_207 ?_
                          refine lv_topi (fun t_36 et_36 => ?_)
                          refine hb_istore G dX2_append_208 hl (by decide) (fun ls hl => ?_)
                          have hl : lh ls 10 [some (.ref r), some (.int (nI i)), some (.int n), some (.int b), some (.int (n + 4)), some (.int t_36), some (.int 0), some (.int r_25), some (.int 0), some (.int (mCn A S i n))] := hl
                          refine hb_aload_n G dX2_append_210 hl rfl ?_
                          refine hb_get G hk3.1 rfl inX2 7 (by decide) kf_X2_17 rfl rfl dX2_append_211 ?_
                          refine hb_iload G dX2_append_214 hl rfl ?_
                          refine hb_iload G dX2_append_216 hl rfl ?_
                          have h6 : t_36 = nI (60 * i + tn (A 0 i)) := by rw [et_36, et_34, hr4]; exact nI_60 _ _
                          refine hb_iast G (show ia g (a 1) 240 ((mH A S B) 1) _ from hk3.2.1 1 (by decide)) (by rw [h6]; exact vp_in_nI (by omega) (by decide)) hL (Or.inl (fM_a (by decide))) dX2_append_218 (fun N1 locs hg1 hz1 ho1 hL => ?_)
                          rw [show (t_36).toNatClampNeg = 60 * i + tn (A 0 i) by rw [h6]; exact nI_clamp (by omega)] at hg1
                          have hn1 := hk3.up (k := 1) (by decide) hg1 ⟨hz1, ho1⟩
                          have hn1 : mdAt g r S B C a (va_up (mH A S B) 1 (upd (A 1) (60 * i + tn (A 0 i)) (mWh A S B i n))) 0 (wr + spW lf (mCn A S i n)) (spL lf (mCn A S i n)) (spN lf (mCn A S i n)) en pl N1 := by rw [hwh]; exact hn1
                          refine hb_aload_n G dX2_append_219 hl rfl ?_
                          refine hb_get G hn1.1 rfl inX2 8 (by decide) kf_X2_20 rfl rfl dX2_append_220 ?_
                          refine hb_iload G dX2_append_223 hl rfl ?_
                          refine lv_iconst (v := 0) G.1 G.2.1 dX2_append_225 (by decide) ?_
                          refine hb_iast G (show ia g (a 2) 240 ((va_up (mH A S B) 1 (upd (A 1) (60 * i + tn (A 0 i)) (mWh A S B i n))) 2) _ from hn1.2.1 2 (by decide)) (by rw [h6]; exact vp_in_nI (by omega) (by decide)) hL (Or.inl (fM_a (by decide))) dX2_append_226 (fun N2 locs hg2 hz2 ho2 hL => ?_)
                          rw [show (t_36).toNatClampNeg = 60 * i + tn (A 0 i) by rw [h6]; exact nI_clamp (by omega)] at hg2
                          have hn2 := hn1.up (k := 2) (by decide) hg2 ⟨hz2, ho2⟩
                          have hn2 : mdAt g r S B C a (va_up (va_up (mH A S B) 1 (upd (A 1) (60 * i + tn (A 0 i)) (mWh A S B i n))) 2 (upd (A 2) (60 * i + tn (A 0 i)) 0)) 0 (wr + spW lf (mCn A S i n)) (spL lf (mCn A S i n)) (spN lf (mCn A S i n)) en pl N2 := hn2
                          refine hb_aload_n G dX2_append_227 hl rfl ?_
                          refine hb_get G hn2.1 rfl inX2 6 (by decide) kf_X2_13 rfl rfl dX2_append_228 ?_
                          refine hb_iload_n G dX2_append_231 hl rfl ?_
                          refine lv_dup2_11 G.1 G.2.1 dX2_append_232 rfl rfl ?_
                          refine hb_iald G (show ia g (a 0) 4 ((va_up (va_up (mH A S B) 1 (upd (A 1) (60 * i + tn (A 0 i)) (mWh A S B i n))) 2 (upd (A 2) (60 * i + tn (A 0 i)) 0)) 0) _ from hn2.2.1 0 (by decide)) (by rw [show nI i = nI i from rfl]; exact vp_in_nI (by omega) (by decide)) dX2_append_233 ?_
                          refine lv_topi (fun r_37 er_37 => ?_)
                          have er_37 : r_37 = (va_up (va_up (mH A S B) 1 (upd (A 1) (60 * i + tn (A 0 i)) (mWh A S B i n))) 2 (upd (A 2) (60 * i + tn (A 0 i)) 0)) 0 (i) := by rw [er_37, show ((nI i)).toNatClampNeg = i by rw [show nI i = nI i from rfl]; exact nI_clamp (by omega)]
                          refine lv_iconst (v := 1) G.1 G.2.1 dX2_append_234 (by decide) ?_
                          refine lv_iadd G.1 G.2.1 dX2_append_235 ?_
                          refine lv_topi (fun t_38 et_38 => ?_)
                          refine hb_iast G (show ia g (a 0) 4 ((va_up (va_up (mH A S B) 1 (upd (A 1) (60 * i + tn (A 0 i)) (mWh A S B i n))) 2 (upd (A 2) (60 * i + tn (A 0 i)) 0)) 0) _ from hn2.2.1 0 (by decide)) (by rw [show nI i = nI i from rfl]; exact vp_in_nI (by omega) (by decide)) hL (Or.inl (fM_a (by decide))) dX2_append_236 (fun N3 locs hg3 hz3 ho3 hL => ?_)
                          rw [show ((nI i)).toNatClampNeg = i by rw [show nI i = nI i from rfl]; exact nI_clamp (by omega)] at hg3
                          have hn3 := hn2.up (k := 0) (by decide) hg3 ⟨hz3, ho3⟩
                          have hn3 : mdAt g r S B C a (va_up (va_up (va_up (mH A S B) 1 (upd (A 1) (60 * i + tn (A 0 i)) (mWh A S B i n))) 2 (upd (A 2) (60 * i + tn (A 0 i)) 0)) 0 (upd (A 0) i (A 0 i + 1))) 0 (wr + spW lf (mCn A S i n)) (spL lf (mCn A S i n)) (spN lf (mCn A S i n)) en pl N3 := by rw [et_38, er_37] at hn3; exact hn3
                          have hm4 : Mo r a _ N3 := hm3.tr ((Mo.ar (k := 1) ⟨hz1, ho1⟩ (by decide)).tr ((Mo.ar (k := 2) ⟨hz2, ho2⟩ (by decide)).tr (Mo.ar (k := 0) ⟨hz3, ho3⟩ (by decide))))
                          refine hb_aload_n G dX2_append_237 hl rfl ?_
                          refine hb_get G hn3.1 rfl inX2 8 (by decide) kf_X2_20 rfl rfl dX2_append_238 ?_
                          refine hb_iload G dX2_append_241 hl rfl ?_
                          refine lv_dup2_11 G.1 G.2.1 dX2_append_243 rfl rfl ?_
                          refine hb_iald G (show ia g (a 2) 240 ((va_up (va_up (va_up (mH A S B) 1 (upd (A 1) (60 * i + tn (A 0 i)) (mWh A S B i n))) 2 (upd (A 2) (60 * i + tn (A 0 i)) 0)) 0 (upd (A 0) i (A 0 i + 1))) 2) _ from hn3.2.1 2 (by decide)) (by rw [h6]; exact vp_in_nI (by omega) (by decide)) dX2_append_244 ?_
                          refine lv_topi (fun r_39 er_39 => ?_)
                          have er_39 : r_39 = (va_up (va_up (va_up (mH A S B) 1 (upd (A 1) (60 * i + tn (A 0 i)) (mWh A S B i n))) 2 (upd (A 2) (60 * i + tn (A 0 i)) 0)) 0 (upd (A 0) i (A 0 i + 1))) 2 (60 * i + tn (A 0 i)) := by rw [er_39, show (t_36).toNatClampNeg = 60 * i + tn (A 0 i) by rw [h6]; exact nI_clamp (by omega)]
                          refine hb_iload G dX2_append_245 hl rfl ?_
                          refine lv_iadd G.1 G.2.1 dX2_append_247 ?_
                          refine lv_topi (fun t_40 et_40 => ?_)
                          have hv6 : t_40 = (0 + (n + 4)) := by rw [et_40, er_39]; show (upd (A 2) (60 * i + tn (A 0 i)) 0 (60 * i + tn (A 0 i))) + (n + 4) = 0 + (n + 4); rw [pk_us]
                          refine hb_iast G (show ia g (a 2) 240 ((va_up (va_up (va_up (mH A S B) 1 (upd (A 1) (60 * i + tn (A 0 i)) (mWh A S B i n))) 2 (upd (A 2) (60 * i + tn (A 0 i)) 0)) 0 (upd (A 0) i (A 0 i + 1))) 2) _ from hn3.2.1 2 (by decide)) (by rw [h6]; exact vp_in_nI (by omega) (by decide)) hL (Or.inl (fM_a (by decide))) dX2_append_248 (fun N5 locs hg5 hz5 ho5 hL => ?_)
                          rw [show (t_36).toNatClampNeg = 60 * i + tn (A 0 i) by rw [h6]; exact nI_clamp (by omega), hv6] at hg5
                          have hn5 := hn3.up (k := 2) (by decide) hg5 ⟨hz5, ho5⟩
                          have hn5 : mdAt g r S B C a (va_up (va_up (va_up (va_up (mH A S B) 1 (upd (A 1) (60 * i + tn (A 0 i)) (mWh A S B i n))) 2 (upd (A 2) (60 * i + tn (A 0 i)) 0)) 0 (upd (A 0) i (A 0 i + 1))) 2 (upd (upd (A 2) (60 * i + tn (A 0 i)) 0) (60 * i + tn (A 0 i)) (0 + (n + 4)))) 0 (wr + spW lf (mCn A S i n)) (spL lf (mCn A S i n)) (spN lf (mCn A S i n)) en pl N5 := hn5
                          refine hb_aload_n G dX2_append_249 hl rfl ?_
                          refine hb_get G hn5.1 rfl inX2 9 (by decide) kf_X2_23 rfl rfl dX2_append_250 ?_
                          refine hb_iload_n G dX2_append_253 hl rfl ?_
                          refine lv_dup2_11 G.1 G.2.1 dX2_append_254 rfl rfl ?_
                          refine hb_iald G (show ia g (a 3) 4 ((va_up (va_up (va_up (va_up (mH A S B) 1 (upd (A 1) (60 * i + tn (A 0 i)) (mWh A S B i n))) 2 (upd (A 2) (60 * i + tn (A 0 i)) 0)) 0 (upd (A 0) i (A 0 i + 1))) 2 (upd (upd (A 2) (60 * i + tn (A 0 i)) 0) (60 * i + tn (A 0 i)) (0 + (n + 4)))) 3) _ from hn5.2.1 3 (by decide)) (by rw [show nI i = nI i from rfl]; exact vp_in_nI (by omega) (by decide)) dX2_append_255 ?_
                          refine lv_topi (fun r_41 er_41 => ?_)
                          have er_41 : r_41 = (va_up (va_up (va_up (va_up (mH A S B) 1 (upd (A 1) (60 * i + tn (A 0 i)) (mWh A S B i n))) 2 (upd (A 2) (60 * i + tn (A 0 i)) 0)) 0 (upd (A 0) i (A 0 i + 1))) 2 (upd (upd (A 2) (60 * i + tn (A 0 i)) 0) (60 * i + tn (A 0 i)) (0 + (n + 4)))) 3 (i) := by rw [er_41, show ((nI i)).toNatClampNeg = i by rw [show nI i = nI i from rfl]; exact nI_clamp (by omega)]
                          refine lv_iconst (v := 1) G.1 G.2.1 dX2_append_256 (by decide) ?_
                          refine lv_iadd G.1 G.2.1 dX2_append_257 ?_
                          refine lv_topi (fun t_42 et_42 => ?_)
                          refine hb_iast G (show ia g (a 3) 4 ((va_up (va_up (va_up (va_up (mH A S B) 1 (upd (A 1) (60 * i + tn (A 0 i)) (mWh A S B i n))) 2 (upd (A 2) (60 * i + tn (A 0 i)) 0)) 0 (upd (A 0) i (A 0 i + 1))) 2 (upd (upd (A 2) (60 * i + tn (A 0 i)) 0) (60 * i + tn (A 0 i)) (0 + (n + 4)))) 3) _ from hn5.2.1 3 (by decide)) (by rw [show nI i = nI i from rfl]; exact vp_in_nI (by omega) (by decide)) hL (Or.inl (fM_a (by decide))) dX2_append_258 (fun N6 locs hg6 hz6 ho6 hL => ?_)
                          rw [show ((nI i)).toNatClampNeg = i by rw [show nI i = nI i from rfl]; exact nI_clamp (by omega)] at hg6
                          have hn6 := hn5.up (k := 3) (by decide) hg6 ⟨hz6, ho6⟩
                          have hn6 : mdAt g r S B C a (mAp A S B i n) 0 (wr + spW lf (mCn A S i n)) (spL lf (mCn A S i n)) (spN lf (mCn A S i n)) en pl N6 := by unfold mAp; rw [if_neg hfit]; rw [et_42, er_41] at hn6; exact hn6
                          have hm6 : Mo r a _ N6 := hm4.tr ((Mo.ar (k := 2) ⟨hz5, ho5⟩ (by decide)).tr (Mo.ar (k := 3) ⟨hz6, ho6⟩ (by decide)))
                          refine hb_aload_n G dX2_append_259 hl rfl ?_
                          refine hb_iload_n G dX2_append_260 hl rfl ?_
                          refine hb_iload_n G dX2_append_261 hl rfl ?_
                          refine hb_iload_n G dX2_append_262 hl rfl ?_
                          refine hb_iload G dX2_append_263 hl rfl ?_
                          refine hb_iload G dX2_append_265 hl rfl ?_
                          have hsz6 : N6.size = _ := hm6.1
                          refine hb_callV (As := [.int (nI i), .int n, .int b, .int r_25, .int 0]) (rest := []) G hml (m_add g l r S B C a (mAp A S B i n) 0 _ _ _ en pl _ hn6 hC0 hC1 hC2 hen hC3 (nI i) n b r_25 0) (hn6.1) rfl km_X2_100 ki_X2_add ks_X2_add kn_X2 ko_X2_add hd_X2_add ⟨Nat.le_of_ble_eq_true rfl, Nat.le_of_ble_eq_true rfl⟩ hl.size rfl (Nat.le_of_ble_eq_true rfl) dX2_append_267 ⟨Nat.le_of_ble_eq_true rfl, Nat.le_of_ble_eq_true rfl⟩ hL (fun q h9 => h9.elim Or.inl (fun h8 => Or.inr (by rw [← hsz6]; exact h8))) (fun v1 K9 locs9 hp hL => ?_)
                          obtain ⟨rfl, C2, a2, A2, hk9, hc9, had, hmg⟩ := hp
                          refine hb_aload_n G dX2_append_270 hl rfl ?_
                          refine hb_get G hk9.1 rfl inX2 5 (by decide) kf_X2_60 rfl rfl dX2_append_271 ?_
                          refine lv_if_eq (tgt := 282) G.1 G.2.1 dX2_append_274 (by decide) (fun c_43 => ?_) (fun c_43 => ?_)
                          · refine hb_iload G dX2_append_282 hl rfl ?_
                            exact hb_iret G hr hlocks (Or.inr ⟨i, hi, rfl, hok.2.1, hok.2.2, hdn, Or.inr (Or.inr ⟨hla, hwn, by rw [if_pos c_43], Or.inr ⟨by rw [← er_30]; exact c_31, C2, a2, A2, hk9, hc9, by rw [hwh, ← hfz]; exact had, (Mg.of hm6).tr hmg⟩⟩)⟩) hL (Nat.le_of_ble_eq_true rfl) (Nat.le_of_ble_eq_true rfl) dX2_append_284
                          · refine lv_bipush (v := (-3)) G.1 G.2.1 dX2_append_277 (by decide) ?_
                            refine lv_goto (tgt := 284) G.1 G.2.1 dX2_append_279 (by decide) ?_
                            exact hb_iret G hr hlocks (Or.inr ⟨i, hi, rfl, hok.2.1, hok.2.2, hdn, Or.inr (Or.inr ⟨hla, hwn, by rw [if_neg c_43], Or.inr ⟨by rw [← er_30]; exact c_31, C2, a2, A2, hk9, hc9, by rw [hwh, ← hfz]; exact had, (Mg.of hm6).tr hmg⟩⟩)⟩) hL (Nat.le_of_ble_eq_true rfl) (Nat.le_of_ble_eq_true rfl) dX2_append_284
                    · exact absurd rfl c_27
                  · have hwn : mWh A S B i n < 0 := by rw [hwh]; exact i32_nle.mp c_26
                    refine lv_bipush (v := (-2)) G.1 G.2.1 dX2_append_151 (by decide) ?_
                    exact hb_iret G hr hlocks (Or.inr ⟨i, hi, rfl, hok.2.1, hok.2.2, hdn, Or.inr (Or.inl ⟨hla, hwn, rfl, hk2, Mg.of hm2⟩)⟩) hL (Nat.le_of_ble_eq_true rfl) (Nat.le_of_ble_eq_true rfl) dX2_append_153
                · have h60 : tn (A 0 i) = 60 := (nI_eq (by omega) (by decide)).mp (hr3.symm.trans c_24)
                  have hwh : mWh A S B i n = -1 := by unfold mWh; rw [if_neg hfit, if_pos h60]
                  refine lv_iconst (v := (-1)) G.1 G.2.1 dX2_append_136 (by decide) ?_
                  refine lv_goto (tgt := 144) G.1 G.2.1 dX2_append_137 (by decide) ?_
                  refine hb_istore G dX2_append_144 hl (by decide) (fun ls hl => ?_)
                  have hl : lh ls 10 [some (.ref r), some (.int (nI i)), some (.int n), some (.int b), some (.int (n + 4)), some (.int t_19), some (.int 0), some (.int (-1)), none, none] := hl
                  refine hb_iload G dX2_append_146 hl rfl ?_
                  refine lv_if_ge (tgt := 154) G.1 G.2.1 dX2_append_148 (by decide) (fun c_44 => ?_) (fun c_44 => ?_)
                  · exact absurd c_44 (by decide)
                  · refine lv_bipush (v := (-2)) G.1 G.2.1 dX2_append_151 (by decide) ?_
                    exact hb_iret G hr hlocks (Or.inr ⟨i, hi, rfl, hok.2.1, hok.2.2, hdn, Or.inr (Or.inl ⟨hla, by rw [hwh]; decide, rfl, hk2, Mg.of hm2⟩)⟩) hL (Nat.le_of_ble_eq_true rfl) (Nat.le_of_ble_eq_true rfl) dX2_append_153
              · exact absurd rfl c_22
            · have hpos : 0 < tn (A 0 i) := by have := mt (ic_le hrs2 (show (0 : Int32) = nI 0 from rfl) (by omega) (by decide)).mpr c_21; omega
              refine hb_aload_n G dX2_append_78 hl rfl ?_
              refine hb_get G hk.1 rfl inX2 8 (by decide) kf_X2_20 rfl rfl dX2_append_79 ?_
              refine hb_iload G dX2_append_82 hl rfl ?_
              refine hb_iald G (show ia g (a 2) 240 (A 2) _ from hk.2.1 2 (by decide)) (by rw [h5 hpos]; exact vp_in_nI (by omega) (by decide)) dX2_append_84 ?_
              refine lv_topi (fun r_45 er_45 => ?_)
              have er_45 : r_45 = A 2 (60 * i + (tn (A 0 i) - 1)) := by rw [er_45, show (t_19).toNatClampNeg = 60 * i + (tn (A 0 i) - 1) by rw [h5 hpos]; exact nI_clamp (by omega)]
              refine hb_iload G dX2_append_85 hl rfl ?_
              refine lv_iadd G.1 G.2.1 dX2_append_87 ?_
              refine lv_topi (fun t_46 et_46 => ?_)
              refine lv_sipush (v := 1024) G.1 G.2.1 dX2_append_88 (by decide) ?_
              refine hb_aload_n G dX2_append_91 hl rfl ?_
              refine hb_get G hk.1 rfl inX2 1 (by decide) kf_X2_51 rfl rfl dX2_append_92 ?_
              refine lv_imul G.1 G.2.1 dX2_append_95 ?_
              refine lv_topi (fun t_47 et_47 => ?_)
              refine lv_icmp_gt (tgt := 103) G.1 G.2.1 dX2_append_96 (by decide) (fun c_48 => ?_) (fun c_48 => ?_)
              · have hfit : ¬ mFit A S i n := fun q => by have q2 := q.2; rw [← er_45, ← et_46, ← et_47] at q2; exact i32_nlt.mpr q2 c_48
                refine lv_iconst (v := 0) G.1 G.2.1 dX2_append_103 (by decide) ?_
                refine hb_istore G dX2_append_104 hl (by decide) (fun ls hl => ?_)
                have hl : lh ls 10 [some (.ref r), some (.int (nI i)), some (.int n), some (.int b), some (.int (n + 4)), some (.int t_19), some (.int 0), none, none, none] := hl
                refine hb_aload_n G dX2_append_106 hl rfl ?_
                refine hb_callV (As := []) (rest := []) G hml (m_mark g l r S B C a A 0 wr lf dn en pl _ hk hSB hA) (hk.1) rfl km_X2_86 ki_X2_mark ks_X2_mark kn_X2 ko_X2_mark hd_X2_mark ⟨Nat.le_of_ble_eq_true rfl, Nat.le_of_ble_eq_true rfl⟩ hl.size rfl (Nat.le_of_ble_eq_true rfl) dX2_append_107 ⟨Nat.le_of_ble_eq_true rfl, Nat.le_of_ble_eq_true rfl⟩ hL (hM4) (fun v1 K2 locs2 hp hL => ?_)
                obtain ⟨rfl, hk2, hF2⟩ := hp
                have hk2 : mdAt g r S B C a (mH A S B) 0 wr lf dn en pl K2 := hk2
                have hm2 : Mo r a _ K2 := (Mo.fd hF).tr (Mo.ar (k := 4) hF2 (by decide))
                refine hb_iload G dX2_append_110 hl rfl ?_
                refine lv_if_eq (tgt := 125) G.1 G.2.1 dX2_append_112 (by decide) (fun c_49 => ?_) (fun c_49 => ?_)
                · refine hb_aload_n G dX2_append_125 hl rfl ?_
                  refine hb_get G hk2.1 rfl inX2 6 (by decide) kf_X2_13 rfl rfl dX2_append_126 ?_
                  refine hb_iload_n G dX2_append_129 hl rfl ?_
                  refine hb_iald G (show ia g (a 0) 4 ((mH A S B) 0) _ from hk2.2.1 0 (by decide)) (by rw [show nI i = nI i from rfl]; exact vp_in_nI (by omega) (by decide)) dX2_append_130 ?_
                  refine lv_topi (fun r_50 er_50 => ?_)
                  have er_50 : r_50 = (mH A S B) 0 (i) := by rw [er_50, show ((nI i)).toNatClampNeg = i by rw [show nI i = nI i from rfl]; exact nI_clamp (by omega)]
                  have hr3 : r_50 = nI (tn (A 0 i)) := by rw [er_50]; exact hs0
                  refine lv_bipush (v := 60) G.1 G.2.1 dX2_append_131 (by decide) ?_
                  refine lv_icmp_ne (tgt := 140) G.1 G.2.1 dX2_append_133 (by decide) (fun c_51 => ?_) (fun c_51 => ?_)
                  · have hn60 : ¬ tn (A 0 i) = 60 := fun q => c_51 (by rw [hr3, q]; rfl)
                    refine hb_aload_n G dX2_append_140 hl rfl ?_
                    refine hb_callV (As := []) (rest := []) G hml (m_place g l r S B C a (mH A S B) 0 wr lf dn en pl _ hk2 hSB) (hk2.1) rfl km_X2_89 ki_X2_place ks_X2_place kn_X2 ko_X2_place hd_X2_place ⟨Nat.le_of_ble_eq_true rfl, Nat.le_of_ble_eq_true rfl⟩ hl.size rfl (Nat.le_of_ble_eq_true rfl) dX2_append_141 ⟨Nat.le_of_ble_eq_true rfl, Nat.le_of_ble_eq_true rfl⟩ hL (f0_in) (fun v1 K2 locs2 hp hL => ?_)
                    obtain ⟨rfl, rfl⟩ := hp
                    refine lv_topi (fun r_52 er_52 => ?_)
                    have hwh : mWh A S B i n = r_52 := by unfold mWh; rw [if_neg hfit, if_neg hn60, er_52]; rfl
                    refine hb_istore G dX2_append_144 hl (by decide) (fun ls hl => ?_)
                    have hl : lh ls 10 [some (.ref r), some (.int (nI i)), some (.int n), some (.int b), some (.int (n + 4)), some (.int t_19), some (.int 0), some (.int r_52), none, none] := hl
                    refine hb_iload G dX2_append_146 hl rfl ?_
                    refine lv_if_ge (tgt := 154) G.1 G.2.1 dX2_append_148 (by decide) (fun c_53 => ?_) (fun c_53 => ?_)
                    · have hwn : ¬ mWh A S B i n < 0 := by rw [hwh]; exact i32_nlt.mpr c_53
                      refine hb_iload G dX2_append_154 hl rfl ?_
                      refine lv_if_eq (tgt := 169) G.1 G.2.1 dX2_append_156 (by decide) (fun c_54 => ?_) (fun c_54 => ?_)
                      · refine lv_iconst (v := 0) G.1 G.2.1 dX2_append_169 (by decide) ?_
                        have hfz : (0 : Int32) = mFrm A S i n := by unfold mFrm; rw [if_neg hfit]
                        refine hb_istore G dX2_append_170 hl (by decide) (fun ls hl => ?_)
                        have hl : lh ls 10 [some (.ref r), some (.int (nI i)), some (.int n), some (.int b), some (.int (n + 4)), some (.int t_19), some (.int 0), some (.int r_52), some (.int 0), none] := hl
                        refine hb_iload G dX2_append_172 hl rfl ?_
                        refine hb_iload G dX2_append_174 hl rfl ?_
                        refine hb_callS (As := [.int 0, .int (n + 4)]) (rest := []) G hml (m_touched g l 0 (n + 4) _) km_X2_93 kt_X2_touched kn_X2 ko_X2_touched hd_X2_touched ⟨Nat.le_of_ble_eq_true rfl, Nat.le_of_ble_eq_true rfl⟩ hl.size rfl (Nat.le_of_ble_eq_true rfl) dX2_append_176 ⟨Nat.le_of_ble_eq_true rfl, Nat.le_of_ble_eq_true rfl⟩ hL (f0_in) (fun v1 K2 locs2 hp hL => ?_)
                        obtain ⟨rfl, rfl⟩ := hp
                        refine lv_topi (fun r_55 er_55 => ?_)
                        refine lv_iconst (v := 1) G.1 G.2.1 dX2_append_179 (by decide) ?_
                        refine lv_iadd G.1 G.2.1 dX2_append_180 ?_
                        refine lv_topi (fun t_56 et_56 => ?_)
                        obtain rfl : t_56 = mCn A S i n := by rw [et_56, er_55]; unfold mCn; rw [← hfz]
                        refine hb_istore G dX2_append_181 hl (by decide) (fun ls hl => ?_)
                        have hl : lh ls 10 [some (.ref r), some (.int (nI i)), some (.int n), some (.int b), some (.int (n + 4)), some (.int t_19), some (.int 0), some (.int r_52), some (.int 0), some (.int (mCn A S i n))] := hl
                        refine hb_aload_n G dX2_append_183 hl rfl ?_
                        refine hb_iload G dX2_append_184 hl rfl ?_
                        refine hb_callV (As := [.int (mCn A S i n)]) (rest := []) G hml (m_spend g l r S B C a (mH A S B) 0 wr lf dn en pl _ hk2 (mCn A S i n)) (hk2.1) rfl km_X2_97 ki_X2_spend ks_X2_spend kn_X2 ko_X2_spend hd_X2_spend ⟨Nat.le_of_ble_eq_true rfl, Nat.le_of_ble_eq_true rfl⟩ hl.size rfl (Nat.le_of_ble_eq_true rfl) dX2_append_186 ⟨Nat.le_of_ble_eq_true rfl, Nat.le_of_ble_eq_true rfl⟩ hL (hMr) (fun v1 K3 locs3 hp hL => ?_)
                        obtain ⟨rfl, hk3, hF3⟩ := hp
                        have hm3 : Mo r a _ K3 := hm2.tr (Mo.fd hF3)
                        refine lv_topi (fun r_57 er_57 => ?_)
                        refine lv_if_eq (tgt := 270) G.1 G.2.1 dX2_append_189 (by decide) (fun c_58 => ?_) (fun c_58 => ?_)
                        · refine hb_aload_n G dX2_append_270 hl rfl ?_
                          refine hb_get G hk3.1 rfl inX2 5 (by decide) kf_X2_60 rfl rfl dX2_append_271 ?_
                          refine lv_if_eq (tgt := 282) G.1 G.2.1 dX2_append_274 (by decide) (fun c_59 => ?_) (fun c_59 => ?_)
                          · refine hb_iload G dX2_append_282 hl rfl ?_
                            exact hb_iret G hr hlocks (Or.inr ⟨i, hi, rfl, hok.2.1, hok.2.2, hdn, Or.inr (Or.inr ⟨hla, hwn, by rw [if_pos c_59], Or.inl ⟨by rw [← er_57]; exact c_58, hk3, Mg.of hm3⟩⟩)⟩) hL (Nat.le_of_ble_eq_true rfl) (Nat.le_of_ble_eq_true rfl) dX2_append_284
                          · refine lv_bipush (v := (-3)) G.1 G.2.1 dX2_append_277 (by decide) ?_
                            refine lv_goto (tgt := 284) G.1 G.2.1 dX2_append_279 (by decide) ?_
                            exact hb_iret G hr hlocks (Or.inr ⟨i, hi, rfl, hok.2.1, hok.2.2, hdn, Or.inr (Or.inr ⟨hla, hwn, by rw [if_neg c_59], Or.inl ⟨by rw [← er_57]; exact c_58, hk3, Mg.of hm3⟩⟩)⟩) hL (Nat.le_of_ble_eq_true rfl) (Nat.le_of_ble_eq_true rfl) dX2_append_284
                        · refine hb_iload G dX2_append_192 hl rfl ?_
                          refine lv_if_ne (tgt := 237) G.1 G.2.1 dX2_append_194 (by decide) (fun c_60 => ?_) (fun c_60 => ?_)
                          · exact absurd (by decide) c_60
                          · have hlt : tn (A 0 i) < 60 := by rcases Nat.lt_or_ge (tn (A 0 i)) 60 with q | q; exact q; exact absurd (by omega) hn60
                            refine lv_bipush (v := 60) G.1 G.2.1 dX2_append_197 (by decide) ?_
                            refine hb_iload_n G dX2_append_199 hl rfl ?_
                            refine lv_imul G.1 G.2.1 dX2_append_200 ?_
                            refine lv_topi (fun t_61 et_61 => ?_)
                            refine hb_aload_n G dX2_append_201 hl rfl ?_
                            refine hb_get G hk3.1 rfl inX2 6 (by decide) kf_X2_13 rfl rfl dX2_append_202 ?_
                            refine hb_iload_n G dX2_append_205 hl rfl ?_
                            refine hb_iald G (show ia g (a 0) 4 ((mH A S B) 0) _ from hk3.2.1 0 (by decide)) (by rw [show nI i = nI i from rfl]; exact vp_in_nI (by omega) (by decide)) dX2_append_206 ?_
                            refine lv_topi (fun r_62 er_62 => ?_)
                            have er_62 : r_62 = (mH A S B) 0 (i) := by rw [er_62, show ((nI i)).toNatClampNeg = i by rw [show nI i = nI i from rfl]; exact nI_clamp (by omega)]
                            have hr4 : r_62 = nI (tn (A 0 i)) := by rw [er_62]; exact hs0
                            refine lv_iadd G.1 G.2.1 dX2_append_207 ?_
                            refine lv_topi (fun t_63 et_63 => ?_)
                            refine hb_istore G dX2_append_208 hl (by decide) (fun ls hl => ?_)
                            have hl : lh ls 10 [some (.ref r), some (.int (nI i)), some (.int n), some (.int b), some (.int (n + 4)), some (.int t_63), some (.int 0), some (.int r_52), some (.int 0), some (.int (mCn A S i n))] := hl
                            refine hb_aload_n G dX2_append_210 hl rfl ?_
                            refine hb_get G hk3.1 rfl inX2 7 (by decide) kf_X2_17 rfl rfl dX2_append_211 ?_
                            refine hb_iload G dX2_append_214 hl rfl ?_
                            refine hb_iload G dX2_append_216 hl rfl ?_
                            have h6 : t_63 = nI (60 * i + tn (A 0 i)) := by rw [et_63, et_61, hr4]; exact nI_60 _ _
                            refine hb_iast G (show ia g (a 1) 240 ((mH A S B) 1) _ from hk3.2.1 1 (by decide)) (by rw [h6]; exact vp_in_nI (by omega) (by decide)) hL (Or.inl (fM_a (by decide))) dX2_append_218 (fun N1 locs hg1 hz1 ho1 hL => ?_)
                            rw [show (t_63).toNatClampNeg = 60 * i + tn (A 0 i) by rw [h6]; exact nI_clamp (by omega)] at hg1
                            have hn1 := hk3.up (k := 1) (by decide) hg1 ⟨hz1, ho1⟩
                            have hn1 : mdAt g r S B C a (va_up (mH A S B) 1 (upd (A 1) (60 * i + tn (A 0 i)) (mWh A S B i n))) 0 (wr + spW lf (mCn A S i n)) (spL lf (mCn A S i n)) (spN lf (mCn A S i n)) en pl N1 := by rw [hwh]; exact hn1
                            refine hb_aload_n G dX2_append_219 hl rfl ?_
                            refine hb_get G hn1.1 rfl inX2 8 (by decide) kf_X2_20 rfl rfl dX2_append_220 ?_
                            refine hb_iload G dX2_append_223 hl rfl ?_
                            refine lv_iconst (v := 0) G.1 G.2.1 dX2_append_225 (by decide) ?_
                            refine hb_iast G (show ia g (a 2) 240 ((va_up (mH A S B) 1 (upd (A 1) (60 * i + tn (A 0 i)) (mWh A S B i n))) 2) _ from hn1.2.1 2 (by decide)) (by rw [h6]; exact vp_in_nI (by omega) (by decide)) hL (Or.inl (fM_a (by decide))) dX2_append_226 (fun N2 locs hg2 hz2 ho2 hL => ?_)
                            rw [show (t_63).toNatClampNeg = 60 * i + tn (A 0 i) by rw [h6]; exact nI_clamp (by omega)] at hg2
                            have hn2 := hn1.up (k := 2) (by decide) hg2 ⟨hz2, ho2⟩
                            have hn2 : mdAt g r S B C a (va_up (va_up (mH A S B) 1 (upd (A 1) (60 * i + tn (A 0 i)) (mWh A S B i n))) 2 (upd (A 2) (60 * i + tn (A 0 i)) 0)) 0 (wr + spW lf (mCn A S i n)) (spL lf (mCn A S i n)) (spN lf (mCn A S i n)) en pl N2 := hn2
                            refine hb_aload_n G dX2_append_227 hl rfl ?_
                            refine hb_get G hn2.1 rfl inX2 6 (by decide) kf_X2_13 rfl rfl dX2_append_228 ?_
                            refine hb_iload_n G dX2_append_231 hl rfl ?_
                            refine lv_dup2_11 G.1 G.2.1 dX2_append_232 rfl rfl ?_
                            refine hb_iald G (show ia g (a 0) 4 ((va_up (va_up (mH A S B) 1 (upd (A 1) (60 * i + tn (A 0 i)) (mWh A S B i n))) 2 (upd (A 2) (60 * i + tn (A 0 i)) 0)) 0) _ from hn2.2.1 0 (by decide)) (by rw [show nI i = nI i from rfl]; exact vp_in_nI (by omega) (by decide)) dX2_append_233 ?_
                            refine lv_topi (fun r_64 er_64 => ?_)
                            have er_64 : r_64 = (va_up (va_up (mH A S B) 1 (upd (A 1) (60 * i + tn (A 0 i)) (mWh A S B i n))) 2 (upd (A 2) (60 * i + tn (A 0 i)) 0)) 0 (i) := by rw [er_64, show ((nI i)).toNatClampNeg = i by rw [show nI i = nI i from rfl]; exact nI_clamp (by omega)]
                            refine lv_iconst (v := 1) G.1 G.2.1 dX2_append_234 (by decide) ?_
                            refine lv_iadd G.1 G.2.1 dX2_append_235 ?_
                            refine lv_topi (fun t_65 et_65 => ?_)
                            refine hb_iast G (show ia g (a 0) 4 ((va_up (va_up (mH A S B) 1 (upd (A 1) (60 * i + tn (A 0 i)) (mWh A S B i n))) 2 (upd (A 2) (60 * i + tn (A 0 i)) 0)) 0) _ from hn2.2.1 0 (by decide)) (by rw [show nI i = nI i from rfl]; exact vp_in_nI (by omega) (by decide)) hL (Or.inl (fM_a (by decide))) dX2_append_236 (fun N3 locs hg3 hz3 ho3 hL => ?_)
                            rw [show ((nI i)).toNatClampNeg = i by rw [show nI i = nI i from rfl]; exact nI_clamp (by omega)] at hg3
                            have hn3 := hn2.up (k := 0) (by decide) hg3 ⟨hz3, ho3⟩
                            have hn3 : mdAt g r S B C a (va_up (va_up (va_up (mH A S B) 1 (upd (A 1) (60 * i + tn (A 0 i)) (mWh A S B i n))) 2 (upd (A 2) (60 * i + tn (A 0 i)) 0)) 0 (upd (A 0) i (A 0 i + 1))) 0 (wr + spW lf (mCn A S i n)) (spL lf (mCn A S i n)) (spN lf (mCn A S i n)) en pl N3 := by rw [et_65, er_64] at hn3; exact hn3
                            have hm4 : Mo r a _ N3 := hm3.tr ((Mo.ar (k := 1) ⟨hz1, ho1⟩ (by decide)).tr ((Mo.ar (k := 2) ⟨hz2, ho2⟩ (by decide)).tr (Mo.ar (k := 0) ⟨hz3, ho3⟩ (by decide))))
                            refine hb_aload_n G dX2_append_237 hl rfl ?_
                            refine hb_get G hn3.1 rfl inX2 8 (by decide) kf_X2_20 rfl rfl dX2_append_238 ?_
                            refine hb_iload G dX2_append_241 hl rfl ?_
                            refine lv_dup2_11 G.1 G.2.1 dX2_append_243 rfl rfl ?_
                            refine hb_iald G (show ia g (a 2) 240 ((va_up (va_up (va_up (mH A S B) 1 (upd (A 1) (60 * i + tn (A 0 i)) (mWh A S B i n))) 2 (upd (A 2) (60 * i + tn (A 0 i)) 0)) 0 (upd (A 0) i (A 0 i + 1))) 2) _ from hn3.2.1 2 (by decide)) (by rw [h6]; exact vp_in_nI (by omega) (by decide)) dX2_append_244 ?_
                            refine lv_topi (fun r_66 er_66 => ?_)
                            have er_66 : r_66 = (va_up (va_up (va_up (mH A S B) 1 (upd (A 1) (60 * i + tn (A 0 i)) (mWh A S B i n))) 2 (upd (A 2) (60 * i + tn (A 0 i)) 0)) 0 (upd (A 0) i (A 0 i + 1))) 2 (60 * i + tn (A 0 i)) := by rw [er_66, show (t_63).toNatClampNeg = 60 * i + tn (A 0 i) by rw [h6]; exact nI_clamp (by omega)]
                            refine hb_iload G dX2_append_245 hl rfl ?_
                            refine lv_iadd G.1 G.2.1 dX2_append_247 ?_
                            refine lv_topi (fun t_67 et_67 => ?_)
                            have hv6 : t_67 = (0 + (n + 4)) := by rw [et_67, er_66]; show (upd (A 2) (60 * i + tn (A 0 i)) 0 (60 * i + tn (A 0 i))) + (n + 4) = 0 + (n + 4); rw [pk_us]
                            refine hb_iast G (show ia g (a 2) 240 ((va_up (va_up (va_up (mH A S B) 1 (upd (A 1) (60 * i + tn (A 0 i)) (mWh A S B i n))) 2 (upd (A 2) (60 * i + tn (A 0 i)) 0)) 0 (upd (A 0) i (A 0 i + 1))) 2) _ from hn3.2.1 2 (by decide)) (by rw [h6]; exact vp_in_nI (by omega) (by decide)) hL (Or.inl (fM_a (by decide))) dX2_append_248 (fun N5 locs hg5 hz5 ho5 hL => ?_)
                            rw [show (t_63).toNatClampNeg = 60 * i + tn (A 0 i) by rw [h6]; exact nI_clamp (by omega), hv6] at hg5
                            have hn5 := hn3.up (k := 2) (by decide) hg5 ⟨hz5, ho5⟩
                            have hn5 : mdAt g r S B C a (va_up (va_up (va_up (va_up (mH A S B) 1 (upd (A 1) (60 * i + tn (A 0 i)) (mWh A S B i n))) 2 (upd (A 2) (60 * i + tn (A 0 i)) 0)) 0 (upd (A 0) i (A 0 i + 1))) 2 (upd (upd (A 2) (60 * i + tn (A 0 i)) 0) (60 * i + tn (A 0 i)) (0 + (n + 4)))) 0 (wr + spW lf (mCn A S i n)) (spL lf (mCn A S i n)) (spN lf (mCn A S i n)) en pl N5 := hn5
                            refine hb_aload_n G dX2_append_249 hl rfl ?_
                            refine hb_get G hn5.1 rfl inX2 9 (by decide) kf_X2_23 rfl rfl dX2_append_250 ?_
                            refine hb_iload_n G dX2_append_253 hl rfl ?_
                            refine lv_dup2_11 G.1 G.2.1 dX2_append_254 rfl rfl ?_
                            refine hb_iald G (show ia g (a 3) 4 ((va_up (va_up (va_up (va_up (mH A S B) 1 (upd (A 1) (60 * i + tn (A 0 i)) (mWh A S B i n))) 2 (upd (A 2) (60 * i + tn (A 0 i)) 0)) 0 (upd (A 0) i (A 0 i + 1))) 2 (upd (upd (A 2) (60 * i + tn (A 0 i)) 0) (60 * i + tn (A 0 i)) (0 + (n + 4)))) 3) _ from hn5.2.1 3 (by decide)) (by rw [show nI i = nI i from rfl]; exact vp_in_nI (by omega) (by decide)) dX2_append_255 ?_
                            refine lv_topi (fun r_68 er_68 => ?_)
                            have er_68 : r_68 = (va_up (va_up (va_up (va_up (mH A S B) 1 (upd (A 1) (60 * i + tn (A 0 i)) (mWh A S B i n))) 2 (upd (A 2) (60 * i + tn (A 0 i)) 0)) 0 (upd (A 0) i (A 0 i + 1))) 2 (upd (upd (A 2) (60 * i + tn (A 0 i)) 0) (60 * i + tn (A 0 i)) (0 + (n + 4)))) 3 (i) := by rw [er_68, show ((nI i)).toNatClampNeg = i by rw [show nI i = nI i from rfl]; exact nI_clamp (by omega)]
                            refine lv_iconst (v := 1) G.1 G.2.1 dX2_append_256 (by decide) ?_
                            refine lv_iadd G.1 G.2.1 dX2_append_257 ?_
                            refine lv_topi (fun t_69 et_69 => ?_)
                            refine hb_iast G (show ia g (a 3) 4 ((va_up (va_up (va_up (va_up (mH A S B) 1 (upd (A 1) (60 * i + tn (A 0 i)) (mWh A S B i n))) 2 (upd (A 2) (60 * i + tn (A 0 i)) 0)) 0 (upd (A 0) i (A 0 i + 1))) 2 (upd (upd (A 2) (60 * i + tn (A 0 i)) 0) (60 * i + tn (A 0 i)) (0 + (n + 4)))) 3) _ from hn5.2.1 3 (by decide)) (by rw [show nI i = nI i from rfl]; exact vp_in_nI (by omega) (by decide)) hL (Or.inl (fM_a (by decide))) dX2_append_258 (fun N6 locs hg6 hz6 ho6 hL => ?_)
                            rw [show ((nI i)).toNatClampNeg = i by rw [show nI i = nI i from rfl]; exact nI_clamp (by omega)] at hg6
                            have hn6 := hn5.up (k := 3) (by decide) hg6 ⟨hz6, ho6⟩
                            have hn6 : mdAt g r S B C a (mAp A S B i n) 0 (wr + spW lf (mCn A S i n)) (spL lf (mCn A S i n)) (spN lf (mCn A S i n)) en pl N6 := by unfold mAp; rw [if_neg hfit]; rw [et_69, er_68] at hn6; exact hn6
                            have hm6 : Mo r a _ N6 := hm4.tr ((Mo.ar (k := 2) ⟨hz5, ho5⟩ (by decide)).tr (Mo.ar (k := 3) ⟨hz6, ho6⟩ (by decide)))
                            refine hb_aload_n G dX2_append_259 hl rfl ?_
                            refine hb_iload_n G dX2_append_260 hl rfl ?_
                            refine hb_iload_n G dX2_append_261 hl rfl ?_
                            refine hb_iload_n G dX2_append_262 hl rfl ?_
                            refine hb_iload G dX2_append_263 hl rfl ?_
                            refine hb_iload G dX2_append_265 hl rfl ?_
                            have hsz6 : N6.size = _ := hm6.1
                            refine hb_callV (As := [.int (nI i), .int n, .int b, .int r_52, .int 0]) (rest := []) G hml (m_add g l r S B C a (mAp A S B i n) 0 _ _ _ en pl _ hn6 hC0 hC1 hC2 hen hC3 (nI i) n b r_52 0) (hn6.1) rfl km_X2_100 ki_X2_add ks_X2_add kn_X2 ko_X2_add hd_X2_add ⟨Nat.le_of_ble_eq_true rfl, Nat.le_of_ble_eq_true rfl⟩ hl.size rfl (Nat.le_of_ble_eq_true rfl) dX2_append_267 ⟨Nat.le_of_ble_eq_true rfl, Nat.le_of_ble_eq_true rfl⟩ hL (fun q h9 => h9.elim Or.inl (fun h8 => Or.inr (by rw [← hsz6]; exact h8))) (fun v1 K9 locs9 hp hL => ?_)
                            obtain ⟨rfl, C2, a2, A2, hk9, hc9, had, hmg⟩ := hp
                            refine hb_aload_n G dX2_append_270 hl rfl ?_
                            refine hb_get G hk9.1 rfl inX2 5 (by decide) kf_X2_60 rfl rfl dX2_append_271 ?_
                            refine lv_if_eq (tgt := 282) G.1 G.2.1 dX2_append_274 (by decide) (fun c_70 => ?_) (fun c_70 => ?_)
                            · refine hb_iload G dX2_append_282 hl rfl ?_
                              exact hb_iret G hr hlocks (Or.inr ⟨i, hi, rfl, hok.2.1, hok.2.2, hdn, Or.inr (Or.inr ⟨hla, hwn, by rw [if_pos c_70], Or.inr ⟨by rw [← er_57]; exact c_58, C2, a2, A2, hk9, hc9, by rw [hwh, ← hfz]; exact had, (Mg.of hm6).tr hmg⟩⟩)⟩) hL (Nat.le_of_ble_eq_true rfl) (Nat.le_of_ble_eq_true rfl) dX2_append_284
                            · refine lv_bipush (v := (-3)) G.1 G.2.1 dX2_append_277 (by decide) ?_
                              refine lv_goto (tgt := 284) G.1 G.2.1 dX2_append_279 (by decide) ?_
                              exact hb_iret G hr hlocks (Or.inr ⟨i, hi, rfl, hok.2.1, hok.2.2, hdn, Or.inr (Or.inr ⟨hla, hwn, by rw [if_neg c_70], Or.inr ⟨by rw [← er_57]; exact c_58, C2, a2, A2, hk9, hc9, by rw [hwh, ← hfz]; exact had, (Mg.of hm6).tr hmg⟩⟩)⟩) hL (Nat.le_of_ble_eq_true rfl) (Nat.le_of_ble_eq_true rfl) dX2_append_284
                      · exact absurd rfl c_54
                    · have hwn : mWh A S B i n < 0 := by rw [hwh]; exact i32_nle.mp c_53
                      refine lv_bipush (v := (-2)) G.1 G.2.1 dX2_append_151 (by decide) ?_
                      exact hb_iret G hr hlocks (Or.inr ⟨i, hi, rfl, hok.2.1, hok.2.2, hdn, Or.inr (Or.inl ⟨hla, hwn, rfl, hk2, Mg.of hm2⟩)⟩) hL (Nat.le_of_ble_eq_true rfl) (Nat.le_of_ble_eq_true rfl) dX2_append_153
                  · have h60 : tn (A 0 i) = 60 := (nI_eq (by omega) (by decide)).mp (hr3.symm.trans c_51)
                    have hwh : mWh A S B i n = -1 := by unfold mWh; rw [if_neg hfit, if_pos h60]
                    refine lv_iconst (v := (-1)) G.1 G.2.1 dX2_append_136 (by decide) ?_
                    refine lv_goto (tgt := 144) G.1 G.2.1 dX2_append_137 (by decide) ?_
                    refine hb_istore G dX2_append_144 hl (by decide) (fun ls hl => ?_)
                    have hl : lh ls 10 [some (.ref r), some (.int (nI i)), some (.int n), some (.int b), some (.int (n + 4)), some (.int t_19), some (.int 0), some (.int (-1)), none, none] := hl
                    refine hb_iload G dX2_append_146 hl rfl ?_
                    refine lv_if_ge (tgt := 154) G.1 G.2.1 dX2_append_148 (by decide) (fun c_71 => ?_) (fun c_71 => ?_)
                    · exact absurd c_71 (by decide)
                    · refine lv_bipush (v := (-2)) G.1 G.2.1 dX2_append_151 (by decide) ?_
                      exact hb_iret G hr hlocks (Or.inr ⟨i, hi, rfl, hok.2.1, hok.2.2, hdn, Or.inr (Or.inl ⟨hla, by rw [hwh]; decide, rfl, hk2, Mg.of hm2⟩)⟩) hL (Nat.le_of_ble_eq_true rfl) (Nat.le_of_ble_eq_true rfl) dX2_append_153
                · exact absurd rfl c_49
              · have hfit : mFit A S i n := ⟨hpos, by rw [← er_45, ← et_46, ← et_47]; exact i32_nlt.mp c_48⟩
                refine lv_iconst (v := 1) G.1 G.2.1 dX2_append_99 (by decide) ?_
                refine lv_goto (tgt := 104) G.1 G.2.1 dX2_append_100 (by decide) ?_
                refine hb_istore G dX2_append_104 hl (by decide) (fun ls hl => ?_)
                have hl : lh ls 10 [some (.ref r), some (.int (nI i)), some (.int n), some (.int b), some (.int (n + 4)), some (.int t_19), some (.int 1), none, none, none] := hl
                refine hb_aload_n G dX2_append_106 hl rfl ?_
                refine hb_callV (As := []) (rest := []) G hml (m_mark g l r S B C a A 0 wr lf dn en pl _ hk hSB hA) (hk.1) rfl km_X2_86 ki_X2_mark ks_X2_mark kn_X2 ko_X2_mark hd_X2_mark ⟨Nat.le_of_ble_eq_true rfl, Nat.le_of_ble_eq_true rfl⟩ hl.size rfl (Nat.le_of_ble_eq_true rfl) dX2_append_107 ⟨Nat.le_of_ble_eq_true rfl, Nat.le_of_ble_eq_true rfl⟩ hL (hM4) (fun v1 K2 locs2 hp hL => ?_)
                obtain ⟨rfl, hk2, hF2⟩ := hp
                have hk2 : mdAt g r S B C a (mH A S B) 0 wr lf dn en pl K2 := hk2
                have hm2 : Mo r a _ K2 := (Mo.fd hF).tr (Mo.ar (k := 4) hF2 (by decide))
                refine hb_iload G dX2_append_110 hl rfl ?_
                refine lv_if_eq (tgt := 125) G.1 G.2.1 dX2_append_112 (by decide) (fun c_72 => ?_) (fun c_72 => ?_)
                · exact absurd c_72 (by decide)
                · refine hb_aload_n G dX2_append_115 hl rfl ?_
                  refine hb_get G hk2.1 rfl inX2 7 (by decide) kf_X2_17 rfl rfl dX2_append_116 ?_
                  refine hb_iload G dX2_append_119 hl rfl ?_
                  refine hb_iald G (show ia g (a 1) 240 ((mH A S B) 1) _ from hk2.2.1 1 (by decide)) (by rw [h5 hfit.1]; exact vp_in_nI (by omega) (by decide)) dX2_append_121 ?_
                  refine lv_topi (fun r_73 er_73 => ?_)
                  have er_73 : r_73 = (mH A S B) 1 (60 * i + (tn (A 0 i) - 1)) := by rw [er_73, show (t_19).toNatClampNeg = 60 * i + (tn (A 0 i) - 1) by rw [h5 hfit.1]; exact nI_clamp (by omega)]
                  have hwh : mWh A S B i n = r_73 := by unfold mWh; rw [if_pos hfit, er_73]; rfl
                  have hw0 : ¬ r_73 < 0 := by rw [er_73]; show ¬ A 1 (60 * i + (tn (A 0 i) - 1)) < 0; rw [(hs2 (tn (A 0 i) - 1) (by have := hfit.1; omega)).1]; exact nI_pos (by have := (hs2 (tn (A 0 i) - 1) (by have := hfit.1; omega)).2; omega)
                  refine lv_goto (tgt := 144) G.1 G.2.1 dX2_append_122 (by decide) ?_
                  refine hb_istore G dX2_append_144 hl (by decide) (fun ls hl => ?_)
                  have hl : lh ls 10 [some (.ref r), some (.int (nI i)), some (.int n), some (.int b), some (.int (n + 4)), some (.int t_19), some (.int 1), some (.int r_73), none, none] := hl
                  refine hb_iload G dX2_append_146 hl rfl ?_
                  refine lv_if_ge (tgt := 154) G.1 G.2.1 dX2_append_148 (by decide) (fun c_74 => ?_) (fun c_74 => ?_)
                  · have hwn : ¬ mWh A S B i n < 0 := by rw [hwh]; exact i32_nlt.mpr c_74
                    refine hb_iload G dX2_append_154 hl rfl ?_
                    refine lv_if_eq (tgt := 169) G.1 G.2.1 dX2_append_156 (by decide) (fun c_75 => ?_) (fun c_75 => ?_)
                    · exact absurd c_75 (by decide)
                    · refine hb_aload_n G dX2_append_159 hl rfl ?_
                      refine hb_get G hk2.1 rfl inX2 8 (by decide) kf_X2_20 rfl rfl dX2_append_160 ?_
                      refine hb_iload G dX2_append_163 hl rfl ?_
                      refine hb_iald G (show ia g (a 2) 240 ((mH A S B) 2) _ from hk2.2.1 2 (by decide)) (by rw [h5 hfit.1]; exact vp_in_nI (by omega) (by decide)) dX2_append_165 ?_
                      refine lv_topi (fun r_76 er_76 => ?_)
                      have er_76 : r_76 = (mH A S B) 2 (60 * i + (tn (A 0 i) - 1)) := by rw [er_76, show (t_19).toNatClampNeg = 60 * i + (tn (A 0 i) - 1) by rw [h5 hfit.1]; exact nI_clamp (by omega)]
                      obtain rfl : r_76 = mFrm A S i n := by rw [er_76]; unfold mFrm; rw [if_pos hfit]; rfl
                      refine lv_goto (tgt := 170) G.1 G.2.1 dX2_append_166 (by decide) ?_
                      refine hb_istore G dX2_append_170 hl (by decide) (fun ls hl => ?_)
                      have hl : lh ls 10 [some (.ref r), some (.int (nI i)), some (.int n), some (.int b), some (.int (n + 4)), some (.int t_19), some (.int 1), some (.int r_73), some (.int (mFrm A S i n)), none] := hl
                      refine hb_iload G dX2_append_172 hl rfl ?_
                      refine hb_iload G dX2_append_174 hl rfl ?_
                      refine hb_callS (As := [.int (mFrm A S i n), .int (n + 4)]) (rest := []) G hml (m_touched g l (mFrm A S i n) (n + 4) _) km_X2_93 kt_X2_touched kn_X2 ko_X2_touched hd_X2_touched ⟨Nat.le_of_ble_eq_true rfl, Nat.le_of_ble_eq_true rfl⟩ hl.size rfl (Nat.le_of_ble_eq_true rfl) dX2_append_176 ⟨Nat.le_of_ble_eq_true rfl, Nat.le_of_ble_eq_true rfl⟩ hL (f0_in) (fun v1 K2 locs2 hp hL => ?_)
                      obtain ⟨rfl, rfl⟩ := hp
                      refine lv_topi (fun r_77 er_77 => ?_)
                      refine lv_iconst (v := 1) G.1 G.2.1 dX2_append_179 (by decide) ?_
                      refine lv_iadd G.1 G.2.1 dX2_append_180 ?_
                      refine lv_topi (fun t_78 et_78 => ?_)
                      obtain rfl : t_78 = mCn A S i n := by rw [et_78, er_77]; unfold mCn; rfl
                      refine hb_istore G dX2_append_181 hl (by decide) (fun ls hl => ?_)
                      have hl : lh ls 10 [some (.ref r), some (.int (nI i)), some (.int n), some (.int b), some (.int (n + 4)), some (.int t_19), some (.int 1), some (.int r_73), some (.int (mFrm A S i n)), some (.int (mCn A S i n))] := hl
                      refine hb_aload_n G dX2_append_183 hl rfl ?_
                      refine hb_iload G dX2_append_184 hl rfl ?_
                      refine hb_callV (As := [.int (mCn A S i n)]) (rest := []) G hml (m_spend g l r S B C a (mH A S B) 0 wr lf dn en pl _ hk2 (mCn A S i n)) (hk2.1) rfl km_X2_97 ki_X2_spend ks_X2_spend kn_X2 ko_X2_spend hd_X2_spend ⟨Nat.le_of_ble_eq_true rfl, Nat.le_of_ble_eq_true rfl⟩ hl.size rfl (Nat.le_of_ble_eq_true rfl) dX2_append_186 ⟨Nat.le_of_ble_eq_true rfl, Nat.le_of_ble_eq_true rfl⟩ hL (hMr) (fun v1 K3 locs3 hp hL => ?_)
                      obtain ⟨rfl, hk3, hF3⟩ := hp
                      have hm3 : Mo r a _ K3 := hm2.tr (Mo.fd hF3)
                      refine lv_topi (fun r_79 er_79 => ?_)
                      refine lv_if_eq (tgt := 270) G.1 G.2.1 dX2_append_189 (by decide) (fun c_80 => ?_) (fun c_80 => ?_)
                      · refine hb_aload_n G dX2_append_270 hl rfl ?_
                        refine hb_get G hk3.1 rfl inX2 5 (by decide) kf_X2_60 rfl rfl dX2_append_271 ?_
                        refine lv_if_eq (tgt := 282) G.1 G.2.1 dX2_append_274 (by decide) (fun c_81 => ?_) (fun c_81 => ?_)
                        · refine hb_iload G dX2_append_282 hl rfl ?_
                          exact hb_iret G hr hlocks (Or.inr ⟨i, hi, rfl, hok.2.1, hok.2.2, hdn, Or.inr (Or.inr ⟨hla, hwn, by rw [if_pos c_81], Or.inl ⟨by rw [← er_79]; exact c_80, hk3, Mg.of hm3⟩⟩)⟩) hL (Nat.le_of_ble_eq_true rfl) (Nat.le_of_ble_eq_true rfl) dX2_append_284
                        · refine lv_bipush (v := (-3)) G.1 G.2.1 dX2_append_277 (by decide) ?_
                          refine lv_goto (tgt := 284) G.1 G.2.1 dX2_append_279 (by decide) ?_
                          exact hb_iret G hr hlocks (Or.inr ⟨i, hi, rfl, hok.2.1, hok.2.2, hdn, Or.inr (Or.inr ⟨hla, hwn, by rw [if_neg c_81], Or.inl ⟨by rw [← er_79]; exact c_80, hk3, Mg.of hm3⟩⟩)⟩) hL (Nat.le_of_ble_eq_true rfl) (Nat.le_of_ble_eq_true rfl) dX2_append_284
                      · refine hb_iload G dX2_append_192 hl rfl ?_
                        refine lv_if_ne (tgt := 237) G.1 G.2.1 dX2_append_194 (by decide) (fun c_82 => ?_) (fun c_82 => ?_)
                        · have hft := hfit.1
                          refine hb_aload_n G dX2_append_237 hl rfl ?_
                          refine hb_get G hk3.1 rfl inX2 8 (by decide) kf_X2_20 rfl rfl dX2_append_238 ?_
                          refine hb_iload G dX2_append_241 hl rfl ?_
                          refine lv_dup2_11 G.1 G.2.1 dX2_append_243 rfl rfl ?_
                          refine hb_iald G (show ia g (a 2) 240 ((mH A S B) 2) _ from hk3.2.1 2 (by decide)) (by rw [h5 hfit.1]; exact vp_in_nI (by omega) (by decide)) dX2_append_244 ?_
                          refine lv_topi (fun r_83 er_83 => ?_)
                          have er_83 : r_83 = (mH A S B) 2 (60 * i + (tn (A 0 i) - 1)) := by rw [er_83, show (t_19).toNatClampNeg = 60 * i + (tn (A 0 i) - 1) by rw [h5 hfit.1]; exact nI_clamp (by omega)]
                          refine hb_iload G dX2_append_245 hl rfl ?_
                          refine lv_iadd G.1 G.2.1 dX2_append_247 ?_
                          refine lv_topi (fun t_84 et_84 => ?_)
                          have hv6 : t_84 = (A 2 (60 * i + (tn (A 0 i) - 1)) + (n + 4)) := by rw [et_84, er_83]; rfl
                          refine hb_iast G (show ia g (a 2) 240 ((mH A S B) 2) _ from hk3.2.1 2 (by decide)) (by rw [h5 hfit.1]; exact vp_in_nI (by omega) (by decide)) hL (Or.inl (fM_a (by decide))) dX2_append_248 (fun N5 locs hg5 hz5 ho5 hL => ?_)
                          rw [show (t_19).toNatClampNeg = 60 * i + (tn (A 0 i) - 1) by rw [h5 hfit.1]; exact nI_clamp (by omega), hv6] at hg5
                          have hn5 := hk3.up (k := 2) (by decide) hg5 ⟨hz5, ho5⟩
                          have hn5 : mdAt g r S B C a (va_up (mH A S B) 2 (upd (A 2) (60 * i + (tn (A 0 i) - 1)) (A 2 (60 * i + (tn (A 0 i) - 1)) + (n + 4)))) 0 (wr + spW lf (mCn A S i n)) (spL lf (mCn A S i n)) (spN lf (mCn A S i n)) en pl N5 := hn5
                          refine hb_aload_n G dX2_append_249 hl rfl ?_
                          refine hb_get G hn5.1 rfl inX2 9 (by decide) kf_X2_23 rfl rfl dX2_append_250 ?_
                          refine hb_iload_n G dX2_append_253 hl rfl ?_
                          refine lv_dup2_11 G.1 G.2.1 dX2_append_254 rfl rfl ?_
                          refine hb_iald G (show ia g (a 3) 4 ((va_up (mH A S B) 2 (upd (A 2) (60 * i + (tn (A 0 i) - 1)) (A 2 (60 * i + (tn (A 0 i) - 1)) + (n + 4)))) 3) _ from hn5.2.1 3 (by decide)) (by rw [show nI i = nI i from rfl]; exact vp_in_nI (by omega) (by decide)) dX2_append_255 ?_
                          refine lv_topi (fun r_85 er_85 => ?_)
                          have er_85 : r_85 = (va_up (mH A S B) 2 (upd (A 2) (60 * i + (tn (A 0 i) - 1)) (A 2 (60 * i + (tn (A 0 i) - 1)) + (n + 4)))) 3 (i) := by rw [er_85, show ((nI i)).toNatClampNeg = i by rw [show nI i = nI i from rfl]; exact nI_clamp (by omega)]
                          refine lv_iconst (v := 1) G.1 G.2.1 dX2_append_256 (by decide) ?_
                          refine lv_iadd G.1 G.2.1 dX2_append_257 ?_
                          refine lv_topi (fun t_86 et_86 => ?_)
                          refine hb_iast G (show ia g (a 3) 4 ((va_up (mH A S B) 2 (upd (A 2) (60 * i + (tn (A 0 i) - 1)) (A 2 (60 * i + (tn (A 0 i) - 1)) + (n + 4)))) 3) _ from hn5.2.1 3 (by decide)) (by rw [show nI i = nI i from rfl]; exact vp_in_nI (by omega) (by decide)) hL (Or.inl (fM_a (by decide))) dX2_append_258 (fun N6 locs hg6 hz6 ho6 hL => ?_)
                          rw [show ((nI i)).toNatClampNeg = i by rw [show nI i = nI i from rfl]; exact nI_clamp (by omega)] at hg6
                          have hn6 := hn5.up (k := 3) (by decide) hg6 ⟨hz6, ho6⟩
                          have hn6 : mdAt g r S B C a (mAp A S B i n) 0 (wr + spW lf (mCn A S i n)) (spL lf (mCn A S i n)) (spN lf (mCn A S i n)) en pl N6 := by unfold mAp; rw [if_pos hfit]; rw [et_86, er_85] at hn6; exact hn6
                          have hm6 : Mo r a _ N6 := hm3.tr ((Mo.ar (k := 2) ⟨hz5, ho5⟩ (by decide)).tr (Mo.ar (k := 3) ⟨hz6, ho6⟩ (by decide)))
                          refine hb_aload_n G dX2_append_259 hl rfl ?_
                          refine hb_iload_n G dX2_append_260 hl rfl ?_
                          refine hb_iload_n G dX2_append_261 hl rfl ?_
                          refine hb_iload_n G dX2_append_262 hl rfl ?_
                          refine hb_iload G dX2_append_263 hl rfl ?_
                          refine hb_iload G dX2_append_265 hl rfl ?_
                          have hsz6 : N6.size = _ := hm6.1
                          refine hb_callV (As := [.int (nI i), .int n, .int b, .int r_73, .int (mFrm A S i n)]) (rest := []) G hml (m_add g l r S B C a (mAp A S B i n) 0 _ _ _ en pl _ hn6 hC0 hC1 hC2 hen hC3 (nI i) n b r_73 (mFrm A S i n)) (hn6.1) rfl km_X2_100 ki_X2_add ks_X2_add kn_X2 ko_X2_add hd_X2_add ⟨Nat.le_of_ble_eq_true rfl, Nat.le_of_ble_eq_true rfl⟩ hl.size rfl (Nat.le_of_ble_eq_true rfl) dX2_append_267 ⟨Nat.le_of_ble_eq_true rfl, Nat.le_of_ble_eq_true rfl⟩ hL (fun q h9 => h9.elim Or.inl (fun h8 => Or.inr (by rw [← hsz6]; exact h8))) (fun v1 K9 locs9 hp hL => ?_)
                          obtain ⟨rfl, C2, a2, A2, hk9, hc9, had, hmg⟩ := hp
                          refine hb_aload_n G dX2_append_270 hl rfl ?_
                          refine hb_get G hk9.1 rfl inX2 5 (by decide) kf_X2_60 rfl rfl dX2_append_271 ?_
                          refine lv_if_eq (tgt := 282) G.1 G.2.1 dX2_append_274 (by decide) (fun c_87 => ?_) (fun c_87 => ?_)
                          · refine hb_iload G dX2_append_282 hl rfl ?_
                            exact hb_iret G hr hlocks (Or.inr ⟨i, hi, rfl, hok.2.1, hok.2.2, hdn, Or.inr (Or.inr ⟨hla, hwn, by rw [if_pos c_87], Or.inr ⟨by rw [← er_79]; exact c_80, C2, a2, A2, hk9, hc9, by rw [hwh]; exact had, (Mg.of hm6).tr hmg⟩⟩)⟩) hL (Nat.le_of_ble_eq_true rfl) (Nat.le_of_ble_eq_true rfl) dX2_append_284
                          · refine lv_bipush (v := (-3)) G.1 G.2.1 dX2_append_277 (by decide) ?_
                            refine lv_goto (tgt := 284) G.1 G.2.1 dX2_append_279 (by decide) ?_
                            exact hb_iret G hr hlocks (Or.inr ⟨i, hi, rfl, hok.2.1, hok.2.2, hdn, Or.inr (Or.inr ⟨hla, hwn, by rw [if_neg c_87], Or.inr ⟨by rw [← er_79]; exact c_80, C2, a2, A2, hk9, hc9, by rw [hwh]; exact had, (Mg.of hm6).tr hmg⟩⟩)⟩) hL (Nat.le_of_ble_eq_true rfl) (Nat.le_of_ble_eq_true rfl) dX2_append_284
                        · exact absurd c_82 (by decide)
                  · exact absurd (i32_nle.mp c_74) hw0
          · refine lv_bipush (v := (-5)) G.1 G.2.1 dX2_append_51 (by decide) ?_
            exact hb_iret G hr hlocks (Or.inr ⟨i, hi, rfl, hok.2.1, hok.2.2, hdn, Or.inl ⟨i32_nle.mp c_15, rfl, hk, Mg.of (Mo.fd hF)⟩⟩) hL (Nat.le_of_ble_eq_true rfl) (Nat.le_of_ble_eq_true rfl) dX2_append_53
        · have hg2 := (it0 er_11).mp c_12
          refine lv_iconst (v := 0) G.1 G.2.1 dX2_append_31 (by decide) ?_
          exact hb_iret G hr hlocks (Or.inl ⟨by rw [if_pos hok]; exact hg2, rfl, by rw [if_pos hok]; exact hk, Mg.of (Mo.fd hF)⟩) hL (Nat.le_of_ble_eq_true rfl) (Nat.le_of_ble_eq_true rfl) dX2_append_32
