/-- the plan's state: whether it goes on, the blocks held, the plan's segments' blocks and bytes, how many -/
abbrev PS : Type := Int32 × (Nat → Int32) × (Nat → Int32) × (Nat → Int32) × Nat
def pStep (S B : Nat) (tk : Int32) (s : PS) : PS :=
  if s.2.2.2.2 = 0 ∨ ¬ s.2.2.2.1 (s.2.2.2.2 - 1) + tk ≤ 1024 * nI S then
    (if mPl s.2.1 S (B + 1 - S - 4) 4 < 0 then (0, s.2)
     else (1, mHold s.2.1 (tn (mPl s.2.1 S (B + 1 - S - 4) 4)) S, upd s.2.2.1 s.2.2.2.2 (mPl s.2.1 S (B + 1 - S - 4) 4), upd (upd s.2.2.2.1 s.2.2.2.2 0) s.2.2.2.2 (0 + tk), s.2.2.2.2 + 1))
  else (1, s.2.1, s.2.2.1, upd s.2.2.2.1 (s.2.2.2.2 - 1) (s.2.2.2.1 (s.2.2.2.2 - 1) + tk), s.2.2.2.2)
def pRun (S B : Nat) (k : Int32) (sz : Nat → Int32) (s0 : PS) : Nat → PS
  | 0 => s0
  | j + 1 => if (pRun S B k sz s0 j).1 = 0 then pRun S B k sz s0 j else if nI j - nI j / k * k = 0 then pRun S B k sz s0 j else pStep S B (sz j + 4) (pRun S B k sz s0 j)
theorem pRun_stop {S B : Nat} {k : Int32} {sz : Nat → Int32} {s0 : PS} {j : Nat} (h : (pRun S B k sz s0 j).1 = 0) : ∀ d, pRun S B k sz s0 (j + d) = pRun S B k sz s0 j
  | 0 => rfl
  | d + 1 => by
    show pRun S B k sz s0 (j + d + 1) = _
    simp only [pRun]
    rw [pRun_stop h d, if_pos h]
theorem mPl_in (he : Nat → Int32) (S : Nat) : ∀ d b, mPl he S d b = -1 ∨ ∃ x, mPl he S d b = nI x ∧ b ≤ x ∧ x < b + d ∧ mFrB he x S = true
  | 0, _ => Or.inl rfl
  | d + 1, b => by
    simp only [mPl]
    split
    · rename_i h
      exact Or.inr ⟨b, rfl, Nat.le_refl _, by omega, h⟩
    · rcases mPl_in he S d (b + 1) with h | ⟨x, h1, h2, h3, h4⟩
      · exact Or.inl h
      · exact Or.inr ⟨x, h1, by omega, by omega, h4⟩
def mPA (A : Nat → Nat → Int32) (s : PS) : Nat → Nat → Int32 := va_up (va_up (va_up A 4 s.2.1) 10 s.2.2.1) 11 s.2.2.2.1
theorem mPA_4 {A : Nat → Nat → Int32} {s : PS} {f : Nat → Int32} : va_up (mPA A s) 4 f = mPA A (s.1, f, s.2.2) := by
  funext q
  by_cases q1 : q = 4
  · subst q1; rfl
  · unfold mPA; simp only [va_up, q1, if_false]
theorem mPA_10 {A : Nat → Nat → Int32} {s : PS} {f : Nat → Int32} : va_up (mPA A s) 10 f = mPA A (s.1, s.2.1, f, s.2.2.2) := by
  funext q
  by_cases q1 : q = 10
  · subst q1; rfl
  · unfold mPA; simp only [va_up, q1, if_false]
theorem mPA_11 {A : Nat → Nat → Int32} {s : PS} {f : Nat → Int32} : va_up (mPA A s) 11 f = mPA A (s.1, s.2.1, s.2.2.1, f, s.2.2.2.2) := by
  funext q
  by_cases q1 : q = 11
  · subst q1; rfl
  · unfold mPA; simp only [va_up, q1, if_false]
theorem mIn_eq {A A2 : Nat → Nat → Int32} (h5 : A2 5 = A 5) (h8 : A2 8 = A 8) (x y : Int32) : ∀ e, mIn A2 x y e = mIn A x y e
  | 0 => rfl
  | e + 1 => by simp only [mIn]; rw [mIn_eq h5 h8 x y e, h5, h8]
theorem mCl_eq {A A2 : Nat → Nat → Int32} (h0 : A2 0 = A 0) (h1 : A2 1 = A 1) (h5 : A2 5 = A 5) (h8 : A2 8 = A 8) (i en : Nat) : mCl A2 i en = mCl A i en := by
  unfold mCl; rw [mIn_eq h5 h8, h0, h1, h5]
def pIni (A : Nat → Nat → Int32) (S B : Nat) : PS := (1, mMkA A S B 4, A 10, A 11, 0)
theorem mPA_ini {A : Nat → Nat → Int32} {S B : Nat} : va_up A 4 (mMkA A S B 4) = mPA A (pIni A S B) := by
  funext q
  unfold mPA pIni
  by_cases q4 : q = 4
  · subst q4; rfl
  · by_cases q1 : q = 10
    · subst q1; rfl
    · by_cases q2 : q = 11
      · subst q2; rfl
      · simp only [va_up, q1, q2, q4, if_false]
set_option maxHeartbeats 4000000 in
set_option maxRecDepth 100000 in
/-- plan -/
theorem m_plan (g : Gx) (l : Launch) (r S B C : Nat) (a : Nat → Nat) (A : Nat → Nat → Int32) (cd wr lf dn : Int32) (en pl : Nat) (H : Heap) (h : mdAt g r S B C a A cd wr lf dn en pl H) (hB : mdB S B C en) (hA : sgOk S A) (i : Nat) (hi : i < 4) (k : Int32) (hk1 : ¬ k = 0) (al : Nat) (sz : Nat → Int32) (hal : mCl A i en = nI al) (hal2 : al ≤ mCnt (A 5) (nI i) en) (hsz : ∀ e, e < en → A 5 e = nI i → A 6 e = sz (mCnt (A 5) (nI i) e)) (hpl : ∀ j, j ≤ al → (pRun S B k sz (pIni A S B) j).2.2.2.2 ≤ 59) : HM g l yX2_plan cX2_plan 7 (some .boolean) 2 45 0 0 [.ref r, .int (nI i), .int k] H (fun v H1 => v = some (.int (if (pRun S B k sz (pIni A S B) al).1 = 0 then 0 else 1)) ∧ mdAt g r S B C a (mPA A (pRun S B k sz (pIni A S B) al)) cd wr lf dn en (pRun S B k sz (pIni A S B) al).2.2.2.2 H1 ∧ Mo r a H H1) (fM r a) := by
  refine HM.ofW (by decide) (Nat.le_of_ble_eq_true rfl) (by simp [Value.category]) ?_
  intro p e s m args below meth c ls G hr hml hlocks hnm hH hl
  have hl : lh ls 7 [some (.ref r), some (.int (nI i)), some (.int k), none, none, none, none] := hl
  have hL : ∀ q ∈ ([] : List Loc), (fM r a) q.base := fun q h => by cases h
  have hM4 : ∀ q, f1 (a 4) q → fM r a q := fun q h9 => Or.inr ⟨4, by decide, h9⟩
  have hmle := mCnt_le (A 5) (nI i) en
  obtain ⟨hSB, hC1, hC2⟩ := hB
  have hB : mdB S B C en := ⟨hSB, hC1, hC2⟩
  obtain ⟨hS1, hS2, hB1, hB2⟩ := hSB
  have hSB : dkB S B := ⟨hS1, hS2, hB1, hB2⟩
  have lp : ∀ (k9 j : Nat) (ib : Int32) (s9 : PS) (K : Heap) (locs : List Loc) (ls : Array Slot), (al + 1 ≤ j + k9) → (j ≤ al) → (ib = nI j) → (pRun S B k sz (pIni A S B) j = s9) → (s9.1 = 1) → (mdAt g r S B C a (mPA A s9) cd wr lf dn en s9.2.2.2.2 K) → (Mo r a H K) → (∀ q ∈ locs, (fM r a) q.base) → lh ls 7 [some (.ref r), some (.int (nI i)), some (.int k), some (.int (nI al)), some (.int ib), none, none] → W p l e ({ frames := 2, cells := 0, slots := 0, locals := 45 } : Room) s m args below meth c K locs 0 0 (hQ below args s (fun v H1 => v = some (.int (if (pRun S B k sz (pIni A S B) al).1 = 0 then 0 else 1)) ∧ mdAt g r S B C a (mPA A (pRun S B k sz (pIni A S B) al)) cd wr lf dn en (pRun S B k sz (pIni A S B) al).2.2.2.2 H1 ∧ Mo r a H H1) 0 0 (fM r a)) (F0 m 18 ls []) := by
    intro k9
    induction k9 with
    | zero =>
      intro j ib s9 K locs ls hd9 hj eib hst hs1 hK hmK hL hl
      exfalso; omega
    | succ k9 ih =>
      intro j ib s9 K locs ls hd9 hj eib hst hs1 hK hmK hL hl
      have hp59 : s9.2.2.2.2 ≤ 59 := by have := hpl j hj; rw [hst] at this; exact this
      refine hb_iload G dX2_plan_18 hl rfl ?_
      refine hb_iload_n G dX2_plan_20 hl rfl ?_
      refine lv_icmp_ge (tgt := 151) G.1 G.2.1 dX2_plan_21 (by decide) (fun c_1 => ?_) (fun c_1 => ?_)
      · have hj2 : j = al := by have := (ic_le rfl eib (by omega) (by omega)).mp c_1; omega
        subst hj2
        refine lv_iconst (v := 1) G.1 G.2.1 dX2_plan_151 (by decide) ?_
        exact hb_zret G hr hlocks (by decide) ⟨by rw [hst, hs1]; rfl, by rw [hst]; exact hK, hmK⟩ hL (Nat.le_of_ble_eq_true rfl) (Nat.le_of_ble_eq_true rfl) dX2_plan_152
      · have hj2 : j < al := by have := mt (ic_le rfl eib (by omega) (by omega)).mpr c_1; omega
        subst eib
        refine hb_aload_n G dX2_plan_24 hl rfl ?_
        refine hb_get G hK.1 rfl inX2 13 (by decide) kf_X2_33 rfl rfl dX2_plan_25 ?_
        refine hb_aload_n G dX2_plan_28 hl rfl ?_
        refine hb_iload_n G dX2_plan_29 hl rfl ?_
        refine hb_iload G dX2_plan_30 hl rfl ?_
        refine hb_callV (As := [.int (nI i), .int (nI j)]) (rest := [.ref (a 6)]) G hml (m_entryOf g l r S B C a (mPA A s9) cd wr lf dn en s9.2.2.2.2 _ hK hB (nI i) j (show j < mCnt (A 5) (nI i) en by omega)) (hK.1) rfl km_X2_124 ki_X2_entryOf ks_X2_entryOf kn_X2 ko_X2_entryOf hd_X2_entryOf ⟨Nat.le_of_ble_eq_true rfl, Nat.le_of_ble_eq_true rfl⟩ hl.size rfl (Nat.le_of_ble_eq_true rfl) dX2_plan_32 ⟨Nat.le_of_ble_eq_true rfl, Nat.le_of_ble_eq_true rfl⟩ hL (f0_in) (fun v1 K locs hp hL => ?_)
        obtain ⟨⟨e5, he5, he6, he7, rfl⟩, rfl⟩ := hp
        have he6 : A 5 e5 = nI i := he6
        have he7 : mCnt (A 5) (nI i) e5 = j := he7
        refine hb_iald G (show ia g (a 6) C ((mPA A s9) 6) _ from hK.2.1 6 (by decide)) (by rw [show nI e5 = nI e5 from rfl]; exact vp_in_nI (by omega) (by omega)) dX2_plan_35 ?_
        refine lv_topi (fun r_2 er_2 => ?_)
        have er_2 : r_2 = (mPA A s9) 6 (e5) := by rw [er_2, show ((nI e5)).toNatClampNeg = e5 by rw [show nI e5 = nI e5 from rfl]; exact nI_clamp (by omega)]
        have er_2 : r_2 = sz j := by rw [er_2]; exact (hsz e5 he5 he6).trans (by rw [he7])
        refine lv_iconst (v := 4) G.1 G.2.1 dX2_plan_36 (by decide) ?_
        refine lv_iadd G.1 G.2.1 dX2_plan_37 ?_
        refine lv_topi (fun t_3 et_3 => ?_)
        refine hb_istore G dX2_plan_38 hl (by decide) (fun ls hl => ?_)
        have hl : lh ls 7 [some (.ref r), some (.int (nI i)), some (.int k), some (.int (nI al)), some (.int (nI j)), some (.int t_3), none] := hl
        obtain rfl : t_3 = sz j + 4 := by rw [et_3, er_2]
        have hl : lh ls 7 [some (.ref r), some (.int (nI i)), some (.int k), some (.int (nI al)), some (.int (nI j)), some (.int (sz j + 4)), none] := hl
        have hnx : pRun S B k sz (pIni A S B) (j + 1) = if nI j - nI j / k * k = 0 then s9 else pStep S B (sz j + 4) s9 := by simp only [pRun]; rw [hst, hs1, if_neg (by decide)]
        refine hb_iload G dX2_plan_40 hl rfl ?_
        refine hb_iload_n G dX2_plan_42 hl rfl ?_
        refine lv_irem G.1 G.2.1 dX2_plan_43 (hk1) ?_
        refine lv_topi (fun t_4 et_4 => ?_)
        refine lv_if_eq (tgt := 145) G.1 G.2.1 dX2_plan_44 (by decide) (fun c_5 => ?_) (fun c_5 => ?_)
        · obtain ⟨t_6, et_6⟩ : ∃ z : Int32, z = (nI j) + 1 := ⟨_, rfl⟩
          refine hb_iinc (v := t_6) G dX2_plan_145 hl rfl (by rw [et_6]; rfl) (by decide) (fun ls hl => ?_)
          have hl : lh ls 7 [some (.ref r), some (.int (nI i)), some (.int k), some (.int (nI al)), some (.int t_6), some (.int (sz j + 4)), none] := hl
          refine lv_goto (tgt := 18) G.1 G.2.1 dX2_plan_148 (by decide) ?_
          exact ih (j + 1) t_6 s9 K _ ls (by omega) (by omega) (by rw [et_6]; exact nI_1 j) (by rw [hnx, if_pos (by rw [← et_4]; exact c_5)]) (hs1) hK hmK hL (hl.drop 5)
        · rw [if_neg (by rw [← et_4]; exact c_5)] at hnx
          refine hb_aload_n G dX2_plan_47 hl rfl ?_
          refine hb_get G hK.1 rfl inX2 17 (by decide) kf_X2_118 rfl rfl dX2_plan_48 ?_
          refine lv_if_eq (tgt := 79) G.1 G.2.1 dX2_plan_51 (by decide) (fun c_7 => ?_) (fun c_7 => ?_)
          · have hop : s9.2.2.2.2 = 0 ∨ ¬ s9.2.2.2.1 (s9.2.2.2.2 - 1) + (sz j + 4) ≤ 1024 * nI S := Or.inl ((nI_eq (by omega) (by decide)).mp c_7)
            refine hb_aload_n G dX2_plan_79 hl rfl ?_
            refine hb_callV (As := []) (rest := []) G hml (m_place g l r S B C a (mPA A s9) cd wr lf dn en s9.2.2.2.2 _ hK hSB) (hK.1) rfl km_X2_89 ki_X2_place ks_X2_place kn_X2 ko_X2_place hd_X2_place ⟨Nat.le_of_ble_eq_true rfl, Nat.le_of_ble_eq_true rfl⟩ hl.size rfl (Nat.le_of_ble_eq_true rfl) dX2_plan_80 ⟨Nat.le_of_ble_eq_true rfl, Nat.le_of_ble_eq_true rfl⟩ hL (f0_in) (fun v1 K locs hp hL => ?_)
            obtain ⟨rfl, rfl⟩ := hp
            refine lv_topi (fun r_8 er_8 => ?_)
            have er_8 : r_8 = mPl s9.2.1 S (B + 1 - S - 4) 4 := er_8
            refine hb_istore G dX2_plan_83 hl (by decide) (fun ls hl => ?_)
            have hl : lh ls 7 [some (.ref r), some (.int (nI i)), some (.int k), some (.int (nI al)), some (.int (nI j)), some (.int (sz j + 4)), some (.int r_8)] := hl
            refine hb_iload G dX2_plan_85 hl rfl ?_
            refine lv_if_ge (tgt := 92) G.1 G.2.1 dX2_plan_87 (by decide) (fun c_9 => ?_) (fun c_9 => ?_)
            · have hge : ¬ mPl s9.2.1 S (B + 1 - S - 4) 4 < 0 := by rw [← er_8]; exact i32_nlt.mpr c_9
              have hstp : pStep S B (sz j + 4) s9 = (1, mHold s9.2.1 (tn (mPl s9.2.1 S (B + 1 - S - 4) 4)) S, upd s9.2.2.1 s9.2.2.2.2 (mPl s9.2.1 S (B + 1 - S - 4) 4), upd (upd s9.2.2.2.1 s9.2.2.2.2 0) s9.2.2.2.2 (0 + (sz j + 4)), s9.2.2.2.2 + 1) := by unfold pStep; rw [if_pos hop, if_neg hge]
              obtain ⟨x9, hx1, hx2, hx3, _⟩ := (mPl_in s9.2.1 S (B + 1 - S - 4) 4).resolve_left (fun q => hge (by rw [q]; decide))
              have hp58 : s9.2.2.2.2 + 1 ≤ 59 := by have := hpl (j + 1) (by omega); rw [hnx, hstp] at this; exact this
              obtain rfl : r_8 = nI x9 := er_8.trans hx1
              rw [hx1, tn_nI (by omega)] at hstp
              have hl : lh ls 7 [some (.ref r), some (.int (nI i)), some (.int k), some (.int (nI al)), some (.int (nI j)), some (.int (sz j + 4)), some (.int (nI x9))] := hl
              refine hb_aload_n G dX2_plan_92 hl rfl ?_
              refine hb_iload G dX2_plan_93 hl rfl ?_
              refine hb_callV (As := [.int (nI x9)]) (rest := []) G hml (m_hold g l r S B C a (mPA A s9) cd wr lf dn en s9.2.2.2.2 _ hK hS2 x9 (by omega)) (hK.1) rfl km_X2_64 ki_X2_hold ks_X2_hold kn_X2 ko_X2_hold hd_X2_hold ⟨Nat.le_of_ble_eq_true rfl, Nat.le_of_ble_eq_true rfl⟩ hl.size rfl (Nat.le_of_ble_eq_true rfl) dX2_plan_95 ⟨Nat.le_of_ble_eq_true rfl, Nat.le_of_ble_eq_true rfl⟩ hL (hM4) (fun v1 K2 locs hp hL => ?_)
              obtain ⟨rfl, hk2, hF2⟩ := hp
              rw [mPA_4] at hk2
              have hm2 : Mo r a H K2 := hmK.tr (Mo.ar (k := 4) hF2 (by decide))
              refine hb_aload_n G dX2_plan_98 hl rfl ?_
              refine hb_get G hk2.1 rfl inX2 18 (by decide) kf_X2_45 rfl rfl dX2_plan_99 ?_
              refine hb_aload_n G dX2_plan_102 hl rfl ?_
              refine hb_get G hk2.1 rfl inX2 17 (by decide) kf_X2_118 rfl rfl dX2_plan_103 ?_
              refine hb_iload G dX2_plan_106 hl rfl ?_
              refine hb_iast G (show ia g (a 10) 60 ((mPA A ((s9.1, mHold s9.2.1 x9 S, s9.2.2) : PS)) 10) _ from hk2.2.1 10 (by decide)) (by rw [show nI s9.2.2.2.2 = nI s9.2.2.2.2 from rfl]; exact vp_in_nI (by omega) (by decide)) hL (fM_a (by decide)) dX2_plan_108 (fun N3 locs hg3 hz3 ho3 hL => ?_)
              rw [show ((nI s9.2.2.2.2)).toNatClampNeg = s9.2.2.2.2 by rw [show nI s9.2.2.2.2 = nI s9.2.2.2.2 from rfl]; exact nI_clamp (by omega)] at hg3
              have hn3 := hk2.up (k := 10) (by decide) hg3 ⟨hz3, ho3⟩
              rw [mPA_10] at hn3
              have hn3 : mdAt g r S B C a (mPA A ((s9.1, mHold s9.2.1 x9 S, upd s9.2.2.1 s9.2.2.2.2 (nI x9), s9.2.2.2) : PS)) cd wr lf dn en s9.2.2.2.2 N3 := hn3
              refine hb_aload_n G dX2_plan_109 hl rfl ?_
              refine hb_get G hn3.1 rfl inX2 19 (by decide) kf_X2_48 rfl rfl dX2_plan_110 ?_
              refine hb_aload_n G dX2_plan_113 hl rfl ?_
              refine hb_get G hn3.1 rfl inX2 17 (by decide) kf_X2_118 rfl rfl dX2_plan_114 ?_
              refine lv_iconst (v := 0) G.1 G.2.1 dX2_plan_117 (by decide) ?_
              refine hb_iast G (show ia g (a 11) 60 ((mPA A ((s9.1, mHold s9.2.1 x9 S, upd s9.2.2.1 s9.2.2.2.2 (nI x9), s9.2.2.2) : PS)) 11) _ from hn3.2.1 11 (by decide)) (by rw [show nI s9.2.2.2.2 = nI s9.2.2.2.2 from rfl]; exact vp_in_nI (by omega) (by decide)) hL (fM_a (by decide)) dX2_plan_118 (fun N4 locs hg4 hz4 ho4 hL => ?_)
              rw [show ((nI s9.2.2.2.2)).toNatClampNeg = s9.2.2.2.2 by rw [show nI s9.2.2.2.2 = nI s9.2.2.2.2 from rfl]; exact nI_clamp (by omega)] at hg4
              have hn4 := hn3.up (k := 11) (by decide) hg4 ⟨hz4, ho4⟩
              rw [mPA_11] at hn4
              refine hb_aload_n G dX2_plan_119 hl rfl ?_
              refine lv_dup G.1 G.2.1 dX2_plan_120 rfl ?_
              refine hb_get G hn4.1 rfl inX2 17 (by decide) kf_X2_118 rfl rfl dX2_plan_121 ?_
              refine lv_iconst (v := 1) G.1 G.2.1 dX2_plan_124 (by decide) ?_
              refine lv_iadd G.1 G.2.1 dX2_plan_125 ?_
              refine lv_topi (fun t_10 et_10 => ?_)
              refine hb_put G hn4.1 rfl inX2 tyX2 tyX2_ok nmX2 17 (by decide) kf_X2_118 rfl rfl rfl rfl (Nat.le_of_ble_eq_true rfl) hL (Or.inl rfl) dX2_plan_126 (fun N5 locs hf5 hz5 ho5 hL => ?_)
              have hf5 : ob g r 2 (mdFs S B a cd wr lf dn en (s9.2.2.2.2 + 1)) N5 := by rw [et_10, nI_1] at hf5; exact hf5
              have hn5 : mdAt g r S B C a (mPA A ((s9.1, mHold s9.2.1 x9 S, upd s9.2.2.1 s9.2.2.2.2 (nI x9), upd s9.2.2.2.1 s9.2.2.2.2 0, s9.2.2.2.2 + 1) : PS)) cd wr lf dn en (s9.2.2.2.2 + 1) N5 := hn4.fd hf5 ⟨hz5, ho5⟩
              have hm5 : Mo r a H N5 := hm2.tr ((Mo.ar (k := 10) ⟨hz3, ho3⟩ (by decide)).tr ((Mo.ar (k := 11) ⟨hz4, ho4⟩ (by decide)).tr (Mo.fd ⟨hz5, ho5⟩)))
              obtain ⟨s4, es4⟩ : ∃ z : PS, z = ((s9.1, mHold s9.2.1 x9 S, upd s9.2.2.1 s9.2.2.2.2 (nI x9), upd s9.2.2.2.1 s9.2.2.2.2 0, s9.2.2.2.2 + 1) : PS) := ⟨_, rfl⟩
              have hp4 : s4.2.2.2.2 = s9.2.2.2.2 + 1 := by rw [es4]
              rw [← es4, ← hp4] at hn5
              have hpp : 0 < s4.2.2.2.2 := by omega
              have hq59 : (s4).2.2.2.2 ≤ 59 := by omega
              refine hb_aload_n G dX2_plan_129 hl rfl ?_
              refine hb_get G hn5.1 rfl inX2 19 (by decide) kf_X2_48 rfl rfl dX2_plan_130 ?_
              refine hb_aload_n G dX2_plan_133 hl rfl ?_
              refine hb_get G hn5.1 rfl inX2 17 (by decide) kf_X2_118 rfl rfl dX2_plan_134 ?_
              refine lv_iconst (v := 1) G.1 G.2.1 dX2_plan_137 (by decide) ?_
              refine lv_isub G.1 G.2.1 dX2_plan_138 ?_
              refine lv_topi (fun t_11 et_11 => ?_)
              refine lv_dup2_11 G.1 G.2.1 dX2_plan_139 rfl rfl ?_
              have hix : t_11 = nI ((s4).2.2.2.2 - 1) := by rw [et_11]; exact nI_m1 hpp
              refine hb_iald G (show ia g (a 11) 60 ((mPA A s4) 11) _ from hn5.2.1 11 (by decide)) (by rw [hix]; exact vp_in_nI (by omega) (by omega)) dX2_plan_140 ?_
              refine lv_topi (fun r_12 er_12 => ?_)
              have er_12 : r_12 = (mPA A s4) 11 ((s4).2.2.2.2 - 1) := by rw [er_12, show (t_11).toNatClampNeg = (s4).2.2.2.2 - 1 by rw [hix]; exact nI_clamp (by omega)]
              refine hb_iload G dX2_plan_141 hl rfl ?_
              refine lv_iadd G.1 G.2.1 dX2_plan_143 ?_
              refine lv_topi (fun t_13 et_13 => ?_)
              have hv : t_13 = (s4).2.2.2.1 ((s4).2.2.2.2 - 1) + (sz j + 4) := by rw [et_13, er_12]; rfl
              refine hb_iast G (show ia g (a 11) 60 ((mPA A s4) 11) _ from hn5.2.1 11 (by decide)) (by rw [hix]; exact vp_in_nI (by omega) (by decide)) hL (fM_a (by decide)) dX2_plan_144 (fun N9 locs hg9 hz9 ho9 hL => ?_)
              rw [show (t_11).toNatClampNeg = (s4).2.2.2.2 - 1 by rw [hix]; exact nI_clamp (by omega), hv] at hg9
              have hn9 := hn5.up (k := 11) (by decide) hg9 ⟨hz9, ho9⟩
              rw [mPA_11] at hn9
              have hnn : mdAt g r S B C a (mPA A (pStep S B (sz j + 4) s9)) cd wr lf dn en (pStep S B (sz j + 4) s9).2.2.2.2 N9 := by
                rw [hstp]
                subst es4
                have h9 : (upd s9.2.2.2.1 s9.2.2.2.2 0) (s9.2.2.2.2 + 1 - 1) = 0 := pk_us
                have hn9 := hn9
                dsimp only at hn9
                rw [h9] at hn9
                exact hn9
              have hs5 : (pStep S B (sz j + 4) s9).1 = 1 := by rw [hstp]
              obtain ⟨t_14, et_14⟩ : ∃ z : Int32, z = (nI j) + 1 := ⟨_, rfl⟩
              refine hb_iinc (v := t_14) G dX2_plan_145 hl rfl (by rw [et_14]; rfl) (by decide) (fun ls hl => ?_)
              have hl : lh ls 7 [some (.ref r), some (.int (nI i)), some (.int k), some (.int (nI al)), some (.int t_14), some (.int (sz j + 4)), some (.int (nI x9))] := hl
              refine lv_goto (tgt := 18) G.1 G.2.1 dX2_plan_148 (by decide) ?_
              exact ih (j + 1) t_14 (pStep S B (sz j + 4) s9) N9 _ ls (by omega) (by omega) (by rw [et_14]; exact nI_1 j) (hnx) (hs5) hnn (hm5.tr (Mo.ar (k := 11) ⟨hz9, ho9⟩ (by decide))) hL ((hl.drop 5).drop 6)
            · have hstp : pStep S B (sz j + 4) s9 = (0, s9.2) := by unfold pStep; rw [if_pos hop, if_pos (by rw [← er_8]; exact i32_nle.mp c_9)]
              have hst9 := pRun_stop (S := S) (B := B) (k := k) (sz := sz) (s0 := pIni A S B) (j := j + 1) (by rw [hnx, hstp]) (al - (j + 1))
              rw [show j + 1 + (al - (j + 1)) = al by omega, hnx, hstp] at hst9
              refine lv_iconst (v := 0) G.1 G.2.1 dX2_plan_90 (by decide) ?_
              exact hb_zret G hr hlocks (by decide) ⟨by rw [hst9]; rfl, by rw [hst9]; exact hK, hmK⟩ hL (Nat.le_of_ble_eq_true rfl) (Nat.le_of_ble_eq_true rfl) dX2_plan_91
          · have hpp : 0 < s9.2.2.2.2 := Nat.pos_of_ne_zero (fun q => c_7 (by rw [q]; rfl))
            refine hb_aload_n G dX2_plan_54 hl rfl ?_
            refine hb_get G hK.1 rfl inX2 19 (by decide) kf_X2_48 rfl rfl dX2_plan_55 ?_
            refine hb_aload_n G dX2_plan_58 hl rfl ?_
            refine hb_get G hK.1 rfl inX2 17 (by decide) kf_X2_118 rfl rfl dX2_plan_59 ?_
            refine lv_iconst (v := 1) G.1 G.2.1 dX2_plan_62 (by decide) ?_
            refine lv_isub G.1 G.2.1 dX2_plan_63 ?_
            refine lv_topi (fun t_15 et_15 => ?_)
            have hix : t_15 = nI (s9.2.2.2.2 - 1) := by rw [et_15]; exact nI_m1 hpp
            refine hb_iald G (show ia g (a 11) 60 ((mPA A s9) 11) _ from hK.2.1 11 (by decide)) (by rw [hix]; exact vp_in_nI (by omega) (by omega)) dX2_plan_64 ?_
            refine lv_topi (fun r_16 er_16 => ?_)
            have er_16 : r_16 = (mPA A s9) 11 (s9.2.2.2.2 - 1) := by rw [er_16, show (t_15).toNatClampNeg = s9.2.2.2.2 - 1 by rw [hix]; exact nI_clamp (by omega)]
            refine hb_iload G dX2_plan_65 hl rfl ?_
            refine lv_iadd G.1 G.2.1 dX2_plan_67 ?_
            refine lv_topi (fun t_17 et_17 => ?_)
            refine lv_sipush (v := 1024) G.1 G.2.1 dX2_plan_68 (by decide) ?_
            refine hb_aload_n G dX2_plan_71 hl rfl ?_
            refine hb_get G hK.1 rfl inX2 1 (by decide) kf_X2_51 rfl rfl dX2_plan_72 ?_
            refine lv_imul G.1 G.2.1 dX2_plan_75 ?_
            refine lv_topi (fun t_18 et_18 => ?_)
            refine lv_icmp_le (tgt := 129) G.1 G.2.1 dX2_plan_76 (by decide) (fun c_19 => ?_) (fun c_19 => ?_)
            · have hfit : s9.2.2.2.1 (s9.2.2.2.2 - 1) + (sz j + 4) ≤ 1024 * nI S := by have := c_19; rw [et_17, et_18, er_16] at this; exact this
              have hstp : pStep S B (sz j + 4) s9 = (1, s9.2.1, s9.2.2.1, upd s9.2.2.2.1 (s9.2.2.2.2 - 1) (s9.2.2.2.1 (s9.2.2.2.2 - 1) + (sz j + 4)), s9.2.2.2.2) := by unfold pStep; rw [if_neg (fun q => q.elim (fun q1 => by omega) (fun q2 => q2 hfit))]
              clear hix
              have hq59 : (s9).2.2.2.2 ≤ 59 := by omega
              refine hb_aload_n G dX2_plan_129 hl rfl ?_
              refine hb_get G hK.1 rfl inX2 19 (by decide) kf_X2_48 rfl rfl dX2_plan_130 ?_
              refine hb_aload_n G dX2_plan_133 hl rfl ?_
              refine hb_get G hK.1 rfl inX2 17 (by decide) kf_X2_118 rfl rfl dX2_plan_134 ?_
              refine lv_iconst (v := 1) G.1 G.2.1 dX2_plan_137 (by decide) ?_
              refine lv_isub G.1 G.2.1 dX2_plan_138 ?_
              refine lv_topi (fun t_20 et_20 => ?_)
              refine lv_dup2_11 G.1 G.2.1 dX2_plan_139 rfl rfl ?_
              have hix : t_20 = nI ((s9).2.2.2.2 - 1) := by rw [et_20]; exact nI_m1 hpp
              refine hb_iald G (show ia g (a 11) 60 ((mPA A s9) 11) _ from hK.2.1 11 (by decide)) (by rw [hix]; exact vp_in_nI (by omega) (by omega)) dX2_plan_140 ?_
              refine lv_topi (fun r_21 er_21 => ?_)
              have er_21 : r_21 = (mPA A s9) 11 ((s9).2.2.2.2 - 1) := by rw [er_21, show (t_20).toNatClampNeg = (s9).2.2.2.2 - 1 by rw [hix]; exact nI_clamp (by omega)]
              refine hb_iload G dX2_plan_141 hl rfl ?_
              refine lv_iadd G.1 G.2.1 dX2_plan_143 ?_
              refine lv_topi (fun t_22 et_22 => ?_)
              have hv : t_22 = (s9).2.2.2.1 ((s9).2.2.2.2 - 1) + (sz j + 4) := by rw [et_22, er_21]; rfl
              refine hb_iast G (show ia g (a 11) 60 ((mPA A s9) 11) _ from hK.2.1 11 (by decide)) (by rw [hix]; exact vp_in_nI (by omega) (by decide)) hL (fM_a (by decide)) dX2_plan_144 (fun N9 locs hg9 hz9 ho9 hL => ?_)
              rw [show (t_20).toNatClampNeg = (s9).2.2.2.2 - 1 by rw [hix]; exact nI_clamp (by omega), hv] at hg9
              have hn9 := hK.up (k := 11) (by decide) hg9 ⟨hz9, ho9⟩
              rw [mPA_11] at hn9
              have hnn : mdAt g r S B C a (mPA A (pStep S B (sz j + 4) s9)) cd wr lf dn en (pStep S B (sz j + 4) s9).2.2.2.2 N9 := by
                rw [hstp]
                exact hn9
              have hs5 : (pStep S B (sz j + 4) s9).1 = 1 := by rw [hstp]
              obtain ⟨t_23, et_23⟩ : ∃ z : Int32, z = (nI j) + 1 := ⟨_, rfl⟩
              refine hb_iinc (v := t_23) G dX2_plan_145 hl rfl (by rw [et_23]; rfl) (by decide) (fun ls hl => ?_)
              have hl : lh ls 7 [some (.ref r), some (.int (nI i)), some (.int k), some (.int (nI al)), some (.int t_23), some (.int (sz j + 4)), none] := hl
              refine lv_goto (tgt := 18) G.1 G.2.1 dX2_plan_148 (by decide) ?_
              exact ih (j + 1) t_23 (pStep S B (sz j + 4) s9) N9 _ ls (by omega) (by omega) (by rw [et_23]; exact nI_1 j) (hnx) (hs5) hnn (hmK.tr (Mo.ar (k := 11) ⟨hz9, ho9⟩ (by decide))) hL (hl.drop 5)
            · have hop : s9.2.2.2.2 = 0 ∨ ¬ s9.2.2.2.1 (s9.2.2.2.2 - 1) + (sz j + 4) ≤ 1024 * nI S := Or.inr (fun q => c_19 (by rw [et_17, et_18, er_16]; exact q))
              refine hb_aload_n G dX2_plan_79 hl rfl ?_
              refine hb_callV (As := []) (rest := []) G hml (m_place g l r S B C a (mPA A s9) cd wr lf dn en s9.2.2.2.2 _ hK hSB) (hK.1) rfl km_X2_89 ki_X2_place ks_X2_place kn_X2 ko_X2_place hd_X2_place ⟨Nat.le_of_ble_eq_true rfl, Nat.le_of_ble_eq_true rfl⟩ hl.size rfl (Nat.le_of_ble_eq_true rfl) dX2_plan_80 ⟨Nat.le_of_ble_eq_true rfl, Nat.le_of_ble_eq_true rfl⟩ hL (f0_in) (fun v1 K locs hp hL => ?_)
              obtain ⟨rfl, rfl⟩ := hp
              refine lv_topi (fun r_24 er_24 => ?_)
              have er_24 : r_24 = mPl s9.2.1 S (B + 1 - S - 4) 4 := er_24
              refine hb_istore G dX2_plan_83 hl (by decide) (fun ls hl => ?_)
              have hl : lh ls 7 [some (.ref r), some (.int (nI i)), some (.int k), some (.int (nI al)), some (.int (nI j)), some (.int (sz j + 4)), some (.int r_24)] := hl
              refine hb_iload G dX2_plan_85 hl rfl ?_
              refine lv_if_ge (tgt := 92) G.1 G.2.1 dX2_plan_87 (by decide) (fun c_25 => ?_) (fun c_25 => ?_)
              · have hge : ¬ mPl s9.2.1 S (B + 1 - S - 4) 4 < 0 := by rw [← er_24]; exact i32_nlt.mpr c_25
                have hstp : pStep S B (sz j + 4) s9 = (1, mHold s9.2.1 (tn (mPl s9.2.1 S (B + 1 - S - 4) 4)) S, upd s9.2.2.1 s9.2.2.2.2 (mPl s9.2.1 S (B + 1 - S - 4) 4), upd (upd s9.2.2.2.1 s9.2.2.2.2 0) s9.2.2.2.2 (0 + (sz j + 4)), s9.2.2.2.2 + 1) := by unfold pStep; rw [if_pos hop, if_neg hge]
                obtain ⟨x9, hx1, hx2, hx3, _⟩ := (mPl_in s9.2.1 S (B + 1 - S - 4) 4).resolve_left (fun q => hge (by rw [q]; decide))
                have hp58 : s9.2.2.2.2 + 1 ≤ 59 := by have := hpl (j + 1) (by omega); rw [hnx, hstp] at this; exact this
                obtain rfl : r_24 = nI x9 := er_24.trans hx1
                rw [hx1, tn_nI (by omega)] at hstp
                have hl : lh ls 7 [some (.ref r), some (.int (nI i)), some (.int k), some (.int (nI al)), some (.int (nI j)), some (.int (sz j + 4)), some (.int (nI x9))] := hl
                refine hb_aload_n G dX2_plan_92 hl rfl ?_
                refine hb_iload G dX2_plan_93 hl rfl ?_
                refine hb_callV (As := [.int (nI x9)]) (rest := []) G hml (m_hold g l r S B C a (mPA A s9) cd wr lf dn en s9.2.2.2.2 _ hK hS2 x9 (by omega)) (hK.1) rfl km_X2_64 ki_X2_hold ks_X2_hold kn_X2 ko_X2_hold hd_X2_hold ⟨Nat.le_of_ble_eq_true rfl, Nat.le_of_ble_eq_true rfl⟩ hl.size rfl (Nat.le_of_ble_eq_true rfl) dX2_plan_95 ⟨Nat.le_of_ble_eq_true rfl, Nat.le_of_ble_eq_true rfl⟩ hL (hM4) (fun v1 K2 locs hp hL => ?_)
                obtain ⟨rfl, hk2, hF2⟩ := hp
                rw [mPA_4] at hk2
                have hm2 : Mo r a H K2 := hmK.tr (Mo.ar (k := 4) hF2 (by decide))
                refine hb_aload_n G dX2_plan_98 hl rfl ?_
                refine hb_get G hk2.1 rfl inX2 18 (by decide) kf_X2_45 rfl rfl dX2_plan_99 ?_
                refine hb_aload_n G dX2_plan_102 hl rfl ?_
                refine hb_get G hk2.1 rfl inX2 17 (by decide) kf_X2_118 rfl rfl dX2_plan_103 ?_
                refine hb_iload G dX2_plan_106 hl rfl ?_
                refine hb_iast G (show ia g (a 10) 60 ((mPA A ((s9.1, mHold s9.2.1 x9 S, s9.2.2) : PS)) 10) _ from hk2.2.1 10 (by decide)) (by rw [show nI s9.2.2.2.2 = nI s9.2.2.2.2 from rfl]; exact vp_in_nI (by omega) (by decide)) hL (fM_a (by decide)) dX2_plan_108 (fun N3 locs hg3 hz3 ho3 hL => ?_)
                rw [show ((nI s9.2.2.2.2)).toNatClampNeg = s9.2.2.2.2 by rw [show nI s9.2.2.2.2 = nI s9.2.2.2.2 from rfl]; exact nI_clamp (by omega)] at hg3
                have hn3 := hk2.up (k := 10) (by decide) hg3 ⟨hz3, ho3⟩
                rw [mPA_10] at hn3
                have hn3 : mdAt g r S B C a (mPA A ((s9.1, mHold s9.2.1 x9 S, upd s9.2.2.1 s9.2.2.2.2 (nI x9), s9.2.2.2) : PS)) cd wr lf dn en s9.2.2.2.2 N3 := hn3
                refine hb_aload_n G dX2_plan_109 hl rfl ?_
                refine hb_get G hn3.1 rfl inX2 19 (by decide) kf_X2_48 rfl rfl dX2_plan_110 ?_
                refine hb_aload_n G dX2_plan_113 hl rfl ?_
                refine hb_get G hn3.1 rfl inX2 17 (by decide) kf_X2_118 rfl rfl dX2_plan_114 ?_
                refine lv_iconst (v := 0) G.1 G.2.1 dX2_plan_117 (by decide) ?_
                refine hb_iast G (show ia g (a 11) 60 ((mPA A ((s9.1, mHold s9.2.1 x9 S, upd s9.2.2.1 s9.2.2.2.2 (nI x9), s9.2.2.2) : PS)) 11) _ from hn3.2.1 11 (by decide)) (by rw [show nI s9.2.2.2.2 = nI s9.2.2.2.2 from rfl]; exact vp_in_nI (by omega) (by decide)) hL (fM_a (by decide)) dX2_plan_118 (fun N4 locs hg4 hz4 ho4 hL => ?_)
                rw [show ((nI s9.2.2.2.2)).toNatClampNeg = s9.2.2.2.2 by rw [show nI s9.2.2.2.2 = nI s9.2.2.2.2 from rfl]; exact nI_clamp (by omega)] at hg4
                have hn4 := hn3.up (k := 11) (by decide) hg4 ⟨hz4, ho4⟩
                rw [mPA_11] at hn4
                refine hb_aload_n G dX2_plan_119 hl rfl ?_
                refine lv_dup G.1 G.2.1 dX2_plan_120 rfl ?_
                refine hb_get G hn4.1 rfl inX2 17 (by decide) kf_X2_118 rfl rfl dX2_plan_121 ?_
                refine lv_iconst (v := 1) G.1 G.2.1 dX2_plan_124 (by decide) ?_
                refine lv_iadd G.1 G.2.1 dX2_plan_125 ?_
                refine lv_topi (fun t_26 et_26 => ?_)
                refine hb_put G hn4.1 rfl inX2 tyX2 tyX2_ok nmX2 17 (by decide) kf_X2_118 rfl rfl rfl rfl (Nat.le_of_ble_eq_true rfl) hL (Or.inl rfl) dX2_plan_126 (fun N5 locs hf5 hz5 ho5 hL => ?_)
                have hf5 : ob g r 2 (mdFs S B a cd wr lf dn en (s9.2.2.2.2 + 1)) N5 := by rw [et_26, nI_1] at hf5; exact hf5
                have hn5 : mdAt g r S B C a (mPA A ((s9.1, mHold s9.2.1 x9 S, upd s9.2.2.1 s9.2.2.2.2 (nI x9), upd s9.2.2.2.1 s9.2.2.2.2 0, s9.2.2.2.2 + 1) : PS)) cd wr lf dn en (s9.2.2.2.2 + 1) N5 := hn4.fd hf5 ⟨hz5, ho5⟩
                have hm5 : Mo r a H N5 := hm2.tr ((Mo.ar (k := 10) ⟨hz3, ho3⟩ (by decide)).tr ((Mo.ar (k := 11) ⟨hz4, ho4⟩ (by decide)).tr (Mo.fd ⟨hz5, ho5⟩)))
                obtain ⟨s4, es4⟩ : ∃ z : PS, z = ((s9.1, mHold s9.2.1 x9 S, upd s9.2.2.1 s9.2.2.2.2 (nI x9), upd s9.2.2.2.1 s9.2.2.2.2 0, s9.2.2.2.2 + 1) : PS) := ⟨_, rfl⟩
                have hp4 : s4.2.2.2.2 = s9.2.2.2.2 + 1 := by rw [es4]
                rw [← es4, ← hp4] at hn5
                have hpp : 0 < s4.2.2.2.2 := by omega
                have hq59 : (s4).2.2.2.2 ≤ 59 := by omega
                refine hb_aload_n G dX2_plan_129 hl rfl ?_
                refine hb_get G hn5.1 rfl inX2 19 (by decide) kf_X2_48 rfl rfl dX2_plan_130 ?_
                refine hb_aload_n G dX2_plan_133 hl rfl ?_
                refine hb_get G hn5.1 rfl inX2 17 (by decide) kf_X2_118 rfl rfl dX2_plan_134 ?_
                refine lv_iconst (v := 1) G.1 G.2.1 dX2_plan_137 (by decide) ?_
                refine lv_isub G.1 G.2.1 dX2_plan_138 ?_
                refine lv_topi (fun t_27 et_27 => ?_)
                refine lv_dup2_11 G.1 G.2.1 dX2_plan_139 rfl rfl ?_
                have hix : t_27 = nI ((s4).2.2.2.2 - 1) := by rw [et_27]; exact nI_m1 hpp
                refine hb_iald G (show ia g (a 11) 60 ((mPA A s4) 11) _ from hn5.2.1 11 (by decide)) (by rw [hix]; exact vp_in_nI (by omega) (by omega)) dX2_plan_140 ?_
                refine lv_topi (fun r_28 er_28 => ?_)
                have er_28 : r_28 = (mPA A s4) 11 ((s4).2.2.2.2 - 1) := by rw [er_28, show (t_27).toNatClampNeg = (s4).2.2.2.2 - 1 by rw [hix]; exact nI_clamp (by omega)]
                refine hb_iload G dX2_plan_141 hl rfl ?_
                refine lv_iadd G.1 G.2.1 dX2_plan_143 ?_
                refine lv_topi (fun t_29 et_29 => ?_)
                have hv : t_29 = (s4).2.2.2.1 ((s4).2.2.2.2 - 1) + (sz j + 4) := by rw [et_29, er_28]; rfl
                refine hb_iast G (show ia g (a 11) 60 ((mPA A s4) 11) _ from hn5.2.1 11 (by decide)) (by rw [hix]; exact vp_in_nI (by omega) (by decide)) hL (fM_a (by decide)) dX2_plan_144 (fun N9 locs hg9 hz9 ho9 hL => ?_)
                rw [show (t_27).toNatClampNeg = (s4).2.2.2.2 - 1 by rw [hix]; exact nI_clamp (by omega), hv] at hg9
                have hn9 := hn5.up (k := 11) (by decide) hg9 ⟨hz9, ho9⟩
                rw [mPA_11] at hn9
                have hnn : mdAt g r S B C a (mPA A (pStep S B (sz j + 4) s9)) cd wr lf dn en (pStep S B (sz j + 4) s9).2.2.2.2 N9 := by
                  rw [hstp]
                  subst es4
                  have h9 : (upd s9.2.2.2.1 s9.2.2.2.2 0) (s9.2.2.2.2 + 1 - 1) = 0 := pk_us
                  have hn9 := hn9
                  dsimp only at hn9
                  rw [h9] at hn9
                  exact hn9
                have hs5 : (pStep S B (sz j + 4) s9).1 = 1 := by rw [hstp]
                obtain ⟨t_30, et_30⟩ : ∃ z : Int32, z = (nI j) + 1 := ⟨_, rfl⟩
                refine hb_iinc (v := t_30) G dX2_plan_145 hl rfl (by rw [et_30]; rfl) (by decide) (fun ls hl => ?_)
                have hl : lh ls 7 [some (.ref r), some (.int (nI i)), some (.int k), some (.int (nI al)), some (.int t_30), some (.int (sz j + 4)), some (.int (nI x9))] := hl
                refine lv_goto (tgt := 18) G.1 G.2.1 dX2_plan_148 (by decide) ?_
                exact ih (j + 1) t_30 (pStep S B (sz j + 4) s9) N9 _ ls (by omega) (by omega) (by rw [et_30]; exact nI_1 j) (hnx) (hs5) hnn (hm5.tr (Mo.ar (k := 11) ⟨hz9, ho9⟩ (by decide))) hL ((hl.drop 5).drop 6)
              · have hstp : pStep S B (sz j + 4) s9 = (0, s9.2) := by unfold pStep; rw [if_pos hop, if_pos (by rw [← er_24]; exact i32_nle.mp c_25)]
                have hst9 := pRun_stop (S := S) (B := B) (k := k) (sz := sz) (s0 := pIni A S B) (j := j + 1) (by rw [hnx, hstp]) (al - (j + 1))
                rw [show j + 1 + (al - (j + 1)) = al by omega, hnx, hstp] at hst9
                refine lv_iconst (v := 0) G.1 G.2.1 dX2_plan_90 (by decide) ?_
                exact hb_zret G hr hlocks (by decide) ⟨by rw [hst9]; rfl, by rw [hst9]; exact hK, hmK⟩ hL (Nat.le_of_ble_eq_true rfl) (Nat.le_of_ble_eq_true rfl) dX2_plan_91
  refine hb_aload_n G dX2_plan_0 hl rfl ?_
  refine hb_callV (As := []) (rest := []) G hml (m_mark g l r S B C a A cd wr lf dn en pl _ h hSB hA) (h.1) rfl km_X2_86 ki_X2_mark ks_X2_mark kn_X2 ko_X2_mark hd_X2_mark ⟨Nat.le_of_ble_eq_true rfl, Nat.le_of_ble_eq_true rfl⟩ hl.size rfl (Nat.le_of_ble_eq_true rfl) dX2_plan_1 ⟨Nat.le_of_ble_eq_true rfl, Nat.le_of_ble_eq_true rfl⟩ hL (hM4) (fun v1 K2 locs2 hp hL => ?_)
  obtain ⟨rfl, hk2, hF2⟩ := hp
  rw [mPA_ini] at hk2
  refine hb_aload_n G dX2_plan_4 hl rfl ?_
  refine lv_iconst (v := 0) G.1 G.2.1 dX2_plan_5 (by decide) ?_
  refine hb_put G hk2.1 rfl inX2 tyX2 tyX2_ok nmX2 17 (by decide) kf_X2_118 rfl rfl rfl rfl (Nat.le_of_ble_eq_true rfl) hL (Or.inl rfl) dX2_plan_6 (fun K3 locs3 hf3 hz3 ho3 hL => ?_)
  have hk3 : mdAt g r S B C a (mPA A (pIni A S B)) cd wr lf dn en 0 K3 := hk2.fd hf3 ⟨hz3, ho3⟩
  refine hb_aload_n G dX2_plan_9 hl rfl ?_
  refine hb_iload_n G dX2_plan_10 hl rfl ?_
  refine hb_callV (As := [.int (nI i)]) (rest := []) G hml (m_closed g l r S B C a (mPA A (pIni A S B)) cd wr lf dn en 0 _ hk3 hB hA i hi) (hk3.1) rfl km_X2_121 ki_X2_closed ks_X2_closed kn_X2 ko_X2_closed hd_X2_closed ⟨Nat.le_of_ble_eq_true rfl, Nat.le_of_ble_eq_true rfl⟩ hl.size rfl (Nat.le_of_ble_eq_true rfl) dX2_plan_11 ⟨Nat.le_of_ble_eq_true rfl, Nat.le_of_ble_eq_true rfl⟩ hL (f0_in) (fun v1 K3 locs4 hp hL => ?_)
  obtain ⟨rfl, rfl⟩ := hp
  have hcl : mCl (mPA A (pIni A S B)) i en = nI al := (mCl_eq (A := A) (A2 := mPA A (pIni A S B)) rfl rfl rfl rfl i en).trans hal
  rw [hcl]
  refine hb_istore_n G dX2_plan_14 hl (by decide) (fun ls hl => ?_)
  have hl : lh ls 7 [some (.ref r), some (.int (nI i)), some (.int k), some (.int (nI al)), none, none, none] := hl
  refine lv_iconst (v := 0) G.1 G.2.1 dX2_plan_15 (by decide) ?_
  refine hb_istore G dX2_plan_16 hl (by decide) (fun ls hl => ?_)
  have hl : lh ls 7 [some (.ref r), some (.int (nI i)), some (.int k), some (.int (nI al)), some (.int 0), none, none] := hl
  exact lp (al + 1) 0 0 (pIni A S B) K3 _ ls (by omega) (by omega) rfl rfl rfl hk3 ((Mo.ar (k := 4) hF2 (by decide)).tr (Mo.fd ⟨hz3, ho3⟩)) hL hl
