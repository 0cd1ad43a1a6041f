set_option maxHeartbeats 1000000 in
/-- an entry more at the end of log i -/
theorem Rel_add {S B : Nat} {V : Nat → LV} {A A2 : Nat → Nat → Int32} {i en : Nat} {w : LV} (hR : Rel S B V A en) (hi : i < 4) (hold : ∀ k j, 5 ≤ k → k ≤ 9 → j < en → A2 k j = A k j) (h5 : A2 5 en = nI i)
    (hent : w.2.2.1 = (V i).2.2.1 + 1) (hrow : ∀ k t, 2 ≤ k → k ≤ 5 → t < (V i).2.2.1 → w.1 k t = (V i).1 k t) (h6 : A2 6 en = w.1 2 (V i).2.2.1) (h7 : A2 7 en = w.1 3 (V i).2.2.1) (h8 : A2 8 en = w.1 0 (tn (w.1 4 (V i).2.2.1))) (h9 : A2 9 en = w.1 5 (V i).2.2.1)
    (hst : ∀ k, k < (V i).2.1 → w.1 0 k = (V i).1 0 k) (h0 : A2 0 = upd (A 0) i (nI w.2.1)) (h3 : A2 3 = upd (A 3) i w.2.2.2) (h1 : ∀ j k, j < 4 → ¬ j = i → k < 60 → A2 1 (60 * j + k) = A 1 (60 * j + k) ∧ A2 2 (60 * j + k) = A 2 (60 * j + k)) (h1i : ∀ k, k < w.2.1 → A2 1 (60 * i + k) = w.1 0 k ∧ A2 2 (60 * i + k) = w.1 1 k)
    (hS : lgS S B w) (hI : ∃ h s o, lgI S w h s o) : Rel S B (va_up V i w) A2 (en + 1) := by
  have hcn : ∀ x e, e ≤ en → mCnt (A2 5) x e = mCnt (A 5) x e := fun x e he => mCnt_congr x e (fun j hj => hold 5 j (by decide) (by decide) (by omega))
  refine ⟨fun x hx => ?_, fun e he => ?_⟩
  · by_cases hxi : x = i
    · subst hxi
      rw [va_up_self]
      obtain ⟨⟨r1, r2, r3, r4, r5⟩, _, h, s, o, hI9⟩ := hR.1 x hi
      refine ⟨⟨by rw [h0, pk_us], by rw [h3, pk_us], ?_, h1i, fun e he a5 j hj => ?_⟩, hS, hI⟩
      · rw [hent, r3]; simp only [mCnt]; rw [hcn _ _ (Nat.le_refl _), if_pos h5]
      · rw [hcn _ _ (by omega)] at hj
        by_cases hee : e = en
        · subst hee
          rw [← r3] at hj
          subst hj
          exact ⟨h6, h7, h8, h9⟩
        · have a5' : A 5 e = nI x := by rw [← hold 5 e (by decide) (by decide) (by omega)]; exact a5
          have hjl : j < (V x).2.2.1 := by rw [r3, hj]; exact mCnt_lt (by omega) a5'
          obtain ⟨s1, s2, s3, s4⟩ := r5 e (by omega) a5' j hj
          rw [hold 6 e (by decide) (by decide) (by omega), hold 7 e (by decide) (by decide) (by omega), hold 8 e (by decide) (by decide) (by omega), hold 9 e (by decide) (by decide) (by omega), hrow 2 j (by decide) (by decide) hjl, hrow 3 j (by decide) (by decide) hjl, hrow 4 j (by decide) (by decide) hjl, hrow 5 j (by decide) (by decide) hjl]
          have hh := (hI9.2.1 j hjl)
          have hb := hI9.1.1
          rw [hst _ (by rw [hh.1, tn_nI (by omega)]; exact hh.2.2.2.1)]
          exact ⟨s1, s2, s3, s4⟩
    · rw [va_up_ne _ _ hxi]
      obtain ⟨⟨r1, r2, r3, r4, r5⟩, hS2, hI2⟩ := hR.1 x hx
      have hne : ¬ nI i = nI x := fun z => hxi (nI4 hi hx z).symm
      obtain ⟨h9, s9, o9, hI9⟩ := id hI2
      have hns := hI9.1.1
      refine ⟨⟨by rw [h0, pk_un hxi]; exact r1, by rw [h3, pk_un hxi]; exact r2, ?_, fun k hk => ?_, fun e he a5 j hj => ?_⟩, hS2, hI2⟩
      · rw [r3]; simp only [mCnt]; rw [hcn _ _ (Nat.le_refl _), if_neg (by rw [h5]; exact hne)]; rfl
      · obtain ⟨q1, q2⟩ := h1 x k hx hxi (by omega)
        rw [q1, q2]; exact r4 k hk
      · rw [hcn _ _ (by omega)] at hj
        have hee : ¬ e = en := fun z => by rw [z, h5] at a5; exact hne a5
        have a5' : A 5 e = nI x := by rw [← hold 5 e (by decide) (by decide) (by omega)]; exact a5
        rw [hold 6 e (by decide) (by decide) (by omega), hold 7 e (by decide) (by decide) (by omega), hold 8 e (by decide) (by decide) (by omega), hold 9 e (by decide) (by decide) (by omega)]
        exact r5 e (by omega) a5' j hj
  · by_cases hee : e = en
    · rw [hee]; exact ⟨i, hi, h5⟩
    · rw [hold 5 e (by decide) (by decide) (by omega)]; exact hR.2 e (by omega)
/-! APPEND -/
theorem fit_iff {S B : Nat} {V : Nat → LV} {A : Nat → Nat → Int32} {i en : Nat} (hR : Rel S B V A en) (hi : i < 4) (n : Int32) : apFit S (V i) n ↔ mFit A S i n := by
  obtain ⟨⟨r1, r2, r3, r4, r5⟩, _, h, s, o, hI9⟩ := hR.1 i hi
  unfold apFit mFit
  rw [hR.tn0 hi]
  have hc : nI S * 1024 = 1024 * nI S := Int32.mul_comm _ _
  rw [hc]
  constructor
  · rintro ⟨h1, h2⟩
    refine ⟨h1, ?_⟩
    rw [(r4 _ (by omega)).2]
    have hob : lgOB (V i) = (V i).1 1 ((V i).2.1 - 1) := by unfold lgOB; rw [if_neg (by omega)]
    rw [← hob]; exact h2
  · rintro ⟨h1, h2⟩
    refine ⟨h1, ?_⟩
    rw [(r4 _ (by omega)).2] at h2
    have hob : lgOB (V i) = (V i).1 1 ((V i).2.1 - 1) := by unfold lgOB; rw [if_neg (by omega)]
    rw [hob]; exact h2
theorem ap_st {S B : Nat} {V : Nat → LV} {A : Nat → Nat → Int32} {i en : Nat} (hSB : dkB S B) (hR : Rel S B V A en) (hi : i < 4) (n : Int32) : apSt B S V (V i) n = mWh A S B i n := by
  obtain ⟨⟨r1, r2, r3, r4, r5⟩, _, h, s, o, hI9⟩ := hR.1 i hi
  have hf := fit_iff hR hi n
  unfold apSt mWh
  by_cases q : apFit S (V i) n
  · rw [if_pos q, if_pos (hf.mp q), hR.tn0 hi]
    have h1 := q.1
    rw [(r4 _ (by omega)).1]
    unfold lgOS; rw [if_neg (by omega)]
  · rw [if_neg q, if_neg (fun z => q (hf.mpr z)), hR.tn0 hi]
    unfold sons
    have hb := hI9.1.1
    by_cases h6 : (V i).2.1 = 60
    · rw [if_neg (by omega), if_pos h6]
    · rw [if_pos (by omega), if_neg h6]
      exact ffr_mPl hSB (mkD_agr hSB hR.st 4 (Nat.le_refl 4)) (fun b hb => by rw [mMkA_hd hb hSB.2.2.1]; decide)
theorem ap_ct {S B : Nat} {V : Nat → LV} {A : Nat → Nat → Int32} {i en : Nat} (hR : Rel S B V A en) (hi : i < 4) (n : Int32) (hn : ¬ n + 4 = 0) : apCnt S (V i) n = mCn A S i n := by
  obtain ⟨⟨r1, r2, r3, r4, r5⟩, _, h, s, o, hI9⟩ := hR.1 i hi
  have hf := fit_iff hR hi n
  unfold apCnt mCn mFrm tcV
  rw [if_neg hn]
  by_cases q : apFit S (V i) n
  · rw [if_pos q, if_pos (hf.mp q), hR.tn0 hi]
    have h1 := q.1
    rw [(r4 _ (by omega)).2]
    unfold lgOB; rw [if_neg (by omega)]
  · rw [if_neg q, if_neg (fun z => q (hf.mpr z))]
theorem upA {A : Nat → Int32} {i j k m : Nat} {x : Int32} (hi : i < 4) (hj : j < 4) (hji : ¬ j = i) (hk : k < 60) (hm : m < 60) : upd A (60 * i + m) x (60 * j + k) = A (60 * j + k) := pk_un (by omega)
set_option maxHeartbeats 1000000 in
theorem ap_new {S B : Nat} {V : Nat → LV} {A A2 : Nat → Nat → Int32} {i en : Nat} (hSB : dkB S B) (hR : Rel S B V A en) (hi : i < 4) (hen : en < 512) {m : Nat} (hm : 1 ≤ m ∧ m ≤ 20000) (b : Int32) (hla : m + 4 ≤ 1024 * S) (hwh : ¬ mWh A S B i (nI m) < 0) (hA2 : mAdded (mAp A S B i (nI m)) A2 en (nI i) (nI m) b (mWh A S B i (nI m)) (mFrm A S i (nI m))) :
    Rel S B (va_up V i (apNew B S V (V i) (nI m) b)) A2 (en + 1) := by
  have hst := ap_st hSB hR hi (nI m)
  have hft := fit_iff hR hi (nI m)
  have htn := hR.tn0 hi
  obtain ⟨⟨r1, r2, r3, r4, r5⟩, ⟨s1, s2⟩, h, s, o, hI⟩ := hR.1 i hi
  have he : (V i).2.2.1 < 512 := by rw [r3]; have := mCnt_le (A 5) (nI i) en; omega
  have hb1 := hI.1.1
  obtain ⟨hS1, hS2, hB1, hB2⟩ := id hSB
  obtain ⟨d1, d2, d3, d4, d5, d6, d7⟩ := hA2
  by_cases q : apFit S (V i) (nI m)
  · have q2 := hft.mp q
    have hns : 0 < (V i).2.1 := q.1
    have hpos := hI.pos hns
    have hap : apNew B S V (V i) (nI m) b = came1 (lgPut (V i) (nI m) b) := by unfold apNew; rw [if_pos q]
    have hmp : mAp A S B i (nI m) = va_up (va_up (mH A S B) 2 (upd (A 2) (60 * i + ((V i).2.1 - 1)) (A 2 (60 * i + ((V i).2.1 - 1)) + (nI m + 4)))) 3 (upd (A 3) i (A 3 i + 1)) := by unfold mAp; rw [if_pos q2, htn]
    have hwh2 : mWh A S B i (nI m) = (V i).1 0 ((V i).2.1 - 1) := by unfold mWh; rw [if_pos q2, htn, (r4 _ (by omega)).1]
    have hfm : mFrm A S i (nI m) = (V i).1 1 ((V i).2.1 - 1) := by unfold mFrm; rw [if_pos q2, htn, (r4 _ (by omega)).2]
    obtain ⟨f1, f2, f3, f4, f5, f6, f7, f8, f9⟩ := lgPut_f (v := V i) (b := nI m) (z := b) ⟨hns, he⟩
    have hl := (hI.2.2.2.1 hpos).2.2.2
    have hlb := (hI.2.1 ((V i).2.2.1 - 1) (by omega)).2.2.2.2.2.2
    have hfit : o ((V i).2.2.1 - 1) + s ((V i).2.2.1 - 1) + 4 + (m + 4) ≤ 1024 * S := by
      have h9 := q.2
      have hob : lgOB (V i) = (V i).1 1 ((V i).2.1 - 1) := by unfold lgOB; rw [if_neg (by omega)]
      rw [hob, hl, show (4 : Int32) = nI 4 from rfl, nI_add, nI_add, show (1024 : Int32) = nI 1024 from rfl, pk_mul] at h9
      have := (nI_leI (by omega) (by omega)).mp h9
      omega
    have hI2 := lgI_put hI hns he hm b hfit
    rw [hap]
    rw [hmp] at d1 d2
    refine Rel_add hR hi (fun k j k1 k2 hj => ?_) d3 f2 (fun k t k1 k2 ht => ?_) ?_ ?_ ?_ ?_ (fun k _ => congrFun f4 k) ?_ ?_ (fun j k hj hji hk => ?_) (fun k hk => ?_) ⟨fun k hk => ?_, fun k q hk hq => ?_⟩ ⟨_, _, _, hI2.cong rfl rfl rfl⟩
    · rw [d2 k j k1 k2 hj]
      rcases (show k = 5 ∨ k = 6 ∨ k = 7 ∨ k = 8 ∨ k = 9 by omega) with rfl | rfl | rfl | rfl | rfl <;> rfl
    · show (lgPut (V i) (nI m) b).1 k t = _
      rcases (show k = 2 ∨ k = 3 ∨ k = 4 ∨ k = 5 by omega) with rfl | rfl | rfl | rfl
      · rw [f6, pk_un (by omega)]
      · rw [f7, pk_un (by omega)]
      · rw [f8, pk_un (by omega)]
      · rw [f9, pk_un (by omega)]
    · rw [d4]; show _ = (lgPut (V i) (nI m) b).1 2 _; rw [f6, pk_us]
    · rw [d5]; show _ = (lgPut (V i) (nI m) b).1 3 _; rw [f7, pk_us]
    · rw [d6, hwh2]; show _ = (lgPut (V i) (nI m) b).1 0 (tn ((lgPut (V i) (nI m) b).1 4 _)); rw [f4, f8, pk_us, tn_nI (by omega)]
    · rw [d7, hfm]; show _ = (lgPut (V i) (nI m) b).1 5 _; rw [f9, pk_us]
    · rw [d1 0 (by omega)]
      show A 0 = upd (A 0) i (nI (lgPut (V i) (nI m) b).2.1)
      rw [f1, ← r1]
      funext x
      by_cases hx : x = i
      · rw [hx, pk_us]
      · rw [pk_un hx]
    · rw [d1 3 (by omega)]
      show upd (A 3) i (A 3 i + 1) = upd (A 3) i ((lgPut (V i) (nI m) b).2.2.2 + 1)
      rw [f3, r2]
    · rw [d1 1 (by omega), d1 2 (by omega)]
      exact ⟨rfl, upA hi hj hji hk (by omega)⟩
    · have hk : k < (V i).2.1 := by have : k < (lgPut (V i) (nI m) b).2.1 := hk; rw [f1] at this; exact this
      rw [d1 1 (by omega), d1 2 (by omega)]
      show A 1 (60 * i + k) = (lgPut (V i) (nI m) b).1 0 k ∧ upd (A 2) (60 * i + ((V i).2.1 - 1)) (A 2 (60 * i + ((V i).2.1 - 1)) + (nI m + 4)) (60 * i + k) = (lgPut (V i) (nI m) b).1 1 k
      rw [f4, f5]
      refine ⟨(r4 k hk).1, ?_⟩
      by_cases hkl : k = (V i).2.1 - 1
      · subst hkl; rw [pk_us, pk_us, (r4 _ hk).2, Int32.add_assoc]
      · rw [pk_un (by omega), pk_un hkl]; exact (r4 k hk).2
    · have hk : k < (lgPut (V i) (nI m) b).2.1 := hk
      rw [f1] at hk
      show ∃ x, (lgPut (V i) (nI m) b).1 0 k = _ ∧ _
      rw [f4]; exact s1 k hk
    · have hk : k < (lgPut (V i) (nI m) b).2.1 := hk
      have hq : q < (lgPut (V i) (nI m) b).2.1 := hq
      rw [f1] at hk hq
      show (lgPut (V i) (nI m) b).1 0 k = (lgPut (V i) (nI m) b).1 0 q → _
      rw [f4]; exact s2 k q hk hq
  · have q2 : ¬ mFit A S i (nI m) := fun z => q (hft.mpr z)
    have hwe : mWh A S B i (nI m) = if (V i).2.1 = 60 then -1 else mPl (mMkA A S B 4) S (B + 1 - S - 4) 4 := by unfold mWh; rw [if_neg q2, htn]
    have hns : (V i).2.1 < 60 := by
      rcases Nat.lt_or_ge (V i).2.1 60 with z | z
      · exact z
      · exact absurd (by rw [hwe, if_pos (by omega)]; decide) hwh
    rw [if_neg (by omega)] at hwe
    obtain ⟨x, x1, x2, x3, x4, _⟩ := (mPl_spec (he := mMkA A S B 4) (S := S) (B + 1 - S - 4) 4).resolve_left (fun z => hwh (by rw [hwe, z.1]; decide))
    rw [x1] at hwe
    have hap : apNew B S V (V i) (nI m) b = came1 (lgPut (lgOpen (V i) (nI x)) (nI m) b) := by unfold apNew; rw [if_neg q, hst, hwe]
    have hmp : mAp A S B i (nI m) = va_up (va_up (va_up (va_up (va_up (mH A S B) 1 (upd (A 1) (60 * i + (V i).2.1) (nI x))) 2 (upd (A 2) (60 * i + (V i).2.1) 0)) 0 (upd (A 0) i (A 0 i + 1))) 2 (upd (upd (A 2) (60 * i + (V i).2.1) 0) (60 * i + (V i).2.1) (0 + (nI m + 4)))) 3 (upd (A 3) i (A 3 i + 1)) := by unfold mAp; rw [if_neg q2, htn, hwe]
    have hfm : mFrm A S i (nI m) = 0 := by unfold mFrm; rw [if_neg q2]
    obtain ⟨f1, f2, f3, f4, f5, f6, f7, f8, f9⟩ := lgOP_f (v := V i) (st := nI x) (b := nI m) (z := b) ⟨hns, he⟩
    have hI2 := lgI_opn hI hns he hm (nI x) b hla
    have hnew : ∀ k, k < (V i).2.1 → ¬ (V i).1 0 k = nI x := fun k hk z => by
      have h1 := mMkA_hit (A := A) (S := S) (B := B) hSB.1 (show x < 2 ^ 31 by omega) (j := i) (k := k) (by rw [htn]; exact hk) (by rw [(r4 k hk).1]; exact z) 4 hi
      have h2 := x4 0 (by omega)
      rw [Nat.add_zero, h1] at h2
      exact absurd h2 (by decide)
    rw [hap]
    rw [hmp] at d1 d2
    refine Rel_add hR hi (fun k j k1 k2 hj => ?_) d3 f2 (fun k t k1 k2 ht => ?_) ?_ ?_ ?_ ?_ (fun k hk => ?_) ?_ ?_ (fun j k hj hji hk => ?_) (fun k hk => ?_) ⟨fun k hk => ?_, fun k q hk hq => ?_⟩ ⟨_, _, _, hI2.cong rfl rfl rfl⟩
    · rw [d2 k j k1 k2 hj]
      rcases (show k = 5 ∨ k = 6 ∨ k = 7 ∨ k = 8 ∨ k = 9 by omega) with rfl | rfl | rfl | rfl | rfl <;> rfl
    · show (lgPut (lgOpen (V i) (nI x)) (nI m) b).1 k t = _
      rcases (show k = 2 ∨ k = 3 ∨ k = 4 ∨ k = 5 by omega) with rfl | rfl | rfl | rfl
      · rw [f6, pk_un (by omega)]
      · rw [f7, pk_un (by omega)]
      · rw [f8, pk_un (by omega)]
      · rw [f9, pk_un (by omega)]
    · rw [d4]; show _ = (lgPut (lgOpen (V i) (nI x)) (nI m) b).1 2 _; rw [f6, pk_us]
    · rw [d5]; show _ = (lgPut (lgOpen (V i) (nI x)) (nI m) b).1 3 _; rw [f7, pk_us]
    · rw [d6, hwe]; show _ = (lgPut (lgOpen (V i) (nI x)) (nI m) b).1 0 (tn ((lgPut (lgOpen (V i) (nI x)) (nI m) b).1 4 _)); rw [f4, f8, pk_us, tn_nI (by omega), pk_us]
    · rw [d7, hfm]; show _ = (lgPut (lgOpen (V i) (nI x)) (nI m) b).1 5 _; rw [f9, pk_us]
    · show (lgPut (lgOpen (V i) (nI x)) (nI m) b).1 0 k = _
      rw [f4, pk_un (by omega)]
    · rw [d1 0 (by omega)]
      show upd (A 0) i (A 0 i + 1) = upd (A 0) i (nI (lgPut (lgOpen (V i) (nI x)) (nI m) b).2.1)
      rw [f1, r1, nI_1]
    · rw [d1 3 (by omega)]
      show upd (A 3) i (A 3 i + 1) = upd (A 3) i ((lgPut (lgOpen (V i) (nI x)) (nI m) b).2.2.2 + 1)
      rw [f3, r2]
    · rw [d1 1 (by omega), d1 2 (by omega)]
      exact ⟨upA hi hj hji hk hns, (upA hi hj hji hk hns).trans (upA hi hj hji hk hns)⟩
    · have hk : k < (V i).2.1 + 1 := by have : k < (lgPut (lgOpen (V i) (nI x)) (nI m) b).2.1 := hk; rw [f1] at this; exact this
      rw [d1 1 (by omega), d1 2 (by omega)]
      show upd (A 1) (60 * i + (V i).2.1) (nI x) (60 * i + k) = (lgPut (lgOpen (V i) (nI x)) (nI m) b).1 0 k ∧ upd (upd (A 2) (60 * i + (V i).2.1) 0) (60 * i + (V i).2.1) (0 + (nI m + 4)) (60 * i + k) = (lgPut (lgOpen (V i) (nI x)) (nI m) b).1 1 k
      rw [f4, f5]
      by_cases hkl : k = (V i).2.1
      · subst hkl; rw [pk_us, pk_us, pk_us, pk_us, Int32.add_assoc]; exact ⟨rfl, rfl⟩
      · refine ⟨?_, ?_⟩
        · rw [pk_un (by omega), pk_un hkl]; exact (r4 k (by omega)).1
        · rw [pk_un (by omega), pk_un (by omega), pk_un hkl, pk_un hkl]; exact (r4 k (by omega)).2
    · have hk : k < (lgPut (lgOpen (V i) (nI x)) (nI m) b).2.1 := hk
      rw [f1] at hk
      show ∃ x9, (lgPut (lgOpen (V i) (nI x)) (nI m) b).1 0 k = _ ∧ _
      rw [f4]
      by_cases hkl : k = (V i).2.1
      · subst hkl; rw [pk_us]; exact ⟨x, rfl, x2, by omega⟩
      · rw [pk_un hkl]; exact s1 k (by omega)
    · have hk : k < (lgPut (lgOpen (V i) (nI x)) (nI m) b).2.1 := hk
      have hq : q < (lgPut (lgOpen (V i) (nI x)) (nI m) b).2.1 := hq
      rw [f1] at hk hq
      show (lgPut (lgOpen (V i) (nI x)) (nI m) b).1 0 k = (lgPut (lgOpen (V i) (nI x)) (nI m) b).1 0 q → _
      rw [f4]
      by_cases hkl : k = (V i).2.1
      · by_cases hql : q = (V i).2.1
        · intro _; omega
        · rw [hkl, pk_us, pk_un hql]
          intro z; exact absurd z.symm (hnew q (by omega))
      · by_cases hql : q = (V i).2.1
        · rw [hql, pk_us, pk_un hkl]
          intro z; exact absurd z (hnew k (by omega))
        · rw [pk_un hkl, pk_un hql]; exact s2 k q (by omega) (by omega)
