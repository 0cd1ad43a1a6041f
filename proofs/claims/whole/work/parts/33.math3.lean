/-! CLASS AND REFERENCE, HELD TOGETHER -/
def lgR (A : Nat → Nat → Int32) (en i : Nat) (v : LV) : Prop := A 0 i = nI v.2.1 ∧ A 3 i = v.2.2.2 ∧ v.2.2.1 = mCnt (A 5) (nI i) en ∧ (∀ k, k < v.2.1 → A 1 (60 * i + k) = v.1 0 k ∧ A 2 (60 * i + k) = v.1 1 k) ∧ ∀ e, e < en → A 5 e = nI i → ∀ j, j = mCnt (A 5) (nI i) e → A 6 e = v.1 2 j ∧ A 7 e = v.1 3 j ∧ A 8 e = v.1 0 (tn (v.1 4 j)) ∧ A 9 e = v.1 5 j
def lgS (S B : Nat) (v : LV) : Prop := (∀ k, k < v.2.1 → ∃ x, v.1 0 k = nI x ∧ 4 ≤ x ∧ x + S ≤ B) ∧ ∀ k q, k < v.2.1 → q < v.2.1 → v.1 0 k = v.1 0 q → k = q
def Rel (S B : Nat) (V : Nat → LV) (A : Nat → Nat → Int32) (en : Nat) : Prop := (∀ i, i < 4 → lgR A en i (V i) ∧ lgS S B (V i) ∧ ∃ h s o, lgI S (V i) h s o) ∧ ∀ e, e < en → ∃ i, i < 4 ∧ A 5 e = nI i
theorem Rel.st {S B : Nat} {V : Nat → LV} {A : Nat → Nat → Int32} {en : Nat} (hR : Rel S B V A en) : stR S B V A := fun i hi => by
  obtain ⟨h1, h2, h, s, o, h3⟩ := hR.1 i hi
  exact ⟨h1.1, h3.1.1, fun k hk => ⟨(h1.2.2.2.1 k hk).1, h2.1 k hk⟩⟩
theorem Rel.sg {S B : Nat} {V : Nat → LV} {A : Nat → Nat → Int32} {en : Nat} (hB : B ≤ 256) (hR : Rel S B V A en) : sgOk S A := fun i hi => by
  obtain ⟨h1, h2, h3⟩ := hR.st i hi
  have ht : tn (A 0 i) = (V i).2.1 := by rw [h1]; exact tn_nI (by omega)
  rw [ht]
  refine ⟨h1, h2, fun k hk => ?_⟩
  obtain ⟨q1, x, q2, q3, q4⟩ := h3 k hk
  rw [q1, q2, tn_nI (by omega)]
  exact ⟨rfl, by omega⟩
theorem Rel.tn0 {S B : Nat} {V : Nat → LV} {A : Nat → Nat → Int32} {en i : Nat} (hR : Rel S B V A en) (hi : i < 4) : tn (A 0 i) = (V i).2.1 := by
  obtain ⟨h1, h2, h3⟩ := hR.st i hi
  rw [h1]; exact tn_nI (by omega)
theorem nI4 {i j : Nat} (hi : i < 4) (hj : j < 4) (h : nI i = nI j) : i = j := (nI_eq (by omega) (by omega)).mp h
theorem Rel_nil (S B : Nat) : Rel S B (fun _ => lv0) (fun _ _ => 0) 0 :=
  ⟨fun _ _ => ⟨⟨rfl, rfl, rfl, fun k hk => absurd hk (Nat.not_lt_zero k), fun e he => absurd he (Nat.not_lt_zero e)⟩, ⟨fun k hk => absurd hk (Nat.not_lt_zero k), fun k q hk => absurd hk (Nat.not_lt_zero k)⟩, fun _ => 0, fun _ => 0, fun _ => 0, lgI_nil S _ _ _ _ _⟩, fun e he => absurd he (Nat.not_lt_zero e)⟩
theorem Rel.cong {S B : Nat} {V : Nat → LV} {A A2 : Nat → Nat → Int32} {en : Nat} (hR : Rel S B V A en) (h : ∀ k, k < 10 → ¬ k = 4 → A2 k = A k) {V2 : Nat → LV} (hV : ∀ i, i < 4 → V2 i = V i) : Rel S B V2 A2 en := by
  refine ⟨fun i hi => ?_, fun e he => ?_⟩
  · rw [hV i hi]
    obtain ⟨h1, h2, h3⟩ := hR.1 i hi
    refine ⟨?_, h2, h3⟩
    unfold lgR
    rw [h 0 (by decide) (by decide), h 1 (by decide) (by decide), h 2 (by decide) (by decide), h 3 (by decide) (by decide), h 5 (by decide) (by decide), h 6 (by decide) (by decide), h 7 (by decide) (by decide), h 8 (by decide) (by decide), h 9 (by decide) (by decide)]
    exact h1
  · rw [h 5 (by decide) (by decide)]; exact hR.2 e he
theorem comp_rank {A A2 T : Nat → Nat → Int32} {kp q : Nat → Bool} {i en : Nat} (hkp : ∀ e, kp e = !(decide (A 5 e = nI i) && !(q (mCnt (A 5) (nI i) e)))) (hT : ∀ e, e < en → T 5 e = A 5 e) (hc : mComp T A2 kp en) : ∀ e, e ≤ en → mCnt (A2 5) (nI i) (cK kp e) = cK q (mCnt (A 5) (nI i) e) ∧ ∀ x, ¬ x = nI i → mCnt (A2 5) x (cK kp e) = mCnt (A 5) x e
  | 0, _ => ⟨rfl, fun _ _ => rfl⟩
  | e + 1, he => by
    obtain ⟨ih1, ih2⟩ := comp_rank hkp hT hc e (by omega)
    by_cases h5 : A 5 e = nI i
    · have hk : kp e = q (mCnt (A 5) (nI i) e) := by rw [hkp, decide_eq_true h5, Bool.true_and, Bool.not_not]
      by_cases hq : q (mCnt (A 5) (nI i) e) = true
      · have h2 : cK kp (e + 1) = cK kp e + 1 := by simp only [cK]; rw [hk, if_pos hq]
        have h3 : A2 5 (cK kp e) = A 5 e := (hc 5 e (by decide) (by decide) (by omega) (by rw [hk]; exact hq)).trans (hT e (by omega))
        refine ⟨?_, fun x hx => ?_⟩
        · rw [h2]; simp only [mCnt]; rw [h3, if_pos h5, ih1]; simp only [cK]; rw [if_pos hq]
        · rw [h2]; simp only [mCnt]; rw [h3, if_neg (fun z => hx (z.symm.trans h5)), ih2 x hx]
      · have h2 : cK kp (e + 1) = cK kp e := by simp only [cK]; rw [hk, if_neg hq]; rfl
        refine ⟨?_, fun x hx => ?_⟩
        · rw [h2, ih1]; simp only [mCnt]; rw [if_pos h5]; simp only [cK]; rw [if_neg hq]; rfl
        · rw [h2]; simp only [mCnt]; rw [if_neg (fun z => hx (z.symm.trans h5)), ih2 x hx]; rfl
    · have hk : kp e = true := by rw [hkp, decide_eq_false h5]; rfl
      have h2 : cK kp (e + 1) = cK kp e + 1 := by simp only [cK]; rw [if_pos hk]
      have h3 : A2 5 (cK kp e) = A 5 e := (hc 5 e (by decide) (by decide) (by omega) hk).trans (hT e (by omega))
      refine ⟨?_, fun x hx => ?_⟩
      · rw [h2]; simp only [mCnt]; rw [h3, if_neg h5, ih1]; rfl
      · rw [h2]; simp only [mCnt]; rw [h3, ih2 x hx]
set_option maxHeartbeats 1000000 in
theorem Rel_comp {S B : Nat} {V : Nat → LV} {A A2 T : Nat → Nat → Int32} {kp q : Nat → Bool} {i en : Nat} {v : LV} (hR : Rel S B V A en) (hi : i < 4) (hkp : ∀ e, kp e = !(decide (A 5 e = nI i) && !(q (mCnt (A 5) (nI i) e)))) (hT : ∀ k e, 5 ≤ k → k ≤ 7 → T k e = A k e) (hT2 : ∀ k e, 5 ≤ k → k ≤ 9 → ¬ A 5 e = nI i → T k e = A k e) (hc : mComp T A2 kp en)
    (h0 : A2 0 = upd (A 0) i (nI v.2.1)) (h1 : ∀ j k, j < 4 → ¬ j = i → k < 60 → A2 1 (60 * j + k) = A 1 (60 * j + k) ∧ A2 2 (60 * j + k) = A 2 (60 * j + k)) (h1i : ∀ k, k < v.2.1 → A2 1 (60 * i + k) = v.1 0 k ∧ A2 2 (60 * i + k) = v.1 1 k) (h3 : A2 3 = A 3) (hcm : v.2.2.2 = (V i).2.2.2) (hent : v.2.2.1 = cK q (V i).2.2.1)
    (hrow : ∀ j, j < (V i).2.2.1 → q j = true → v.1 2 (cK q j) = (V i).1 2 j ∧ v.1 3 (cK q j) = (V i).1 3 j)
    (h8 : ∀ e, e < en → A 5 e = nI i → ∀ j, j = mCnt (A 5) (nI i) e → q j = true → T 8 e = v.1 0 (tn (v.1 4 (cK q j))) ∧ T 9 e = v.1 5 (cK q j))
    (hS : lgS S B v) (hI : ∃ h s o, lgI S v h s o) : Rel S B (va_up V i v) A2 (cK kp en) := by
  have hrk := comp_rank hkp (fun e _ => hT 5 e (by decide) (by decide)) hc
  refine ⟨fun x hx => ?_, fun e he => ?_⟩
  · by_cases hxi : x = i
    · subst hxi
      rw [va_up_self]
      obtain ⟨⟨r1, r2, r3, r4, r5⟩, _⟩ := hR.1 x hi
      refine ⟨⟨by rw [h0, pk_us], by rw [h3, r2, hcm], by rw [hent, r3, (hrk en (Nat.le_refl _)).1], h1i, fun e2 he2 h5 j hj => ?_⟩, hS, hI⟩
      obtain ⟨e, he, hke, rfl⟩ := cK_ex en he2
      have a5 : A 5 e = nI x := by rw [← hT 5 e (by decide) (by decide), ← hc 5 e (by decide) (by decide) he hke]; exact h5
      have hq : q (mCnt (A 5) (nI x) e) = true := by
        have := hkp e
        rw [hke, decide_eq_true a5, Bool.true_and, Bool.not_not] at this
        exact this.symm
      rw [(hrk e (by omega)).1] at hj
      subst hj
      obtain ⟨w1, w2⟩ := hrow _ (by rw [r3]; exact mCnt_lt he a5) hq
      obtain ⟨s1, s2, s3, s4⟩ := r5 e he a5 _ rfl
      obtain ⟨t1, t2⟩ := h8 e he a5 _ rfl hq
      rw [hc 6 e (by decide) (by decide) he hke, hc 7 e (by decide) (by decide) he hke, hc 8 e (by decide) (by decide) he hke, hc 9 e (by decide) (by decide) he hke, hT 6 e (by decide) (by decide), hT 7 e (by decide) (by decide), w1, w2]
      exact ⟨s1, s2, t1, t2⟩
    · rw [va_up_ne _ _ hxi]
      obtain ⟨⟨r1, r2, r3, r4, r5⟩, hS2, hI2⟩ := hR.1 x hx
      have hne : ¬ nI x = nI i := fun z => hxi (nI4 hx hi z)
      obtain ⟨h9, s9, o9, hI9⟩ := id hI2
      have hns := hI9.1.1
      refine ⟨⟨by rw [h0, pk_un hxi]; exact r1, by rw [h3]; exact r2, by rw [r3, (hrk en (Nat.le_refl _)).2 _ hne], fun k hk => ?_, fun e2 he2 h5 j hj => ?_⟩, hS2, hI2⟩
      · obtain ⟨q1, q2⟩ := h1 x k hx hxi (by omega)
        rw [q1, q2]; exact r4 k hk
      · obtain ⟨e, he, hke, rfl⟩ := cK_ex en he2
        have a5 : A 5 e = nI x := by rw [← hT 5 e (by decide) (by decide), ← hc 5 e (by decide) (by decide) he hke]; exact h5
        have a6 : ¬ A 5 e = nI i := fun z => hne (a5.symm.trans z)
        rw [(hrk e (by omega)).2 _ hne] at hj
        rw [hc 6 e (by decide) (by decide) he hke, hc 7 e (by decide) (by decide) he hke, hc 8 e (by decide) (by decide) he hke, hc 9 e (by decide) (by decide) he hke, hT2 6 e (by decide) (by decide) a6, hT2 7 e (by decide) (by decide) a6, hT2 8 e (by decide) (by decide) a6, hT2 9 e (by decide) (by decide) a6]
        exact r5 e he a5 j hj
  · obtain ⟨e', he', hke, rfl⟩ := cK_ex en he
    rw [hc 5 e' (by decide) (by decide) he' hke, hT 5 e' (by decide) (by decide)]
    exact hR.2 e' he'
/-! THE POWER -/
theorem pw {tc n : Int32} (h : tc = -1 ∨ 0 ≤ tc) (hn : 0 < n) : whN tc 0 n = spN tc n ∧ whT tc n = spL tc n ∧ (∀ wr, whW tc wr n = wr + spW tc n) ∧ whR tc n = spR tc n ∧ (spL tc n = -1 ∨ 0 ≤ spL tc n) ∧ (spN tc n = 0 ∨ spN tc n = 1) := by
  rcases h with rfl | h
  · have h1 : ¬ spF (-1) n := fun q => absurd q.1 (by decide)
    have h2 : spW (-1) n = n := by unfold spW; rw [if_neg h1]
    refine ⟨?_, ?_, fun wr => ?_, ?_, ?_, ?_⟩
    · unfold whN spN; rw [if_pos rfl, if_neg h1]
    · unfold whT spL; rw [if_pos rfl, if_pos (by decide)]; rfl
    · unfold whW; rw [if_pos rfl, h2]
    · unfold whR spR; rw [if_pos rfl, h2, if_pos rfl]
    · unfold spL; rw [if_pos (by decide)]; exact Or.inl (by decide)
    · unfold spN; rw [if_neg h1]; exact Or.inl rfl
  · have hm : ¬ tc = -1 := fun q => by rw [q] at h; exact absurd h (by decide)
    have h0 : ¬ tc < 0 := i32_nlt.mpr h
    have hD : whD tc n = spW tc n := by
      unfold whD spW
      by_cases q : tc < n
      · rw [if_pos q, if_pos ⟨h, Int32.le_of_lt q⟩]
      · rw [if_neg q]
        by_cases q2 : tc ≤ n
        · rw [if_pos ⟨h, q2⟩]; exact Int32.le_antisymm (i32_nlt.mp q) q2
        · rw [if_neg (fun z => q2 z.2)]
    have hz : tc - spW tc n = 0 ↔ spF tc n := by
      unfold spW
      by_cases q : spF tc n
      · rw [if_pos q]; exact ⟨fun _ => q, fun _ => by grind⟩
      · rw [if_neg q]
        refine ⟨fun z => absurd ⟨h, ?_⟩ q, fun z => absurd z q⟩
        have : tc = n := by grind
        rw [this]; exact Int32.le_refl n
    refine ⟨?_, ?_, fun wr => ?_, ?_, ?_, ?_⟩
    · unfold whN spN; rw [if_neg hm, hD]
      by_cases q : spF tc n
      · rw [if_pos (hz.mpr q), if_pos q]
      · rw [if_neg (fun z => q (hz.mp z)), if_neg q]
    · unfold whT spL; rw [if_neg hm, if_neg h0, hD]
    · unfold whW; rw [if_neg hm, hD]
    · unfold whR spR; rw [if_neg hm, hD]
    · right
      unfold spL; rw [if_neg h0]
      by_cases q : spF tc n
      · rw [hz.mpr q]; decide
      · have q2 : n < tc := i32_nle.mp (fun z => q ⟨h, z⟩)
        unfold spW; rw [if_neg q]
        have a1 := i32_lt.mp q2
        have a2 := i32_lt.mp hn
        have a3 := i32_le.mp h
        have a4 := tc.toInt_lt
        rw [show (0 : Int32).toInt = 0 from rfl] at a2 a3
        apply i32_le.mpr
        rw [show (0 : Int32).toInt = 0 from rfl, Int32.toInt_sub, Int.bmod_eq_of_le (by omega) (by omega)]
        omega
    · unfold spN
      split
      · exact Or.inr rfl
      · exact Or.inl rfl
