theorem loE_all {h : Nat → Nat} {g n : Nat} (hm : ∀ j, j + 1 < n → h j ≤ h (j + 1)) : loE h g n ≤ n ∧ ∀ j, j < n → (j < loE h g n ↔ h j < g) := ⟨cK_le _ _, fun j hj => loE_iff n hm j hj⟩
theorem pk_ini {S B : Nat} {V : Nat → LV} {A : Nat → Nat → Int32} {i en : Nat} (hSB : dkB S B) (hR : Rel S B V A en) (hi : i < 4) {h o : Nat → Nat} (k : Int32) (hns : 0 < (V i).2.1) : PkI S B (V i) h o k 0 (lgBegin (V i) (V 4)) (mkD B S V 4) (pIni A S B) := by
  obtain ⟨⟨r1, r2, r3, r4, r5⟩, ⟨s1, s2⟩, _⟩ := hR.1 i hi
  refine ⟨⟨rfl, rfl, fun t ht => absurd ht (Nat.not_lt_zero t), mkD_agr hSB hR.st 4 (Nat.le_refl 4), fun b hb => ?_⟩, ⟨fun _ => 0, fun _ => 0, fun _ => 0, lgI_nil S _ _ _ _ _, fun _ => Or.inl rfl⟩, Or.inl rfl, rfl, rfl, fun t ht => absurd ht (Nat.not_lt_zero t), ⟨fun t ht => absurd ht (Nat.not_lt_zero t), fun t q ht => absurd ht (Nat.not_lt_zero t)⟩, fun t x ht => absurd ht (Nat.not_lt_zero t), fun x hx hx2 => ?_, fun t ht => absurd ht (Nat.not_lt_zero t)⟩
  · show ¬ mMkA A S B 4 b = 0
    rw [mMkA_hd hb hSB.2.2.1]; decide
  · show ¬ mMkA A S B 4 x = 0
    rw [mMkA_hit hSB.1 (by omega) (j := i) (k := (V i).2.1 - 1) (by rw [hR.tn0 hi]; omega) (by rw [(r4 _ (by omega)).1]; exact hx) 4 hi]
    decide
/-- the walk over what the plan packed finds the draft's segments and places -/
theorem hR_walk {S : Nat} {u w : LV} {hw sw ow : Nat → Nat} {k : Int32} {al : Nat} {pb : Nat → Int32} (hS : S ≤ 16) (hI : lgI S w hw sw ow) (hpb : ∀ t, t < w.2.1 → pb t = w.1 1 t) (hent : w.2.2.1 = cK (qT k) al) (hrow : ∀ t, t < al → qT k t = true → w.1 2 (cK (qT k) t) = u.1 2 t) :
    ∀ j, j ≤ al → (cK (qT k) j = 0 → hR pb (u.1 2) k j = (0, 0)) ∧ (0 < cK (qT k) j → hR pb (u.1 2) k j = (hw (cK (qT k) j - 1), nI (ow (cK (qT k) j - 1) + sw (cK (qT k) j - 1) + 4))) ∧ (j < al → qT k j = true → hN pb (hR pb (u.1 2) k j) = (hw (cK (qT k) j), nI (ow (cK (qT k) j)))) := by
  have hnx : ∀ j, j < al → qT k j = true → (cK (qT k) j = 0 → hR pb (u.1 2) k j = (0, 0)) → (0 < cK (qT k) j → hR pb (u.1 2) k j = (hw (cK (qT k) j - 1), nI (ow (cK (qT k) j - 1) + sw (cK (qT k) j - 1) + 4))) → hN pb (hR pb (u.1 2) k j) = (hw (cK (qT k) j), nI (ow (cK (qT k) j))) := by
    intro j hj hq h1 h2
    have hlt : cK (qT k) j < w.2.2.1 := by rw [hent]; exact cK_lt hj hq
    by_cases hz : cK (qT k) j = 0
    · rw [h1 hz, hz]
      obtain ⟨l1, l2, l3, _⟩ := hI.2.2.2.1 (by omega)
      obtain ⟨f, f1, f2, f3⟩ := hI.strict (w.2.2.1 - 1) 0 (by omega)
      have e := (hI.2.1 0 (by omega)).2.2.2
      rw [l1] at f1
      unfold hN
      rw [if_neg (by
        show ¬ (0 : Int32) = pb 0
        rw [hpb 0 (by omega), f1]
        intro z
        have := (nI_eq (a := 0) (by decide) (by omega)).mp z
        omega), l1, l2]
      rfl
    · rw [h2 (by omega)]
      have hb := hI.1.1
      have et := hI.2.1 (cK (qT k) j - 1) (by omega)
      have hc := hI.2.2.1 (cK (qT k) j - 1) (by omega)
      rw [show cK (qT k) j - 1 + 1 = cK (qT k) j by omega] at hc
      unfold hN
      dsimp only
      rw [hpb _ et.2.2.2.1]
      rcases hc with ⟨c1, c2⟩ | ⟨c1, c2, c3⟩
      · obtain ⟨f, f1, f2, f3⟩ := hI.strict (w.2.2.1 - cK (qT k) j - 1) (cK (qT k) j) (by omega)
        rw [c1] at f1
        rw [f1, if_neg (fun z => by
          have := (nI_eq (by omega) (by omega)).mp z
          omega), c1, c2]
      · rw [c3, if_pos rfl, c1, c2]; rfl
  intro j
  induction j with
  | zero => exact fun _ => ⟨fun _ => rfl, fun z => absurd z (Nat.not_lt_zero 0), fun hj hq => hnx 0 hj hq (fun _ => rfl) (fun z => absurd z (Nat.not_lt_zero 0))⟩
  | succ j ih =>
    intro hj
    obtain ⟨i1, i2, i3⟩ := ih (by omega)
    have hboth : (cK (qT k) (j + 1) = 0 → hR pb (u.1 2) k (j + 1) = (0, 0)) ∧ (0 < cK (qT k) (j + 1) → hR pb (u.1 2) k (j + 1) = (hw (cK (qT k) (j + 1) - 1), nI (ow (cK (qT k) (j + 1) - 1) + sw (cK (qT k) (j + 1) - 1) + 4))) := by
      by_cases hq : nI j - nI j / k * k = 0
      · have hqf : qT k j = false := by unfold qT; rw [decide_eq_true hq]; rfl
        have hc : cK (qT k) (j + 1) = cK (qT k) j := by simp only [cK]; rw [hqf]; rfl
        have hr : hR pb (u.1 2) k (j + 1) = hR pb (u.1 2) k j := by simp only [hR]; rw [if_pos hq]
        rw [hc, hr]; exact ⟨i1, i2⟩
      · have hqt : qT k j = true := by unfold qT; rw [decide_eq_false hq]; rfl
        have hc : cK (qT k) (j + 1) = cK (qT k) j + 1 := by simp only [cK]; rw [if_pos hqt]
        have hr : hR pb (u.1 2) k (j + 1) = ((hN pb (hR pb (u.1 2) k j)).1, (hN pb (hR pb (u.1 2) k j)).2 + (u.1 2 j + 4)) := by simp only [hR]; rw [if_neg hq]
        have hlt : cK (qT k) j < w.2.2.1 := by rw [hent]; exact cK_lt (by omega) hqt
        rw [hc, hr, i3 (by omega) hqt, show cK (qT k) j + 1 - 1 = cK (qT k) j by omega]
        refine ⟨fun z => by omega, fun _ => ?_⟩
        dsimp only
        rw [← hrow j (by omega) hqt, (hI.2.1 _ hlt).2.1, ← Int32.add_assoc, nI_p4]
    exact ⟨hboth.1, hboth.2, fun h1 h2 => hnx (j + 1) h1 h2 hboth.1 hboth.2⟩
theorem mSt_in (f : Nat → Int32) (b : Nat) (h : Nat → Int32) : ∀ n k, k < n → mSt f b h n (b + k) = h k
  | 0, _, q => absurd q (Nat.not_lt_zero _)
  | n + 1, k, q => by
    simp only [mSt]
    by_cases hk : k = n
    · subst hk; rw [pk_us]
    · rw [pk_un (by omega)]; exact mSt_in f b h n k (by omega)
theorem mSt_out (f : Nat → Int32) (b : Nat) (h : Nat → Int32) : ∀ n q, (q < b ∨ b + n ≤ q) → mSt f b h n q = f q
  | 0, _, _ => rfl
  | n + 1, q, z => by
    simp only [mSt]
    rw [pk_un (by omega)]; exact mSt_out f b h n q (by omega)
/-- the entries that stay: the closed ones that thinning keeps, and the open segment's -/
def qS (k : Int32) (al : Nat) : Nat → Bool := fun j => !(decide (j < al) && decide (nI j - nI j / k * k = 0))
theorem qS_lo (k : Int32) (al : Nat) : ∀ j, j ≤ al → cK (qS k al) j = cK (qT k) j := fun j hj => cK_congr j (fun t ht => by unfold qS qT; rw [decide_eq_true (show t < al by omega), Bool.true_and])
theorem qS_hi (k : Int32) (al : Nat) : ∀ d, cK (qS k al) (al + d) = cK (qT k) al + d
  | 0 => qS_lo k al al (Nat.le_refl _)
  | d + 1 => by
    show cK (qS k al) (al + d + 1) = _
    simp only [cK]
    rw [qS_hi k al d, if_pos (by unfold qS; rw [decide_eq_false (show ¬ al + d < al by omega)]; rfl)]
    omega
set_option maxHeartbeats 1000000 in
theorem th_new {S B : Nat} {V : Nat → LV} {A A3 : Nat → Nat → Int32} {i en : Nat} (hSB : dkB S B) (hRl : Rel S B V A en) (hi : i < 4) {h s o : Nat → Nat} (hI : lgI S (V i) h s o) (k : Int32) (hal : 0 < loE h ((V i).2.1 - 1) (V i).2.2.1) {w : LV} {bu : Nat → Int32} {P : PS} (hP : PkI S B (V i) h o k (loE h ((V i).2.1 - 1) (V i).2.2.1) w bu P)
    (hA3 : mHap (mPA A P) A3 i (loE h ((V i).2.1 - 1) (V i).2.2.1) P.2.2.2.2 k ((V i).1 2) en) :
    Rel S B (va_up V i (lgTk (V i) (nI (V i).2.1 - 1) (w, -1) (V i).2.2.1).1) A3 (cK (kpT (mPA A P) i (loE h ((V i).2.1 - 1) (V i).2.2.1) k) en) := by
  have htn := hRl.tn0 hi
  obtain ⟨⟨r1, r2, r3, r4, r5⟩, ⟨s1, s2⟩, _⟩ := hRl.1 i hi
  have hb := hI.1
  obtain ⟨hle, hlo⟩ := loE_all (h := h) (g := (V i).2.1 - 1) (n := (V i).2.2.1) (fun j hj => hI.mono hj)
  have hpos : 0 < (V i).2.2.1 := by omega
  obtain ⟨l1, l2, l3, l4⟩ := hI.2.2.2.1 hpos
  obtain ⟨⟨p1, p2, p3, p4, p5⟩, ⟨hw, sw, ow, a2, _⟩, a4, a5, a6, a7, ⟨b1, b2⟩, b3, b4, b5⟩ := hP
  obtain ⟨g0, g1, g2, g3, gc⟩ := hA3
  have h2ns : 2 ≤ (V i).2.1 := by have := (hlo 0 hpos).mp hal; omega
  have hll : loE h ((V i).2.1 - 1) (V i).2.2.1 < (V i).2.2.1 := by
    rcases Nat.lt_or_ge ((V i).2.2.1 - 1) (loE h ((V i).2.1 - 1) (V i).2.2.1) with z | z
    · have := (hlo _ (by omega)).mp z; omega
    · omega
  have hcke := cK_le (qT k) (loE h ((V i).2.1 - 1) (V i).2.2.1)
  have hT := (tk_all (g := (V i).2.1 - 1) hI a2 (by omega) (by omega) (by omega) (V i).2.2.1 (Nat.le_refl _)).2 hll
  rw [nI_m1 (show 0 < (V i).2.1 by omega)]
  obtain ⟨_, t1, t2, t3, ⟨h', s', o', tI, _⟩, t5, t6, t7, t8, t9, t10⟩ := hT
  generalize (lgTk (V i) (nI ((V i).2.1 - 1)) (w, -1) (V i).2.2.1).1 = R at *
  have hwalk := hR_walk (u := V i) (k := k) (al := loE h ((V i).2.1 - 1) (V i).2.2.1) (pb := P.2.2.2.1) hSB.2.1 a2 (fun t ht => (p3 t ht).2) a5 (fun t ht hq => (a7 t ht hq).1)
  generalize hlg : loE h ((V i).2.1 - 1) (V i).2.2.1 = al at *
  have hl3 : h ((V i).2.2.1 - 1) - ((V i).2.1 - 1) = 0 := by omega
  rw [hl3] at t1 t8 t10
  have t8 : R.1 0 w.2.1 = (V i).1 0 ((V i).2.1 - 1) := t8 0 (Nat.le_refl _)
  have t10 : R.1 1 w.2.1 = (V i).1 1 ((V i).2.1 - 1) := t10.trans l4.symm
  have ho : ∀ j, al ≤ j → j < (V i).2.2.1 → h j = (V i).2.1 - 1 := fun j h1 h2 => by
    have h3 := (hI.2.1 j h2).2.2.2.1
    rcases Nat.lt_or_ge (h j) ((V i).2.1 - 1) with z | z
    · have := (hlo j h2).mpr z; omega
    · omega
  refine Rel_comp (q := qS k al) (T := mTh (mPA A P) i al k ((V i).1 2)) hRl hi (fun e => ?_) (fun k5 e q1 q2 => ?_) (fun k5 e q1 q2 a5 => ?_) gc ?_ (fun j k5 hj hji hk => ?_) (fun k5 hk => ?_) g3 ?_ ?_ (fun j hj hq => ?_) (fun e he a5' j hj hq => ?_) ⟨fun k5 hk => ?_, fun k5 q hk hq => ?_⟩ ⟨h', s', o', tI⟩
  · show kpT (mPA A P) i al k e = _
    unfold kpT qS mvE
    show (!(decide (A 5 e = nI i ∧ mCnt (A 5) (nI i) e < al) && decide (nI (mCnt (A 5) (nI i) e) - nI (mCnt (A 5) (nI i) e) / k * k = 0))) = _
    by_cases z1 : A 5 e = nI i
    · by_cases z2 : mCnt (A 5) (nI i) e < al
      · by_cases z3 : nI (mCnt (A 5) (nI i) e) - nI (mCnt (A 5) (nI i) e) / k * k = 0
        · rw [decide_eq_true z1, decide_eq_true z2, decide_eq_true z3, decide_eq_true ⟨z1, z2⟩]; rfl
        · rw [decide_eq_true z1, decide_eq_true z2, decide_eq_false z3, decide_eq_true ⟨z1, z2⟩]; rfl
      · rw [decide_eq_true z1, decide_eq_false z2, decide_eq_false (fun z => z2 z.2), Bool.false_and]; rfl
    · rw [decide_eq_false z1, decide_eq_false (fun z => z1 z.1), Bool.false_and, Bool.false_and]
  · rcases (show k5 = 5 ∨ k5 = 6 ∨ k5 = 7 by omega) with rfl | rfl | rfl <;> rfl
  · rw [mTh_ne (A := mPA A P) (fun z => a5 z.1)]
    rcases (show k5 = 5 ∨ k5 = 6 ∨ k5 = 7 ∨ k5 = 8 ∨ k5 = 9 by omega) with rfl | rfl | rfl | rfl | rfl <;> rfl
  · rw [g0, t1, p2]; rfl
  · rw [g1, g2, p2]
    exact ⟨by rw [pk_un (by omega), mSt_out _ _ _ _ _ (by omega)]; rfl, by rw [pk_un (by omega), mSt_out _ _ _ _ _ (by omega)]; rfl⟩
  · rw [t1] at hk
    rw [g1, g2, p2]
    by_cases hkw : k5 = w.2.1
    · subst hkw
      rw [pk_us, pk_us, t8, t10]
      show A 1 (60 * i + (tn (A 0 i) - 1)) = _ ∧ A 2 (60 * i + (tn (A 0 i) - 1)) = _
      rw [htn]; exact r4 _ (by omega)
    · rw [pk_un (by omega), pk_un (by omega), mSt_in _ _ _ _ _ (by omega), mSt_in _ _ _ _ _ (by omega), (t7 k5 (by omega)).1, (t7 k5 (by omega)).2]
      exact p3 k5 (by omega)
  · rw [t3]; exact a6
  · rw [t2, a5, show (V i).2.2.1 = al + ((V i).2.2.1 - al) by omega, qS_hi]; omega
  · by_cases hja : j < al
    · have hqt : qT k j = true := by
        unfold qS at hq; unfold qT
        rw [decide_eq_true hja, Bool.true_and] at hq; exact hq
      have hcl := cK_lt hja hqt
      rw [qS_lo k al j (by omega), t5 2 _ (by decide) (by decide) (by omega), t5 3 _ (by decide) (by decide) (by omega)]
      exact a7 j hja hqt
    · have h9 := t6 j (by omega) hj
      rw [show j = al + (j - al) by omega, qS_hi, ← a5, ← show j = al + (j - al) by omega]
      exact ⟨h9.1, h9.2.1⟩
  · have hjl : j < (V i).2.2.1 := by rw [r3, hj]; exact mCnt_lt he a5'
    obtain ⟨c1, c2, c3, c4⟩ := r5 e he a5' j hj
    by_cases hja : j < al
    · have hqt : qT k j = true := by
        unfold qS at hq; unfold qT
        rw [decide_eq_true hja, Bool.true_and] at hq; exact hq
      have hcl := cK_lt hja hqt
      have hmv : mvE (mPA A P) i al e := ⟨a5', by show mCnt (A 5) (nI i) e < al; rw [← hj]; exact hja⟩
      have hT8 : mTh (mPA A P) i al k ((V i).1 2) 8 e = P.2.2.1 (hN P.2.2.2.1 (hR P.2.2.2.1 ((V i).1 2) k j)).1 := by
        show mT8 (mPA A P) i al k ((V i).1 2) e = _
        unfold mT8; rw [if_pos hmv, hj]; rfl
      have hT9 : mTh (mPA A P) i al k ((V i).1 2) 9 e = (hN P.2.2.2.1 (hR P.2.2.2.1 ((V i).1 2) k j)).2 := by
        show mT9 (mPA A P) i al k ((V i).1 2) e = _
        unfold mT9; rw [if_pos hmv, hj]; rfl
      obtain ⟨d1, d2, d3, d4, _⟩ := a2.2.1 (cK (qT k) j) (by omega)
      have hwb := a2.1.1
      rw [hT8, hT9, (hwalk j (by omega)).2.2 hja hqt, qS_lo k al j (by omega), t5 4 _ (by decide) (by decide) (by omega), t5 5 _ (by decide) (by decide) (by omega), d1, tn_nI (by omega), (t7 _ d4).1, d3]
      exact ⟨(p3 _ d4).1, rfl⟩
    · have hmv : ¬ mvE (mPA A P) i al e := fun z => hja (by have := z.2; rw [hj]; exact this)
      obtain ⟨m1, m2, m3, m4⟩ := t6 j (by omega) hjl
      have hjo := ho j (by omega) hjl
      have hwb := a2.1.1
      rw [show cK (qS k al) j = w.2.2.1 + (j - al) by rw [a5, ← qS_hi k al (j - al), show al + (j - al) = j by omega]]
      rw [mTh_ne hmv, mTh_ne hmv, m3, m4, hjo, Nat.sub_self, Nat.add_zero, tn_nI (by omega), t8]
      show A 8 e = _ ∧ A 9 e = _
      rw [c3, c4, (hI.2.1 j hjl).1, tn_nI (by omega), hjo]
      exact ⟨rfl, rfl⟩
  · rw [t1] at hk
    by_cases hkw : k5 = w.2.1
    · subst hkw; rw [t8]; exact s1 _ (by omega)
    · rw [(t7 k5 (by omega)).1]; exact b1 k5 (by omega)
  · rw [t1] at hk hq
    have hne := b5
    by_cases hkw : k5 = w.2.1
    · by_cases hqw : q = w.2.1
      · intro _; omega
      · rw [hkw, t8, (t7 q (by omega)).1]
        intro z; exact absurd z.symm (hne q (by omega))
    · by_cases hqw : q = w.2.1
      · rw [hqw, t8, (t7 k5 (by omega)).1]
        intro z; exact absurd z (hne k5 (by omega))
      · rw [(t7 k5 (by omega)).1, (t7 q (by omega)).1]; exact b2 k5 q (by omega) (by omega)
