/-! CLOSED ENTRIES, RETENTION -/
theorem in_seg {S B : Nat} {V : Nat → LV} {A : Nat → Nat → Int32} {i en : Nat} (hR : Rel S B V A en) (hi : i < 4) {h s o : Nat → Nat} (hI : lgI S (V i) h s o) {k : Nat} (hk : k < (V i).2.1) : mIn A (nI i) (A 1 (60 * i + k)) en = cK (fun j => decide (h j = k)) (V i).2.2.1 := by
  obtain ⟨⟨r1, r2, r3, r4, r5⟩, ⟨s1, s2⟩, _⟩ := hR.1 i hi
  rw [r3]
  refine mIn_rank (fun e he a5 => ?_)
  have hj : mCnt (A 5) (nI i) e < (V i).2.2.1 := by rw [r3]; exact mCnt_lt he a5
  obtain ⟨q1, q2, q3, q4, _⟩ := hI.2.1 _ hj
  have hb := hI.1.1
  rw [(r5 e he a5 _ rfl).2.2.1, (r4 k hk).1, q1, tn_nI (by omega), decide_eq_true_eq]
  exact ⟨fun z => s2 _ _ q4 hk z, fun z => by rw [z]⟩
theorem lgCl_eq {S : Nat} {v : LV} {h s o : Nat → Nat} (hI : lgI S v h s o) : ∀ n, n ≤ v.2.2.1 → lgCl v n = loE h (v.2.1 - 1) n
  | 0, _ => rfl
  | n + 1, hn => by
    have ih := lgCl_eq hI n (by omega)
    obtain ⟨q1, _, _, q4, _⟩ := hI.2.1 n (by omega)
    have hb := hI.1.1
    simp only [lgCl]
    unfold loE at ih ⊢
    simp only [cK]
    rw [ih, q1, nI_m1 (by omega)]
    have hc : nI (h n) < nI (v.2.1 - 1) ↔ h n < v.2.1 - 1 := nI_ltI (by omega) (by omega)
    by_cases z : h n < v.2.1 - 1
    · rw [if_pos (hc.mpr z), if_pos (decide_eq_true z)]
    · rw [if_neg (fun y => z (hc.mp y)), if_neg (by simp [z])]
theorem cl_eq {S B : Nat} {V : Nat → LV} {A : Nat → Nat → Int32} {i en : Nat} (hR : Rel S B V A en) (hi : i < 4) {h s o : Nat → Nat} (hI : lgI S (V i) h s o) : mCl A i en = nI (lgCl (V i) (V i).2.2.1) := by
  have htn := hR.tn0 hi
  obtain ⟨⟨r1, r2, r3, r4, r5⟩, ⟨s1, s2⟩, _⟩ := hR.1 i hi
  have hb := hI.1
  unfold mCl
  by_cases h0 : (V i).2.1 = 0
  · have he : (V i).2.2.1 = 0 := by
      rcases Nat.eq_zero_or_pos (V i).2.2.1 with z | z
      · exact z
      · have := (hI.2.2.2.1 z).2.2.1; omega
    rw [r1, h0, if_pos (show nI 0 = (0 : Int32) from rfl), he]; rfl
  · rw [if_neg (show ¬ A 0 i = (0 : Int32) from fun z => h0 ((nI_eq (b := 0) (by omega) (by decide)).mp (r1.symm.trans z))), htn, in_seg hR hi hI (by omega), ← r3, lgCl_eq hI _ (Nat.le_refl _)]
    have hall : loE h ((V i).2.1 - 1 + 1) (V i).2.2.1 = (V i).2.2.1 := cK_all _ (fun j hj => decide_eq_true (by have := (hI.2.1 j hj).2.2.2.1; omega))
    have hs := loE_succ h ((V i).2.1 - 1) (V i).2.2.1
    rw [hall] at hs
    rw [pk_sub (by omega)]
    congr 1
    omega
theorem lgPast_le (v : LV) (b : Int32) : ∀ d k, lgPast v b d k ≤ k + d ∧ k ≤ lgPast v b d k
  | 0, k => ⟨Nat.le_refl _, Nat.le_refl _⟩
  | d + 1, k => by
    simp only [lgPast]
    split
    · have := lgPast_le v b d (k + 1); omega
    · exact ⟨by omega, Nat.le_refl _⟩
theorem rt_eq {S B : Nat} {V : Nat → LV} {A : Nat → Nat → Int32} {i en : Nat} (hR : Rel S B V A en) (hi : i < 4) {h s o : Nat → Nat} (hI : lgI S (V i) h s o) (n : Int32) : ∀ d k, k + d + 1 ≤ (V i).2.1 → mRt A i en n d k (lgSm ((V i).1 1) k ((V i).2.1 - k)) (loE h k (V i).2.2.1) = (lgPast (V i) n d k, loE h (lgPast (V i) n d k) (V i).2.2.1)
  | 0, _, _ => rfl
  | d + 1, k, hk => by
    have ih := rt_eq hR hi hI n d (k + 1) (by omega)
    obtain ⟨⟨r1, r2, r3, r4, r5⟩, ⟨s1, s2⟩, _⟩ := hR.1 i hi
    have hsm : lgSm ((V i).1 1) k ((V i).2.1 - k) - A 2 (60 * i + k) = lgSm ((V i).1 1) (k + 1) ((V i).2.1 - (k + 1)) := by
      rw [(r4 k (by omega)).2, show (V i).2.1 - k = ((V i).2.1 - (k + 1)) + 1 by omega, lgSm_head]
      grind
    simp only [mRt, lgPast]
    rw [hsm, in_seg hR hi hI (by omega), ← loE_succ]
    by_cases z : n ≤ lgSm ((V i).1 1) (k + 1) ((V i).2.1 - (k + 1))
    · rw [if_pos z, if_pos z]; exact ih
    · rw [if_neg z, if_neg z]
theorem rv_eq {S B : Nat} {V : Nat → LV} {A : Nat → Nat → Int32} {i en : Nat} (hR : Rel S B V A en) (hi : i < 4) {h s o : Nat → Nat} (hI : lgI S (V i) h s o) (n : Int32) : mRV A i en n = (lgPast (V i) n ((V i).2.1 - 1) 0, loE h (lgPast (V i) n ((V i).2.1 - 1) 0) (V i).2.2.1) := by
  have htn := hR.tn0 hi
  obtain ⟨⟨r1, r2, r3, r4, r5⟩, ⟨s1, s2⟩, _⟩ := hR.1 i hi
  unfold mRV
  rw [htn]
  have h0 : loE h 0 (V i).2.2.1 = 0 := cK_none _ (fun j _ => by simp)
  have hs : lgSm (A 2) (60 * i) (V i).2.1 = lgSm ((V i).1 1) 0 (V i).2.1 := lgSm_congr _ (fun k hk => by rw [Nat.zero_add]; exact (r4 k hk).2)
  rw [hs]
  by_cases hz : (V i).2.1 = 0
  · rw [hz]; show (0, 0) = (0, loE h 0 (V i).2.2.1); rw [h0]
  · have := rt_eq hR hi hI n ((V i).2.1 - 1) 0 (by omega)
    rw [h0] at this
    exact this
theorem mSh_in (f : Nat → Int32) (b g : Nat) : ∀ n k, k < n → mSh f b g n (b + k) = f (b + (g + k))
  | 0, _, h => absurd h (Nat.not_lt_zero _)
  | n + 1, k, h => by
    simp only [mSh]
    by_cases hk : k = n
    · subst hk; rw [pk_us, Nat.add_assoc]
    · rw [pk_un (by omega)]; exact mSh_in f b g n k (by omega)
theorem mSh_out (f : Nat → Int32) (b g : Nat) : ∀ n q, (q < b ∨ b + n ≤ q) → mSh f b g n q = f q
  | 0, _, _ => rfl
  | n + 1, q, h => by
    simp only [mSh]
    rw [pk_un (by omega)]; exact mSh_out f b g n q (by omega)
set_option maxHeartbeats 1000000 in
theorem rt_new {S B : Nat} {V : Nat → LV} {A A2 : Nat → Nat → Int32} {i en g : Nat} (hR : Rel S B V A en) (hi : i < 4) {h s o : Nat → Nat} (hI : lgI S (V i) h s o) (hg : g < (V i).2.1)
    (h0 : A2 0 = upd (A 0) i (A 0 i - nI g)) (h1 : A2 1 = mSh (A 1) (60 * i) g ((V i).2.1 - g)) (h2 : A2 2 = mSh (A 2) (60 * i) g ((V i).2.1 - g)) (h3 : A2 3 = A 3) (hc : mComp A A2 (kpR A i (loE h g (V i).2.2.1)) en) :
    Rel S B (va_up V i (rtW V (V i) g)) A2 (cK (kpR A i (loE h g (V i).2.2.1)) en) := by
  obtain ⟨⟨r1, r2, r3, r4, r5⟩, ⟨s1, s2⟩, _⟩ := hR.1 i hi
  have hb := hI.1
  have hpos := hI.pos (by omega)
  have hlo := fun j hj => loE_iff (h := h) (g := g) (V i).2.2.1 (fun j hj => hI.mono hj) j hj
  obtain ⟨l1, l2, l3, l4⟩ := hI.2.2.2.1 hpos
  have hll : loE h g (V i).2.2.1 < (V i).2.2.1 := by
    rcases Nat.lt_or_ge ((V i).2.2.1 - 1) (loE h g (V i).2.2.1) with z | z
    · have := (hlo _ (by omega)).mp z; omega
    · omega
  have hT := (tk_all (w := lgBegin (V i) (V 4)) hI (lgI_nil S _ _ (fun _ => 0) (fun _ => 0) (fun _ => 0)) (by omega) (by show 0 + ((V i).2.1 - g) ≤ 60; omega) (by show 0 + ((V i).2.2.1 - loE h g (V i).2.2.1) ≤ 512; omega) (V i).2.2.1 (Nat.le_refl _)).2 hll
  obtain ⟨_, t1, t2, t3, ⟨h', s', o', tI, _⟩, t5, t6, t7, t8, t9, t10⟩ := hT
  have hw : rtW V (V i) g = (lgTk (V i) (nI g) (lgBegin (V i) (V 4), -1) (V i).2.2.1).1 := rfl
  rw [← hw] at t1 t2 t3 tI t5 t6 t7 t8 t9 t10
  generalize rtW V (V i) g = R at *
  generalize hlg : loE h g (V i).2.2.1 = lo at *
  have t1 : R.2.1 = (V i).2.1 - g := by rw [t1]; show 0 + (h ((V i).2.2.1 - 1) - g + 1) = _; omega
  have t2 : R.2.2.1 = (V i).2.2.1 - lo := by rw [t2]; show 0 + ((V i).2.2.1 - lo) = _; omega
  have t6 : ∀ j, lo ≤ j → j < (V i).2.2.1 → R.1 2 (j - lo) = (V i).1 2 j ∧ R.1 3 (j - lo) = (V i).1 3 j ∧ R.1 4 (j - lo) = nI (h j - g) ∧ R.1 5 (j - lo) = (V i).1 5 j := fun j q1 q2 => by
    have := t6 j q1 q2
    rw [show (lgBegin (V i) (V 4)).2.2.1 + (j - lo) = j - lo from Nat.zero_add _, show (lgBegin (V i) (V 4)).2.1 + (h j - g) = h j - g from Nat.zero_add _] at this
    exact this
  have t8 : ∀ k, k < (V i).2.1 - g → R.1 0 k = (V i).1 0 (g + k) := fun k hk => by
    have := t8 k (by omega)
    rw [show (lgBegin (V i) (V 4)).2.1 + k = k from Nat.zero_add _] at this
    exact this
  have t9 : ∀ k, k < (V i).2.1 - g → R.1 1 k = (V i).1 1 (g + k) := fun k hk => by
    by_cases hkl : k = h ((V i).2.2.1 - 1) - g
    · have h9 := t10
      rw [show (lgBegin (V i) (V 4)).2.1 + (h ((V i).2.2.1 - 1) - g) = h ((V i).2.2.1 - 1) - g from Nat.zero_add _, ← l4, ← hkl] at h9
      rw [h9, show g + k = (V i).2.1 - 1 by omega]
    · have := t9 k (by omega)
      rw [show (lgBegin (V i) (V 4)).2.1 + k = k from Nat.zero_add _] at this
      exact this
  refine Rel_comp (q := fun j => decide (lo ≤ j)) (T := A) hR hi (fun e => ?_) (fun _ _ _ _ => rfl) (fun _ _ _ _ _ => rfl) hc ?_ (fun j k hj hji hk => ?_) (fun k hk => ?_) h3 t3 ?_ (fun j hj hq => ?_) (fun e he a5 j hj hq => ?_) ⟨fun k hk => ?_, fun k q hk hq => ?_⟩ ⟨h', s', o', tI⟩
  · unfold kpR
    congr 1
    by_cases z : mCnt (A 5) (nI i) e < lo
    · rw [decide_eq_true z, decide_eq_false (show ¬ lo ≤ mCnt (A 5) (nI i) e by omega)]; rfl
    · rw [decide_eq_false z, decide_eq_true (show lo ≤ mCnt (A 5) (nI i) e by omega)]; rfl
  · rw [h0, r1, t1, pk_sub (by omega)]
  · rw [h1, h2]
    exact ⟨mSh_out _ _ _ _ _ (by omega), mSh_out _ _ _ _ _ (by omega)⟩
  · rw [t1] at hk
    rw [h1, h2, mSh_in _ _ _ _ _ hk, mSh_in _ _ _ _ _ hk, t8 k hk, t9 k hk]
    exact r4 (g + k) (by omega)
  · rw [t2, cK_ge]
  · have hq := of_decide_eq_true hq
    have := t6 j hq hj
    rw [cK_ge]; exact ⟨this.1, this.2.1⟩
  · have hq := of_decide_eq_true hq
    have hjl : j < (V i).2.2.1 := by rw [r3, hj]; exact mCnt_lt he a5
    obtain ⟨a1, a2, a3, a4⟩ := r5 e he a5 j hj
    obtain ⟨b1, b2, b3, b4⟩ := t6 j hq hjl
    obtain ⟨c1, c2, c3, c4, _⟩ := hI.2.1 j hjl
    have hgj : g ≤ h j := by
      rcases Nat.lt_or_ge (h j) g with z | z
      · have := (hlo j hjl).mpr z; omega
      · exact z
    rw [cK_ge, a3, a4, b3, b4, c1, tn_nI (by omega), tn_nI (by omega), t8 _ (by omega), show g + (h j - g) = h j by omega]
    exact ⟨rfl, rfl⟩
  · rw [t1] at hk
    rw [t8 k hk]; exact s1 _ (by omega)
  · rw [t1] at hk hq
    rw [t8 k hk, t8 q hq]
    intro z
    have := s2 _ _ (by omega) (by omega) z
    omega
