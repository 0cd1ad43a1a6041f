theorem pk_skip {S B : Nat} {u : LV} {h s o : Nat → Nat} {k : Int32} {j : Nat} {w : LV} {bu : Nat → Int32} {P : PS} (hU : lgI S u h s o) (hq : qT k j = false) (hj : j < u.2.2.1) (hP : PkI S B u h o k j w bu P) : PkI S B u h o k (j + 1) w bu P := by
  obtain ⟨a1, ⟨hw, sw, ow, a2, a3⟩, a4, a5, a6, a7, a8⟩ := hP
  refine ⟨a1, ⟨hw, sw, ow, a2, fun hj2 => ?_⟩, a4, ?_, a6, fun t ht hqt => ?_, a8⟩
  · have h1 := a3 hj
    rcases hU.2.2.1 j hj2 with ⟨q1, q2⟩ | ⟨q1, q2, q3⟩
    · rw [q1, q2]
      rcases h1 with z | z | z
      · exact Or.inl z
      · exact Or.inr (Or.inl z)
      · exact Or.inr (Or.inr ⟨z.1, by omega⟩)
    · rcases h1 with z | z | z
      · exact Or.inl z
      · exact Or.inr (Or.inl (by omega))
      · exact Or.inr (Or.inl (by omega))
  · rw [a5]; simp only [cK]; rw [hq]; rfl
  · by_cases htj : t = j
    · rw [htj, hq] at hqt; cases hqt
    · exact a7 t (by omega) hqt
set_option maxHeartbeats 1000000 in
theorem pk_step {S B : Nat} {u : LV} {h s o : Nat → Nat} {k : Int32} {j : Nat} {w : LV} {bu : Nat → Int32} {P : PS} (hSB : dkB S B) (hU : lgI S u h s o) (hq : qT k j = true) (hj : j < u.2.2.1) (hjc : h j + 1 < u.2.1) (hP : PkI S B u h o k j w bu P) :
    ((pkE B S w bu (u.1 2 j) (u.1 3 j)).1 = 0 ∧ pStep S B (u.1 2 j + 4) P = (0, P.2)) ∨ ((pkE B S w bu (u.1 2 j) (u.1 3 j)).1 = 1 ∧ PkI S B u h o k (j + 1) (pkE B S w bu (u.1 2 j) (u.1 3 j)).2.1 (pkE B S w bu (u.1 2 j) (u.1 3 j)).2.2 (pStep S B (u.1 2 j + 4) P)) := by
  obtain ⟨⟨p1, p2, p3, p4, p5⟩, ⟨hw, sw, ow, a2, a3⟩, a4, a5, a6, a7, ⟨b1, b2⟩, b3, b4, b5⟩ := hP
  obtain ⟨e1, e2, e3, e4, e5, e6, e7⟩ := hU.2.1 j hj
  have hub := hU.1
  have hJ := a3 hj
  have hck : cK (qT k) (j + 1) = cK (qT k) j + 1 := by simp only [cK]; rw [if_pos hq]
  have hw5 : w.2.2.1 < 512 := by rw [a5]; have := cK_le (qT k) j; omega
  have hw6 : w.2.1 < 60 := by omega
  obtain ⟨hS1, hS2, hB1, hB2⟩ := id hSB
  have hfill : 0 < w.2.1 → w.1 1 (w.2.1 - 1) = nI (lstF sw ow w.2.2.1) := fun z => (a2.2.2.2.1 (a2.pos z)).2.2.2
  have hfb : 0 < w.2.1 → lstF sw ow w.2.2.1 ≤ 1024 * S := fun z => by
    have := a2.pos z
    exact (a2.2.1 (w.2.2.1 - 1) (by omega)).2.2.2.2.2.2
  have hcon : (0 < w.2.1 ∧ lgOB w + (u.1 2 j + 4) ≤ nI S * 1024) ↔ (0 < w.2.1 ∧ lstF sw ow w.2.2.1 + (s j + 4) ≤ 1024 * S) := by
    constructor
    · rintro ⟨z1, z2⟩
      have hob : lgOB w = w.1 1 (w.2.1 - 1) := by unfold lgOB; rw [if_neg (by omega)]
      have := hfb z1
      rw [hob, hfill z1, e2, show (4 : Int32) = nI 4 from rfl, nI_add, nI_add, show (1024 : Int32) = nI 1024 from rfl, pk_mul] at z2
      have := (nI_leI (by omega) (by omega)).mp z2
      exact ⟨z1, by omega⟩
    · rintro ⟨z1, z2⟩
      have hob : lgOB w = w.1 1 (w.2.1 - 1) := by unfold lgOB; rw [if_neg (by omega)]
      refine ⟨z1, ?_⟩
      rw [hob, hfill z1, e2, show (4 : Int32) = nI 4 from rfl, nI_add, nI_add, show (1024 : Int32) = nI 1024 from rfl, pk_mul]
      exact (nI_leI (by omega) (by omega)).mpr (by omega)
  have hcon2 : (P.2.2.2.2 = 0 ∨ ¬ P.2.2.2.1 (P.2.2.2.2 - 1) + (u.1 2 j + 4) ≤ 1024 * nI S) ↔ ¬ (0 < w.2.1 ∧ lgOB w + (u.1 2 j + 4) ≤ nI S * 1024) := by
    rw [p2, Int32.mul_comm 1024 (nI S)]
    by_cases hz : w.2.1 = 0
    · exact ⟨fun _ z => by omega, fun _ => Or.inl hz⟩
    · have hob : lgOB w = w.1 1 (w.2.1 - 1) := by unfold lgOB; rw [if_neg hz]
      rw [(p3 (w.2.1 - 1) (by omega)).2, hob]
      exact ⟨fun z y => z.elim hz (fun x => x y.2), fun z => Or.inr (fun x => z ⟨by omega, x⟩)⟩
  by_cases hf : 0 < w.2.1 ∧ lgOB w + (u.1 2 j + 4) ≤ nI S * 1024
  · right
    have hpe : pkE B S w bu (u.1 2 j) (u.1 3 j) = (1, lgPut w (u.1 2 j) (u.1 3 j), bu) := by unfold pkE; rw [if_pos hf]
    have hps : pStep S B (u.1 2 j + 4) P = (1, P.2.1, P.2.2.1, upd P.2.2.2.1 (P.2.2.2.2 - 1) (P.2.2.2.1 (P.2.2.2.2 - 1) + (u.1 2 j + 4)), P.2.2.2.2) := by unfold pStep; rw [if_neg (fun z => hcon2.mp z hf)]
    rw [hpe, hps]
    obtain ⟨z1, z2⟩ := hcon.mp hf
    obtain ⟨f1, f2, f3, f4, f5, f6, f7, f8, f9⟩ := lgPut_f (v := w) (b := u.1 2 j) (z := u.1 3 j) ⟨z1, hw5⟩
    have hI2 := lgI_put a2 z1 hw5 ⟨e5, e6⟩ (u.1 3 j) (by unfold lstF at z2; omega)
    rw [← e2] at hI2
    refine ⟨rfl, ⟨rfl, by rw [f1]; exact p2, fun t ht => ?_, p4, p5⟩, ⟨_, _, _, hI2, fun hj2 => ?_⟩, by rw [f1]; exact a4, by rw [f2, a5, hck], by rw [f3]; exact a6, fun t ht hqt => ?_, ⟨fun t ht => ?_, fun t q ht hq2 => ?_⟩, fun t x ht => ?_, b4, fun t ht => by rw [f1] at ht; rw [f4]; exact b5 t ht⟩
    · rw [f1] at ht
      rw [f4, f5]
      dsimp only
      rw [p2]
      refine ⟨(p3 t ht).1, ?_⟩
      by_cases htl : t = w.2.1 - 1
      · subst htl; rw [pk_us, pk_us, (p3 _ ht).2, Int32.add_assoc]
      · rw [pk_un htl, pk_un htl]; exact (p3 t ht).2
    · rw [f1, f2]
      unfold lstF at hJ z2 ⊢
      rw [show w.2.2.1 + 1 - 1 = w.2.2.1 by omega, va_up_self, va_up_self]
      rcases hU.2.2.1 j hj2 with ⟨q1, q2⟩ | ⟨q1, q2, q3⟩
      · rw [q1, q2]
        rcases hJ with z | z | z
        · exact Or.inl z
        · exact Or.inr (Or.inl z)
        · exact Or.inr (Or.inr ⟨z.1, by omega⟩)
      · rcases hJ with z | z | z
        · exact Or.inl z
        · exact Or.inr (Or.inl (by omega))
        · exact Or.inr (Or.inl (by omega))
    · rw [f6, f7, a5]
      by_cases htj : t = j
      · subst htj; rw [pk_us, pk_us]; exact ⟨rfl, rfl⟩
      · have := cK_lt (p := qT k) (show t < j by omega) hqt
        rw [pk_un (by omega), pk_un (by omega)]; exact a7 t (by omega) hqt
    · rw [f1] at ht; rw [f4]; exact b1 t ht
    · rw [f1] at ht hq2; rw [f4]; exact b2 t q ht hq2
    · rw [f1] at ht; rw [f4]; exact b3 t x ht
  · have hff := ffr_mPl hSB p4 p5
    have hpd := hcon2.mpr hf
    by_cases hm : ffr bu S B 0 = -1
    · left
      refine ⟨?_, ?_⟩
      · unfold pkE; rw [if_neg hf, if_pos (Or.inl hm)]
      · unfold pStep; rw [if_pos hpd, ← hff, if_pos (by rw [hm]; decide)]
    · right
      obtain ⟨x, x1, x2, x3, x4, _⟩ := (mPl_spec (he := P.2.1) (S := S) (B + 1 - S - 4) 4).resolve_left (fun z => hm (by rw [hff, z.1]))
      have hx : ffr bu S B 0 = nI x := by rw [hff, x1]
      have hpe : pkE B S w bu (u.1 2 j) (u.1 3 j) = (1, lgPut (lgOpen w (nI x)) (u.1 2 j) (u.1 3 j), mkSeg B bu (nI x) S) := by unfold pkE; rw [if_neg hf, if_neg (fun z => z.elim hm (fun y => y hw6)), hx]
      have hps : pStep S B (u.1 2 j + 4) P = (1, mHold P.2.1 x S, upd P.2.2.1 w.2.1 (nI x), upd (upd P.2.2.2.1 w.2.1 0) w.2.1 (0 + (u.1 2 j + 4)), w.2.1 + 1) := by
        unfold pStep
        rw [if_pos hpd, x1, if_neg (nI_pos (by omega)), tn_nI (by omega), p2]
      rw [hpe, hps]
      obtain ⟨f1, f2, f3, f4, f5, f6, f7, f8, f9⟩ := lgOP_f (v := w) (st := nI x) (b := u.1 2 j) (z := u.1 3 j) ⟨hw6, hw5⟩
      have hI2 := lgI_opn a2 hw6 hw5 ⟨e5, e6⟩ (nI x) (u.1 3 j) (by omega)
      rw [← e2] at hI2
      have hnf : ¬ (0 < w.2.1 ∧ lstF sw ow w.2.2.1 + (s j + 4) ≤ 1024 * S) := fun z => hf (hcon.mpr z)
      have hwh : w.2.1 ≤ h j := by
        rcases hJ with z | z | z
        · omega
        · omega
        · rcases Nat.eq_zero_or_pos w.2.1 with y | y
          · omega
          · exact absurd ⟨y, by omega⟩ hnf
      have hnew : ∀ t, t < w.2.1 → ¬ w.1 0 t = nI x := fun t ht z => by
        have h1 := b3 t x ht z (by omega)
        have h2 := x4 0 (by omega)
        rw [Nat.add_zero] at h2
        exact h1 h2
      have hkeep : ∀ y, ¬ P.2.1 y = 0 → ¬ mHold P.2.1 x S y = 0 := fun y hy => by
        rw [mHold_in]
        split
        · decide
        · exact hy
      refine ⟨rfl, ⟨rfl, by rw [f1], fun t ht => ?_, mkSeg_hold hB2 p4 S (by omega), fun b hb => hkeep b (p5 b hb)⟩, ⟨_, _, _, hI2, fun hj2 => ?_⟩, by rw [f1]; omega, by rw [f2, a5, hck], by rw [f3]; exact a6, fun t ht hqt => ?_, ⟨fun t ht => ?_, fun t q ht hq2 => ?_⟩, fun t y ht => ?_, fun y hy hy2 => hkeep y (b4 y hy hy2), fun t ht => ?_⟩
      · rw [f1] at ht
        rw [f4, f5]
        dsimp only
        by_cases htl : t = w.2.1
        · subst htl; rw [pk_us, pk_us, pk_us, pk_us, Int32.add_assoc]; exact ⟨rfl, rfl⟩
        · rw [pk_un htl, pk_un htl, pk_un htl, pk_un htl, pk_un htl, pk_un htl]; exact p3 t (by omega)
      · rw [f1, f2]
        unfold lstF
        rw [show w.2.2.1 + 1 - 1 = w.2.2.1 by omega, va_up_self, va_up_self]
        right
        rcases hU.2.2.1 j hj2 with ⟨q1, q2⟩ | ⟨q1, q2, q3⟩
        · rw [q1, q2]
          rcases Nat.lt_or_ge w.2.1 (h j) with y | y
          · exact Or.inl (by omega)
          · exact Or.inr ⟨by omega, by omega⟩
        · exact Or.inl (by omega)
      · rw [f6, f7, a5]
        by_cases htj : t = j
        · subst htj; rw [pk_us, pk_us]; exact ⟨rfl, rfl⟩
        · have := cK_lt (p := qT k) (show t < j by omega) hqt
          rw [pk_un (by omega), pk_un (by omega)]; exact a7 t (by omega) hqt
      · rw [f1] at ht
        rw [f4]
        by_cases htl : t = w.2.1
        · subst htl; rw [pk_us]; exact ⟨x, rfl, x2, by omega⟩
        · rw [pk_un htl]; exact b1 t (by omega)
      · rw [f1] at ht hq2
        rw [f4]
        by_cases htl : t = w.2.1
        · by_cases hql : q = w.2.1
          · intro _; omega
          · rw [htl, pk_us, pk_un hql]
            intro z; exact absurd z.symm (hnew q (by omega))
        · by_cases hql : q = w.2.1
          · rw [hql, pk_us, pk_un htl]
            intro z; exact absurd z (hnew t (by omega))
          · rw [pk_un htl, pk_un hql]; exact b2 t q (by omega) (by omega)
      · rw [f1] at ht
        rw [f4]
        by_cases htl : t = w.2.1
        · subst htl; rw [pk_us]
          intro z hy
          have : x = y := (nI_eq (by omega) (by omega)).mp z
          subst this
          show ¬ mHold P.2.1 x S x = 0
          rw [mHold_in, if_pos (by omega)]; decide
        · rw [pk_un htl]
          intro z hy; exact hkeep y (b3 t y (by omega) z hy)
      · rw [f1] at ht
        rw [f4]
        by_cases htl : t = w.2.1
        · subst htl; rw [pk_us]
          intro z
          have h1 := b4 x z.symm (by omega)
          have h2 := x4 0 (by omega)
          rw [Nat.add_zero] at h2
          exact h1 h2
        · rw [pk_un htl]; exact b5 t (by omega)
set_option maxHeartbeats 1000000 in
theorem pk_all {S B : Nat} {u : LV} {h s o : Nat → Nat} {k : Int32} {al : Nat} {s0 : PS} (hSB : dkB S B) (hU : lgI S u h s o) (hal : al ≤ u.2.2.1) (hcl : ∀ j, j < al → h j + 1 < u.2.1) : ∀ n j w bu, j + n = al → PkI S B u h o k j w bu (pRun S B k (u.1 2) s0 j) →
    (∀ t, j ≤ t → t ≤ al → (pRun S B k (u.1 2) s0 t).2.2.2.2 ≤ 59) ∧ (((pkL B S u k n j w bu).1 = 0 ∧ (pRun S B k (u.1 2) s0 al).1 = 0) ∨ ((pkL B S u k n j w bu).1 = 1 ∧ PkI S B u h o k al (pkL B S u k n j w bu).2.1 (pkL B S u k n j w bu).2.2 (pRun S B k (u.1 2) s0 al)))
  | 0, j, w, bu, hn, hP => by
    have : j = al := by omega
    subst this
    refine ⟨fun t h1 h2 => ?_, Or.inr ⟨rfl, hP⟩⟩
    have : t = j := by omega
    subst this
    rw [hP.1.2.1]
    have := hP.2.2.1
    have := hU.1.1
    omega
  | n + 1, j, w, bu, hn, hP => by
    have hpl : (pRun S B k (u.1 2) s0 j).2.2.2.2 ≤ 59 := by
      rw [hP.1.2.1]
      have := hP.2.2.1
      have := hU.1.1
      omega
    have hP1 := hP.1.1
    have hst : ∀ t, j ≤ t → t ≤ al → (∀ t, j + 1 ≤ t → t ≤ al → (pRun S B k (u.1 2) s0 t).2.2.2.2 ≤ 59) → (pRun S B k (u.1 2) s0 t).2.2.2.2 ≤ 59 := fun t h1 h2 h3 => by
      by_cases htj : t = j
      · rw [htj]; exact hpl
      · exact h3 t (by omega) h2
    by_cases hq : nI j - nI j / k * k = 0
    · have hr : pRun S B k (u.1 2) s0 (j + 1) = pRun S B k (u.1 2) s0 j := by simp only [pRun]; rw [if_neg (by rw [hP1]; decide), if_pos hq]
      have hl : pkL B S u k (n + 1) j w bu = pkL B S u k n (j + 1) w bu := by simp only [pkL]; rw [if_pos hq]
      have := pk_all hSB hU hal hcl n (j + 1) w bu (by omega) (by rw [hr]; exact pk_skip hU (by unfold qT; rw [decide_eq_true hq]; rfl) (by omega) hP)
      rw [hl]
      exact ⟨fun t h1 h2 => hst t h1 h2 this.1, this.2⟩
    · have hr : pRun S B k (u.1 2) s0 (j + 1) = pStep S B (u.1 2 j + 4) (pRun S B k (u.1 2) s0 j) := by simp only [pRun]; rw [if_neg (by rw [hP1]; decide), if_neg hq]
      have hl : pkL B S u k (n + 1) j w bu = if (pkE B S w bu (u.1 2 j) (u.1 3 j)).1 = 0 then pkE B S w bu (u.1 2 j) (u.1 3 j) else pkL B S u k n (j + 1) (pkE B S w bu (u.1 2 j) (u.1 3 j)).2.1 (pkE B S w bu (u.1 2 j) (u.1 3 j)).2.2 := by simp only [pkL]; rw [if_neg hq]
      rw [hl]
      rcases pk_step hSB hU (by unfold qT; rw [decide_eq_false hq]; rfl) (by omega) (hcl j (by omega)) hP with ⟨q1, q2⟩ | ⟨q1, q2⟩
      · rw [if_pos q1]
        rw [q2] at hr
        have hstop := fun d => pRun_stop (S := S) (B := B) (k := k) (sz := u.1 2) (s0 := s0) (j := j + 1) (by rw [hr]) d
        refine ⟨fun t h1 h2 => hst t h1 h2 (fun t h1 h2 => ?_), Or.inl ⟨q1, ?_⟩⟩
        · have := hstop (t - (j + 1))
          rw [show j + 1 + (t - (j + 1)) = t by omega, hr] at this
          rw [this]; exact hpl
        · have := hstop (al - (j + 1))
          rw [show j + 1 + (al - (j + 1)) = al by omega, hr] at this
          rw [this]
      · rw [if_neg (by rw [q1]; decide)]
        have := pk_all hSB hU hal hcl n (j + 1) _ _ (by omega) (by rw [hr]; exact q2)
        exact ⟨fun t h1 h2 => hst t h1 h2 this.1, this.2⟩
