/-! A LOG'S RULE: h, s, o are its entries' segments, sizes and places -/
def lgI (S : Nat) (v : LV) (h s o : Nat → Nat) : Prop :=
  (v.2.1 ≤ 60 ∧ v.2.2.1 ≤ 512) ∧
  (∀ j, j < v.2.2.1 → v.1 4 j = nI (h j) ∧ v.1 2 j = nI (s j) ∧ v.1 5 j = nI (o j) ∧ h j < v.2.1 ∧ 1 ≤ s j ∧ s j ≤ 20000 ∧ o j + s j + 4 ≤ 1024 * S) ∧
  (∀ j, j + 1 < v.2.2.1 → (h (j + 1) = h j ∧ o (j + 1) = o j + s j + 4) ∨ (h (j + 1) = h j + 1 ∧ o (j + 1) = 0 ∧ v.1 1 (h j) = nI (o j + s j + 4))) ∧
  (0 < v.2.2.1 → h 0 = 0 ∧ o 0 = 0 ∧ h (v.2.2.1 - 1) + 1 = v.2.1 ∧ v.1 1 (v.2.1 - 1) = nI (o (v.2.2.1 - 1) + s (v.2.2.1 - 1) + 4)) ∧
  (v.2.2.1 = 0 → v.2.1 = 0)
theorem lgI.mono {S : Nat} {v : LV} {h s o : Nat → Nat} (hI : lgI S v h s o) {j : Nat} (hj : j + 1 < v.2.2.1) : h j ≤ h (j + 1) := by
  rcases hI.2.2.1 j hj with ⟨h1, _⟩ | ⟨h1, _⟩ <;> omega
theorem lgI.pos {S : Nat} {v : LV} {h s o : Nat → Nat} (hI : lgI S v h s o) (hn : 0 < v.2.1) : 0 < v.2.2.1 := by
  rcases Nat.eq_zero_or_pos v.2.2.1 with q | q
  · have := hI.2.2.2.2 q; omega
  · exact q
theorem lgI_nil (S : Nat) (f : Nat → Nat → Int32) (c : Int32) (h s o : Nat → Nat) : lgI S (f, 0, 0, c) h s o :=
  ⟨⟨by show 0 ≤ 60; omega, by show 0 ≤ 512; omega⟩, fun j hj => absurd hj (Nat.not_lt_zero j), fun j hj => absurd hj (Nat.not_lt_zero _), fun q => absurd q (Nat.not_lt_zero 0), fun _ => rfl⟩
/-- it speaks of the rows' used parts alone -/
theorem lgI.cong {S : Nat} {v : LV} {h s o : Nat → Nat} (hI : lgI S v h s o) {v2 : LV} (h1 : v2.2.1 = v.2.1) (h2 : v2.2.2.1 = v.2.2.1) (h3 : v2.1 = v.1) : lgI S v2 h s o := by
  unfold lgI at hI ⊢
  rw [h1, h2, h3]
  exact hI
theorem lgPut_f {v : LV} {b z : Int32} (h : 0 < v.2.1 ∧ v.2.2.1 < 512) : (lgPut v b z).2.1 = v.2.1 ∧ (lgPut v b z).2.2.1 = v.2.2.1 + 1 ∧ (lgPut v b z).2.2.2 = v.2.2.2 ∧ (lgPut v b z).1 0 = v.1 0 ∧ (lgPut v b z).1 1 = upd (v.1 1) (v.2.1 - 1) (v.1 1 (v.2.1 - 1) + b + 4) ∧ (lgPut v b z).1 2 = upd (v.1 2) v.2.2.1 b ∧ (lgPut v b z).1 3 = upd (v.1 3) v.2.2.1 z ∧ (lgPut v b z).1 4 = upd (v.1 4) v.2.2.1 (nI (v.2.1 - 1)) ∧ (lgPut v b z).1 5 = upd (v.1 5) v.2.2.1 (v.1 1 (v.2.1 - 1)) := by
  have hob : lgOB v = v.1 1 (v.2.1 - 1) := by unfold lgOB; rw [if_neg (by omega)]
  unfold lgPut
  rw [if_pos h, hob]
  exact ⟨rfl, rfl, rfl, rfl, rfl, rfl, rfl, rfl, rfl⟩
theorem lgOP_f {v : LV} {st b z : Int32} (h : v.2.1 < 60 ∧ v.2.2.1 < 512) : (lgPut (lgOpen v st) b z).2.1 = v.2.1 + 1 ∧ (lgPut (lgOpen v st) b z).2.2.1 = v.2.2.1 + 1 ∧ (lgPut (lgOpen v st) b z).2.2.2 = v.2.2.2 ∧ (lgPut (lgOpen v st) b z).1 0 = upd (v.1 0) v.2.1 st ∧ (lgPut (lgOpen v st) b z).1 1 = upd (upd (v.1 1) v.2.1 0) v.2.1 (0 + b + 4) ∧ (lgPut (lgOpen v st) b z).1 2 = upd (v.1 2) v.2.2.1 b ∧ (lgPut (lgOpen v st) b z).1 3 = upd (v.1 3) v.2.2.1 z ∧ (lgPut (lgOpen v st) b z).1 4 = upd (v.1 4) v.2.2.1 (nI v.2.1) ∧ (lgPut (lgOpen v st) b z).1 5 = upd (v.1 5) v.2.2.1 0 := by
  have ho : lgOpen v st = (va_up (va_up v.1 0 (upd (v.1 0) v.2.1 st)) 1 (upd (v.1 1) v.2.1 0), v.2.1 + 1, v.2.2) := by unfold lgOpen; rw [if_pos h.1]
  have hp := lgPut_f (v := lgOpen v st) (b := b) (z := z) (by rw [ho]; exact ⟨Nat.succ_pos _, h.2⟩)
  rw [ho] at hp ⊢
  have e : upd (v.1 1) v.2.1 0 (v.2.1 + 1 - 1) = 0 := pk_us
  obtain ⟨h1, h2, h3, h4, h5, h6, h7, h8, h9⟩ := hp
  refine ⟨h1, h2, h3, h4, h5.trans ?_, h6, h7, h8, h9.trans ?_⟩
  · show upd (upd (v.1 1) v.2.1 0) (v.2.1 + 1 - 1) (upd (v.1 1) v.2.1 0 (v.2.1 + 1 - 1) + b + 4) = _
    rw [e]; rfl
  · show upd (v.1 5) v.2.2.1 (upd (v.1 1) v.2.1 0 (v.2.1 + 1 - 1)) = _
    rw [e]
theorem nI_p4 (a n : Nat) : nI a + nI n + 4 = nI (a + n + 4) := by rw [nI_add, show (4 : Int32) = nI 4 from rfl, nI_add]
theorem lgI_put {S : Nat} {v : LV} {h s o : Nat → Nat} (hI : lgI S v h s o) (hns : 0 < v.2.1) (he : v.2.2.1 < 512) {n : Nat} (hn : 1 ≤ n ∧ n ≤ 20000) (z : Int32) (hf : o (v.2.2.1 - 1) + s (v.2.2.1 - 1) + 4 + (n + 4) ≤ 1024 * S) :
    lgI S (lgPut v (nI n) z) (va_up h v.2.2.1 (v.2.1 - 1)) (va_up s v.2.2.1 n) (va_up o v.2.2.1 (o (v.2.2.1 - 1) + s (v.2.2.1 - 1) + 4)) := by
  obtain ⟨f1, f2, f3, f4, f5, f6, f7, f8, f9⟩ := lgPut_f (v := v) (b := nI n) (z := z) ⟨hns, he⟩
  have hpos := hI.pos hns
  obtain ⟨⟨b1, b2⟩, hE, hC, hL, hZ⟩ := hI
  obtain ⟨l1, l2, l3, l4⟩ := hL hpos
  unfold lgI
  rw [f1, f2, f5, f6, f8, f9]
  rw [l4, nI_p4]
  generalize v.2.2.1 = en at *
  generalize v.2.1 = ns at *
  have hen : ¬ en - 1 = en := by omega
  refine ⟨⟨b1, by omega⟩, fun j hj => ?_, fun j hj => ?_, fun _ => ?_, fun q => by omega⟩
  · by_cases hje : j = en
    · subst hje
      rw [va_up_self, va_up_self, va_up_self, pk_us, pk_us, pk_us]
      exact ⟨rfl, rfl, rfl, by omega, hn.1, hn.2, by omega⟩
    · rw [va_up_ne _ _ hje, va_up_ne _ _ hje, va_up_ne _ _ hje, pk_un hje, pk_un hje, pk_un hje]
      exact hE j (by omega)
  · have hj1 : ¬ j = en := by omega
    rw [va_up_ne _ _ hj1, va_up_ne s _ hj1, va_up_ne o _ hj1]
    by_cases hje : j + 1 = en
    · rw [hje, va_up_self, va_up_self]
      have : j = en - 1 := by omega
      subst this
      exact Or.inl ⟨by omega, rfl⟩
    · rw [va_up_ne _ _ hje, va_up_ne _ _ hje]
      rcases hC j (by omega) with q | ⟨q1, q2, q3⟩
      · exact Or.inl q
      · refine Or.inr ⟨q1, q2, ?_⟩
        have hlt : ¬ h j = ns - 1 := by have := (hE (j + 1) (by omega)).2.2.2.1; omega
        rw [pk_un hlt]; exact q3
  · rw [show en + 1 - 1 = en by omega, va_up_self, va_up_self, va_up_self, va_up_ne _ _ (by omega), va_up_ne _ _ (by omega), pk_us]
    exact ⟨l1, l2, by omega, rfl⟩
theorem lgI_opn {S : Nat} {v : LV} {h s o : Nat → Nat} (hI : lgI S v h s o) (hns : v.2.1 < 60) (he : v.2.2.1 < 512) {n : Nat} (hn : 1 ≤ n ∧ n ≤ 20000) (st z : Int32) (hf : n + 4 ≤ 1024 * S) :
    lgI S (lgPut (lgOpen v st) (nI n) z) (va_up h v.2.2.1 v.2.1) (va_up s v.2.2.1 n) (va_up o v.2.2.1 0) := by
  obtain ⟨f1, f2, f3, f4, f5, f6, f7, f8, f9⟩ := lgOP_f (v := v) (st := st) (b := nI n) (z := z) ⟨hns, he⟩
  obtain ⟨⟨b1, b2⟩, hE, hC, hL, hZ⟩ := hI
  unfold lgI
  rw [f1, f2, f5, f6, f8, f9]
  rw [show (0 : Int32) + nI n + 4 = nI (0 + n + 4) from nI_p4 0 n]
  generalize v.2.2.1 = en at *
  generalize v.2.1 = ns at *
  refine ⟨⟨by omega, by omega⟩, fun j hj => ?_, fun j hj => ?_, fun _ => ?_, fun q => by omega⟩
  · by_cases hje : j = en
    · subst hje
      rw [va_up_self, va_up_self, va_up_self, pk_us, pk_us, pk_us]
      exact ⟨rfl, rfl, rfl, by omega, hn.1, hn.2, by omega⟩
    · rw [va_up_ne _ _ hje, va_up_ne _ _ hje, va_up_ne _ _ hje, pk_un hje, pk_un hje, pk_un hje]
      obtain ⟨q1, q2, q3, q4, q5⟩ := hE j (by omega)
      exact ⟨q1, q2, q3, by omega, q5⟩
  · have hj1 : ¬ j = en := by omega
    have hlt := (hE j (by omega)).2.2.2.1
    rw [va_up_ne _ _ hj1, va_up_ne s _ hj1, va_up_ne o _ hj1, pk_un (by omega), pk_un (by omega)]
    by_cases hje : j + 1 = en
    · rw [hje, va_up_self, va_up_self]
      obtain ⟨l1, l2, l3, l4⟩ := hL (by omega)
      have : en - 1 = j := by omega
      rw [this] at l3 l4
      exact Or.inr ⟨by omega, rfl, by rw [← l4, show ns - 1 = h j by omega]⟩
    · rw [va_up_ne _ _ hje, va_up_ne _ _ hje]
      exact hC j (by omega)
  · rw [show en + 1 - 1 = en by omega, va_up_self, va_up_self, va_up_self, show ns + 1 - 1 = ns by omega, pk_us]
    refine ⟨?_, ?_, rfl, rfl⟩
    · by_cases h0 : en = 0
      · rw [h0, va_up_self]; exact hZ h0
      · rw [va_up_ne _ _ (by omega)]; exact (hL (by omega)).1
    · by_cases h0 : en = 0
      · rw [h0, va_up_self]
      · rw [va_up_ne _ _ (by omega)]; exact (hL (by omega)).2.1
/-- what takeSegments has done behind n of u's entries -/
def TkS (S : Nat) (u w R : LV) (hu su ou : Nat → Nat) (g lo n : Nat) : Prop :=
  R.2.1 = w.2.1 + (hu (n - 1) - g + 1) ∧ R.2.2.1 = w.2.2.1 + (n - lo) ∧ R.2.2.2 = w.2.2.2 ∧
  (∃ h s o, lgI S R h s o ∧ o (R.2.2.1 - 1) = ou (n - 1) ∧ s (R.2.2.1 - 1) = su (n - 1)) ∧
  (∀ k t, 2 ≤ k → k ≤ 5 → t < w.2.2.1 → R.1 k t = w.1 k t) ∧
  (∀ j, lo ≤ j → j < n → R.1 2 (w.2.2.1 + (j - lo)) = u.1 2 j ∧ R.1 3 (w.2.2.1 + (j - lo)) = u.1 3 j ∧ R.1 4 (w.2.2.1 + (j - lo)) = nI (w.2.1 + (hu j - g)) ∧ R.1 5 (w.2.2.1 + (j - lo)) = u.1 5 j) ∧
  (∀ k, k < w.2.1 → R.1 0 k = w.1 0 k ∧ R.1 1 k = w.1 1 k) ∧
  (∀ k, k ≤ hu (n - 1) - g → R.1 0 (w.2.1 + k) = u.1 0 (g + k)) ∧
  (∀ k, k < hu (n - 1) - g → R.1 1 (w.2.1 + k) = u.1 1 (g + k)) ∧
  R.1 1 (w.2.1 + (hu (n - 1) - g)) = nI (ou (n - 1) + su (n - 1) + 4)
theorem atV_nI {f : Nat → Int32} {n k : Nat} (hk : k < n) (hn : n < 2 ^ 31) : atV f n (nI k) = f k := by
  unfold atV
  rw [if_pos ⟨nI_pos' (by omega), (nI_ltI (by omega) hn).mpr hk⟩, nI_clamp (by omega)]
set_option maxHeartbeats 1000000 in
/-- the first entry taken -/
theorem tk_first {S : Nat} {u w : LV} {hu su ou hw sw ow : Nat → Nat} {g n : Nat} {st : Int32} (hW : lgI S w hw sw ow) (h1 : w.2.1 < 60) (h2 : w.2.2.1 < 512) (hg : hu n = g) (ho : ou n = 0) (e2 : u.1 2 n = nI (su n)) (e3 : u.1 5 n = nI (ou n)) (e5 : 1 ≤ su n) (e6 : su n ≤ 20000) (e7 : ou n + su n + 4 ≤ 1024 * S) (hst : st = u.1 0 g) :
    TkS S u w (lgPut (lgOpen w st) (u.1 2 n) (u.1 3 n)) hu su ou g n (n + 1) := by
  have hI := lgI_opn hW h1 h2 ⟨e5, e6⟩ st (u.1 3 n) (by omega)
  rw [← e2] at hI
  obtain ⟨f1, f2, f3, f4, f5, f6, f7, f8, f9⟩ := lgOP_f (v := w) (st := st) (b := u.1 2 n) (z := u.1 3 n) ⟨h1, h2⟩
  unfold TkS
  rw [show n + 1 - 1 = n by omega, hg, Nat.sub_self]
  refine ⟨f1, by rw [f2]; omega, f3, ⟨_, _, _, hI, ?_, ?_⟩, ?_, ?_, ?_, ?_, ?_, ?_⟩
  · rw [f2, show w.2.2.1 + 1 - 1 = w.2.2.1 by omega, va_up_self, ho]
  · rw [f2, show w.2.2.1 + 1 - 1 = w.2.2.1 by omega, va_up_self]
  · intro k t hk1 hk2 ht
    rcases (show k = 2 ∨ k = 3 ∨ k = 4 ∨ k = 5 by omega) with rfl | rfl | rfl | rfl
    · rw [f6, pk_un (by omega)]
    · rw [f7, pk_un (by omega)]
    · rw [f8, pk_un (by omega)]
    · rw [f9, pk_un (by omega)]
  · intro j hj1 hj2
    have : j = n := by omega
    subst this
    rw [Nat.sub_self, Nat.add_zero, f6, f7, f8, f9, pk_us, pk_us, pk_us, pk_us, hg, Nat.sub_self, e3, ho]
    exact ⟨rfl, rfl, rfl, rfl⟩
  · intro k hk
    rw [f4, f5, pk_un (by omega), pk_un (by omega), pk_un (by omega)]
    exact ⟨rfl, rfl⟩
  · intro k hk
    have : k = 0 := by omega
    subst this
    rw [f4, Nat.add_zero, Nat.add_zero, pk_us]; exact hst
  · intro k hk; omega
  · rw [f5, Nat.add_zero, pk_us, e2, ho]; exact nI_p4 0 _
set_option maxHeartbeats 1000000 in
/-- an entry more, in the same segment or in the next one -/
theorem tk_more {S : Nat} {u w R : LV} {hu su ou : Nat → Nat} {g lo n : Nat} (hT : TkS S u w R hu su ou g lo n) (hlo : lo < n) (h1 : w.2.1 + (hu n - g + 1) ≤ 60) (h2 : R.2.2.1 < 512) (hgn : g ≤ hu (n - 1)) (e2 : u.1 2 n = nI (su n)) (e3 : u.1 5 n = nI (ou n)) (e5 : 1 ≤ su n) (e6 : su n ≤ 20000) (e7 : ou n + su n + 4 ≤ 1024 * S) {st : Int32} (hst : st = u.1 0 (hu n))
    (hC : (hu n = hu (n - 1) ∧ ou n = ou (n - 1) + su (n - 1) + 4) ∨ (hu n = hu (n - 1) + 1 ∧ ou n = 0 ∧ u.1 1 (hu (n - 1)) = nI (ou (n - 1) + su (n - 1) + 4))) :
    TkS S u w (lgPut (if hu n = hu (n - 1) then R else lgOpen R st) (u.1 2 n) (u.1 3 n)) hu su ou g lo (n + 1) := by
  obtain ⟨t1, t2, t3, ⟨h, s, o, tI, to, ts⟩, t5, t6, t7, t8, t9, t10⟩ := hT
  rcases hC with ⟨c1, c2⟩ | ⟨c1, c2, c3⟩
  · rw [if_pos c1]
    have hI := lgI_put tI (by omega) h2 ⟨e5, e6⟩ (u.1 3 n) (by rw [to, ts]; omega)
    rw [← e2] at hI
    obtain ⟨f1, f2, f3, f4, f5, f6, f7, f8, f9⟩ := lgPut_f (v := R) (b := u.1 2 n) (z := u.1 3 n) ⟨by omega, h2⟩
    have hfl : R.1 1 (R.2.1 - 1) = nI (ou n) := by rw [t1, show w.2.1 + (hu (n - 1) - g + 1) - 1 = w.2.1 + (hu (n - 1) - g) by omega, t10, c2]
    unfold TkS
    rw [show n + 1 - 1 = n by omega]
    refine ⟨by rw [f1, t1, c1], by rw [f2, t2]; omega, by rw [f3, t3], ⟨_, _, _, hI, ?_, ?_⟩, ?_, ?_, ?_, ?_, ?_, ?_⟩
    · rw [f2, show R.2.2.1 + 1 - 1 = R.2.2.1 by omega, va_up_self, to, ts, c2]
    · rw [f2, show R.2.2.1 + 1 - 1 = R.2.2.1 by omega, va_up_self]
    · intro k t hk1 hk2 ht
      have h9 := t5 k t hk1 hk2 ht
      rcases (show k = 2 ∨ k = 3 ∨ k = 4 ∨ k = 5 by omega) with rfl | rfl | rfl | rfl
      · rw [f6, pk_un (by omega)]; exact h9
      · rw [f7, pk_un (by omega)]; exact h9
      · rw [f8, pk_un (by omega)]; exact h9
      · rw [f9, pk_un (by omega)]; exact h9
    · intro j hj1 hj2
      by_cases hjn : j = n
      · subst hjn
        rw [f6, f7, f8, f9, ← t2, pk_us, pk_us, pk_us, pk_us, hfl, e3, t1, c1]
        exact ⟨rfl, rfl, rfl, rfl⟩
      · rw [f6, f7, f8, f9, pk_un (by omega), pk_un (by omega), pk_un (by omega), pk_un (by omega)]
        exact t6 j hj1 (by omega)
    · intro k hk
      rw [f4, f5, pk_un (by omega)]; exact t7 k hk
    · intro k hk
      rw [f4]; exact t8 k (by omega)
    · intro k hk
      rw [f5, pk_un (by omega)]; exact t9 k (by omega)
    · rw [f5, show w.2.1 + (hu n - g) = R.2.1 - 1 by omega, pk_us, hfl, e2, nI_p4]
  · rw [if_neg (by omega)]
    have hR6 : R.2.1 < 60 := by omega
    have hI := lgI_opn tI hR6 h2 ⟨e5, e6⟩ st (u.1 3 n) (by omega)
    rw [← e2] at hI
    obtain ⟨f1, f2, f3, f4, f5, f6, f7, f8, f9⟩ := lgOP_f (v := R) (st := st) (b := u.1 2 n) (z := u.1 3 n) ⟨hR6, h2⟩
    unfold TkS
    rw [show n + 1 - 1 = n by omega]
    refine ⟨by rw [f1, t1, c1]; omega, by rw [f2, t2]; omega, by rw [f3, t3], ⟨_, _, _, hI, ?_, ?_⟩, ?_, ?_, ?_, ?_, ?_, ?_⟩
    · rw [f2, show R.2.2.1 + 1 - 1 = R.2.2.1 by omega, va_up_self, c2]
    · rw [f2, show R.2.2.1 + 1 - 1 = R.2.2.1 by omega, va_up_self]
    · intro k t hk1 hk2 ht
      have h9 := t5 k t hk1 hk2 ht
      rcases (show k = 2 ∨ k = 3 ∨ k = 4 ∨ k = 5 by omega) with rfl | rfl | rfl | rfl
      · rw [f6, pk_un (by omega)]; exact h9
      · rw [f7, pk_un (by omega)]; exact h9
      · rw [f8, pk_un (by omega)]; exact h9
      · rw [f9, pk_un (by omega)]; exact h9
    · intro j hj1 hj2
      by_cases hjn : j = n
      · subst hjn
        rw [f6, f7, f8, f9, ← t2, pk_us, pk_us, pk_us, pk_us, e3, c2, t1, c1]
        exact ⟨rfl, rfl, by rw [show hu (j - 1) - g + 1 = hu (j - 1) + 1 - g by omega], rfl⟩
      · rw [f6, f7, f8, f9, pk_un (by omega), pk_un (by omega), pk_un (by omega), pk_un (by omega)]
        exact t6 j hj1 (by omega)
    · intro k hk
      rw [f4, f5, pk_un (by omega), pk_un (by omega), pk_un (by omega)]; exact t7 k hk
    · intro k hk
      by_cases hk2 : k = hu n - g
      · subst hk2
        rw [f4, show w.2.1 + (hu n - g) = R.2.1 by omega, pk_us, hst, show g + (hu n - g) = hu n by omega]
      · rw [f4, pk_un (by omega)]; exact t8 k (by omega)
    · intro k hk
      rw [f5, pk_un (by omega), pk_un (by omega)]
      by_cases hk2 : k = hu (n - 1) - g
      · subst hk2
        rw [t10, ← c3, show g + (hu (n - 1) - g) = hu (n - 1) by omega]
      · exact t9 k (by omega)
    · rw [f5, show w.2.1 + (hu n - g) = R.2.1 by omega, pk_us, e2, c2]; exact nI_p4 0 _
set_option maxHeartbeats 1000000 in
theorem tk_all {S : Nat} {u w : LV} {hu su ou hw sw ow : Nat → Nat} {g : Nat} (hU : lgI S u hu su ou) (hW : lgI S w hw sw ow) (hg6 : g ≤ 60) (h1 : w.2.1 + (u.2.1 - g) ≤ 60) (h2 : w.2.2.1 + (u.2.2.1 - loE hu g u.2.2.1) ≤ 512) :
    ∀ n, n ≤ u.2.2.1 → (n ≤ loE hu g u.2.2.1 → lgTk u (nI g) (w, -1) n = (w, -1)) ∧ (loE hu g u.2.2.1 < n → (lgTk u (nI g) (w, -1) n).2 = nI (hu (n - 1)) ∧ TkS S u w (lgTk u (nI g) (w, -1) n).1 hu su ou g (loE hu g u.2.2.1) n)
  | 0, _ => ⟨fun _ => rfl, fun q => absurd q (Nat.not_lt_zero _)⟩
  | n + 1, hn => by
    obtain ⟨ih1, ih2⟩ := tk_all hU hW hg6 h1 h2 n (by omega)
    have hlo := fun j hj => loE_iff (h := hu) (g := g) u.2.2.1 (fun j hj => hU.mono hj) j hj
    have hle : loE hu g u.2.2.1 ≤ u.2.2.1 := cK_le _ _
    obtain ⟨⟨ub1, ub2⟩, uE, uC, uL, uZ⟩ := hU
    obtain ⟨e1, e2, e3, e4, e5, e6, e7⟩ := uE n (by omega)
    have hcmp : nI g ≤ u.1 4 n ↔ g ≤ hu n := by rw [e1]; exact nI_leI (by omega) (by omega)
    generalize hlog : loE hu g u.2.2.1 = lo at *
    simp only [lgTk]
    by_cases hnl : n < lo
    · refine ⟨fun _ => ?_, fun q => by omega⟩
      rw [ih1 (by omega)]
      unfold tkStep
      have hg := (hlo n (by omega)).mp hnl
      rw [if_neg (fun q => by have := hcmp.mp q; omega)]
    · refine ⟨fun q => by omega, fun _ => ?_⟩
      have hg : g ≤ hu n := by
        rcases Nat.lt_or_ge (hu n) g with q | q
        · exact absurd ((hlo n (by omega)).mpr q) hnl
        · exact q
      unfold tkStep
      rw [if_pos (hcmp.mpr hg), e1]
      refine ⟨by rw [show n + 1 - 1 = n by omega], ?_⟩
      dsimp only
      rw [atV_nI (by omega) (by decide)]
      by_cases hnn : n = lo
      · have hfst : hu n = g ∧ ou n = 0 := by
          by_cases h0 : n = 0
          · obtain ⟨l1, l2, _⟩ := uL (by omega)
            rw [h0]
            rw [h0] at hg
            exact ⟨by omega, l2⟩
          · have hp := (hlo (n - 1) (by omega)).mp (by omega)
            rcases uC (n - 1) (by omega) with ⟨q1, q2⟩ | ⟨q1, q2, _⟩
            · rw [show n - 1 + 1 = n by omega] at q1; omega
            · rw [show n - 1 + 1 = n by omega] at q1 q2; exact ⟨by omega, q2⟩
        rw [ih1 (by omega)]
        dsimp only
        rw [if_neg (fun q => by
          have h9 := nI_pos' (n := hu n) (by omega)
          rw [q] at h9; exact absurd h9 (by decide))]
        rw [← hnn]
        exact tk_first hW (by omega) (by omega) hfst.1 hfst.2 e2 e3 e5 e6 e7 (by rw [hfst.1])
      · obtain ⟨q1, q2⟩ := ih2 (by omega)
        rw [q1]
        have hgn : g ≤ hu (n - 1) := by
          rcases Nat.lt_or_ge (hu (n - 1)) g with q | q
          · have := (hlo (n - 1) (by omega)).mpr q; omega
          · exact q
        have hC := uC (n - 1) (by omega)
        rw [show n - 1 + 1 = n by omega] at hC
        have e9 := (uE (n - 1) (by omega)).2.2.2.1
        have hif : (if nI (hu n) = nI (hu (n - 1)) then (lgTk u (nI g) (w, -1) n).1 else lgOpen (lgTk u (nI g) (w, -1) n).1 (u.1 0 (hu n))) = (if hu n = hu (n - 1) then (lgTk u (nI g) (w, -1) n).1 else lgOpen (lgTk u (nI g) (w, -1) n).1 (u.1 0 (hu n))) := by
          by_cases q : hu n = hu (n - 1)
          · rw [if_pos q, if_pos (by rw [q])]
          · rw [if_neg q, if_neg (fun q9 => q ((nI_eq (by omega) (by omega)).mp q9))]
        rw [hif]
        have ht2 := q2.2.1
        exact tk_more q2 (by omega) (by omega) (by omega) hgn e2 e3 e5 e6 e7 rfl hC
