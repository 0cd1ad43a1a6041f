theorem le_m1 {n : Int32} {t : Nat} (ht : t ≤ 20000) (hn : 0 ≤ n) : n ≤ nI t - 1 ↔ n < nI t := by
  have h0 := i32_le.mp hn
  rw [show (0 : Int32).toInt = 0 from rfl] at h0
  rcases Nat.eq_zero_or_pos t with rfl | q
  · rw [nI_0m1, i32_le, i32_lt, show (-1 : Int32).toInt = -1 from rfl, show (nI 0).toInt = 0 from rfl]; omega
  · rw [nI_m1 q, i32_le, i32_lt, nI_toInt (by omega), nI_toInt (by omega)]; omega
theorem sum4 {f : Nat → Int32} : ∀ en, (∀ e, e < en → ∃ i, i < 4 ∧ f e = nI i) → mCnt f (nI 0) en + mCnt f (nI 1) en + mCnt f (nI 2) en + mCnt f (nI 3) en = en
  | 0, _ => rfl
  | en + 1, h => by
    have ih := sum4 (f := f) en (fun e he => h e (by omega))
    obtain ⟨i, hi, he⟩ := h en (by omega)
    have hne : ∀ j, j < 4 → ¬ j = i → ¬ f en = nI j := fun j hj hji z => hji (nI4 hj hi (z.symm.trans he))
    simp only [mCnt]
    rcases (show i = 0 ∨ i = 1 ∨ i = 2 ∨ i = 3 by omega) with rfl | rfl | rfl | rfl
    · rw [if_pos he, if_neg (hne 1 (by decide) (by decide)), if_neg (hne 2 (by decide) (by decide)), if_neg (hne 3 (by decide) (by decide))]; omega
    · rw [if_neg (hne 0 (by decide) (by decide)), if_pos he, if_neg (hne 2 (by decide) (by decide)), if_neg (hne 3 (by decide) (by decide))]; omega
    · rw [if_neg (hne 0 (by decide) (by decide)), if_neg (hne 1 (by decide) (by decide)), if_pos he, if_neg (hne 3 (by decide) (by decide))]; omega
    · rw [if_neg (hne 0 (by decide) (by decide)), if_neg (hne 1 (by decide) (by decide)), if_neg (hne 2 (by decide) (by decide)), if_pos he]; omega
theorem Rel.sum {S B : Nat} {V : Nat → LV} {A : Nat → Nat → Int32} {en : Nat} (hR : Rel S B V A en) : sumE V 4 = en := by
  have h := sum4 (f := A 5) en hR.2
  have h0 := (hR.1 0 (by decide)).1.2.2.1
  have h1 := (hR.1 1 (by decide)).1.2.2.1
  have h2 := (hR.1 2 (by decide)).1.2.2.1
  have h3 := (hR.1 3 (by decide)).1.2.2.1
  show 0 + (V 0).2.2.1 + (V 1).2.2.1 + (V 2).2.2.1 + (V 3).2.2.1 = en
  omega
theorem cntF_congr {f f2 : Nat → Int32} : ∀ n, agr n f f2 → cntF f n = cntF f2 n
  | 0, _ => rfl
  | n + 1, h => by simp only [cntF]; rw [cntF_congr n (fun b hb => h b (by omega)), h n (by omega)]
def cLo (V : Nat → LV) (dn i w : Int32) (H : Heap) (r : Option Value) (H1 : Heap) : Prop := (∃ j, j < 4 ∧ i = nI j ∧ r = some (.int (logV (V j) w))) ∧ (0 ≤ w ∧ w ≤ 3) ∧ dn = 0 ∧ H1 = H
def cEn (V : Nat → LV) (dn i n w : Int32) (H : Heap) (r : Option Value) (H1 : Heap) : Prop := (∃ j, j < 4 ∧ i = nI j ∧ (0 ≤ n ∧ n ≤ nI (V j).2.2.1 - 1) ∧ r = some (.int (entV (V j) n w))) ∧ (0 ≤ w ∧ w ≤ 2) ∧ dn = 0 ∧ H1 = H
def cBy (V : Nat → LV) (dn i n k : Int32) (H : Heap) (r : Option Value) (H1 : Heap) : Prop := (∃ j, j < 4 ∧ i = nI j ∧ (0 ≤ n ∧ n ≤ nI (V j).2.2.1 - 1) ∧ (0 ≤ k ∧ k ≤ atV ((V j).1 2) 512 n - 1) ∧ r = some (.int ((atV ((V j).1 3) 512 n + k) &&& 255))) ∧ dn = 0 ∧ H1 = H
def cCr (g : Gx) (d S B : Nat) (P : Nat → Nat) (V : Nat → LV) (bu : Nat → Int32) (dn wr n : Int32) (H : Heap) (v : Option Value) (H1 : Heap) : Prop := v = none ∧ (-1 ≤ n ∧ n ≤ 1000) ∧ dn = 0 ∧ dkAt g d S B P V bu n (if n = 0 then 1 else 0) wr H1 ∧ Fo d H H1
def cFr (g : Gx) (d S B : Nat) (P : Nat → Nat) (V : Nat → LV) (tc dn wr : Int32) (H : Heap) (r : Option Value) (H1 : Heap) : Prop := r = some (.int (nI (cntF (mkD B S V 4) B))) ∧ dn = 0 ∧ dkAt g d S B P V (mkD B S V 4) tc dn wr H1 ∧ Fo (d + 9) H H1
def mLo (g : Gx) (r S B C : Nat) (a : Nat → Nat) (A : Nat → Nat → Int32) (wr lf dn : Int32) (en pl : Nat) (x w : Int32) (H : Heap) (v : Option Value) (H1 : Heap) : Prop := (¬ goC (if mOkL x w then 1 else 0) dn = 0 ∧ v = some (.int 0) ∧ mdAt g r S B C a A (goC (if mOkL x w then 1 else 0) dn) wr lf dn en pl H1 ∧ Mo r a H H1) ∨ (∃ i, i < 4 ∧ x = nI i ∧ (0 ≤ w ∧ w ≤ 3) ∧ dn = 0 ∧ v = some (.int (mLog A i en w)) ∧ mdAt g r S B C a A 0 wr lf dn en pl H1 ∧ Mo r a H H1)
def mBy (g : Gx) (r S B C : Nat) (a : Nat → Nat) (A : Nat → Nat → Int32) (wr lf dn : Int32) (en pl : Nat) (sz : Nat → Nat → Int32) (x n k : Int32) (H : Heap) (v : Option Value) (H1 : Heap) : Prop := (¬ goC (if mOkB A sz dn en x n k then 1 else 0) dn = 0 ∧ v = some (.int 0) ∧ mdAt g r S B C a A (goC (if mOkB A sz dn en x n k then 1 else 0) dn) wr lf dn en pl H1 ∧ Mo r a H H1) ∨ (∃ i, i < 4 ∧ x = nI i ∧ dn = 0 ∧ ∃ e, e < en ∧ A 5 e = nI i ∧ n = nI (mCnt (A 5) (nI i) e) ∧ (0 ≤ k ∧ k < A 6 e) ∧ v = some (.int ((A 7 e + k) &&& 255)) ∧ mdAt g r S B C a A 0 wr lf dn en pl H1 ∧ Mo r a H H1)
def mCr (g : Gx) (r S B C : Nat) (a : Nat → Nat) (A : Nat → Nat → Int32) (wr lf dn : Int32) (en pl : Nat) (n : Int32) (H : Heap) (v : Option Value) (H1 : Heap) : Prop := v = none ∧ ((¬ goC (if mOkC n then 1 else 0) dn = 0 ∧ mdAt g r S B C a A (goC (if mOkC n then 1 else 0) dn) wr lf dn en pl H1 ∧ Mo r a H H1) ∨ (mOkC n ∧ dn = 0 ∧ mdAt g r S B C a A 0 wr n (if n = 0 then 1 else 0) en pl H1 ∧ Mo r a H H1))
def mFre (g : Gx) (r S B C : Nat) (a : Nat → Nat) (A : Nat → Nat → Int32) (wr lf dn : Int32) (en pl : Nat) (H : Heap) (v : Option Value) (H1 : Heap) : Prop := (¬ dn = 0 ∧ v = some (.int 0) ∧ mdAt g r S B C a A 1 wr lf dn en pl H1 ∧ Mo r a H H1) ∨ (dn = 0 ∧ v = some (.int (nI (cntF (mMkA A S B 4) B))) ∧ mdAt g r S B C a (mH A S B) 0 wr lf dn en pl H1 ∧ Mo r a H H1)
section JR
variable {g : Gx} {z S B : Nat} {P : Nat → Nat} {V : Nat → LV} {bu : Nat → Int32} {A : Nat → Nat → Int32} {C : Nat} {a : Nat → Nat} {tc dn wr cd : Int32} {en pl n : Nat} {H K2 H2 : Heap}
theorem J_log (h : JS g z S B P V bu A C a tc dn wr cd en pl n H) {x m k : Int32} {v : Option Value} (h1 : hPo g (z + 51) (cLo V dn x m H) (thX (dkIs x ∧ 0 ≤ m ∧ m ≤ 3) dn H) (some (.int k)) K2) (h2 : mLo g (z + 38) S B C a A wr tc dn en pl x m K2 v H2) : ∃ y, v = some (.int y) ∧ OK2 g z S B (n + 1) k y K2 H2 := by
  unfold mLo at h2
  rw [goC_eq] at h2
  rcases h1 with ⟨hk, ans, K, f, ⟨⟨j, hj, rfl, hans⟩, hm, hdn, rfl⟩, hja, hf0, hFo⟩ | ⟨hk, hp⟩ | ⟨hk, hp⟩
  · have hk0 : k = 0 := by cases hk; rfl
    subst hk0
    subst hdn
    have hok : mOkL (nI j) m := ⟨dkIs_nI hj, hm.1, hm.2⟩
    rw [if_pos hok, if_pos rfl] at h2
    have hR := h.2.2.1
    have hG := (h.mid (MK.fr Fr.rf hFo)).2
    have hD2 := h.st.keep (H1 := K2) (fun q q1 q2 => hFo.2 q (by omega))
    rcases h2 with ⟨q, _⟩ | ⟨i, hi, hij, _, _, q1, q2, q3⟩
    · exact absurd rfl q
    · have : j = i := nI4 hj hi hij
      subst this
      have hans : ans = logV (V j) m := by injection hans with h9; injection h9
      obtain ⟨⟨r1, r2, r3, r4, r5⟩, _⟩ := hR.1 j hj
      have heq : logV (V j) m = mLog A j en m := by
        have hs : lgSm (A 2) (60 * j) (V j).2.1 = lgSm ((V j).1 1) 0 (V j).2.1 := lgSm_congr _ (fun k hk => by rw [Nat.zero_add]; exact (r4 k hk).2)
        unfold logV mLog
        rw [hR.tn0 hj, hs, r1, r2, r3]
      exact ⟨_, q1, J_fin hD2 hR q2 (Mg.of q3) hG hja h.2.2.2.1.up (fun _ => by rw [hf0, hans, heq])⟩
  · have hk1 : k = 1 := by injection hk with h9; injection h9
    obtain ⟨hG, hno⟩ := thX_IA hp
    have hno : ¬ mOkL x m := fun q => hno ⟨q.1, q.2.1, q.2.2⟩
    rw [if_neg hno] at h2
    rcases h2 with ⟨_, q2, q3, q4⟩ | ⟨i, hi, rfl, q1, q2, _⟩
    · exact ⟨0, q2, by rw [hk1]; exact J_ref h hG (fun _ _ _ => rfl) q3 (Mg.of q4) (by decide)⟩
    · exact absurd ⟨dkIs_nI hi, q1⟩ hno
  · have hk1 : k = 2 := by injection hk with h9; injection h9
    obtain ⟨hG, hok, hdn⟩ := thX_IS hp
    have hok : mOkL x m := ⟨hok.1, hok.2.1, hok.2.2⟩
    rw [if_pos hok, if_neg hdn] at h2
    rcases h2 with ⟨_, q2, q3, q4⟩ | ⟨i, hi, rfl, q1, q2, _⟩
    · exact ⟨0, q2, by rw [hk1]; exact J_ref h hG (fun _ _ _ => rfl) q3 (Mg.of q4) (by decide)⟩
    · exact absurd q2 hdn
theorem Rel.ent {j : Nat} (hR : Rel S B V A en) (hj : j < 4) : (V j).2.2.1 ≤ 512 := by
  obtain ⟨_, _, _, _, _, hI⟩ := hR.1 j hj
  exact hI.1.2
theorem isE_iff (hR : Rel S B V A en) {j : Nat} (hj : j < 4) {m : Int32} : (0 ≤ m ∧ m ≤ nI (V j).2.2.1 - 1) ↔ (0 ≤ m ∧ m < nI (mCnt (A 5) (nI j) en)) := by
  have he := hR.ent hj
  rw [← (hR.1 j hj).1.2.2.1]
  exact ⟨fun q => ⟨q.1, (le_m1 (by omega) q.1).mp q.2⟩, fun q => ⟨q.1, (le_m1 (by omega) q.1).mpr q.2⟩⟩
theorem J_entry (h : JS g z S B P V bu A C a tc dn wr cd en pl n H) {x m b k : Int32} {v : Option Value} (h1 : hPo g (z + 51) (cEn V dn x m b H) (thX (dkIs x ∧ (0 ≤ b ∧ b ≤ 2) ∧ (¬ dn = 0 ∨ ∀ j : Nat, j < 4 → x = nI j → 0 ≤ m ∧ m ≤ nI (V j).2.2.1 - 1)) dn H) (some (.int k)) K2) (h2 : mEntd g (z + 38) S B C a A cd wr tc dn en pl x m b K2 v H2) : ∃ y, v = some (.int y) ∧ OK2 g z S B (n + 1) k y K2 H2 := by
  unfold mEntd at h2
  rw [goC_eq] at h2
  have hR := h.2.2.1
  have hokI : mOkE A dn en x m b ↔ (dkIs x ∧ (0 ≤ b ∧ b ≤ 2) ∧ (¬ dn = 0 ∨ ∀ j : Nat, j < 4 → x = nI j → 0 ≤ m ∧ m ≤ nI (V j).2.2.1 - 1)) := by
    constructor
    · rintro ⟨⟨q1, q2⟩, q3⟩
      refine ⟨q1, q3, q2.elim Or.inl (fun q => Or.inr (fun j hj hx => ?_))⟩
      subst hx
      exact (isE_iff hR hj).mpr q
    · rintro ⟨q1, q3, q2⟩
      refine ⟨⟨q1, q2.elim Or.inl (fun q => Or.inr ?_)⟩, q3⟩
      obtain ⟨j, hj, rfl⟩ := dkIs_of q1
      exact (isE_iff hR hj).mp (q j hj rfl)
  rcases h1 with ⟨hk, ans, K, f, ⟨⟨j, hj, rfl, hmm, hans⟩, hm, hdn, rfl⟩, hja, hf0, hFo⟩ | ⟨hk, hp⟩ | ⟨hk, hp⟩
  · have hk0 : k = 0 := by cases hk; rfl
    subst hk0
    subst hdn
    have hok : mOkE A 0 en (nI j) m b := ⟨⟨dkIs_nI hj, Or.inr ((isE_iff hR hj).mp hmm)⟩, hm⟩
    rw [if_pos hok, if_pos rfl] at h2
    have hG := (h.mid (MK.fr Fr.rf hFo)).2
    have hD2 := h.st.keep (H1 := K2) (fun q q1 q2 => hFo.2 q (by omega))
    rcases h2 with ⟨q, _⟩ | ⟨i, hi, hij, _, _, e, he, a5, hme, y, q1, q2, q3, q4⟩
    · exact absurd rfl q
    · have : j = i := nI4 hj hi hij
      subst this
      have hans : ans = entV (V j) m b := by injection hans with h9; injection h9
      obtain ⟨⟨r1, r2, r3, r4, r5⟩, ⟨s1, s2⟩, hh, ss, oo, hI⟩ := hR.1 j hj
      have hlt : mCnt (A 5) (nI j) e < (V j).2.2.1 := by rw [r3]; exact mCnt_lt he a5
      have hb := hI.1
      obtain ⟨c1, c2, c3, c4⟩ := r5 e he a5 _ rfl
      obtain ⟨d1, d2, d3, d4, _⟩ := hI.2.1 _ hlt
      have heq : entV (V j) m b = y := by
        unfold entV
        rw [hme, atV_nI (by omega) (by decide), atV_nI (by omega) (by decide), atV_nI (by omega) (by decide)]
        rcases q2 with ⟨w1, w2⟩ | ⟨w1, w2⟩ | ⟨w1, kk, w2, w3, w4, w5⟩
        · rw [if_pos w1, w2, c1]
        · rw [w1, if_neg (by decide), if_pos rfl, w2, c3, c4, d1, tn_nI (by omega), atV_nI (by omega) (by decide)]
        · rw [w1, if_neg (by decide), if_neg (by decide), w3, d1]
          rw [d1, tn_nI (by omega)] at c3
          have hkh : kk ≤ hh (mCnt (A 5) (nI j) e) := by
            rcases Nat.lt_or_ge (hh (mCnt (A 5) (nI j) e)) kk with z9 | z9
            · exact absurd (by rw [(r4 _ d4).1, c3]) (w5 _ z9)
            · exact z9
          have := s2 kk _ (by omega) d4 (by rw [← (r4 kk (by omega)).1, w4, c3])
          rw [this]
      exact ⟨_, q1, J_fin hD2 hR q3 (Mg.of q4) hG hja h.2.2.2.1.up (fun _ => by rw [hf0, hans, heq])⟩
  · have hk1 : k = 1 := by injection hk with h9; injection h9
    obtain ⟨hG, hno⟩ := thX_IA hp
    have hno : ¬ mOkE A dn en x m b := fun q => hno (hokI.mp q)
    rw [if_neg hno] at h2
    rcases h2 with ⟨_, q2, q3, q4⟩ | ⟨i, hi, rfl, q1, q2, e, he, a5, hme, _⟩
    · exact ⟨0, q2, by rw [hk1]; exact J_ref h hG (fun _ _ _ => rfl) q3 (Mg.of q4) (by decide)⟩
    · have hent := hR.ent hi
      have hlt := mCnt_lt he a5
      have hr3 := (hR.1 i hi).1.2.2.1
      exact absurd ⟨⟨dkIs_nI hi, Or.inr ⟨by rw [hme]; exact nI_pos' (by omega), by rw [hme]; exact (nI_ltI (by omega) (by omega)).mpr hlt⟩⟩, q1⟩ hno
  · have hk1 : k = 2 := by injection hk with h9; injection h9
    obtain ⟨hG, hok, hdn⟩ := thX_IS hp
    have hok : mOkE A dn en x m b := hokI.mpr hok
    rw [if_pos hok, if_neg hdn] at h2
    rcases h2 with ⟨_, q2, q3, q4⟩ | ⟨i, hi, rfl, q1, q2, _⟩
    · exact ⟨0, q2, by rw [hk1]; exact J_ref h hG (fun _ _ _ => rfl) q3 (Mg.of q4) (by decide)⟩
    · exact absurd q2 hdn
theorem J_byteAt (h : JS g z S B P V bu A C a tc dn wr cd en pl n H) {x m b k : Int32} {v : Option Value} (h1 : hPo g (z + 51) (cBy V dn x m b H) (thX (dkIs x ∧ (¬ dn = 0 ∨ ∀ j : Nat, j < 4 → x = nI j → (0 ≤ m ∧ m ≤ nI (V j).2.2.1 - 1) ∧ (0 ≤ b ∧ b ≤ atV ((V j).1 2) 512 m - 1))) dn H) (some (.int k)) K2) (h2 : mBy g (z + 38) S B C a A wr tc dn en pl (szV V) x m b K2 v H2) : ∃ y, v = some (.int y) ∧ OK2 g z S B (n + 1) k y K2 H2 := by
  unfold mBy at h2
  rw [goC_eq] at h2
  have hR := h.2.2.1
  have hsz : ∀ j, j < 4 → (0 ≤ m ∧ m ≤ nI (V j).2.2.1 - 1) → ∃ s : Nat, 1 ≤ s ∧ s ≤ 20000 ∧ atV ((V j).1 2) 512 m = nI s ∧ szV V (tn (nI j)) (tn m) = nI s := fun j hj hmm => by
    obtain ⟨_, _, hh, ss, oo, hI⟩ := hR.1 j hj
    have hb := hI.1
    have h0 := i32_le.mp hmm.1
    rw [show (0 : Int32).toInt = 0 from rfl] at h0
    have hmt : m = nI (tn m) := (nI_tc h0).symm
    have hcl := i32_cl m
    have hlt : tn m < (V j).2.2.1 := by
      have h9 := (le_m1 (by omega) hmm.1).mp hmm.2
      rw [hmt] at h9
      exact (nI_ltI hcl (by omega)).mp h9
    obtain ⟨d1, d2, d3, d4, d5, d6, _⟩ := hI.2.1 _ hlt
    refine ⟨ss (tn m), d5, d6, ?_, ?_⟩
    · rw [hmt, atV_nI (by omega) (by decide), ← hmt]; exact d2
    · rw [tn_nI (by omega)]; exact d2
  have hokI : mOkB A (szV V) dn en x m b ↔ (dkIs x ∧ (¬ dn = 0 ∨ ∀ j : Nat, j < 4 → x = nI j → (0 ≤ m ∧ m ≤ nI (V j).2.2.1 - 1) ∧ (0 ≤ b ∧ b ≤ atV ((V j).1 2) 512 m - 1))) := by
    constructor
    · rintro ⟨⟨q1, q2⟩, q3⟩
      refine ⟨q1, ?_⟩
      by_cases hd : dn = 0
      · right
        intro j hj hx
        subst hx
        have hmm := (isE_iff hR hj).mpr (q2.resolve_left (fun q => q hd))
        obtain ⟨s, s1, s2, s3, s4⟩ := hsz j hj hmm
        obtain ⟨w1, w2⟩ := q3.resolve_left (fun q => q hd)
        rw [s4] at w2
        exact ⟨hmm, w1, by rw [s3]; exact (le_m1 s2 w1).mpr w2⟩
      · exact Or.inl hd
    · rintro ⟨q1, q2⟩
      by_cases hd : dn = 0
      · obtain ⟨j, hj, rfl⟩ := dkIs_of q1
        obtain ⟨hmm, w1, w2⟩ := q2.resolve_left (fun q => q hd) j hj rfl
        obtain ⟨s, s1, s2, s3, s4⟩ := hsz j hj hmm
        rw [s3] at w2
        exact ⟨⟨q1, Or.inr ((isE_iff hR hj).mp hmm)⟩, Or.inr ⟨w1, by rw [s4]; exact (le_m1 s2 w1).mp w2⟩⟩
      · exact ⟨⟨q1, Or.inl hd⟩, Or.inl hd⟩
  rcases h1 with ⟨hk, ans, K, f, ⟨⟨j, hj, rfl, hmm, hbb, hans⟩, hdn, rfl⟩, hja, hf0, hFo⟩ | ⟨hk, hp⟩ | ⟨hk, hp⟩
  · have hk0 : k = 0 := by cases hk; rfl
    subst hk0
    subst hdn
    have hok : mOkB A (szV V) 0 en (nI j) m b := hokI.mpr ⟨dkIs_nI hj, Or.inr (fun i hi hij => by have := nI4 hj hi hij; subst this; exact ⟨hmm, hbb⟩)⟩
    rw [if_pos hok, if_pos rfl] at h2
    have hG := (h.mid (MK.fr Fr.rf hFo)).2
    have hD2 := h.st.keep (H1 := K2) (fun q q1 q2 => hFo.2 q (by omega))
    rcases h2 with ⟨q, _⟩ | ⟨i, hi, hij, _, e, he, a5, hme, _, q1, q3, q4⟩
    · exact absurd rfl q
    · have : j = i := nI4 hj hi hij
      subst this
      have hans : ans = (atV ((V j).1 3) 512 m + b) &&& 255 := by injection hans with h9; injection h9
      obtain ⟨⟨r1, r2, r3, r4, r5⟩, ⟨s1, s2⟩, hh, ss, oo, hI⟩ := hR.1 j hj
      have hlt : mCnt (A 5) (nI j) e < (V j).2.2.1 := by rw [r3]; exact mCnt_lt he a5
      have hb := hI.1
      have heq : (atV ((V j).1 3) 512 m + b) &&& 255 = (A 7 e + b) &&& 255 := by
        rw [hme, atV_nI (by omega) (by decide), (r5 e he a5 _ rfl).2.1]
      exact ⟨_, q1, J_fin hD2 hR q3 (Mg.of q4) hG hja h.2.2.2.1.up (fun _ => by rw [hf0, hans, heq])⟩
  · have hk1 : k = 1 := by injection hk with h9; injection h9
    obtain ⟨hG, hno⟩ := thX_IA hp
    have hno : ¬ mOkB A (szV V) dn en x m b := fun q => hno (hokI.mp q)
    rw [if_neg hno] at h2
    rcases h2 with ⟨_, q2, q3, q4⟩ | ⟨i, hi, rfl, q2, e, he, a5, hme, hbk, _⟩
    · exact ⟨0, q2, by rw [hk1]; exact J_ref h hG (fun _ _ _ => rfl) q3 (Mg.of q4) (by decide)⟩
    · have hent := hR.ent hi
      have hlt := mCnt_lt he a5
      have hr3 := (hR.1 i hi).1.2.2.1
      refine absurd ⟨⟨dkIs_nI hi, Or.inr ⟨by rw [hme]; exact nI_pos' (by omega), by rw [hme]; exact (nI_ltI (by omega) (by omega)).mpr hlt⟩⟩, Or.inr ⟨hbk.1, ?_⟩⟩ hno
      rw [hme, tn_nI (by omega), tn_nI (by omega)]
      show b < (V i).1 2 _
      rw [← ((hR.1 i hi).1.2.2.2.2 e he a5 _ rfl).1]
      exact hbk.2
  · have hk1 : k = 2 := by injection hk with h9; injection h9
    obtain ⟨hG, hok, hdn⟩ := thX_IS hp
    have hok := hokI.mpr hok
    rw [if_pos hok, if_neg hdn] at h2
    rcases h2 with ⟨_, q2, q3, q4⟩ | ⟨i, hi, rfl, q2, _⟩
    · exact ⟨0, q2, by rw [hk1]; exact J_ref h hG (fun _ _ _ => rfl) q3 (Mg.of q4) (by decide)⟩
    · exact absurd q2 hdn
theorem J_crash (h : JS g z S B P V bu A C a tc dn wr cd en pl n H) {x k : Int32} {v : Option Value} (h1 : hPv (cCr g z S B P V bu dn wr x H) (thX (-1 ≤ x ∧ x ≤ 1000) dn H) (some (.int k)) K2) (h2 : mCr g (z + 38) S B C a A wr tc dn en pl x K2 v H2) : v = none ∧ OK1 g z S B (n + 1) k K2 H2 := by
  obtain ⟨hv, h2⟩ := h2
  rw [goC_eq] at h2
  refine ⟨hv, ?_⟩
  rcases h1 with ⟨hk, _, hx, hdn, hD, hFo⟩ | ⟨hk, hp⟩ | ⟨hk, hp⟩
  · have hk0 : k = 0 := by cases hk; rfl
    subst hk0
    subst hdn
    rw [if_pos hx, if_pos rfl] at h2
    have hFr : Fr z 38 H K2 := Fr.one hFo.1 hFo.2 (Nat.le_refl _) (by omega)
    have hG := (h.mid (MK.fr1 hFr)).2
    obtain ⟨f, hf⟩ := h.2.2.2.2.2
    obtain ⟨c1, c2, c3, c4, c5⟩ := h.2.2.2.1
    rcases h2 with ⟨q, _⟩ | ⟨_, _, q2, q3⟩
    · exact absurd rfl q
    · refine J_fin1 ⟨P, V, bu, hD, fun _ _ => rfl, h.1.2⟩ h.2.2.1 q2 (Mg.of q3) hG (hf.kept (hFo.2 _ (by omega))) ⟨?_, ?_, by omega, c4, c5⟩
      · by_cases q : x = -1
        · exact Or.inl q
        · right
          have a1 := i32_le.mp hx.1
          rw [show (-1 : Int32).toInt = -1 from rfl] at a1
          have a2 : ¬ x.toInt = -1 := fun z9 => q (i32_ext z9)
          exact i32_le.mpr (by rw [show (0 : Int32).toInt = 0 from rfl]; omega)
      · split
        · exact Or.inr rfl
        · exact Or.inl rfl
  · have hk1 : k = 1 := by injection hk with h9; injection h9
    obtain ⟨hG, hno⟩ := thX_IA hp
    rw [if_neg hno] at h2
    rcases h2 with ⟨_, q3, q4⟩ | ⟨q1, _⟩
    · rw [hk1]; exact (J_ref (y := 0) h hG (fun _ _ _ => rfl) q3 (Mg.of q4) (by decide)).one
    · exact absurd q1 hno
  · have hk1 : k = 2 := by injection hk with h9; injection h9
    obtain ⟨hG, hok, hdn⟩ := thX_IS hp
    rw [if_pos hok, if_neg hdn] at h2
    rcases h2 with ⟨_, q3, q4⟩ | ⟨_, q1, _⟩
    · rw [hk1]; exact (J_ref (y := 0) h hG (fun _ _ _ => rfl) q3 (Mg.of q4) (by decide)).one
    · exact absurd q1 hdn
theorem J_free (hSB : dkB S B) (h : JS g z S B P V bu A C a tc dn wr cd en pl n H) {k : Int32} {v : Option Value} (h1 : hPf g (z + 51) (cFr g z S B P V tc dn wr H) (thX True dn H) (some (.int k)) K2) (h2 : mFre g (z + 38) S B C a A wr tc dn en pl K2 v H2) : ∃ y, v = some (.int y) ∧ OK2 g z S B (n + 1) k y K2 H2 := by
  rcases h1 with ⟨hk, ans, K, f, ⟨hans, hdn, hD, hFo9⟩, hja, hf0, hFo⟩ | ⟨hk, hp⟩
  · have hk0 : k = 0 := by cases hk; rfl
    subst hk0
    subst hdn
    have hFr : Fr z 38 H K := Fr.one hFo9.1 hFo9.2 (by omega) (by omega)
    have hG := (h.mid (MK.fr hFr hFo)).2
    have hR := h.2.2.1
    rcases h2 with ⟨q, _⟩ | ⟨_, q1, q2, q3⟩
    · exact absurd rfl q
    · have hans : ans = nI (cntF (mkD B S V 4) B) := by injection hans with h9; injection h9
      have hst : dkSt g z S B V tc 0 wr K := ⟨P, V, mkD B S V 4, hD, fun _ _ => rfl, h.1.2⟩
      exact ⟨_, q1, J_fin (hst.keep (fun q q1 q2 => hFo.2 q (by omega))) (hR.cong (fun q q1 q2 => by unfold mH; rw [va_up_ne _ _ q2]) (fun _ _ => rfl)) q2 (Mg.of q3) hG hja h.2.2.2.1.up (fun _ => by rw [hf0, hans, cntF_congr B (mkD_agr hSB hR.st 4 (Nat.le_refl 4))])⟩
  · have hk1 : k = 1 := by injection hk with h9; injection h9
    obtain ⟨hG, _, hdn⟩ := thX_IS hp
    rcases h2 with ⟨_, q2, q3, q4⟩ | ⟨q1, _⟩
    · exact ⟨0, q2, by rw [hk1]; exact J_ref h hG (fun _ _ _ => rfl) q3 (Mg.of q4) (by decide)⟩
    · exact absurd q1 hdn
end JR
section JQ
variable {g : Gx} {z S B : Nat} {P : Nat → Nat} {V : Nat → LV} {bu : Nat → Int32} {A : Nat → Nat → Int32} {C : Nat} {a : Nat → Nat} {tc dn wr cd : Int32} {en pl n : Nat} {H K2 H2 : Heap}
theorem J_recover (h : JS g z S B P V bu A C a tc dn wr cd en pl n H) {r v : Option Value} (h1 : r = some (.int (nI (sumE V 4))) ∧ dkAt g z S B P V bu (-1) 0 wr K2 ∧ Fo z H K2) (h2 : v = some (.int (nI en)) ∧ mdAt g (z + 38) S B C a A 0 wr (-1) 0 en pl H2 ∧ Mo (z + 38) a K2 H2) : r = v ∧ OK1 g z S B (n + 1) 0 K2 H2 := by
  obtain ⟨rfl, hD, hFo⟩ := h1
  obtain ⟨rfl, q2, q3⟩ := h2
  rw [h.2.2.1.sum]
  refine ⟨rfl, ?_⟩
  have hFr : Fr z 38 H K2 := Fr.one hFo.1 hFo.2 (Nat.le_refl _) (by omega)
  obtain ⟨f, hf⟩ := h.2.2.2.2.2
  obtain ⟨c1, c2, c3, c4, c5⟩ := h.2.2.2.1
  exact J_fin1 ⟨P, V, bu, hD, fun _ _ => rfl, h.1.2⟩ h.2.2.1 q2 (Mg.of q3) (h.mid (MK.fr1 hFr)).2 (hf.kept (hFo.2 _ (by omega))) ⟨Or.inl rfl, Or.inl rfl, by omega, c4, c5⟩
theorem J_same (h : JS g z S B P V bu A C a tc dn wr cd en pl n H) (q2 : mdAt g (z + 38) S B C a A 0 wr tc dn en pl H2) (q3 : Mo (z + 38) a H H2) : OK1 g z S B (n + 1) 0 H H2 := by
  obtain ⟨f, hf⟩ := h.2.2.2.2.2
  exact J_fin1 h.st h.2.2.1 q2 (Mg.of q3) (h.mid (MK.gr Gr.rf)).2 hf h.2.2.2.1.up
theorem J_none (h : JS g z S B P V bu A C a tc dn wr cd en pl n H) : JS g z S B P V bu A C a tc dn wr cd en pl (n + 1) H := ⟨h.1, h.2.1, h.2.2.1, h.2.2.2.1.up, h.2.2.2.2⟩
theorem hPo_int {oa : Nat} {post : Option Value → Heap → Prop} {px : String → Heap → Prop} {v : Option Value} (h : hPo g oa post px v K2) : ∃ k, v = some (.int k) := by
  rcases h with ⟨q, _⟩ | ⟨q, _⟩ | ⟨q, _⟩ <;> exact ⟨_, q⟩
theorem hPv_int {post : Option Value → Heap → Prop} {px : String → Heap → Prop} {v : Option Value} (h : hPv post px v K2) : ∃ k, v = some (.int k) := by
  rcases h with ⟨q, _⟩ | ⟨q, _⟩ | ⟨q, _⟩ <;> exact ⟨_, q⟩
theorem hPf_int {oa : Nat} {post : Option Value → Heap → Prop} {px : String → Heap → Prop} {v : Option Value} (h : hPf g oa post px v K2) : ∃ k, v = some (.int k) := by
  rcases h with ⟨q, _⟩ | ⟨q, _⟩ <;> exact ⟨_, q⟩
theorem hPo_MK {post : Option Value → Heap → Prop} {px : String → Heap → Prop} {v : Option Value} (h : hPo g (z + 51) post px v K2) (h1 : ∀ v K, post v K → Fr z 38 H K) (h2 : ∀ E K, px E K → Gr H K) : MK z H K2 := by
  rcases h with ⟨_, ans, K, f, q, _, _, q2⟩ | ⟨_, q⟩ | ⟨_, q⟩
  · exact MK.fr (h1 _ _ q) q2
  · exact MK.gr (h2 _ _ q)
  · exact MK.gr (h2 _ _ q)
theorem hPf_MK {post : Option Value → Heap → Prop} {px : String → Heap → Prop} {v : Option Value} (h : hPf g (z + 51) post px v K2) (h1 : ∀ v K, post v K → Fr z 38 H K) (h2 : ∀ E K, px E K → Gr H K) : MK z H K2 := by
  rcases h with ⟨_, ans, K, f, q, _, _, q2⟩ | ⟨_, q⟩
  · exact MK.fr (h1 _ _ q) q2
  · exact MK.gr (h2 _ _ q)
theorem hPv_MK {post : Option Value → Heap → Prop} {px : String → Heap → Prop} {v : Option Value} (h : hPv post px v K2) (h1 : ∀ v K, post v K → Fr z 38 H K) (h2 : ∀ E K, px E K → Gr H K) : MK z H K2 := by
  rcases h with ⟨_, q⟩ | ⟨_, q⟩ | ⟨_, q⟩
  · exact MK.fr1 (h1 _ _ q)
  · exact MK.gr (h2 _ _ q)
  · exact MK.gr (h2 _ _ q)
theorem S_MK {H0 : Heap} {locs locs1 : List Loc} (hS : va_S (fG H0.size) H0 H locs) (hM : MK H0.size H K2) (hL : ∀ q ∈ locs1, fG H0.size q.base) : va_S (fG H0.size) H0 K2 locs1 :=
  ⟨Nat.le_trans hS.1 hM.1, fun q h1 h2 => (hM.2 q (Or.inl h1) (Nat.lt_of_lt_of_le h1 hS.1) (by omega)).trans (hS.2.1 q h1 h2), hL⟩
theorem S_PX {H0 : Heap} {locs locs1 : List Loc} (hS : va_S (fG H0.size) H0 H locs) (hM : PX H0.size H K2) (hL : ∀ q ∈ locs1, fG H0.size q.base) : va_S (fG H0.size) H0 K2 locs1 :=
  ⟨Nat.le_trans hS.1 hM.1, fun q h1 h2 => (hM.2 q h1).trans (hS.2.1 q h1 h2), hL⟩
theorem fN_G (hG : JG z a K2) : ∀ q, fN (z + 38) a K2.size q → fG z q := fun q h => by
  show z ≤ q
  rcases h with (h | ⟨k, hk, h⟩) | h
  · rw [h]; omega
  · have := (hG.1 k hk).1; omega
  · have := hG.2; omega
theorem fM_G (hG : JG z a K2) : ∀ q, fM (z + 38) a q → fG z q := fun q h => by
  show z ≤ q
  rcases h with h | ⟨k, hk, h⟩
  · rw [h]; omega
  · have := (hG.1 k hk).1; omega
theorem XX_S {sa : Nat → Nat} {s : State} {H : Heap} {locs : List Loc} (h : XX s.heap.size sa s s.heap) (hS : va_S (fG s.heap.size) s.heap H locs) : XX s.heap.size sa s H := h.kept (fun q h1 h2 => hS.2.1 q h2 (Nat.not_le.mpr h1))
theorem Rel.seg (hR : Rel S B V A en) : ∀ i, i < 4 → ∀ e, e < en → A 5 e = nI i → ∃ k, k < 60 ∧ A 1 (60 * i + k) = A 8 e := fun i hi e he a5 => by
  obtain ⟨⟨r1, r2, r3, r4, r5⟩, _, hh, ss, oo, hI⟩ := hR.1 i hi
  have hlt : mCnt (A 5) (nI i) e < (V i).2.2.1 := by rw [r3]; exact mCnt_lt he a5
  obtain ⟨d1, _, _, d4, _⟩ := hI.2.1 _ hlt
  have hb := hI.1
  refine ⟨hh (mCnt (A 5) (nI i) e), by omega, ?_⟩
  rw [(r4 _ d4).1, (r5 e he a5 _ rfl).2.2.1, d1, tn_nI (by omega)]
theorem Rel.szs (hR : Rel S B V A en) : ∀ i, i < 4 → ∀ e, e < en → A 5 e = nI i → A 6 e = szV V i (mCnt (A 5) (nI i) e) := fun i hi e he a5 => ((hR.1 i hi).1.2.2.2.2 e he a5 _ rfl).1
end JQ
