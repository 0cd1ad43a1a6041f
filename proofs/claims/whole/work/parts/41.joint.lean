/-! CLASS AND REFERENCE ON ONE HEAP: the class's cells from z on, the reference at z + 38, the law's row at z + 51 -/
def JG (z : Nat) (a : Nat → Nat) (H : Heap) : Prop := (∀ k, k < 12 → z + 39 ≤ a k ∧ a k ≠ z + 51 ∧ a k < H.size) ∧ z + 52 ≤ H.size
def JC (tc dn : Int32) (en n C : Nat) : Prop := (tc = -1 ∨ 0 ≤ tc) ∧ (dn = 0 ∨ dn = 1) ∧ en ≤ n ∧ (C = 64 ∨ C = 128 ∨ C = 256 ∨ C = 512) ∧ en ≤ C
def JS (g : Gx) (z S B : Nat) (P : Nat → Nat) (V : Nat → LV) (bu : Nat → Int32) (A : Nat → Nat → Int32) (C : Nat) (a : Nat → Nat) (tc dn wr cd : Int32) (en pl n : Nat) (H : Heap) : Prop :=
  (dkAt g z S B P V bu tc dn wr H ∧ ∀ m, m < 5 → lgOk (V m)) ∧ mdAt g (z + 38) S B C a A cd wr tc dn en pl H ∧ Rel S B V A en ∧ JC tc dn en n C ∧ JG z a H ∧ ∃ f, ja g (z + 51) 1 f H
/-- nothing below z has changed -/
def PX (z : Nat) (K H : Heap) : Prop := K.size ≤ H.size ∧ ∀ q : Nat, q < z → H[q]? = K[q]?
/-- the law's two numbers agree, and all stands as before -/
def OK2 (g : Gx) (z S B n : Nat) (k y : Int32) (K H : Heap) : Prop := PX z K H ∧ ∃ (P : Nat → Nat) (V : Nat → LV) (bu : Nat → Int32) (A : Nat → Nat → Int32) (C : Nat) (a : Nat → Nat) (tc dn wr : Int32) (en pl : Nat), JS g z S B P V bu A C a tc dn wr k en pl n H ∧ (k = 0 → ∃ f, ja g (z + 51) 1 f H ∧ f 0 = y.toInt64)
theorem mdArr.lt {g : Gx} {a k n : Nat} {f : Nat → Int32} {H : Heap} (h : mdArr g a k n f H) : a < H.size := by
  unfold mdArr at h
  split at h
  · exact za.lt h
  · exact ia.lt h
theorem mdAt.keep {g : Gx} {r S B C : Nat} {a : Nat → Nat} {A : Nat → Nat → Int32} {cd wr lf dn : Int32} {en pl : Nat} {H H1 : Heap} (h : mdAt g r S B C a A cd wr lf dn en pl H) (hr : H1[r]? = H[r]?) (ha : ∀ k, k < 12 → H1[a k]? = H[a k]?) : mdAt g r S B C a A cd wr lf dn en pl H1 := ⟨h.1.kept hr, fun k hk => (h.2.1 k hk).kept (ha k hk), h.2.2⟩
theorem dkSt.keep {g : Gx} {d S B : Nat} {U : Nat → LV} {tc dn wr : Int32} {H H1 : Heap} (h : dkSt g d S B U tc dn wr H) (hq : ∀ q, d ≤ q → q < d + 38 → H1[q]? = H[q]?) : dkSt g d S B U tc dn wr H1 := by
  obtain ⟨P, V, bv, h1, h2, h3⟩ := h
  exact ⟨P, V, bv, h1.kept hq, h2, h3⟩
/-- what lies from z + 38 on, the law's row apart, has not changed -/
def MK (z : Nat) (H K : Heap) : Prop := H.size ≤ K.size ∧ ∀ q : Nat, (q < z ∨ z + 38 ≤ q) → q < H.size → q ≠ z + 51 → K[q]? = H[q]?
theorem MK.gr {z : Nat} {H K : Heap} (h : Gr H K) : MK z H K := ⟨h.1, fun q _ h2 _ => h.2 q h2⟩
theorem MK.fr {z : Nat} {H K K2 : Heap} (h : Fr z 38 H K) (h2 : Fo (z + 51) K K2) : MK z H K2 := ⟨by rw [h2.1, h.1]; exact Nat.le_refl _, fun q q1 _ q3 => (h2.2 q q3).trans (h.2 q q1)⟩
theorem MK.fr1 {z : Nat} {H K : Heap} (h : Fr z 38 H K) : MK z H K := ⟨by rw [h.1]; exact Nat.le_refl _, fun q q1 _ _ => h.2 q q1⟩
section JJ
variable {g : Gx} {z S B : Nat} {P : Nat → Nat} {V : Nat → LV} {bu : Nat → Int32} {A : Nat → Nat → Int32} {C : Nat} {a : Nat → Nat} {tc dn wr cd : Int32} {en pl n : Nat} {H K2 H2 : Heap}
theorem JS.mid (h : JS g z S B P V bu A C a tc dn wr cd en pl n H) (hK : MK z H K2) : mdAt g (z + 38) S B C a A cd wr tc dn en pl K2 ∧ JG z a K2 := by
  obtain ⟨_, h2, _, _, ⟨h5, h6⟩, _⟩ := h
  refine ⟨h2.keep (hK.2 _ (by omega) (by omega) (by omega)) (fun k hk => hK.2 _ (by have := h5 k hk; omega) (h5 k hk).2.2 (h5 k hk).2.1), fun k hk => ?_, by have := hK.1; omega⟩
  have := h5 k hk
  have := hK.1
  omega
/-- the end of every call -/
theorem J_fin {U : Nat → LV} {A2 : Nat → Nat → Int32} {C2 : Nat} {a2 : Nat → Nat} {en2 pl2 : Nat} {k y : Int32} {f : Nat → Int64} (hD : dkSt g z S B U tc dn wr K2) (hR : Rel S B U A2 en2) (hM : mdAt g (z + 38) S B C2 a2 A2 k wr tc dn en2 pl2 H2) (hMg : Mg (z + 38) a a2 K2 H2) (hG : JG z a K2) (hj : ja g (z + 51) 1 f K2) (hc : JC tc dn en2 n C2) (hy : k = 0 → f 0 = y.toInt64) : OK2 g z S B n k y K2 H2 := by
  obtain ⟨g1, g2⟩ := hG
  obtain ⟨m1, m2, m3⟩ := hMg
  have hkeep : ∀ q : Nat, q < z + 38 → H2[q]? = K2[q]? := fun q hq => m2 q (by omega) (by omega) (fun k hk he => by have := (g1 k hk).1; omega)
  have hjk : ja g (z + 51) 1 f H2 := hj.kept (m2 _ (by omega) (by omega) (fun k hk he => (g1 k hk).2.1 he.symm))
  obtain ⟨P, V, bv, d1, d2, d3⟩ := hD.keep (fun q _ hq => hkeep q hq)
  refine ⟨⟨m1, fun q hq => hkeep q (by omega)⟩, P, V, bv, A2, C2, a2, tc, dn, wr, en2, pl2, ⟨⟨d1, d3⟩, hM, hR.cong (fun _ _ _ => rfl) d2, hc, ⟨fun k hk => ?_, by omega⟩, f, hjk⟩, fun hk => ⟨f, hjk, hy hk⟩⟩
  have h1 := (hM.2.1 k hk).lt
  rcases m3 k hk with h2 | h2
  · rw [h2] at h1 ⊢
    exact ⟨(g1 k hk).1, (g1 k hk).2.1, h1⟩
  · exact ⟨by omega, by omega, h1⟩
theorem JS.st (h : JS g z S B P V bu A C a tc dn wr cd en pl n H) : dkSt g z S B V tc dn wr H := ⟨P, V, bu, h.1.1, fun _ _ => rfl, h.1.2⟩
theorem JC.up (h : JC tc dn en n C) : JC tc dn en (n + 1) C := ⟨h.1, h.2.1, by have := h.2.2.1; omega, h.2.2.2⟩
/-- a refused call -/
theorem J_ref {A2 : Nat → Nat → Int32} {pl2 : Nat} {k y : Int32} (h : JS g z S B P V bu A C a tc dn wr cd en pl n H) (hG : Gr H K2) (hA : ∀ q, q < 10 → ¬ q = 4 → A2 q = A q) (hM : mdAt g (z + 38) S B C a A2 k wr tc dn en pl2 H2) (hMg : Mg (z + 38) a a K2 H2) (hk : ¬ k = 0) : OK2 g z S B (n + 1) k y K2 H2 := by
  have h6 := h.2.2.2.2.1.2
  obtain ⟨f, hf⟩ := h.2.2.2.2.2
  exact J_fin (h.st.keep (fun q q1 q2 => hG.2 q (by omega))) (h.2.2.1.cong hA (fun _ _ => rfl)) hM hMg (h.mid (MK.gr hG)).2 (hf.kept (hG.2 _ (by omega))) h.2.2.2.1.up (fun q => absurd q hk)
end JJ
theorem goC_eq (ok : Prop) [Decidable ok] (dn : Int32) : goC (if ok then 1 else 0) dn = if ok then (if dn = 0 then 0 else 2) else 1 := by
  unfold goC
  by_cases h : ok
  · rw [if_pos h, if_pos h, if_neg (by decide)]
  · rw [if_neg h, if_neg h, if_pos rfl]
theorem thX_IA {ok : Prop} {dn : Int32} {H K : Heap} (h : thX ok dn H nIA K) : Gr H K ∧ ¬ ok := by
  refine ⟨h.1, ?_⟩
  rcases h.2 with q | q
  · exact q.2
  · exact absurd q.1 (by decide)
theorem thX_IS {ok : Prop} {dn : Int32} {H K : Heap} (h : thX ok dn H nIS K) : Gr H K ∧ ok ∧ ¬ dn = 0 := by
  refine ⟨h.1, ?_⟩
  rcases h.2 with q | q
  · exact absurd q.1 (by decide)
  · exact q.2
theorem thX_any {ok : Prop} {dn : Int32} {H K : Heap} {E : String} (h : thX ok dn H E K) : E = nIA ∨ E = nIS := h.2.elim (fun q => Or.inl q.1) (fun q => Or.inr q.1)
theorem m20 {m : Int32} (h : 1 ≤ m ∧ m ≤ 20000) : ∃ t : Nat, 1 ≤ t ∧ t ≤ 20000 ∧ m = nI t := by
  have h1 := i32_le.mp h.1
  have h2 := i32_le.mp h.2
  rw [show (1 : Int32).toInt = 1 from rfl] at h1
  rw [show (20000 : Int32).toInt = 20000 from rfl] at h2
  have h3 := clamp_of_int (x := m) (by omega)
  exact ⟨m.toNatClampNeg, by omega, by omega, (nI_tc (by omega)).symm⟩
def cAp (g : Gx) (d S B : Nat) (V : Nat → LV) (tc dn wr i n b : Int32) (H : Heap) (r : Option Value) (H1 : Heap) : Prop := (∃ j : Nat, j < 4 ∧ i = nI j ∧ r = some (.int (apV B S V (V j) n b tc dn wr).1) ∧ dkSt g d S B (va_up V j (apV B S V (V j) n b tc dn wr).2.1) (apV B S V (V j) n b tc dn wr).2.2.1 (apV B S V (V j) n b tc dn wr).2.2.2.1 (apV B S V (V j) n b tc dn wr).2.2.2.2 H1) ∧ (1 ≤ n ∧ n ≤ 20000) ∧ dn = 0 ∧ Fr d 38 H H1
theorem mWh_neg {S B : Nat} {V : Nat → LV} {A : Nat → Nat → Int32} {i en : Nat} (hB : B ≤ 256) (hR : Rel S B V A en) (hi : i < 4) (n : Int32) : mWh A S B i n = -1 ∨ ¬ mWh A S B i n < 0 := by
  obtain ⟨⟨r1, r2, r3, r4, r5⟩, ⟨s1, s2⟩, _⟩ := hR.1 i hi
  unfold mWh
  by_cases q : mFit A S i n
  · rw [if_pos q]
    right
    have h1 := q.1
    rw [hR.tn0 hi] at h1 ⊢
    obtain ⟨x, x1, x2, x3⟩ := s1 ((V i).2.1 - 1) (by omega)
    rw [(r4 _ (by omega)).1, x1]
    exact nI_pos (by omega)
  · rw [if_neg q]
    split
    · exact Or.inl rfl
    · rcases mPl_spec (he := mMkA A S B 4) (S := S) (B + 1 - S - 4) 4 with ⟨h1, _⟩ | ⟨p, h1, h2, h3, _⟩
      · exact Or.inl h1
      · rw [h1]; exact Or.inr (nI_pos (by omega))
theorem ap_pos {S B : Nat} {V : Nat → LV} {A : Nat → Nat → Int32} {i en : Nat} (hS : S ≤ 16) (hR : Rel S B V A en) (hi : i < 4) {m : Nat} (hm : 1 ≤ m ∧ m ≤ 20000) : 0 < mCn A S i (nI m) := by
  obtain ⟨⟨r1, r2, r3, r4, r5⟩, ⟨s1, s2⟩, h, s, o, hI⟩ := hR.1 i hi
  have hfr : ∃ t : Nat, t ≤ 1024 * S ∧ mFrm A S i (nI m) = nI t := by
    unfold mFrm
    by_cases q : mFit A S i (nI m)
    · have h1 := q.1
      rw [if_pos q]
      rw [hR.tn0 hi] at h1 ⊢
      have hp := hI.pos h1
      rw [(r4 _ (by omega)).2, (hI.2.2.2.1 hp).2.2.2]
      exact ⟨_, (hI.2.1 _ (by omega)).2.2.2.2.2.2, rfl⟩
    · rw [if_neg q]; exact ⟨0, by omega, rfl⟩
  obtain ⟨t, t1, t2⟩ := hfr
  unfold mCn tcV
  rw [t2, show (4 : Int32) = nI 4 from rfl, nI_add, if_neg (nI_ne0 (by omega) (by omega)), (btV_nI (by omega) (by omega)).resolve_right (by omega), nI_1]
  have : (t + (m + 4) - 1) / 1024 ≤ 100 := by omega
  exact i32_nle.mp (nI_nle (by omega) (by omega))
theorem va_up_id {α : Type} (V : Nat → α) (j : Nat) : va_up V j (V j) = V := up_same V j
section JA
variable {g : Gx} {z S B : Nat} {P : Nat → Nat} {V : Nat → LV} {bu : Nat → Int32} {A : Nat → Nat → Int32} {C : Nat} {a : Nat → Nat} {tc dn wr cd : Int32} {en pl n : Nat} {H K2 H2 : Heap}
set_option maxHeartbeats 1000000 in
theorem J_append (hSB : dkB S B) (h : JS g z S B P V bu A C a tc dn wr cd en pl n H) (hn : n < 512) {x m b k : Int32} {v : Option Value} (h1 : hPo g (z + 51) (cAp g z S B V tc dn wr x m b H) (thX (dkIs x ∧ 1 ≤ m ∧ m ≤ 20000) dn H) (some (.int k)) K2) (h2 : mAppd g (z + 38) S B C a A cd wr tc dn en pl x m b K2 v H2) : ∃ y, v = some (.int y) ∧ OK2 g z S B (n + 1) k y K2 H2 := by
  unfold mAppd at h2
  rw [goC_eq] at h2
  rcases h1 with ⟨hk, ans, K, f, ⟨⟨j, hj, rfl, hans, hD⟩, hm, hdn, hFr⟩, hja, hf0, hFo⟩ | ⟨hk, hp⟩ | ⟨hk, hp⟩
  · have hk0 : k = 0 := by cases hk; rfl
    subst hk0
    subst hdn
    have hok : mOkA (nI j) m := ⟨dkIs_nI hj, hm.1, hm.2⟩
    rw [if_pos hok, if_pos rfl] at h2
    obtain ⟨t, t1, t2, rfl⟩ := m20 hm
    have hR := h.2.2.1
    obtain ⟨c1, c2, c3, c4, c5⟩ := h.2.2.2.1
    have hG := (h.mid (MK.fr hFr hFo)).2
    have hD2 := hD.keep (H1 := K2) (fun q q1 q2 => hFo.2 q (by omega))
    rcases h2 with ⟨q, _⟩ | ⟨i, hi, hij, _, _, _, h2⟩
    · exact absurd rfl q
    · have : j = i := nI4 hj hi hij
      subst this
      have hst := ap_st hSB hR hj (nI t)
      have hct := ap_ct hR hj (nI t) (by rw [show (4 : Int32) = nI 4 from rfl, nI_add]; exact nI_ne0 (by omega) (by omega))
      have hla : nI S * 1024 < nI t + 4 ↔ 1024 * nI S < nI t + 4 := by rw [Int32.mul_comm]
      have hans : ans = (apV B S V (V j) (nI t) b tc 0 wr).1 := by injection hans with h9; injection h9
      have he : (V j).2.2.1 < 512 := by rw [(hR.1 j hj).1.2.2.1]; have := mCnt_le (A 5) (nI j) en; omega
      rcases h2 with ⟨l1, l2, l3, l4⟩ | ⟨l1, w1, l2, l3, l4⟩ | ⟨l1, w1, l2, l3⟩
      · have hap : apV B S V (V j) (nI t) b tc 0 wr = (-5, V j, tc, 0, wr) := by unfold apV; rw [if_pos (hla.mpr l1)]
        rw [hap] at hans hD2
        dsimp only at hD2
        rw [va_up_id] at hD2
        exact ⟨-5, l2, J_fin hD2 hR l3 l4 hG hja ⟨c1, c2, by omega, c4, c5⟩ (fun _ => by rw [hf0, hans])⟩
      · have hm1 := (mWh_neg hSB.2.2.2 hR hj (nI t)).resolve_right (fun q => q w1)
        have hap : apV B S V (V j) (nI t) b tc 0 wr = (-2, V j, tc, 0, wr) := by unfold apV; rw [if_neg (fun q => l1 (hla.mp q)), if_pos (Or.inl (by rw [hst, hm1]))]
        rw [hap] at hans hD2
        dsimp only at hD2
        rw [va_up_id] at hD2
        exact ⟨-2, l2, J_fin hD2 (hR.cong (fun q q1 q2 => by unfold mH; rw [va_up_ne _ _ q2]) (fun _ _ => rfl)) l3 l4 hG hja ⟨c1, c2, by omega, c4, c5⟩ (fun _ => by rw [hf0, hans])⟩
      · have hpos := ap_pos hSB.2.1 hR hj ⟨t1, t2⟩
        obtain ⟨p1, p2, p3, p4, p5, p6⟩ := pw c1 hpos
        have hap : apV B S V (V j) (nI t) b tc 0 wr = (if spN tc (mCn A S j (nI t)) = 0 then mCn A S j (nI t) else -3, if spR tc (mCn A S j (nI t)) = 0 then V j else apNew B S V (V j) (nI t) b, spL tc (mCn A S j (nI t)), spN tc (mCn A S j (nI t)), wr + spW tc (mCn A S j (nI t))) := by
          unfold apV
          rw [if_neg (fun q => l1 (hla.mp q)), if_neg (fun q => q.elim (fun q1 => w1 (by rw [← hst, q1]; decide)) (fun q2 => q2 he)), hct, p1, p2, p3, p4]
        rw [hap] at hans hD2
        dsimp only at hans hD2
        rcases l3 with ⟨e1, e2, e3⟩ | ⟨e1, C2, a2, A2, e2, e3, e4, e5⟩
        · rw [if_pos e1, va_up_id] at hD2
          exact ⟨_, l2, J_fin hD2 (hR.cong (fun q q1 q2 => by unfold mH; rw [va_up_ne _ _ q2]) (fun _ _ => rfl)) e2 e3 hG hja ⟨p5, p6, by omega, c4, c5⟩ (fun _ => by rw [hf0, hans])⟩
        · rw [if_neg e1] at hD2
          have hla2 : t + 4 ≤ 1024 * S := by
            have h9 := i32_nlt.mp l1
            rw [show (4 : Int32) = nI 4 from rfl, nI_add, show (1024 : Int32) = nI 1024 from rfl, pk_mul] at h9
            have hS2 := hSB.2.1
            exact (nI_leI (by omega) (by omega)).mp h9
          have hR2 := ap_new hSB hR hj (by omega) ⟨t1, t2⟩ b hla2 w1 e4
          exact ⟨_, l2, J_fin hD2 hR2 e2 e5 hG hja ⟨p5, p6, by omega, by omega, by omega⟩ (fun _ => by rw [hf0, hans])⟩
  · have hk1 : k = 1 := by injection hk with h9; injection h9
    obtain ⟨hG, hno⟩ := thX_IA hp
    have hno : ¬ mOkA x m := fun q => hno ⟨q.1, q.2.1, q.2.2⟩
    rw [if_neg hno] at h2
    rcases h2 with ⟨_, q2, q3, q4⟩ | ⟨i, hi, rfl, q1, q2, _⟩
    · exact ⟨0, q2, by rw [hk1]; exact J_ref h hG (fun _ _ _ => rfl) q3 q4 (by decide)⟩
    · exact absurd ⟨dkIs_nI hi, q1, q2⟩ hno
  · have hk1 : k = 2 := by injection hk with h9; injection h9
    obtain ⟨hG, hok, hdn⟩ := thX_IS hp
    have hok : mOkA x m := ⟨hok.1, hok.2.1, hok.2.2⟩
    rw [if_pos hok, if_neg hdn] at h2
    rcases h2 with ⟨_, q2, q3, q4⟩ | ⟨i, hi, rfl, q1, q2, q3, _⟩
    · exact ⟨0, q2, by rw [hk1]; exact J_ref h hG (fun _ _ _ => rfl) q3 q4 (by decide)⟩
    · exact absurd q3 hdn
end JA
