/-! COUNTS -/
theorem mCnt_congr {f f2 : Nat → Int32} (x : Int32) : ∀ e, (∀ j, j < e → f2 j = f j) → mCnt f2 x e = mCnt f x e
  | 0, _ => rfl
  | e + 1, h => by simp only [mCnt]; rw [mCnt_congr x e (fun j hj => h j (by omega)), h e (by omega)]
theorem mCnt_lt {f : Nat → Int32} {x : Int32} {e n : Nat} (h : e < n) (hx : f e = x) : mCnt f x e < mCnt f x n := by
  have h1 := mCnt_mono f x (show e + 1 ≤ n by omega)
  simp only [mCnt] at h1
  rw [if_pos hx] at h1
  omega
theorem mCnt_ex {f : Nat → Int32} {x : Int32} {j : Nat} : ∀ n, j < mCnt f x n → ∃ e, e < n ∧ f e = x ∧ mCnt f x e = j
  | 0, h => absurd h (Nat.not_lt_zero _)
  | n + 1, h => by
    simp only [mCnt] at h
    by_cases hj : j < mCnt f x n
    · obtain ⟨e, h1, h2, h3⟩ := mCnt_ex n hj
      exact ⟨e, by omega, h2, h3⟩
    · by_cases hf : f n = x
      · rw [if_pos hf] at h
        exact ⟨n, by omega, hf, by omega⟩
      · rw [if_neg hf] at h; omega
theorem cK_congr {p q : Nat → Bool} : ∀ n, (∀ j, j < n → p j = q j) → cK p n = cK q n
  | 0, _ => rfl
  | n + 1, h => by simp only [cK]; rw [cK_congr n (fun j hj => h j (by omega)), h n (by omega)]
theorem cK_ex {p : Nat → Bool} {t : Nat} : ∀ n, t < cK p n → ∃ e, e < n ∧ p e = true ∧ cK p e = t
  | 0, h => absurd h (Nat.not_lt_zero _)
  | n + 1, h => by
    simp only [cK] at h
    by_cases hj : t < cK p n
    · obtain ⟨e, h1, h2, h3⟩ := cK_ex n hj
      exact ⟨e, by omega, h2, h3⟩
    · by_cases hf : p n = true
      · rw [if_pos hf] at h
        exact ⟨n, by omega, hf, by omega⟩
      · rw [if_neg hf] at h; omega
theorem cK_lt {p : Nat → Bool} {e n : Nat} (h : e < n) (hx : p e = true) : cK p e < cK p n := by
  have h1 := cK_mono p (show e + 1 ≤ n by omega)
  simp only [cK] at h1
  rw [if_pos hx] at h1
  omega
/-- what a count over a log's entries is, over its ranks -/
theorem cK_rank {f : Nat → Int32} {x : Int32} {q : Nat → Bool} : ∀ n, cK (fun e => decide (f e = x) && q (mCnt f x e)) n = cK q (mCnt f x n)
  | 0 => rfl
  | n + 1 => by
    simp only [cK, mCnt]
    rw [cK_rank n]
    by_cases h : f n = x
    · simp [h, cK]
    · simp [h]
theorem mIn_cK (A : Nat → Nat → Int32) (x y : Int32) : ∀ n, mIn A x y n = cK (fun e => decide (A 5 e = x) && decide (A 8 e = y)) n
  | 0 => rfl
  | n + 1 => by
    simp only [mIn, cK]
    rw [mIn_cK A x y n]
    by_cases h : A 5 n = x
    · by_cases h2 : A 8 n = y
      · simp [h, h2]
      · simp [h2]
    · simp [h]
theorem mIn_rank {A : Nat → Nat → Int32} {x y : Int32} {q : Nat → Bool} {n : Nat} (h : ∀ e, e < n → A 5 e = x → (A 8 e = y ↔ q (mCnt (A 5) x e) = true)) : mIn A x y n = cK q (mCnt (A 5) x n) := by
  rw [mIn_cK, ← cK_rank n]
  refine cK_congr n (fun e he => ?_)
  by_cases h5 : A 5 e = x
  · rw [decide_eq_true h5, Bool.true_and, Bool.true_and]
    by_cases h8 : A 8 e = y
    · rw [decide_eq_true h8, (h e he h5).mp h8]
    · rw [decide_eq_false h8]
      cases hq : q (mCnt (A 5) x e)
      · rfl
      · exact absurd ((h e he h5).mpr hq) h8
  · rw [decide_eq_false h5, Bool.false_and, Bool.false_and]
theorem cK_add {p q r : Nat → Bool} : ∀ n, (∀ j, j < n → (if p j = true then 1 else 0) = (if q j = true then 1 else 0) + (if r j = true then 1 else 0)) → cK p n = cK q n + cK r n
  | 0, _ => rfl
  | n + 1, h => by
    simp only [cK]
    rw [cK_add n (fun j hj => h j (by omega)), h n (by omega)]
    omega
theorem cK_all {p : Nat → Bool} : ∀ n, (∀ j, j < n → p j = true) → cK p n = n
  | 0, _ => rfl
  | n + 1, h => by simp only [cK]; rw [cK_all n (fun j hj => h j (by omega)), if_pos (h n (by omega))]
theorem cK_none {p : Nat → Bool} : ∀ n, (∀ j, j < n → p j = false) → cK p n = 0
  | 0, _ => rfl
  | n + 1, h => by simp only [cK]; rw [cK_none n (fun j hj => h j (by omega)), h n (by omega)]; rfl
theorem cK_ge {lo : Nat} : ∀ n, cK (fun j => decide (lo ≤ j)) n = n - lo
  | 0 => by simp [cK]
  | n + 1 => by
    simp only [cK]
    rw [cK_ge n]
    by_cases h : lo ≤ n
    · rw [if_pos (decide_eq_true h)]; omega
    · rw [if_neg (by simp [h])]; omega
/-- below: the entries whose segment comes before g -/
def loE (h : Nat → Nat) (g n : Nat) : Nat := cK (fun j => decide (h j < g)) n
theorem loE_iff {h : Nat → Nat} {g : Nat} : ∀ n, (∀ j, j + 1 < n → h j ≤ h (j + 1)) → ∀ j, j < n → (j < loE h g n ↔ h j < g)
  | 0, _, _, hj => absurd hj (Nat.not_lt_zero _)
  | n + 1, hm, j, hj => by
    have ih := loE_iff (g := g) n (fun j hj => hm j (by omega))
    have hle := cK_le (fun j => decide (h j < g)) n
    have hst : loE h g (n + 1) = loE h g n + (if h n < g then 1 else 0) := by
      unfold loE; simp only [cK, decide_eq_true_eq]
    have hle : loE h g n ≤ n := hle
    rw [hst]
    by_cases hn : h n < g
    · rw [if_pos hn]
      have hall : ∀ i, i ≤ n → h i < g := by
        intro i hi
        have : ∀ d, d ≤ n → h (n - d) ≤ h n := by
          intro d
          induction d with
          | zero => intro _; exact Nat.le_refl _
          | succ d ihd =>
            intro hd
            have h1 := ihd (by omega)
            have h2 := hm (n - (d + 1)) (by omega)
            rw [show n - (d + 1) + 1 = n - d by omega] at h2
            omega
        have h1 := this (n - i) (by omega)
        rw [show n - (n - i) = i by omega] at h1
        omega
      have hlo : loE h g n = n := cK_all n (fun i hi => decide_eq_true (hall i (by omega)))
      rw [hlo]
      exact ⟨fun _ => hall j (by omega), fun _ => by omega⟩
    · rw [if_neg hn, Nat.add_zero]
      by_cases hjn : j = n
      · subst hjn
        exact ⟨fun q => by omega, fun q => absurd q hn⟩
      · exact ih j (by omega)
theorem loE_succ (h : Nat → Nat) (g n : Nat) : loE h (g + 1) n = loE h g n + cK (fun j => decide (h j = g)) n := by
  unfold loE
  refine cK_add n (fun j _ => ?_)
  simp only [decide_eq_true_eq]
  by_cases h1 : h j < g
  · rw [if_pos h1, if_pos (by omega), if_neg (by omega)]
  · by_cases h2 : h j = g
    · rw [if_neg h1, if_pos (by omega), if_pos h2]
    · rw [if_neg h1, if_neg (by omega), if_neg h2]
theorem lgSm_congr {f f2 : Nat → Int32} {a b : Nat} : ∀ n, (∀ k, k < n → f2 (a + k) = f (b + k)) → lgSm f2 a n = lgSm f b n
  | 0, _ => rfl
  | n + 1, h => by simp only [lgSm]; rw [lgSm_congr n (fun k hk => h k (by omega)), h n (by omega)]
theorem lgSm_head (f : Nat → Int32) (k : Nat) : ∀ n, lgSm f k (n + 1) = f k + lgSm f (k + 1) n
  | 0 => by simp only [lgSm]; rw [Nat.add_zero, Int32.add_comm]
  | n + 1 => by
    have h := lgSm_head f k n
    show lgSm f k (n + 1) + f (k + (n + 1)) = f k + (lgSm f (k + 1) n + f (k + 1 + n))
    rw [h, Int32.add_assoc, show k + 1 + n = k + (n + 1) by omega]
/-! BLOCKS -/
def agr (B : Nat) (f f2 : Nat → Int32) : Prop := ∀ b, b < B → f b = f2 b
theorem agr.up {B : Nat} {f f2 : Nat → Int32} (h : agr B f f2) (k : Nat) (x : Int32) : agr B (upd f k x) (upd f2 k x) := fun b hb => by
  by_cases hk : b = k
  · subst hk; rw [pk_us, pk_us]
  · rw [pk_un hk, pk_un hk]; exact h b hb
theorem mkSeg_hold {B x : Nat} {bu he : Nat → Int32} (hB : B ≤ 256) (h : agr B bu he) : ∀ S, x + S ≤ B → agr B (mkSeg B bu (nI x) S) (mHold he x S)
  | 0, _ => h
  | S + 1, hx => by
    have ih := mkSeg_hold (x := x) hB h S (by omega)
    simp only [mkSeg, mHold]
    rw [nI_add]
    unfold setV
    rw [if_pos ⟨nI_pos' (by omega), (nI_ltI (by omega) (by omega)).mpr (by omega)⟩, nI_clamp (by omega)]
    exact ih.up _ _
theorem mHold_in {he : Nat → Int32} {x : Nat} : ∀ S b, mHold he x S b = if x ≤ b ∧ b < x + S then 1 else he b
  | 0, b => by rw [if_neg (by omega)]; rfl
  | S + 1, b => by
    simp only [mHold]
    by_cases hb : b = x + S
    · subst hb; rw [pk_us, if_pos (by omega)]
    · rw [pk_un hb, mHold_in S b]
      by_cases h1 : x ≤ b ∧ b < x + S
      · rw [if_pos h1, if_pos (by omega)]
      · rw [if_neg h1, if_neg (by omega)]
theorem mkHd_in {B : Nat} (hB1 : 16 ≤ B) (hB : B ≤ 256) : ∀ n b, n ≤ 4 → mkHd B n b = if b < n then 1 else 0
  | 0, b, _ => by rw [if_neg (by omega)]; rfl
  | n + 1, b, hn => by
    simp only [mkHd]
    unfold setV
    rw [if_pos ⟨nI_pos' (by omega), (nI_ltI (by omega) (by omega)).mpr (by omega)⟩, nI_clamp (by omega)]
    by_cases hb : b = n
    · subst hb; rw [pk_us, if_pos (by omega)]
    · rw [pk_un hb, mkHd_in hB1 hB n b (by omega)]
      by_cases h1 : b < n
      · rw [if_pos h1, if_pos (by omega)]
      · rw [if_neg h1, if_neg (by omega)]
theorem mMk0_in {he : Nat → Int32} : ∀ n b, b < n → mMk0 he n b = if b < 4 then 1 else 0
  | 0, _, h => absurd h (Nat.not_lt_zero _)
  | n + 1, b, h => by
    simp only [mMk0]
    by_cases hb : b = n
    · subst hb; rw [pk_us]
    · rw [pk_un hb]; exact mMk0_in n b (by omega)
/-- the logs' starts, as the reference's rows have them -/
def stR (S B : Nat) (V : Nat → LV) (A : Nat → Nat → Int32) : Prop := ∀ i, i < 4 → A 0 i = nI (V i).2.1 ∧ (V i).2.1 ≤ 60 ∧ ∀ k, k < (V i).2.1 → A 1 (60 * i + k) = (V i).1 0 k ∧ ∃ x, (V i).1 0 k = nI x ∧ 4 ≤ x ∧ x + S ≤ B
theorem mkLog_agr {S B i : Nat} {V : Nat → LV} {A : Nat → Nat → Int32} {bu he : Nat → Int32} (hB : B ≤ 256) (hR : stR S B V A) (hi : i < 4) (h : agr B bu he) : ∀ k, k ≤ (V i).2.1 → agr B (mkLog B S (V i) bu k) (mMkL A S he i k)
  | 0, _ => h
  | k + 1, hk => by
    have ih := mkLog_agr hB hR hi h k (by omega)
    obtain ⟨h1, x, h2, h3, h4⟩ := (hR i hi).2.2 k (by omega)
    simp only [mkLog, mMkL]
    rw [h1, h2, tn_nI (by omega)]
    exact mkSeg_hold hB ih S h4
theorem mkD_agr {S B : Nat} {V : Nat → LV} {A : Nat → Nat → Int32} (hSB : dkB S B) (hR : stR S B V A) : ∀ i, i ≤ 4 → agr B (mkD B S V i) (mMkA A S B i)
  | 0, _ => fun b hb => by
    show mkHd B 4 b = mMk0 (A 4) B b
    rw [mkHd_in hSB.2.2.1 hSB.2.2.2 4 b (Nat.le_refl 4), mMk0_in B b hb]
  | i + 1, hi => by
    have ih := mkD_agr hSB hR i (by omega)
    obtain ⟨h1, h2, _⟩ := hR i (by omega)
    simp only [mkD, mMkA]
    rw [h1, tn_nI (by omega)]
    exact mkLog_agr hSB.2.2.2 hR (by omega) ih _ (Nat.le_refl _)
theorem mMkL_mono {A : Nat → Nat → Int32} {S i b : Nat} {he : Nat → Int32} (h : he b = 1) : ∀ k, mMkL A S he i k b = 1
  | 0 => h
  | k + 1 => by
    simp only [mMkL]
    rw [mHold_in]
    split
    · rfl
    · exact mMkL_mono h k
theorem mMkL_hit {A : Nat → Nat → Int32} {S i x : Nat} {he : Nat → Int32} (hS : 1 ≤ S) (hx : x < 2 ^ 31) : ∀ n k, k < n → A 1 (60 * i + k) = nI x → mMkL A S he i n x = 1
  | 0, _, h, _ => absurd h (Nat.not_lt_zero _)
  | n + 1, k, h, hk => by
    simp only [mMkL]
    rw [mHold_in]
    by_cases hn : k = n
    · subst hn; rw [hk, tn_nI hx, if_pos (by omega)]
    · split
      · rfl
      · exact mMkL_hit hS hx n k (by omega) hk
theorem mMkA_hd {A : Nat → Nat → Int32} {S B b : Nat} (hb : b < 4) (hB : 16 ≤ B) : ∀ i, mMkA A S B i b = 1
  | 0 => by show mMk0 (A 4) B b = 1; rw [mMk0_in B b (by omega), if_pos hb]
  | i + 1 => by simp only [mMkA]; exact mMkL_mono (mMkA_hd hb hB i) _
theorem mMkA_hit {A : Nat → Nat → Int32} {S B x : Nat} (hS : 1 ≤ S) (hx : x < 2 ^ 31) {j k : Nat} (hk : k < tn (A 0 j)) (h : A 1 (60 * j + k) = nI x) : ∀ i, j < i → mMkA A S B i x = 1
  | 0, hj => absurd hj (Nat.not_lt_zero _)
  | i + 1, hj => by
    simp only [mMkA]
    by_cases hij : j = i
    · subst hij; exact mMkL_hit hS hx _ k hk h
    · exact mMkL_mono (mMkA_hit hS hx hk h i (by omega)) _
/-! THE FIRST FREE RUN -/
def fre (he : Nat → Int32) (S p : Nat) : Prop := ∀ i, i < S → he (p + i) = 0
theorem mFrB_iff {he : Nat → Int32} {p : Nat} : ∀ S, mFrB he p S = true ↔ fre he S p
  | 0 => ⟨fun _ i hi => absurd hi (Nat.not_lt_zero _), fun _ => rfl⟩
  | S + 1 => by
    simp only [mFrB, Bool.and_eq_true, beq_iff_eq]
    rw [mFrB_iff S]
    exact ⟨fun q i hi => by
      by_cases h : i = S
      · rw [h]; exact q.2
      · exact q.1 i (by omega), fun q => ⟨fun i hi => q i (by omega), q S (by omega)⟩⟩
theorem mPl_spec {he : Nat → Int32} {S : Nat} : ∀ d b, (mPl he S d b = -1 ∧ ∀ p, b ≤ p → p < b + d → ¬ fre he S p) ∨ ∃ p, mPl he S d b = nI p ∧ b ≤ p ∧ p < b + d ∧ fre he S p ∧ ∀ q, b ≤ q → q < p → ¬ fre he S q
  | 0, b => Or.inl ⟨rfl, fun p h1 h2 => by omega⟩
  | d + 1, b => by
    simp only [mPl]
    by_cases h : mFrB he b S = true
    · rw [if_pos h]
      exact Or.inr ⟨b, rfl, Nat.le_refl _, by omega, (mFrB_iff S).mp h, fun q h1 h2 => by omega⟩
    · rw [if_neg h]
      have hn : ¬ fre he S b := fun q => h ((mFrB_iff S).mpr q)
      rcases mPl_spec d (b + 1) with ⟨h1, h2⟩ | ⟨p, h1, h2, h3, h4, h5⟩
      · refine Or.inl ⟨h1, fun p q1 q2 => ?_⟩
        by_cases hp : p = b
        · rw [hp]; exact hn
        · exact h2 p (by omega) (by omega)
      · refine Or.inr ⟨p, h1, by omega, by omega, h4, fun q q1 q2 => ?_⟩
        by_cases hp : q = b
        · rw [hp]; exact hn
        · exact h5 q (by omega) q2
theorem frun_iff {bu : Nat → Int32} : ∀ j S, S ≤ frun bu j ↔ S ≤ j ∧ fre bu S (j - S)
  | 0, S => by
    constructor
    · intro h
      have : S = 0 := by have : frun bu 0 = 0 := rfl; omega
      subst this
      exact ⟨Nat.le_refl _, fun i hi => absurd hi (Nat.not_lt_zero _)⟩
    · intro h; have := h.1; omega
  | j + 1, 0 => ⟨fun _ => ⟨Nat.zero_le _, fun i hi => absurd hi (Nat.not_lt_zero _)⟩, fun _ => Nat.zero_le _⟩
  | j + 1, S + 1 => by
    have ih := frun_iff (bu := bu) j S
    simp only [frun]
    by_cases h : bu j = 0
    · rw [if_pos h]
      constructor
      · intro q
        obtain ⟨h1, h2⟩ := ih.mp (by omega)
        refine ⟨by omega, fun i hi => ?_⟩
        by_cases hi2 : i = S
        · rw [hi2, show j + 1 - (S + 1) + S = j by omega]; exact h
        · have := h2 i (by omega)
          rw [show j + 1 - (S + 1) + i = j - S + i by omega]; exact this
      · intro q
        have := ih.mpr ⟨by omega, fun i hi => by
          have := q.2 i (by omega)
          rw [show j + 1 - (S + 1) + i = j - S + i by omega] at this; exact this⟩
        omega
    · rw [if_neg h]
      constructor
      · intro q; omega
      · intro q
        exact absurd (by have := q.2 S (by omega); rw [show j + 1 - (S + 1) + S = j by have := q.1; omega] at this; exact this) h
theorem ffr_spec {bu : Nat → Int32} {S : Nat} (hS : 1 ≤ S) : ∀ d j, j + d < 2 ^ 31 → (∀ p, p + S ≤ j → ¬ fre bu S p) → (ffr bu S d j = -1 ∧ ∀ p, p + S ≤ j + d → ¬ fre bu S p) ∨ ∃ p, ffr bu S d j = nI p ∧ p + S ≤ j + d ∧ fre bu S p ∧ ∀ q, q < p → ¬ fre bu S q
  | 0, j, _, hn => Or.inl ⟨rfl, fun p hp => hn p (by omega)⟩
  | d + 1, j, hb, hn => by
    simp only [ffr]
    by_cases h : frun bu (j + 1) = S
    · rw [if_pos h]
      obtain ⟨h1, h2⟩ := (frun_iff (bu := bu) (j + 1) S).mp (by omega)
      refine Or.inr ⟨j + 1 - S, ?_, by omega, h2, fun q hq => hn q (by omega)⟩
      by_cases hj : S ≤ j
      · rw [pk_sub hj, nI_1, show j - S + 1 = j + 1 - S by omega]
      · have hj2 : S = j + 1 := by omega
        subst hj2
        rw [← nI_1, Nat.sub_self, show nI 0 = (0 : Int32) from rfl]
        grind
    · rw [if_neg h]
      have hno : ¬ fre bu S (j + 1 - S) ∨ j + 1 < S := by
        by_cases q1 : j + 1 < S
        · exact Or.inr q1
        · refine Or.inl (fun q => ?_)
          have h1 := (frun_iff (j + 1) S).mpr ⟨by omega, q⟩
          have h2 : S + 1 ≤ frun bu (j + 1) := by omega
          obtain ⟨h3, h4⟩ := (frun_iff (j + 1) (S + 1)).mp h2
          refine hn (j + 1 - (S + 1)) (by omega) (fun i hi => h4 i (by omega))
      rcases ffr_spec hS d (j + 1) (by omega) (fun p hp => by
        by_cases h1 : p + S ≤ j
        · exact hn p h1
        · rcases hno with h2 | h2
          · rw [show p = j + 1 - S by omega]; exact h2
          · omega) with ⟨h1, h2⟩ | ⟨p, h1, h2, h3, h4⟩
      · exact Or.inl ⟨h1, fun p hp => h2 p (by omega)⟩
      · exact Or.inr ⟨p, h1, by omega, h3, h4⟩
/-- both find the same place -/
theorem ffr_mPl {bu he : Nat → Int32} {S B : Nat} (hSB : dkB S B) (h : agr B bu he) (hd : ∀ b, b < 4 → ¬ he b = 0) : ffr bu S B 0 = mPl he S (B + 1 - S - 4) 4 := by
  obtain ⟨hS1, hS2, hB1, hB2⟩ := hSB
  have hfr : ∀ p, p + S ≤ B → (fre bu S p ↔ fre he S p) := fun p hp => ⟨fun q i hi => by rw [← h _ (by omega)]; exact q i hi, fun q i hi => by rw [h _ (by omega)]; exact q i hi⟩
  have hlow : ∀ p, p < 4 → ¬ fre he S p := fun p hp q => hd p hp (by have := q 0 (by omega); exact this)
  rcases ffr_spec (bu := bu) hS1 B 0 (by omega) (fun p hp => by omega) with ⟨h1, h2⟩ | ⟨p, h1, h2, h3, h4⟩
  · rcases mPl_spec (he := he) (S := S) (B + 1 - S - 4) 4 with ⟨g1, g2⟩ | ⟨p, g1, g2, g3, g4, g5⟩
    · rw [h1, g1]
    · exact absurd ((hfr p (by omega)).mpr g4) (h2 p (by omega))
  · have h3' := (hfr p (by omega)).mp h3
    have hp4 : 4 ≤ p := by
      rcases Nat.lt_or_ge p 4 with q | q
      · exact absurd h3' (hlow p q)
      · exact q
    rcases mPl_spec (he := he) (S := S) (B + 1 - S - 4) 4 with ⟨g1, g2⟩ | ⟨p', g1, g2, g3, g4, g5⟩
    · exact absurd h3' (g2 p hp4 (by omega))
    · rw [h1, g1]
      rcases Nat.lt_trichotomy p p' with q | q | q
      · exact absurd h3' (g5 p hp4 q)
      · rw [q]
      · exact absurd ((hfr p' (by omega)).mpr g4) (h4 p' q)
