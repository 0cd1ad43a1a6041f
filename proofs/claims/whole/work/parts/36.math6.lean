/-! THINNING: numbers -/
theorem nI_div {a b : Nat} (ha : a < 2 ^ 31) (hb : b < 2 ^ 31) : nI a / nI b = nI (a / b) := by
  have hle : a / b ≤ a := Nat.div_le_self a b
  apply i32_ext
  rw [Int32.toInt_div, nI_toInt ha, nI_toInt hb, nI_toInt (by omega), ← Int.ofNat_tdiv]
  generalize a / b = c at *
  exact Int.bmod_eq_of_le (by omega) (by omega)
theorem rem_iff {j k : Nat} (hj : j < 2 ^ 31) (hk : k < 2 ^ 31) : nI j - nI j / nI k * nI k = 0 ↔ j % k = 0 := by
  have h1 : j / k * k ≤ j := Nat.div_mul_le_self j k
  have h2 : j / k * k + j % k = j := by rw [Nat.mul_comm]; exact Nat.div_add_mod j k
  rw [nI_div hj hk, pk_mul, pk_sub h1, show j - j / k * k = j % k by omega]
  exact nI_eq (b := 0) (by omega) (by decide)
theorem cK_mult {k : Nat} (hk : 1 ≤ k) : ∀ n, cK (fun j => decide (j % k = 0)) n = (n + k - 1) / k
  | 0 => by rw [show 0 + k - 1 = k - 1 by omega, Nat.div_eq_of_lt (by omega)]; rfl
  | n + 1 => by
    simp only [cK, decide_eq_true_eq]
    rw [cK_mult hk n]
    have e1 := Nat.div_add_mod n k
    have hr := Nat.mod_lt n (show 0 < k by omega)
    have e2 : (n + 1 + k - 1) / k = n / k + 1 := by rw [show n + 1 + k - 1 = n + k by omega, Nat.add_div_right _ (by omega)]
    rw [e2]
    by_cases h : n % k = 0
    · rw [if_pos h]
      have : (n + k - 1) / k = n / k := by
        have h3 : n + k - 1 = k * (n / k) + (k - 1) := by omega
        rw [h3, Nat.mul_add_div (show 0 < k by omega), Nat.div_eq_of_lt (show k - 1 < k by omega), Nat.add_zero]
      rw [this]
    · rw [if_neg h]
      have : (n + k - 1) / k = n / k + 1 := by
        have h3 : n + k - 1 = k * (n / k) + (n % k - 1 + k) := by omega
        rw [h3, Nat.mul_add_div (show 0 < k by omega), Nat.add_div_right _ (show 0 < k by omega), Nat.div_eq_of_lt (show n % k - 1 < k by omega)]
      rw [this]
theorem btV_nI {a b : Nat} (h : 1 ≤ a + b) (hb : a + b < 2 ^ 31) : btV (nI a) (nI b) = nI ((a + b - 1) / 1024 - a / 1024 + 1) ∨ b = 0 := by
  by_cases hb0 : b = 0
  · exact Or.inr hb0
  · left
    have h1 : a / 1024 ≤ (a + b - 1) / 1024 := Nat.div_le_div_right (by omega)
    unfold btV
    rw [nI_add, nI_m1 (by omega), show (1024 : Int32) = nI 1024 from rfl, nI_div (by omega) (by decide), nI_div (by omega) (by decide), pk_sub h1, nI_1]
/-- each segment's last entry, and its fill -/
theorem lgI.fill {S : Nat} {v : LV} {h s o : Nat → Nat} (hI : lgI S v h s o) {k : Nat} (hk : k < v.2.1) : ∃ j, j < v.2.2.1 ∧ h j = k ∧ v.1 1 k = nI (o j + s j + 4) := by
  have hpos := hI.pos (by omega)
  have hlo := fun j hj => loE_iff (h := h) (g := k + 1) v.2.2.1 (fun j hj => hI.mono hj) j hj
  have hle : loE h (k + 1) v.2.2.1 ≤ v.2.2.1 := cK_le _ _
  obtain ⟨l1, l2, l3, l4⟩ := hI.2.2.2.1 hpos
  have h0 := (hlo 0 hpos).mpr (by omega)
  refine ⟨loE h (k + 1) v.2.2.1 - 1, by omega, ?_⟩
  have h1 := (hlo (loE h (k + 1) v.2.2.1 - 1) (by omega)).mp (by omega)
  by_cases hl : loE h (k + 1) v.2.2.1 = v.2.2.1
  · rw [hl] at h1 ⊢
    have : k = v.2.1 - 1 := by omega
    exact ⟨by omega, by rw [this]; exact l4⟩
  · have h2 : ¬ h (loE h (k + 1) v.2.2.1) < k + 1 := fun z => by have := (hlo _ (by omega)).mpr z; omega
    rcases hI.2.2.1 (loE h (k + 1) v.2.2.1 - 1) (by omega) with ⟨q1, q2⟩ | ⟨q1, q2, q3⟩
    · rw [show loE h (k + 1) v.2.2.1 - 1 + 1 = loE h (k + 1) v.2.2.1 by omega] at q1; omega
    · rw [show loE h (k + 1) v.2.2.1 - 1 + 1 = loE h (k + 1) v.2.2.1 by omega] at q1
      have : h (loE h (k + 1) v.2.2.1 - 1) = k := by omega
      exact ⟨this, by rw [← q3, this]⟩
theorem lgI.strict {S : Nat} {v : LV} {h s o : Nat → Nat} (hI : lgI S v h s o) : ∀ d t, t + d + 1 = v.2.2.1 → ∃ f, v.1 1 (h t) = nI f ∧ o t + s t + 4 ≤ f ∧ f ≤ 1024 * S
  | 0, t, ht => by
    obtain ⟨l1, l2, l3, l4⟩ := hI.2.2.2.1 (by omega)
    have e : v.2.2.1 - 1 = t := by omega
    rw [e] at l3 l4
    exact ⟨_, by rw [← l4, show v.2.1 - 1 = h t by omega], Nat.le_refl _, (hI.2.1 t (by omega)).2.2.2.2.2.2⟩
  | d + 1, t, ht => by
    rcases hI.2.2.1 t (by omega) with ⟨q1, q2⟩ | ⟨q1, q2, q3⟩
    · obtain ⟨f, f1, f2, f3⟩ := lgI.strict hI d (t + 1) (by omega)
      rw [q1] at f1
      exact ⟨f, f1, by omega, f3⟩
    · exact ⟨_, q3, Nat.le_refl _, (hI.2.1 t (by omega)).2.2.2.2.2.2⟩
theorem bf_tb {S : Nat} {v : LV} {h s o : Nat → Nat} (hS : S ≤ 16) (hI : lgI S v h s o) {pb : Nat → Int32} (hp : ∀ t, t < v.2.1 → pb t = v.1 1 t) : ∀ n, n ≤ v.2.1 → ∃ m, lgBF (v.1 1) n = nI m ∧ m ≤ 20 * n ∧ mTB pb n = nI (m + 1)
  | 0, _ => ⟨0, rfl, Nat.le_refl _, rfl⟩
  | n + 1, hn => by
    obtain ⟨m, m1, m2, m3⟩ := bf_tb hS hI hp n (by omega)
    obtain ⟨j, j1, j2, j3⟩ := hI.fill (show n < v.2.1 by omega)
    have hb := (hI.2.1 j j1).2.2.2.2.2.2
    have hbt := (btV_nI (a := 0) (b := o j + s j + 4) (by omega) (by omega)).resolve_right (by omega)
    rw [show nI 0 = (0 : Int32) from rfl] at hbt
    have h16 : (0 + (o j + s j + 4) - 1) / 1024 ≤ 16 := by omega
    refine ⟨m + ((0 + (o j + s j + 4) - 1) / 1024 - 0 / 1024 + 1), ?_, by omega, ?_⟩
    · simp only [lgBF]; rw [m1, j3, hbt, nI_add]
    · simp only [mTB]
      unfold tcV
      rw [m3, hp n (by omega), j3, if_neg (nI_ne0 (by omega) (by omega)), hbt, nI_add]
      congr 1
      omega
/-! THINNING: the packing, class and reference side by side -/
def qT (k : Int32) : Nat → Bool := fun j => !(decide (nI j - nI j / k * k = 0))
def lstF (s o : Nat → Nat) (n : Nat) : Nat := o (n - 1) + s (n - 1) + 4
/-- behind j of the closed entries of u: the draft w, its blocks, the plan P -/
def PkI (S B : Nat) (u : LV) (h o : Nat → Nat) (k : Int32) (j : Nat) (w : LV) (bu : Nat → Int32) (P : PS) : Prop :=
  (P.1 = 1 ∧ P.2.2.2.2 = w.2.1 ∧ (∀ t, t < w.2.1 → P.2.2.1 t = w.1 0 t ∧ P.2.2.2.1 t = w.1 1 t) ∧ agr B bu P.2.1 ∧ ∀ b, b < 4 → ¬ P.2.1 b = 0) ∧
  (∃ hw sw ow, lgI S w hw sw ow ∧ (j < u.2.2.1 → w.2.1 = 0 ∨ w.2.1 - 1 < h j ∨ (w.2.1 - 1 = h j ∧ lstF sw ow w.2.2.1 ≤ o j))) ∧
  (w.2.1 = 0 ∨ w.2.1 + 1 ≤ u.2.1) ∧ w.2.2.1 = cK (qT k) j ∧ w.2.2.2 = u.2.2.2 ∧
  (∀ t, t < j → qT k t = true → w.1 2 (cK (qT k) t) = u.1 2 t ∧ w.1 3 (cK (qT k) t) = u.1 3 t) ∧
  lgS S B w ∧ (∀ t x, t < w.2.1 → w.1 0 t = nI x → x < 256 → ¬ P.2.1 x = 0) ∧ (∀ x, u.1 0 (u.2.1 - 1) = nI x → x < 256 → ¬ P.2.1 x = 0) ∧ ∀ t, t < w.2.1 → ¬ w.1 0 t = u.1 0 (u.2.1 - 1)
