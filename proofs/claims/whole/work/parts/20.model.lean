/-! THE REFERENCE: its object at r; twelve rows (0 segments, 1 first, 2 bytes, 3 came, 4 held, 5 of, 6 size, 7 begin, 8 in, 9 at, 10 planFirst, 11 planBytes) where a says -/
def mdLen (C : Nat) : Nat → Nat
  | 0 => 4
  | 1 => 240
  | 2 => 240
  | 3 => 4
  | 4 => 256
  | 5 => C
  | 6 => C
  | 7 => C
  | 8 => C
  | 9 => C
  | _ => 60
def mdArr (g : Gx) (a k n : Nat) (f : Nat → Int32) (H : Heap) : Prop := match k with
  | 4 => za g a n f H
  | _ => ia g a n f H
theorem mdArr.kept {g : Gx} {a k n : Nat} {f : Nat → Int32} {H H1 : Heap} (h : mdArr g a k n f H) (hq : H1[a]? = H[a]?) : mdArr g a k n f H1 := by
  unfold mdArr at h ⊢
  split at h
  · exact za.kept h hq
  · exact ia.kept h hq
def mdFs (S B : Nat) (a : Nat → Nat) (cd wr lf dn : Int32) (en pl : Nat) : List Value := [.int cd, .int (nI S), .int (nI B), .int wr, .int lf, .int dn, .ref (a 0), .ref (a 1), .ref (a 2), .ref (a 3), .ref (a 4), .int (nI en), .ref (a 5), .ref (a 6), .ref (a 7), .ref (a 8), .ref (a 9), .int (nI pl), .ref (a 10), .ref (a 11)]
def mdG (r : Nat) (a : Nat → Nat) : Prop := (∀ k, k < 12 → r < a k) ∧ ∀ i j, i < 12 → j < 12 → a i = a j → i = j
def mdAt (g : Gx) (r S B C : Nat) (a : Nat → Nat) (A : Nat → Nat → Int32) (cd wr lf dn : Int32) (en pl : Nat) (H : Heap) : Prop := ob g r 2 (mdFs S B a cd wr lf dn en pl) H ∧ (∀ k, k < 12 → mdArr g (a k) k (mdLen C k) (A k) H) ∧ mdG r a
def Mo (r : Nat) (a : Nat → Nat) (H H1 : Heap) : Prop := H1.size = H.size ∧ ∀ q : Nat, q ≠ r → (∀ k, k < 12 → q ≠ a k) → H1[q]? = H[q]?
theorem Mo.rf {r : Nat} {a : Nat → Nat} {H : Heap} : Mo r a H H := ⟨rfl, fun _ _ _ => rfl⟩
theorem Mo.tr {r : Nat} {a : Nat → Nat} {H H1 H2 : Heap} (h : Mo r a H H1) (h2 : Mo r a H1 H2) : Mo r a H H2 := ⟨h2.1.trans h.1, fun q h3 h4 => (h2.2 q h3 h4).trans (h.2 q h3 h4)⟩
theorem Mo.ar {r k : Nat} {a : Nat → Nat} {H H1 : Heap} (h : Fo (a k) H H1) (hk : k < 12) : Mo r a H H1 := ⟨h.1, fun q _ h4 => h.2 q (h4 k hk)⟩
theorem Mo.fd {r : Nat} {a : Nat → Nat} {H H1 : Heap} (h : Fo r H H1) : Mo r a H H1 := ⟨h.1, fun q h3 _ => h.2 q h3⟩
def fM (r : Nat) (a : Nat → Nat) : Nat → Prop := fun q => q = r ∨ ∃ k, k < 12 ∧ q = a k
theorem fM_r {r : Nat} {a : Nat → Nat} : fM r a r := Or.inl rfl
theorem fM_a {r k : Nat} {a : Nat → Nat} (hk : k < 12) : fM r a (a k) := Or.inr ⟨k, hk, rfl⟩
section MD
variable {g : Gx} {r S B C : Nat} {a : Nat → Nat} {A : Nat → Nat → Int32} {cd wr lf dn : Int32} {en pl : Nat} {H H1 : Heap}
theorem mdAt.up (h : mdAt g r S B C a A cd wr lf dn en pl H) {k : Nat} (hk : k < 12) {f : Nat → Int32} (hf : mdArr g (a k) k (mdLen C k) f H1) (hF : Fo (a k) H H1) : mdAt g r S B C a (va_up A k f) cd wr lf dn en pl H1 := by
  refine ⟨h.1.kept (hF.2 _ (Nat.ne_of_lt (h.2.2.1 k hk))), fun i hi => ?_, h.2.2⟩
  by_cases hik : i = k
  · subst hik; rw [va_up_self]; exact hf
  · rw [va_up_ne _ _ hik]
    exact (h.2.1 i hi).kept (hF.2 _ (fun q => hik (h.2.2.2 i k hi hk q)))
theorem mdAt.fd (h : mdAt g r S B C a A cd wr lf dn en pl H) {cd2 wr2 lf2 dn2 : Int32} {en2 pl2 : Nat} (hf : ob g r 2 (mdFs S B a cd2 wr2 lf2 dn2 en2 pl2) H1) (hF : Fo r H H1) : mdAt g r S B C a A cd2 wr2 lf2 dn2 en2 pl2 H1 :=
  ⟨hf, fun i hi => (h.2.1 i hi).kept (hF.2 _ (fun q => Nat.lt_irrefl _ (q ▸ h.2.2.1 i hi))), h.2.2⟩
end MD
def tn (x : Int32) : Nat := x.toNatClampNeg
theorem tn_nI {k : Nat} (h : k < 2 ^ 31) : tn (nI k) = k := nI_clamp h
/-- the segments' rows hold numbers that fit the disk -/
def sgOk (S : Nat) (A : Nat → Nat → Int32) : Prop := ∀ i, i < 4 → A 0 i = nI (tn (A 0 i)) ∧ tn (A 0 i) ≤ 60 ∧ ∀ k, k < tn (A 0 i) → A 1 (60 * i + k) = nI (tn (A 1 (60 * i + k))) ∧ tn (A 1 (60 * i + k)) + S ≤ 256
def mHold (he : Nat → Int32) (x : Nat) : Nat → (Nat → Int32)
  | 0 => he
  | j + 1 => upd (mHold he x j) (x + j) 1
def mMk0 (he : Nat → Int32) : Nat → (Nat → Int32)
  | 0 => he
  | j + 1 => upd (mMk0 he j) j (if j < 4 then 1 else 0)
def mMkL (A : Nat → Nat → Int32) (S : Nat) (he : Nat → Int32) (i : Nat) : Nat → (Nat → Int32)
  | 0 => he
  | k + 1 => mHold (mMkL A S he i k) (tn (A 1 (60 * i + k))) S
def mMkA (A : Nat → Nat → Int32) (S B : Nat) : Nat → (Nat → Int32)
  | 0 => mMk0 (A 4) B
  | i + 1 => mMkL A S (mMkA A S B i) i (tn (A 0 i))
def mFrB (he : Nat → Int32) (b : Nat) : Nat → Bool
  | 0 => true
  | i + 1 => mFrB he b i && he (b + i) == 0
def mPl (he : Nat → Int32) (S : Nat) : Nat → Nat → Int32
  | 0, _ => -1
  | d + 1, b => if mFrB he b S = true then nI b else mPl he S d (b + 1)
abbrev spF (lf n : Int32) : Prop := 0 ≤ lf ∧ lf ≤ n
def spW (lf n : Int32) : Int32 := if spF lf n then lf else n
def spL (lf n : Int32) : Int32 := lf - (if lf < 0 then 0 else spW lf n)
def spN (lf n : Int32) : Int32 := if spF lf n then 1 else 0
def spR (lf n : Int32) : Int32 := if spW lf n = n then 1 else 0
def tcV (a b : Int32) : Int32 := if b = 0 then 0 else btV a b
def goC (right dn : Int32) : Int32 := if right = 0 then 1 else if dn = 0 then 0 else 2
set_option maxHeartbeats 4000000 in
set_option maxRecDepth 100000 in
/-- thrown -/
theorem m_thrown (g : Gx) (l : Launch) (r S B C : Nat) (a : Nat → Nat) (A : Nat → Nat → Int32) (cd wr lf dn : Int32) (en pl : Nat) (H : Heap) (h : mdAt g r S B C a A cd wr lf dn en pl H) : HM g l yX2_thrown cX2_thrown 1 (some .int) 0 0 0 0 [.ref r] H (fun v H1 => v = some (.int cd) ∧ H1 = H) (f0) := by
  refine HM.ofW (by decide) (Nat.le_of_ble_eq_true rfl) (by simp [Value.category]) ?_
  intro p e s m args below meth c ls G hr hml hlocks hnm hH hl
  have hl : lh ls 1 [some (.ref r)] := hl
  have hL : ∀ q ∈ ([] : List Loc), (f0) q.base := fun q h => by cases h
  refine hb_aload_n G dX2_thrown_0 hl rfl ?_
  refine hb_get G h.1 rfl inX2 0 (by decide) kf_X2_57 rfl rfl dX2_thrown_1 ?_
  exact hb_iret G hr hlocks ⟨rfl, rfl⟩ hL (Nat.le_refl _) (Nat.le_refl _) dX2_thrown_4
set_option maxHeartbeats 4000000 in
set_option maxRecDepth 100000 in
/-- isLog -/
theorem m_isLog (g : Gx) (l : Launch) (i : Int32) (H : Heap) : HM g l yX2_isLog cX2_isLog 1 (some .boolean) 0 0 0 0 [.int i] H (fun v H1 => v = some (.int (if 0 ≤ i ∧ i < 4 then 1 else 0)) ∧ H1 = H) (f0) := by
  refine HM.ofW (by decide) (Nat.le_of_ble_eq_true rfl) (by simp [Value.category]) ?_
  intro p e s m args below meth c ls G hr hml hlocks hnm hH hl
  have hl : lh ls 1 [some (.int i)] := hl
  have hL : ∀ q ∈ ([] : List Loc), (f0) q.base := fun q h => by cases h
  refine hb_iload_n G dX2_isLog_0 hl rfl ?_
  refine lv_if_lt (tgt := 13) G.1 G.2.1 dX2_isLog_1 (by decide) (fun c_1 => ?_) (fun c_1 => ?_)
  · refine lv_iconst (v := 0) G.1 G.2.1 dX2_isLog_13 (by decide) ?_
    exact hb_zret G hr hlocks (by decide) ⟨by rw [if_neg (fun q => i32_nlt.mpr q.1 c_1)], rfl⟩ hL (Nat.le_refl _) (Nat.le_refl _) dX2_isLog_14
  · refine hb_iload_n G dX2_isLog_4 hl rfl ?_
    refine lv_iconst (v := 4) G.1 G.2.1 dX2_isLog_5 (by decide) ?_
    refine lv_icmp_ge (tgt := 13) G.1 G.2.1 dX2_isLog_6 (by decide) (fun c_2 => ?_) (fun c_2 => ?_)
    · refine lv_iconst (v := 0) G.1 G.2.1 dX2_isLog_13 (by decide) ?_
      exact hb_zret G hr hlocks (by decide) ⟨by rw [if_neg (fun q => i32_nlt.mpr c_2 q.2)], rfl⟩ hL (Nat.le_refl _) (Nat.le_refl _) dX2_isLog_14
    · refine lv_iconst (v := 1) G.1 G.2.1 dX2_isLog_9 (by decide) ?_
      refine lv_goto (tgt := 14) G.1 G.2.1 dX2_isLog_10 (by decide) ?_
      exact hb_zret G hr hlocks (by decide) ⟨by rw [if_pos ⟨i32_nlt.mp c_1, i32_nle.mp c_2⟩], rfl⟩ hL (Nat.le_refl _) (Nat.le_refl _) dX2_isLog_14
set_option maxHeartbeats 4000000 in
set_option maxRecDepth 100000 in
/-- goes -/
theorem m_goes (g : Gx) (l : Launch) (r S B C : Nat) (a : Nat → Nat) (A : Nat → Nat → Int32) (cd wr lf dn : Int32) (en pl : Nat) (H : Heap) (h : mdAt g r S B C a A cd wr lf dn en pl H) (t : Int32) : HM g l yX2_goes cX2_goes 2 (some .boolean) 0 0 0 0 [.ref r, .int t] H (fun v H1 => v = some (.int (if goC t dn = 0 then 1 else 0)) ∧ mdAt g r S B C a A (goC t dn) wr lf dn en pl H1 ∧ Fo r H H1) (f1 r) := by
  refine HM.ofW (by decide) (Nat.le_of_ble_eq_true rfl) (by simp [Value.category]) ?_
  intro p e s m args below meth c ls G hr hml hlocks hnm hH hl
  have hl : lh ls 2 [some (.ref r), some (.int t)] := hl
  have hL : ∀ q ∈ ([] : List Loc), (f1 r) q.base := fun q h => by cases h
  refine hb_aload_n G dX2_goes_0 hl rfl ?_
  refine hb_iload_n G dX2_goes_1 hl rfl ?_
  refine lv_if_ne (tgt := 9) G.1 G.2.1 dX2_goes_2 (by decide) (fun c_1 => ?_) (fun c_1 => ?_)
  · refine hb_aload_n G dX2_goes_9 hl rfl ?_
    refine hb_get G h.1 rfl inX2 5 (by decide) kf_X2_60 rfl rfl dX2_goes_10 ?_
    refine lv_if_eq (tgt := 20) G.1 G.2.1 dX2_goes_13 (by decide) (fun c_2 => ?_) (fun c_2 => ?_)
    · refine lv_iconst (v := 0) G.1 G.2.1 dX2_goes_20 (by decide) ?_
      refine hb_put G h.1 rfl inX2 tyX2 tyX2_ok nmX2 0 (by decide) kf_X2_57 rfl rfl rfl rfl (Nat.le_of_ble_eq_true rfl) hL (rfl) dX2_goes_21 (fun K1 locs1 hf hz ho hL => ?_)
      have hv : goC t dn = 0 := by unfold goC; rw [if_neg c_1, if_pos c_2]
      have hk := h.fd (cd2 := 0) hf ⟨hz, ho⟩
      refine hb_aload_n G dX2_goes_24 hl rfl ?_
      refine hb_get G hk.1 rfl inX2 0 (by decide) kf_X2_57 rfl rfl dX2_goes_25 ?_
      refine lv_if_ne (tgt := 35) G.1 G.2.1 dX2_goes_28 (by decide) (fun c_3 => ?_) (fun c_3 => ?_)
      · exact absurd rfl c_3
      · refine lv_iconst (v := 1) G.1 G.2.1 dX2_goes_31 (by decide) ?_
        refine lv_goto (tgt := 36) G.1 G.2.1 dX2_goes_32 (by decide) ?_
        exact hb_zret G hr hlocks (by decide) ⟨by rw [hv]; rfl, by rw [hv]; exact hk, hz, ho⟩ hL (Nat.le_refl _) (Nat.le_refl _) dX2_goes_36
    · refine lv_iconst (v := 2) G.1 G.2.1 dX2_goes_16 (by decide) ?_
      refine lv_goto (tgt := 21) G.1 G.2.1 dX2_goes_17 (by decide) ?_
      refine hb_put G h.1 rfl inX2 tyX2 tyX2_ok nmX2 0 (by decide) kf_X2_57 rfl rfl rfl rfl (Nat.le_of_ble_eq_true rfl) hL (rfl) dX2_goes_21 (fun K1 locs1 hf hz ho hL => ?_)
      have hv : goC t dn = 2 := by unfold goC; rw [if_neg c_1, if_neg c_2]
      have hk := h.fd (cd2 := 2) hf ⟨hz, ho⟩
      refine hb_aload_n G dX2_goes_24 hl rfl ?_
      refine hb_get G hk.1 rfl inX2 0 (by decide) kf_X2_57 rfl rfl dX2_goes_25 ?_
      refine lv_if_ne (tgt := 35) G.1 G.2.1 dX2_goes_28 (by decide) (fun c_4 => ?_) (fun c_4 => ?_)
      · refine lv_iconst (v := 0) G.1 G.2.1 dX2_goes_35 (by decide) ?_
        exact hb_zret G hr hlocks (by decide) ⟨by rw [hv]; rfl, by rw [hv]; exact hk, hz, ho⟩ hL (Nat.le_refl _) (Nat.le_refl _) dX2_goes_36
      · exact absurd c_4 (by decide)
  · refine lv_iconst (v := 1) G.1 G.2.1 dX2_goes_5 (by decide) ?_
    refine lv_goto (tgt := 21) G.1 G.2.1 dX2_goes_6 (by decide) ?_
    refine hb_put G h.1 rfl inX2 tyX2 tyX2_ok nmX2 0 (by decide) kf_X2_57 rfl rfl rfl rfl (Nat.le_of_ble_eq_true rfl) hL (rfl) dX2_goes_21 (fun K1 locs1 hf hz ho hL => ?_)
    have hv : goC t dn = 1 := by unfold goC; rw [if_pos c_1]
    have hk := h.fd (cd2 := 1) hf ⟨hz, ho⟩
    refine hb_aload_n G dX2_goes_24 hl rfl ?_
    refine hb_get G hk.1 rfl inX2 0 (by decide) kf_X2_57 rfl rfl dX2_goes_25 ?_
    refine lv_if_ne (tgt := 35) G.1 G.2.1 dX2_goes_28 (by decide) (fun c_5 => ?_) (fun c_5 => ?_)
    · refine lv_iconst (v := 0) G.1 G.2.1 dX2_goes_35 (by decide) ?_
      exact hb_zret G hr hlocks (by decide) ⟨by rw [hv]; rfl, by rw [hv]; exact hk, hz, ho⟩ hL (Nat.le_refl _) (Nat.le_refl _) dX2_goes_36
    · exact absurd c_5 (by decide)
set_option maxHeartbeats 4000000 in
set_option maxRecDepth 100000 in
/-- hold -/
theorem m_hold (g : Gx) (l : Launch) (r S B C : Nat) (a : Nat → Nat) (A : Nat → Nat → Int32) (cd wr lf dn : Int32) (en pl : Nat) (H : Heap) (h : mdAt g r S B C a A cd wr lf dn en pl H) (hS : S ≤ 16) (x : Nat) (hx : x + S ≤ 256) : HM g l yX2_hold cX2_hold 3 none 0 0 0 0 [.ref r, .int (nI x)] H (fun v H1 => v = none ∧ mdAt g r S B C a (va_up A 4 (mHold (A 4) x S)) cd wr lf dn en pl H1 ∧ Fo (a 4) H H1) (f1 (a 4)) := by
  refine HM.ofW (by decide) (Nat.le_of_ble_eq_true rfl) (by simp [Value.category]) ?_
  intro p e s m args below meth c ls G hr hml hlocks hnm hH hl
  have hl : lh ls 3 [some (.ref r), some (.int (nI x)), none] := hl
  have hL : ∀ q ∈ ([] : List Loc), (f1 (a 4)) q.base := fun q h => by cases h
  have lp : ∀ (k j : Nat) (b : Int32) (K : Heap) (locs : List Loc) (ls : Array Slot), (S + 1 ≤ j + k) → (j ≤ S) → (b = nI j) → (mdAt g r S B C a (va_up A 4 (mHold (A 4) x j)) cd wr lf dn en pl K) → (Fo (a 4) H K) → (∀ q ∈ locs, (f1 (a 4)) q.base) → lh ls 3 [some (.ref r), some (.int (nI x)), some (.int b)] → W p l e ({ frames := 0, cells := 0, slots := 0, locals := 0 } : Room) s m args below meth c K locs 0 0 (hQ below args s (fun v H1 => v = none ∧ mdAt g r S B C a (va_up A 4 (mHold (A 4) x S)) cd wr lf dn en pl H1 ∧ Fo (a 4) H H1) 0 0 (f1 (a 4))) (F0 m 2 ls []) := by
    intro k
    induction k with
    | zero =>
      intro j b K locs ls hd9 hj eb hk hF hL hl
      exfalso; omega
    | succ k ih =>
      intro j b K locs ls hd9 hj eb hk hF hL hl
      refine hb_iload_n G dX2_hold_2 hl rfl ?_
      refine hb_aload_n G dX2_hold_3 hl rfl ?_
      refine hb_get G hk.1 rfl inX2 1 (by decide) kf_X2_51 rfl rfl dX2_hold_4 ?_
      refine lv_icmp_ge (tgt := 25) G.1 G.2.1 dX2_hold_7 (by decide) (fun c_1 => ?_) (fun c_1 => ?_)
      · have hj2 : j = S := by have := (ic_le rfl eb (by omega) (by omega)).mp c_1; omega
        subst hj2
        exact hb_vret G hr hlocks ⟨rfl, hk, hF⟩ hL (Nat.le_refl _) (Nat.le_refl _) dX2_hold_25
      · have hj2 : j < S := by have := mt (ic_le rfl eb (by omega) (by omega)).mpr c_1; omega
        refine hb_aload_n G dX2_hold_10 hl rfl ?_
        refine hb_get G hk.1 rfl inX2 10 (by decide) kf_X2_26 rfl rfl dX2_hold_11 ?_
        refine hb_iload_n G dX2_hold_14 hl rfl ?_
        refine hb_iload_n G dX2_hold_15 hl rfl ?_
        refine lv_iadd G.1 G.2.1 dX2_hold_16 ?_
        refine lv_topi (fun t_2 et_2 => ?_)
        refine lv_iconst (v := 1) G.1 G.2.1 dX2_hold_17 (by decide) ?_
        have hix : t_2 = nI (x + j) := by rw [et_2, eb]; exact nI_add _ _
        have h4 : za g (a 4) 256 (mHold (A 4) x j) K := by have h9 := hk.2.1 4 (by decide); rw [va_up_self] at h9; exact h9
        refine hb_zast G h4 (by rw [hix]; exact vp_in_nI (by omega) (by decide)) rfl hL rfl dX2_hold_18 (fun K1 locs1 hK1 hz1 ho1 hL => ?_)
        rw [show t_2.toNatClampNeg = x + j by rw [hix]; exact nI_clamp (by omega)] at hK1
        have hk1 := hk.up (k := 4) (by decide) hK1 ⟨hz1, ho1⟩
        rw [bx_uu] at hk1
        obtain ⟨t_3, et_3⟩ : ∃ z : Int32, z = b + 1 := ⟨_, rfl⟩
        refine hb_iinc (v := t_3) G dX2_hold_19 hl rfl (by rw [et_3]; rfl) (by decide) (fun ls hl => ?_)
        have hl : lh ls 3 [some (.ref r), some (.int (nI x)), some (.int t_3)] := hl
        refine lv_goto (tgt := 2) G.1 G.2.1 dX2_hold_22 (by decide) ?_
        exact ih (j + 1) t_3 K1 locs1 ls (by omega) (by omega) (by rw [et_3, eb]; exact nI_1 j) hk1 (hF.tr ⟨hz1, ho1⟩) hL hl
  refine lv_iconst (v := 0) G.1 G.2.1 dX2_hold_0 (by decide) ?_
  refine hb_istore_n G dX2_hold_1 hl (by decide) (fun ls hl => ?_)
  have hl : lh ls 3 [some (.ref r), some (.int (nI x)), some (.int 0)] := hl
  exact lp (S + 1) 0 0 H [] ls (by omega) (by omega) rfl (by rw [show va_up A 4 (mHold (A 4) x 0) = A from up_same A 4]; exact h) Fo.rf hL hl
set_option maxHeartbeats 4000000 in
set_option maxRecDepth 100000 in
/-- touched -/
theorem m_touched (g : Gx) (l : Launch) (x y : Int32) (H : Heap) : HM g l yX2_touched cX2_touched 2 (some .int) 0 0 0 0 [.int x, .int y] H (fun v H1 => v = some (.int (tcV x y)) ∧ H1 = H) (f0) := by
  refine HM.ofW (by decide) (Nat.le_of_ble_eq_true rfl) (by simp [Value.category]) ?_
  intro p e s m args below meth c ls G hr hml hlocks hnm hH hl
  have hl : lh ls 2 [some (.int x), some (.int y)] := hl
  have hL : ∀ q ∈ ([] : List Loc), (f0) q.base := fun q h => by cases h
  refine hb_iload_n G dX2_touched_0 hl rfl ?_
  refine lv_if_ne (tgt := 8) G.1 G.2.1 dX2_touched_1 (by decide) (fun c_1 => ?_) (fun c_1 => ?_)
  · refine hb_iload_n G dX2_touched_8 hl rfl ?_
    refine hb_iload_n G dX2_touched_9 hl rfl ?_
    refine lv_iadd G.1 G.2.1 dX2_touched_10 ?_
    refine lv_topi (fun t_2 et_2 => ?_)
    refine lv_iconst (v := 1) G.1 G.2.1 dX2_touched_11 (by decide) ?_
    refine lv_isub G.1 G.2.1 dX2_touched_12 ?_
    refine lv_topi (fun t_3 et_3 => ?_)
    refine lv_sipush (v := 1024) G.1 G.2.1 dX2_touched_13 (by decide) ?_
    refine lv_idiv G.1 G.2.1 dX2_touched_16 (by decide) ?_
    refine lv_topi (fun t_4 et_4 => ?_)
    refine hb_iload_n G dX2_touched_17 hl rfl ?_
    refine lv_sipush (v := 1024) G.1 G.2.1 dX2_touched_18 (by decide) ?_
    refine lv_idiv G.1 G.2.1 dX2_touched_21 (by decide) ?_
    refine lv_topi (fun t_5 et_5 => ?_)
    refine lv_isub G.1 G.2.1 dX2_touched_22 ?_
    refine lv_topi (fun t_6 et_6 => ?_)
    refine lv_iconst (v := 1) G.1 G.2.1 dX2_touched_23 (by decide) ?_
    refine lv_iadd G.1 G.2.1 dX2_touched_24 ?_
    refine lv_topi (fun t_7 et_7 => ?_)
    exact hb_iret G hr hlocks ⟨by unfold tcV; rw [if_neg c_1]; simp only [*]; rfl, rfl⟩ hL (Nat.le_refl _) (Nat.le_refl _) dX2_touched_25
  · refine lv_iconst (v := 0) G.1 G.2.1 dX2_touched_4 (by decide) ?_
    refine lv_goto (tgt := 25) G.1 G.2.1 dX2_touched_5 (by decide) ?_
    exact hb_iret G hr hlocks ⟨by unfold tcV; rw [if_pos c_1], rfl⟩ hL (Nat.le_refl _) (Nat.le_refl _) dX2_touched_25
