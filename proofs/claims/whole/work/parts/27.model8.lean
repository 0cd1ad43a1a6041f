/-- where the next packed entry lies: the plan's segment and the place in it -/
def hN (pb : Nat → Int32) (q : Nat × Int32) : Nat × Int32 := if q.2 = pb q.1 then (q.1 + 1, 0) else q
def hR (pb sz : Nat → Int32) (k : Int32) : Nat → Nat × Int32
  | 0 => (0, 0)
  | j + 1 => if nI j - nI j / k * k = 0 then hR pb sz k j else ((hN pb (hR pb sz k j)).1, (hN pb (hR pb sz k j)).2 + (sz j + 4))
abbrev mvE (A : Nat → Nat → Int32) (i al e : Nat) : Prop := A 5 e = nI i ∧ mCnt (A 5) (nI i) e < al
def kpT (A : Nat → Nat → Int32) (i al : Nat) (k : Int32) : Nat → Bool := fun e => !(decide (mvE A i al e) && decide (nI (mCnt (A 5) (nI i) e) - nI (mCnt (A 5) (nI i) e) / k * k = 0))
def mT8 (A : Nat → Nat → Int32) (i al : Nat) (k : Int32) (sz : Nat → Int32) : Nat → Int32 := fun e => if mvE A i al e then A 10 (hN (A 11) (hR (A 11) sz k (mCnt (A 5) (nI i) e))).1 else A 8 e
def mT9 (A : Nat → Nat → Int32) (i al : Nat) (k : Int32) (sz : Nat → Int32) : Nat → Int32 := fun e => if mvE A i al e then (hN (A 11) (hR (A 11) sz k (mCnt (A 5) (nI i) e))).2 else A 9 e
def mTh (A : Nat → Nat → Int32) (i al : Nat) (k : Int32) (sz : Nat → Int32) : Nat → Nat → Int32 := va_up (va_up A 8 (mT8 A i al k sz)) 9 (mT9 A i al k sz)
theorem mTh_ne {A : Nat → Nat → Int32} {i al : Nat} {k : Int32} {sz : Nat → Int32} {e : Nat} (h : ¬ mvE A i al e) (q : Nat) : mTh A i al k sz q e = A q e := by
  unfold mTh
  by_cases q9 : q = 9
  · subst q9; show mT9 A i al k sz e = _; unfold mT9; rw [if_neg h]
  · by_cases q8 : q = 8
    · subst q8; show mT8 A i al k sz e = _; unfold mT8; rw [if_neg h]
    · rw [va_up_ne _ _ q9, va_up_ne _ _ q8]
def mSt (f : Nat → Int32) (b : Nat) (h : Nat → Int32) : Nat → (Nat → Int32)
  | 0 => f
  | s + 1 => upd (mSt f b h s) (b + s) (h s)
def mHap (A A3 : Nat → Nat → Int32) (i al pl : Nat) (k : Int32) (sz : Nat → Int32) (en : Nat) : Prop := A3 0 = upd (A 0) i (nI (pl + 1)) ∧ A3 1 = upd (mSt (A 1) (60 * i) (A 10) pl) (60 * i + pl) (A 1 (60 * i + (tn (A 0 i) - 1))) ∧ A3 2 = upd (mSt (A 2) (60 * i) (A 11) pl) (60 * i + pl) (A 2 (60 * i + (tn (A 0 i) - 1))) ∧ A3 3 = A 3 ∧ mComp (mTh A i al k sz) A3 (kpT A i al k) en
def mFx (A A2 : Nat → Nat → Int32) : Prop := ∀ q, q < 5 ∨ 9 < q → A2 q = A q
set_option maxHeartbeats 4000000 in
set_option maxRecDepth 100000 in
/-- happen -/
theorem m_happen (g : Gx) (l : Launch) (r S B C : Nat) (a : Nat → Nat) (A : Nat → Nat → Int32) (cd wr lf dn : Int32) (en pl : Nat) (H : Heap) (h : mdAt g r S B C a A cd wr lf dn en pl H) (hB : mdB S B C en) (hA : sgOk S A) (i : Nat) (hi : i < 4) (hns : 0 < tn (A 0 i)) (k : Int32) (hk1 : ¬ k = 0) (al : Nat) (sz : Nat → Int32) (hal : mCl A i en = nI al) (hal2 : al ≤ mCnt (A 5) (nI i) en) (hsz : ∀ e, e < en → A 5 e = nI i → A 6 e = sz (mCnt (A 5) (nI i) e)) (hpl : pl ≤ 59) (hsg : ∀ j, j ≤ al → (hR (A 11) sz k j).1 < 60) : HM g l yX2_happen cX2_happen 14 none 2 45 0 0 [.ref r, .int (nI i), .int k] H (fun v H1 => v = none ∧ ∃ A3 : Nat → Nat → Int32, mdAt g r S B C a A3 cd wr lf dn (cK (kpT A i al k) en) pl H1 ∧ mHap A A3 i al pl k sz en ∧ Mo r a H H1) (fM r a) := by
  refine HM.ofW (by decide) (Nat.le_of_ble_eq_true rfl) (by simp [Value.category]) ?_
  intro p e s m args below meth c ls G hr hml hlocks hnm hH hl
  have hl : lh ls 14 [some (.ref r), some (.int (nI i)), some (.int k), none, none, none, none, none, none, none, none, none, none, none] := hl
  have hL : ∀ q ∈ ([] : List Loc), (fM r a) q.base := fun q h => by cases h
  have hmle := mCnt_le (A 5) (nI i) en
  obtain ⟨hs0, hs1, hs2⟩ := hA i hi
  obtain ⟨hSB, hC1, hC2⟩ := hB
  have hB : mdB S B C en := ⟨hSB, hC1, hC2⟩
  obtain ⟨kp, hkp⟩ : ∃ z, kpT A i al k = z := ⟨_, rfl⟩
  obtain ⟨T, hTh⟩ : ∃ z, mTh A i al k sz = z := ⟨_, rfl⟩
  have lps : ∀ (k9 j : Nat) (sb : Int32) (o4 : Int32) (A2 : Nat → Nat → Int32) (K : Heap) (locs : List Loc) (ls : Array Slot), (pl + 1 ≤ j + k9) → (j ≤ pl) → (sb = nI j) → (mFx A A2) → (mComp T A2 kp en) → (mdAt g r S B C a (va_up (va_up A2 1 (mSt (A 1) (60 * i) (A 10) j)) 2 (mSt (A 2) (60 * i) (A 11) j)) cd wr lf dn (cK kp en) pl K) → (Mo r a H K) → (∀ q ∈ locs, (fM r a) q.base) → lh ls 14 [some (.ref r), some (.int (nI i)), some (.int k), some (.int (nI al)), some (.int o4), some (.int (A 1 (60 * i + (tn (A 0 i) - 1)))), some (.int (A 2 (60 * i + (tn (A 0 i) - 1)))), none, none, none, none, some (.int sb), none, none] → W p l e ({ frames := 2, cells := 0, slots := 0, locals := 45 } : Room) s m args below meth c K locs 0 0 (hQ below args s (fun v H1 => v = none ∧ ∃ A3 : Nat → Nat → Int32, mdAt g r S B C a A3 cd wr lf dn (cK (kpT A i al k) en) pl H1 ∧ mHap A A3 i al pl k sz en ∧ Mo r a H H1) 0 0 (fM r a)) (F0 m 218 ls []) := by
    intro k9
    induction k9 with
    | zero =>
      intro j sb o4 A2 K locs ls hd9 hj esb hfx hcm hK hmK hL hl
      exfalso; omega
    | succ k9 ih =>
      intro j sb o4 A2 K locs ls hd9 hj esb hfx hcm hK hmK hL hl
      refine hb_iload G dX2_happen_218 hl rfl ?_
      refine hb_aload_n G dX2_happen_220 hl rfl ?_
      refine hb_get G hK.1 rfl inX2 17 (by decide) kf_X2_118 rfl rfl dX2_happen_221 ?_
      refine lv_icmp_ge (tgt := 271) G.1 G.2.1 dX2_happen_224 (by decide) (fun c_1 => ?_) (fun c_1 => ?_)
      · have hj2 : j = pl := by have := (ic_le rfl esb (by omega) (by omega)).mp c_1; omega
        subst hj2
        refine hb_aload_n G dX2_happen_271 hl rfl ?_
        refine hb_get G hK.1 rfl inX2 7 (by decide) kf_X2_17 rfl rfl dX2_happen_272 ?_
        refine lv_bipush (v := 60) G.1 G.2.1 dX2_happen_275 (by decide) ?_
        refine hb_iload_n G dX2_happen_277 hl rfl ?_
        refine lv_imul G.1 G.2.1 dX2_happen_278 ?_
        refine lv_topi (fun t_2 et_2 => ?_)
        refine hb_aload_n G dX2_happen_279 hl rfl ?_
        refine hb_get G hK.1 rfl inX2 17 (by decide) kf_X2_118 rfl rfl dX2_happen_280 ?_
        refine lv_iadd G.1 G.2.1 dX2_happen_283 ?_
        refine lv_topi (fun t_3 et_3 => ?_)
        refine hb_iload G dX2_happen_284 hl rfl ?_
        have hix1 : t_3 = nI (60 * i + j) := by rw [et_3, et_2]; exact nI_60 _ _
        refine hb_iast G (show ia g (a 1) 240 ((va_up (va_up A2 1 (mSt (A 1) (60 * i) (A 10) j)) 2 (mSt (A 2) (60 * i) (A 11) j)) 1) _ from hK.2.1 1 (by decide)) (by rw [hix1]; exact vp_in_nI (by omega) (by first | decide | omega)) hL (fM_a (by decide)) dX2_happen_286 (fun N1 locs hg1 hz1 ho1 hL => ?_)
        rw [show (t_3).toNatClampNeg = 60 * i + j by rw [hix1]; exact nI_clamp (by omega)] at hg1
        have hn1 := hK.up (k := 1) (by decide) hg1 ⟨hz1, ho1⟩
        have hn1 : mdAt g r S B C a (va_up (va_up (va_up A2 1 (mSt (A 1) (60 * i) (A 10) j)) 2 (mSt (A 2) (60 * i) (A 11) j)) 1 (upd (mSt (A 1) (60 * i) (A 10) j) (60 * i + j) (A 1 (60 * i + (tn (A 0 i) - 1))))) cd wr lf dn (cK kp en) j N1 := hn1
        refine hb_aload_n G dX2_happen_287 hl rfl ?_
        refine hb_get G hn1.1 rfl inX2 8 (by decide) kf_X2_20 rfl rfl dX2_happen_288 ?_
        refine lv_bipush (v := 60) G.1 G.2.1 dX2_happen_291 (by decide) ?_
        refine hb_iload_n G dX2_happen_293 hl rfl ?_
        refine lv_imul G.1 G.2.1 dX2_happen_294 ?_
        refine lv_topi (fun t_4 et_4 => ?_)
        refine hb_aload_n G dX2_happen_295 hl rfl ?_
        refine hb_get G hn1.1 rfl inX2 17 (by decide) kf_X2_118 rfl rfl dX2_happen_296 ?_
        refine lv_iadd G.1 G.2.1 dX2_happen_299 ?_
        refine lv_topi (fun t_5 et_5 => ?_)
        refine hb_iload G dX2_happen_300 hl rfl ?_
        have hix2 : t_5 = nI (60 * i + j) := by rw [et_5, et_4]; exact nI_60 _ _
        refine hb_iast G (show ia g (a 2) 240 ((va_up (va_up (va_up A2 1 (mSt (A 1) (60 * i) (A 10) j)) 2 (mSt (A 2) (60 * i) (A 11) j)) 1 (upd (mSt (A 1) (60 * i) (A 10) j) (60 * i + j) (A 1 (60 * i + (tn (A 0 i) - 1))))) 2) _ from hn1.2.1 2 (by decide)) (by rw [hix2]; exact vp_in_nI (by omega) (by first | decide | omega)) hL (fM_a (by decide)) dX2_happen_302 (fun N2 locs hg2 hz2 ho2 hL => ?_)
        rw [show (t_5).toNatClampNeg = 60 * i + j by rw [hix2]; exact nI_clamp (by omega)] at hg2
        have hn2 := hn1.up (k := 2) (by decide) hg2 ⟨hz2, ho2⟩
        have hn2 : mdAt g r S B C a (va_up (va_up (va_up (va_up A2 1 (mSt (A 1) (60 * i) (A 10) j)) 2 (mSt (A 2) (60 * i) (A 11) j)) 1 (upd (mSt (A 1) (60 * i) (A 10) j) (60 * i + j) (A 1 (60 * i + (tn (A 0 i) - 1))))) 2 (upd (mSt (A 2) (60 * i) (A 11) j) (60 * i + j) (A 2 (60 * i + (tn (A 0 i) - 1))))) cd wr lf dn (cK kp en) j N2 := hn2
        refine hb_aload_n G dX2_happen_303 hl rfl ?_
        refine hb_get G hn2.1 rfl inX2 6 (by decide) kf_X2_13 rfl rfl dX2_happen_304 ?_
        refine hb_iload_n G dX2_happen_307 hl rfl ?_
        refine hb_aload_n G dX2_happen_308 hl rfl ?_
        refine hb_get G hn2.1 rfl inX2 17 (by decide) kf_X2_118 rfl rfl dX2_happen_309 ?_
        refine lv_iconst (v := 1) G.1 G.2.1 dX2_happen_312 (by decide) ?_
        refine lv_iadd G.1 G.2.1 dX2_happen_313 ?_
        refine lv_topi (fun t_6 et_6 => ?_)
        refine hb_iast G (show ia g (a 0) 4 ((va_up (va_up (va_up (va_up A2 1 (mSt (A 1) (60 * i) (A 10) j)) 2 (mSt (A 2) (60 * i) (A 11) j)) 1 (upd (mSt (A 1) (60 * i) (A 10) j) (60 * i + j) (A 1 (60 * i + (tn (A 0 i) - 1))))) 2 (upd (mSt (A 2) (60 * i) (A 11) j) (60 * i + j) (A 2 (60 * i + (tn (A 0 i) - 1))))) 0) _ from hn2.2.1 0 (by decide)) (by rw [show nI i = nI i from rfl]; exact vp_in_nI (by omega) (by first | decide | omega)) hL (fM_a (by decide)) dX2_happen_314 (fun N3 locs hg3 hz3 ho3 hL => ?_)
        rw [show ((nI i)).toNatClampNeg = i by rw [show nI i = nI i from rfl]; exact nI_clamp (by omega), show t_6 = nI (j + 1) by rw [et_6]; exact nI_1 j] at hg3
        have hn3 := hn2.up (k := 0) (by decide) hg3 ⟨hz3, ho3⟩
        have hn3 : mdAt g r S B C a (va_up (va_up (va_up (va_up (va_up A2 1 (mSt (A 1) (60 * i) (A 10) j)) 2 (mSt (A 2) (60 * i) (A 11) j)) 1 (upd (mSt (A 1) (60 * i) (A 10) j) (60 * i + j) (A 1 (60 * i + (tn (A 0 i) - 1))))) 2 (upd (mSt (A 2) (60 * i) (A 11) j) (60 * i + j) (A 2 (60 * i + (tn (A 0 i) - 1))))) 0 (upd (A2 0) i (nI (j + 1)))) cd wr lf dn (cK kp en) j N3 := hn3
        exact hb_vret G hr hlocks ⟨rfl, (va_up (va_up (va_up (va_up (va_up A2 1 (mSt (A 1) (60 * i) (A 10) j)) 2 (mSt (A 2) (60 * i) (A 11) j)) 1 (upd (mSt (A 1) (60 * i) (A 10) j) (60 * i + j) (A 1 (60 * i + (tn (A 0 i) - 1))))) 2 (upd (mSt (A 2) (60 * i) (A 11) j) (60 * i + j) (A 2 (60 * i + (tn (A 0 i) - 1))))) 0 (upd (A2 0) i (nI (j + 1)))), by rw [hkp]; exact hn3, ⟨by show upd (A2 0) i (nI (j + 1)) = _; rw [hfx 0 (by omega)], rfl, rfl, hfx 3 (by omega), by rw [hTh, hkp]; exact fun k5 e5 q1 q2 q3 q4 => by rw [va_up_ne _ _ (by omega), va_up_ne _ _ (by omega), va_up_ne _ _ (by omega), va_up_ne _ _ (by omega), va_up_ne _ _ (by omega)]; exact hcm k5 e5 q1 q2 q3 q4⟩, hmK.tr ((Mo.ar (k := 1) ⟨hz1, ho1⟩ (by decide)).tr ((Mo.ar (k := 2) ⟨hz2, ho2⟩ (by decide)).tr (Mo.ar (k := 0) ⟨hz3, ho3⟩ (by decide))))⟩ hL (Nat.le_refl _) (Nat.le_refl _) dX2_happen_315
      · have hj2 : j < pl := by have := mt (ic_le rfl esb (by omega) (by omega)).mpr c_1; omega
        refine hb_aload_n G dX2_happen_227 hl rfl ?_
        refine hb_get G hK.1 rfl inX2 7 (by decide) kf_X2_17 rfl rfl dX2_happen_228 ?_
        refine lv_bipush (v := 60) G.1 G.2.1 dX2_happen_231 (by decide) ?_
        refine hb_iload_n G dX2_happen_233 hl rfl ?_
        refine lv_imul G.1 G.2.1 dX2_happen_234 ?_
        refine lv_topi (fun t_7 et_7 => ?_)
        refine hb_iload G dX2_happen_235 hl rfl ?_
        refine lv_iadd G.1 G.2.1 dX2_happen_237 ?_
        refine lv_topi (fun t_8 et_8 => ?_)
        refine hb_aload_n G dX2_happen_238 hl rfl ?_
        refine hb_get G hK.1 rfl inX2 18 (by decide) kf_X2_45 rfl rfl dX2_happen_239 ?_
        refine hb_iload G dX2_happen_242 hl rfl ?_
        refine hb_iald G (show ia g (a 10) 60 ((va_up (va_up A2 1 (mSt (A 1) (60 * i) (A 10) j)) 2 (mSt (A 2) (60 * i) (A 11) j)) 10) _ from hK.2.1 10 (by decide)) (by rw [esb]; exact vp_in_nI (by omega) (by decide)) dX2_happen_244 ?_
        refine lv_topi (fun r_9 er_9 => ?_)
        have er_9 : r_9 = (va_up (va_up A2 1 (mSt (A 1) (60 * i) (A 10) j)) 2 (mSt (A 2) (60 * i) (A 11) j)) 10 (j) := by rw [er_9, show (sb).toNatClampNeg = j by rw [esb]; exact nI_clamp (by omega)]
        have hix1 : t_8 = nI (60 * i + j) := by rw [et_8, et_7, esb]; exact nI_60 _ _
        have hv1 : r_9 = A 10 j := by rw [er_9]; show A2 10 j = _; rw [hfx 10 (by omega)]
        refine hb_iast G (show ia g (a 1) 240 ((va_up (va_up A2 1 (mSt (A 1) (60 * i) (A 10) j)) 2 (mSt (A 2) (60 * i) (A 11) j)) 1) _ from hK.2.1 1 (by decide)) (by rw [hix1]; exact vp_in_nI (by omega) (by first | decide | omega)) hL (fM_a (by decide)) dX2_happen_245 (fun N1 locs hg1 hz1 ho1 hL => ?_)
        rw [show (t_8).toNatClampNeg = 60 * i + j by rw [hix1]; exact nI_clamp (by omega), hv1] at hg1
        have hn1 := hK.up (k := 1) (by decide) hg1 ⟨hz1, ho1⟩
        have hn1 : mdAt g r S B C a (va_up (va_up A2 1 (mSt (A 1) (60 * i) (A 10) (j + 1))) 2 (mSt (A 2) (60 * i) (A 11) j)) cd wr lf dn (cK kp en) pl N1 := by
          have h9 : va_up (va_up (va_up A2 1 (mSt (A 1) (60 * i) (A 10) j)) 2 (mSt (A 2) (60 * i) (A 11) j)) 1 (upd (mSt (A 1) (60 * i) (A 10) j) (60 * i + j) (A 10 j)) = va_up (va_up A2 1 (mSt (A 1) (60 * i) (A 10) (j + 1))) 2 (mSt (A 2) (60 * i) (A 11) j) := by
            funext q
            by_cases q1 : q = 1
            · subst q1; rfl
            · by_cases q2 : q = 2
              · subst q2; rfl
              · rw [va_up_ne _ _ q1, va_up_ne _ _ q2, va_up_ne _ _ q1, va_up_ne _ _ q2, va_up_ne _ _ q1]
          rw [← h9]; exact hn1
        refine hb_aload_n G dX2_happen_246 hl rfl ?_
        refine hb_get G hn1.1 rfl inX2 8 (by decide) kf_X2_20 rfl rfl dX2_happen_247 ?_
        refine lv_bipush (v := 60) G.1 G.2.1 dX2_happen_250 (by decide) ?_
        refine hb_iload_n G dX2_happen_252 hl rfl ?_
        refine lv_imul G.1 G.2.1 dX2_happen_253 ?_
        refine lv_topi (fun t_10 et_10 => ?_)
        refine hb_iload G dX2_happen_254 hl rfl ?_
        refine lv_iadd G.1 G.2.1 dX2_happen_256 ?_
        refine lv_topi (fun t_11 et_11 => ?_)
        refine hb_aload_n G dX2_happen_257 hl rfl ?_
        refine hb_get G hn1.1 rfl inX2 19 (by decide) kf_X2_48 rfl rfl dX2_happen_258 ?_
        refine hb_iload G dX2_happen_261 hl rfl ?_
        refine hb_iald G (show ia g (a 11) 60 ((va_up (va_up A2 1 (mSt (A 1) (60 * i) (A 10) (j + 1))) 2 (mSt (A 2) (60 * i) (A 11) j)) 11) _ from hn1.2.1 11 (by decide)) (by rw [esb]; exact vp_in_nI (by omega) (by decide)) dX2_happen_263 ?_
        refine lv_topi (fun r_12 er_12 => ?_)
        have er_12 : r_12 = (va_up (va_up A2 1 (mSt (A 1) (60 * i) (A 10) (j + 1))) 2 (mSt (A 2) (60 * i) (A 11) j)) 11 (j) := by rw [er_12, show (sb).toNatClampNeg = j by rw [esb]; exact nI_clamp (by omega)]
        have hix2 : t_11 = nI (60 * i + j) := by rw [et_11, et_10, esb]; exact nI_60 _ _
        have hv2 : r_12 = A 11 j := by rw [er_12]; show A2 11 j = _; rw [hfx 11 (by omega)]
        refine hb_iast G (show ia g (a 2) 240 ((va_up (va_up A2 1 (mSt (A 1) (60 * i) (A 10) (j + 1))) 2 (mSt (A 2) (60 * i) (A 11) j)) 2) _ from hn1.2.1 2 (by decide)) (by rw [hix2]; exact vp_in_nI (by omega) (by first | decide | omega)) hL (fM_a (by decide)) dX2_happen_264 (fun N2 locs hg2 hz2 ho2 hL => ?_)
        rw [show (t_11).toNatClampNeg = 60 * i + j by rw [hix2]; exact nI_clamp (by omega), hv2] at hg2
        have hn2 := hn1.up (k := 2) (by decide) hg2 ⟨hz2, ho2⟩
        rw [bx_uu] at hn2
        obtain ⟨t_13, et_13⟩ : ∃ z : Int32, z = sb + 1 := ⟨_, rfl⟩
        refine hb_iinc (v := t_13) G dX2_happen_265 hl rfl (by rw [et_13]; rfl) (by decide) (fun ls hl => ?_)
        have hl : lh ls 14 [some (.ref r), some (.int (nI i)), some (.int k), some (.int (nI al)), some (.int o4), some (.int (A 1 (60 * i + (tn (A 0 i) - 1)))), some (.int (A 2 (60 * i + (tn (A 0 i) - 1)))), none, none, none, none, some (.int t_13), none, none] := hl
        refine lv_goto (tgt := 218) G.1 G.2.1 dX2_happen_268 (by decide) ?_
        exact ih (j + 1) t_13 o4 A2 N2 locs ls (by omega) (by omega) (by rw [et_13, esb]; exact nI_1 _) hfx hcm hn2 (hmK.tr ((Mo.ar (k := 1) ⟨hz1, ho1⟩ (by decide)).tr (Mo.ar (k := 2) ⟨hz2, ho2⟩ (by decide)))) hL hl
  have lpc : ∀ (k9 e2 : Nat) (ke me sg pc : Int32) (o4 : Int32) (eb : Int32) (A2 : Nat → Nat → Int32) (K : Heap) (locs : List Loc) (ls : Array Slot), (en + 1 ≤ e2 + k9) → (e2 ≤ en) → (eb = nI e2) → (me = nI (mCnt (A 5) (nI i) e2)) → (ke = nI (cK kp e2)) → (sg = nI (hR (A 11) sz k (min (mCnt (A 5) (nI i) e2) al)).1) → (pc = (hR (A 11) sz k (min (mCnt (A 5) (nI i) e2) al)).2) → (mFx A A2) → (mComp T A2 kp e2) → (∀ k5 q, 5 ≤ k5 → k5 ≤ 9 → e2 ≤ q → A2 k5 q = A k5 q) → (mdAt g r S B C a A2 cd wr lf dn en pl K) → (Mo r a H K) → (∀ q ∈ locs, (fM r a) q.base) → lh ls 14 [some (.ref r), some (.int (nI i)), some (.int k), some (.int (nI al)), some (.int o4), some (.int (A 1 (60 * i + (tn (A 0 i) - 1)))), some (.int (A 2 (60 * i + (tn (A 0 i) - 1)))), some (.int ke), some (.int me), some (.int sg), some (.int pc), some (.int eb), none, none] → W p l e ({ frames := 2, cells := 0, slots := 0, locals := 45 } : Room) s m args below meth c K locs 0 0 (hQ below args s (fun v H1 => v = none ∧ ∃ A3 : Nat → Nat → Int32, mdAt g r S B C a A3 cd wr lf dn (cK (kpT A i al k) en) pl H1 ∧ mHap A A3 i al pl k sz en ∧ Mo r a H H1) 0 0 (fM r a)) (F0 m 54 ls []) := by
    intro k9
    induction k9 with
    | zero =>
      intro e2 ke me sg pc o4 eb A2 K locs ls hd9 he2 ee em ek esg epc hfx hcm hge hK hmK hL hl
      exfalso; omega
    | succ k9 ih =>
      intro e2 ke me sg pc o4 eb A2 K locs ls hd9 he2 ee em ek esg epc hfx hcm hge hK hmK hL hl
      have hcl := cK_le kp e2
      have hmc := mCnt_le (A 5) (nI i) e2
      have hsg2 := hsg (min (mCnt (A 5) (nI i) e2) al) (Nat.min_le_right _ _)
      refine hb_iload G dX2_happen_54 hl rfl ?_
      refine hb_aload_n G dX2_happen_56 hl rfl ?_
      refine hb_get G hK.1 rfl inX2 11 (by decide) kf_X2_71 rfl rfl dX2_happen_57 ?_
      refine lv_icmp_ge (tgt := 209) G.1 G.2.1 dX2_happen_60 (by decide) (fun c_14 => ?_) (fun c_14 => ?_)
      · have he3 : e2 = en := by have := (ic_le rfl ee (by omega) (by omega)).mp c_14; omega
        subst he3
        refine hb_aload_n G dX2_happen_209 hl rfl ?_
        refine hb_iload G dX2_happen_210 hl rfl ?_
        refine hb_put G hK.1 rfl inX2 tyX2 tyX2_ok nmX2 11 (by decide) kf_X2_71 rfl rfl rfl rfl (Nat.le_of_ble_eq_true rfl) hL (Or.inl rfl) dX2_happen_212 (fun K5 locs5 hf5 hz5 ho5 hL => ?_)
        have hf5 : ob g r 2 (mdFs S B a cd wr lf dn (cK kp e2) pl) K5 := by rw [ek] at hf5; exact hf5
        have hk5 := hK.fd hf5 ⟨hz5, ho5⟩
        refine lv_iconst (v := 0) G.1 G.2.1 dX2_happen_215 (by decide) ?_
        refine hb_istore G dX2_happen_216 hl (by decide) (fun ls hl => ?_)
        have hl : lh ls 14 [some (.ref r), some (.int (nI i)), some (.int k), some (.int (nI al)), some (.int o4), some (.int (A 1 (60 * i + (tn (A 0 i) - 1)))), some (.int (A 2 (60 * i + (tn (A 0 i) - 1)))), some (.int ke), some (.int me), some (.int sg), some (.int pc), some (.int 0), none, none] := hl
        have h19 : va_up (va_up A2 1 (A 1)) 2 (A 2) = A2 := by
          rw [← hfx 1 (by omega), ← hfx 2 (by omega), up_same, up_same]
        exact lps (pl + 1) 0 0 o4 A2 K5 locs5 ls (by omega) (by omega) rfl hfx hcm (by show mdAt g r S B C a (va_up (va_up A2 1 (A 1)) 2 (A 2)) _ _ _ _ _ _ _; rw [h19]; exact hk5) (hmK.tr (Mo.fd ⟨hz5, ho5⟩)) hL ((((hl.drop 7).drop 8).drop 9).drop 10)
      · have he3 : e2 < en := by have := mt (ic_le rfl ee (by omega) (by omega)).mpr c_14; omega
        have hof : A2 5 e2 = A 5 e2 := hge 5 e2 (by decide) (by decide) (Nat.le_refl _)
        subst ee
        subst ek
        have hl : lh ls 14 [some (.ref r), some (.int (nI i)), some (.int k), some (.int (nI al)), some (.int o4), some (.int (A 1 (60 * i + (tn (A 0 i) - 1)))), some (.int (A 2 (60 * i + (tn (A 0 i) - 1)))), some (.int (nI (cK kp e2))), some (.int me), some (.int sg), some (.int pc), some (.int (nI e2)), none, none] := hl
        refine hb_aload_n G dX2_happen_63 hl rfl ?_
        refine hb_get G hK.1 rfl inX2 12 (by decide) kf_X2_30 rfl rfl dX2_happen_64 ?_
        refine hb_iload G dX2_happen_67 hl rfl ?_
        refine hb_iald G (show ia g (a 5) C (A2 5) _ from hK.2.1 5 (by decide)) (by rw [show nI e2 = nI e2 from rfl]; exact vp_in_nI (by omega) (by omega)) dX2_happen_69 ?_
        refine lv_topi (fun r_15 er_15 => ?_)
        have er_15 : r_15 = A2 5 (e2) := by rw [er_15, show ((nI e2)).toNatClampNeg = e2 by rw [show nI e2 = nI e2 from rfl]; exact nI_clamp (by omega)]
        rw [hof] at er_15
        refine hb_iload_n G dX2_happen_70 hl rfl ?_
        refine lv_icmp_ne (tgt := 84) G.1 G.2.1 dX2_happen_71 (by decide) (fun c_16 => ?_) (fun c_16 => ?_)
        · have hA5 : ¬ A 5 e2 = nI i := by rw [← er_15]; exact c_16
          have hmv : ¬ mvE A i al e2 := fun q => hA5 q.1
          refine lv_iconst (v := 0) G.1 G.2.1 dX2_happen_84 (by decide) ?_
          refine hb_istore G dX2_happen_85 hl (by decide) (fun ls hl => ?_)
          have hl : lh ls 14 [some (.ref r), some (.int (nI i)), some (.int k), some (.int (nI al)), some (.int o4), some (.int (A 1 (60 * i + (tn (A 0 i) - 1)))), some (.int (A 2 (60 * i + (tn (A 0 i) - 1)))), some (.int (nI (cK kp e2))), some (.int me), some (.int sg), some (.int pc), some (.int (nI e2)), some (.int 0), none] := hl
          refine hb_iload G dX2_happen_87 hl rfl ?_
          refine lv_if_eq (tgt := 103) G.1 G.2.1 dX2_happen_89 (by decide) (fun c_17 => ?_) (fun c_17 => ?_)
          · have hkt : kp e2 = true := by rw [← hkp]; unfold kpT; rw [decide_eq_false hmv]; rfl
            refine lv_iconst (v := 0) G.1 G.2.1 dX2_happen_103 (by decide) ?_
            refine hb_istore G dX2_happen_104 hl (by decide) (fun ls hl => ?_)
            have hl : lh ls 14 [some (.ref r), some (.int (nI i)), some (.int k), some (.int (nI al)), some (.int o4), some (.int (A 1 (60 * i + (tn (A 0 i) - 1)))), some (.int (A 2 (60 * i + (tn (A 0 i) - 1)))), some (.int (nI (cK kp e2))), some (.int me), some (.int sg), some (.int pc), some (.int (nI e2)), some (.int 0), some (.int 0)] := hl
            refine hb_iload G dX2_happen_106 hl rfl ?_
            refine hb_aload_n G dX2_happen_108 hl rfl ?_
            refine hb_get G hK.1 rfl inX2 12 (by decide) kf_X2_30 rfl rfl dX2_happen_109 ?_
            refine hb_iload G dX2_happen_112 hl rfl ?_
            refine hb_iald G (show ia g (a 5) C (A2 5) _ from hK.2.1 5 (by decide)) (by rw [show nI e2 = nI e2 from rfl]; exact vp_in_nI (by omega) (by omega)) dX2_happen_114 ?_
            refine lv_topi (fun r_18 er_18 => ?_)
            have er_18 : r_18 = A2 5 (e2) := by rw [er_18, show ((nI e2)).toNatClampNeg = e2 by rw [show nI e2 = nI e2 from rfl]; exact nI_clamp (by omega)]
            rw [hof] at er_18
            refine hb_iload_n G dX2_happen_115 hl rfl ?_
            refine lv_icmp_ne (tgt := 123) G.1 G.2.1 dX2_happen_116 (by decide) (fun c_19 => ?_) (fun c_19 => ?_)
            · refine lv_iconst (v := 0) G.1 G.2.1 dX2_happen_123 (by decide) ?_
              refine lv_iadd G.1 G.2.1 dX2_happen_124 ?_
              refine lv_topi (fun t_20 et_20 => ?_)
              refine hb_istore G dX2_happen_125 hl (by decide) (fun ls hl => ?_)
              have hl : lh ls 14 [some (.ref r), some (.int (nI i)), some (.int k), some (.int (nI al)), some (.int o4), some (.int (A 1 (60 * i + (tn (A 0 i) - 1)))), some (.int (A 2 (60 * i + (tn (A 0 i) - 1)))), some (.int (nI (cK kp e2))), some (.int t_20), some (.int sg), some (.int pc), some (.int (nI e2)), some (.int 0), some (.int 0)] := hl
              refine hb_iload G dX2_happen_127 hl rfl ?_
              have hm1 : mCnt (A 5) (nI i) (e2 + 1) = mCnt (A 5) (nI i) e2 + 0 := by simp only [mCnt]; rw [if_neg hA5]
              refine lv_if_ne (tgt := 203) G.1 G.2.1 dX2_happen_129 (by decide) (fun c_21 => ?_) (fun c_21 => ?_)
              · exact absurd rfl c_21
              · have hR1 : min (mCnt (A 5) (nI i) (e2 + 1)) al = min (mCnt (A 5) (nI i) e2) al := by rw [hm1, Nat.add_zero]
                refine hb_aload_n G dX2_happen_132 hl rfl ?_
                refine hb_iload G dX2_happen_133 hl rfl ?_
                refine hb_iload G dX2_happen_135 hl rfl ?_
                refine hb_callV (As := [.int (nI e2), .int (nI (cK kp e2))]) (rest := []) G hml (m_copy g l r S B C a A2 cd wr lf dn en pl _ hK hC2 e2 (cK kp e2) (by omega) (by omega)) (hK.1) rfl km_X2_111 ki_X2_copy ks_X2_copy kn_X2 ko_X2_copy hd_X2_copy ⟨Nat.le_of_ble_eq_true rfl, Nat.le_of_ble_eq_true rfl⟩ hl.size rfl (Nat.le_of_ble_eq_true rfl) dX2_happen_137 ⟨Nat.le_of_ble_eq_true rfl, Nat.le_of_ble_eq_true rfl⟩ hL (fun q h => h) (fun v1 K6 locs hp hL => ?_)
                obtain ⟨rfl, hk6, hm6⟩ := hp
                refine hb_iload G dX2_happen_140 hl rfl ?_
                refine lv_if_eq (tgt := 200) G.1 G.2.1 dX2_happen_142 (by decide) (fun c_22 => ?_) (fun c_22 => ?_)
                · obtain ⟨t_23, et_23⟩ : ∃ z : Int32, z = (nI (cK kp e2)) + 1 := ⟨_, rfl⟩
                  refine hb_iinc (v := t_23) G dX2_happen_200 hl rfl (by rw [et_23]; rfl) (by decide) (fun ls hl => ?_)
                  have hl : lh ls 14 [some (.ref r), some (.int (nI i)), some (.int k), some (.int (nI al)), some (.int o4), some (.int (A 1 (60 * i + (tn (A 0 i) - 1)))), some (.int (A 2 (60 * i + (tn (A 0 i) - 1)))), some (.int t_23), some (.int t_20), some (.int sg), some (.int pc), some (.int (nI e2)), some (.int 0), some (.int 0)] := hl
                  obtain ⟨t_24, et_24⟩ : ∃ z : Int32, z = (nI e2) + 1 := ⟨_, rfl⟩
                  refine hb_iinc (v := t_24) G dX2_happen_203 hl rfl (by rw [et_24]; rfl) (by decide) (fun ls hl => ?_)
                  have hl : lh ls 14 [some (.ref r), some (.int (nI i)), some (.int k), some (.int (nI al)), some (.int o4), some (.int (A 1 (60 * i + (tn (A 0 i) - 1)))), some (.int (A 2 (60 * i + (tn (A 0 i) - 1)))), some (.int t_23), some (.int t_20), some (.int sg), some (.int pc), some (.int t_24), some (.int 0), some (.int 0)] := hl
                  refine lv_goto (tgt := 54) G.1 G.2.1 dX2_happen_206 (by decide) ?_
                  exact ih (e2 + 1) t_23 t_20 sg pc o4 t_24 (mCp A2 e2 (cK kp e2)) K6 locs ls (by omega) (by omega) (by rw [et_24]; exact nI_1 e2) (by rw [et_20, em, hm1]; exact nI_add _ 0) (by rw [et_23]; simp only [cK]; rw [if_pos hkt]; exact nI_1 _) (by rw [hR1]; exact esg) (by rw [hR1]; exact epc) (fun q q1 => by rw [mCp_ne q1]; exact hfx q q1) (fun k5 e5 q1 q2 q3 q4 => by
                      rw [mCp_in q1 q2]
                      by_cases h8 : e5 = e2
                      · subst h8; rw [pk_us, ← hTh, mTh_ne hmv]; exact hge k5 e5 q1 q2 (Nat.le_refl _)
                      · have h7 : cK kp (e5 + 1) ≤ cK kp e2 := cK_mono kp (by omega)
                        simp only [cK] at h7
                        rw [q4, if_pos rfl] at h7
                        rw [pk_un (by omega)]; exact hcm k5 e5 q1 q2 (by omega) q4) (fun k5 q q1 q2 q3 => by rw [mCp_in q1 q2, pk_un (by omega)]; exact hge k5 q q1 q2 (by omega)) hk6 (hmK.tr hm6) hL ((hl.drop 12).drop 13)
                · exact absurd rfl c_22
            · exact absurd (by rw [← er_18]; exact c_19) hA5
          · exact absurd rfl c_17
        · have hA5 : A 5 e2 = nI i := by rw [← er_15]; exact c_16
          refine hb_iload G dX2_happen_74 hl rfl ?_
          refine hb_iload_n G dX2_happen_76 hl rfl ?_
          refine lv_icmp_ge (tgt := 84) G.1 G.2.1 dX2_happen_77 (by decide) (fun c_25 => ?_) (fun c_25 => ?_)
          · have hmv : ¬ mvE A i al e2 := fun q => by have := (ic_le rfl em (by omega) (by omega)).mp c_25; have := q.2; omega
            refine lv_iconst (v := 0) G.1 G.2.1 dX2_happen_84 (by decide) ?_
            refine hb_istore G dX2_happen_85 hl (by decide) (fun ls hl => ?_)
            have hl : lh ls 14 [some (.ref r), some (.int (nI i)), some (.int k), some (.int (nI al)), some (.int o4), some (.int (A 1 (60 * i + (tn (A 0 i) - 1)))), some (.int (A 2 (60 * i + (tn (A 0 i) - 1)))), some (.int (nI (cK kp e2))), some (.int me), some (.int sg), some (.int pc), some (.int (nI e2)), some (.int 0), none] := hl
            refine hb_iload G dX2_happen_87 hl rfl ?_
            refine lv_if_eq (tgt := 103) G.1 G.2.1 dX2_happen_89 (by decide) (fun c_26 => ?_) (fun c_26 => ?_)
            · have hkt : kp e2 = true := by rw [← hkp]; unfold kpT; rw [decide_eq_false hmv]; rfl
              refine lv_iconst (v := 0) G.1 G.2.1 dX2_happen_103 (by decide) ?_
              refine hb_istore G dX2_happen_104 hl (by decide) (fun ls hl => ?_)
              have hl : lh ls 14 [some (.ref r), some (.int (nI i)), some (.int k), some (.int (nI al)), some (.int o4), some (.int (A 1 (60 * i + (tn (A 0 i) - 1)))), some (.int (A 2 (60 * i + (tn (A 0 i) - 1)))), some (.int (nI (cK kp e2))), some (.int me), some (.int sg), some (.int pc), some (.int (nI e2)), some (.int 0), some (.int 0)] := hl
              refine hb_iload G dX2_happen_106 hl rfl ?_
              refine hb_aload_n G dX2_happen_108 hl rfl ?_
              refine hb_get G hK.1 rfl inX2 12 (by decide) kf_X2_30 rfl rfl dX2_happen_109 ?_
              refine hb_iload G dX2_happen_112 hl rfl ?_
              refine hb_iald G (show ia g (a 5) C (A2 5) _ from hK.2.1 5 (by decide)) (by rw [show nI e2 = nI e2 from rfl]; exact vp_in_nI (by omega) (by omega)) dX2_happen_114 ?_
              refine lv_topi (fun r_27 er_27 => ?_)
              have er_27 : r_27 = A2 5 (e2) := by rw [er_27, show ((nI e2)).toNatClampNeg = e2 by rw [show nI e2 = nI e2 from rfl]; exact nI_clamp (by omega)]
              rw [hof] at er_27
              refine hb_iload_n G dX2_happen_115 hl rfl ?_
              refine lv_icmp_ne (tgt := 123) G.1 G.2.1 dX2_happen_116 (by decide) (fun c_28 => ?_) (fun c_28 => ?_)
              · exact absurd (by rw [er_27]; exact hA5) c_28
              · refine lv_iconst (v := 1) G.1 G.2.1 dX2_happen_119 (by decide) ?_
                refine lv_goto (tgt := 124) G.1 G.2.1 dX2_happen_120 (by decide) ?_
                refine lv_iadd G.1 G.2.1 dX2_happen_124 ?_
                refine lv_topi (fun t_29 et_29 => ?_)
                refine hb_istore G dX2_happen_125 hl (by decide) (fun ls hl => ?_)
                have hl : lh ls 14 [some (.ref r), some (.int (nI i)), some (.int k), some (.int (nI al)), some (.int o4), some (.int (A 1 (60 * i + (tn (A 0 i) - 1)))), some (.int (A 2 (60 * i + (tn (A 0 i) - 1)))), some (.int (nI (cK kp e2))), some (.int t_29), some (.int sg), some (.int pc), some (.int (nI e2)), some (.int 0), some (.int 0)] := hl
                refine hb_iload G dX2_happen_127 hl rfl ?_
                have hm1 : mCnt (A 5) (nI i) (e2 + 1) = mCnt (A 5) (nI i) e2 + 1 := by simp only [mCnt]; rw [if_pos hA5]
                refine lv_if_ne (tgt := 203) G.1 G.2.1 dX2_happen_129 (by decide) (fun c_30 => ?_) (fun c_30 => ?_)
                · exact absurd rfl c_30
                · have hR1 : min (mCnt (A 5) (nI i) (e2 + 1)) al = min (mCnt (A 5) (nI i) e2) al := by have h8 : ¬ mCnt (A 5) (nI i) e2 < al := fun q => hmv ⟨hA5, q⟩; rw [hm1, Nat.min_eq_right (by omega), Nat.min_eq_right (by omega)]
                  refine hb_aload_n G dX2_happen_132 hl rfl ?_
                  refine hb_iload G dX2_happen_133 hl rfl ?_
                  refine hb_iload G dX2_happen_135 hl rfl ?_
                  refine hb_callV (As := [.int (nI e2), .int (nI (cK kp e2))]) (rest := []) G hml (m_copy g l r S B C a A2 cd wr lf dn en pl _ hK hC2 e2 (cK kp e2) (by omega) (by omega)) (hK.1) rfl km_X2_111 ki_X2_copy ks_X2_copy kn_X2 ko_X2_copy hd_X2_copy ⟨Nat.le_of_ble_eq_true rfl, Nat.le_of_ble_eq_true rfl⟩ hl.size rfl (Nat.le_of_ble_eq_true rfl) dX2_happen_137 ⟨Nat.le_of_ble_eq_true rfl, Nat.le_of_ble_eq_true rfl⟩ hL (fun q h => h) (fun v1 K6 locs hp hL => ?_)
                  obtain ⟨rfl, hk6, hm6⟩ := hp
                  refine hb_iload G dX2_happen_140 hl rfl ?_
                  refine lv_if_eq (tgt := 200) G.1 G.2.1 dX2_happen_142 (by decide) (fun c_31 => ?_) (fun c_31 => ?_)
                  · obtain ⟨t_32, et_32⟩ : ∃ z : Int32, z = (nI (cK kp e2)) + 1 := ⟨_, rfl⟩
                    refine hb_iinc (v := t_32) G dX2_happen_200 hl rfl (by rw [et_32]; rfl) (by decide) (fun ls hl => ?_)
                    have hl : lh ls 14 [some (.ref r), some (.int (nI i)), some (.int k), some (.int (nI al)), some (.int o4), some (.int (A 1 (60 * i + (tn (A 0 i) - 1)))), some (.int (A 2 (60 * i + (tn (A 0 i) - 1)))), some (.int t_32), some (.int t_29), some (.int sg), some (.int pc), some (.int (nI e2)), some (.int 0), some (.int 0)] := hl
                    obtain ⟨t_33, et_33⟩ : ∃ z : Int32, z = (nI e2) + 1 := ⟨_, rfl⟩
                    refine hb_iinc (v := t_33) G dX2_happen_203 hl rfl (by rw [et_33]; rfl) (by decide) (fun ls hl => ?_)
                    have hl : lh ls 14 [some (.ref r), some (.int (nI i)), some (.int k), some (.int (nI al)), some (.int o4), some (.int (A 1 (60 * i + (tn (A 0 i) - 1)))), some (.int (A 2 (60 * i + (tn (A 0 i) - 1)))), some (.int t_32), some (.int t_29), some (.int sg), some (.int pc), some (.int t_33), some (.int 0), some (.int 0)] := hl
                    refine lv_goto (tgt := 54) G.1 G.2.1 dX2_happen_206 (by decide) ?_
                    exact ih (e2 + 1) t_32 t_29 sg pc o4 t_33 (mCp A2 e2 (cK kp e2)) K6 locs ls (by omega) (by omega) (by rw [et_33]; exact nI_1 e2) (by rw [et_29, em, hm1]; exact nI_1 _) (by rw [et_32]; simp only [cK]; rw [if_pos hkt]; exact nI_1 _) (by rw [hR1]; exact esg) (by rw [hR1]; exact epc) (fun q q1 => by rw [mCp_ne q1]; exact hfx q q1) (fun k5 e5 q1 q2 q3 q4 => by
                        rw [mCp_in q1 q2]
                        by_cases h8 : e5 = e2
                        · subst h8; rw [pk_us, ← hTh, mTh_ne hmv]; exact hge k5 e5 q1 q2 (Nat.le_refl _)
                        · have h7 : cK kp (e5 + 1) ≤ cK kp e2 := cK_mono kp (by omega)
                          simp only [cK] at h7
                          rw [q4, if_pos rfl] at h7
                          rw [pk_un (by omega)]; exact hcm k5 e5 q1 q2 (by omega) q4) (fun k5 q q1 q2 q3 => by rw [mCp_in q1 q2, pk_un (by omega)]; exact hge k5 q q1 q2 (by omega)) hk6 (hmK.tr hm6) hL ((hl.drop 12).drop 13)
                  · exact absurd rfl c_31
            · exact absurd rfl c_26
          · have hmv : mvE A i al e2 := ⟨hA5, by have := mt (ic_le rfl em (by omega) (by omega)).mpr c_25; omega⟩
            refine lv_iconst (v := 1) G.1 G.2.1 dX2_happen_80 (by decide) ?_
            refine lv_goto (tgt := 85) G.1 G.2.1 dX2_happen_81 (by decide) ?_
            refine hb_istore G dX2_happen_85 hl (by decide) (fun ls hl => ?_)
            have hl : lh ls 14 [some (.ref r), some (.int (nI i)), some (.int k), some (.int (nI al)), some (.int o4), some (.int (A 1 (60 * i + (tn (A 0 i) - 1)))), some (.int (A 2 (60 * i + (tn (A 0 i) - 1)))), some (.int (nI (cK kp e2))), some (.int me), some (.int sg), some (.int pc), some (.int (nI e2)), some (.int 1), none] := hl
            refine hb_iload G dX2_happen_87 hl rfl ?_
            refine lv_if_eq (tgt := 103) G.1 G.2.1 dX2_happen_89 (by decide) (fun c_34 => ?_) (fun c_34 => ?_)
            · exact absurd c_34 (by decide)
            · refine hb_iload G dX2_happen_92 hl rfl ?_
              refine hb_iload_n G dX2_happen_94 hl rfl ?_
              refine lv_irem G.1 G.2.1 dX2_happen_95 (hk1) ?_
              refine lv_topi (fun t_35 et_35 => ?_)
              refine lv_if_ne (tgt := 103) G.1 G.2.1 dX2_happen_96 (by decide) (fun c_36 => ?_) (fun c_36 => ?_)
              · have hrm : ¬ nI (mCnt (A 5) (nI i) e2) - nI (mCnt (A 5) (nI i) e2) / k * k = 0 := by rw [← em, ← et_35]; exact c_36
                have hkt : kp e2 = true := by rw [← hkp]; unfold kpT; simp [hrm]
                refine lv_iconst (v := 0) G.1 G.2.1 dX2_happen_103 (by decide) ?_
                refine hb_istore G dX2_happen_104 hl (by decide) (fun ls hl => ?_)
                have hl : lh ls 14 [some (.ref r), some (.int (nI i)), some (.int k), some (.int (nI al)), some (.int o4), some (.int (A 1 (60 * i + (tn (A 0 i) - 1)))), some (.int (A 2 (60 * i + (tn (A 0 i) - 1)))), some (.int (nI (cK kp e2))), some (.int me), some (.int sg), some (.int pc), some (.int (nI e2)), some (.int 1), some (.int 0)] := hl
                refine hb_iload G dX2_happen_106 hl rfl ?_
                refine hb_aload_n G dX2_happen_108 hl rfl ?_
                refine hb_get G hK.1 rfl inX2 12 (by decide) kf_X2_30 rfl rfl dX2_happen_109 ?_
                refine hb_iload G dX2_happen_112 hl rfl ?_
                refine hb_iald G (show ia g (a 5) C (A2 5) _ from hK.2.1 5 (by decide)) (by rw [show nI e2 = nI e2 from rfl]; exact vp_in_nI (by omega) (by omega)) dX2_happen_114 ?_
                refine lv_topi (fun r_37 er_37 => ?_)
                have er_37 : r_37 = A2 5 (e2) := by rw [er_37, show ((nI e2)).toNatClampNeg = e2 by rw [show nI e2 = nI e2 from rfl]; exact nI_clamp (by omega)]
                rw [hof] at er_37
                refine hb_iload_n G dX2_happen_115 hl rfl ?_
                refine lv_icmp_ne (tgt := 123) G.1 G.2.1 dX2_happen_116 (by decide) (fun c_38 => ?_) (fun c_38 => ?_)
                · exact absurd (by rw [er_37]; exact hA5) c_38
                · refine lv_iconst (v := 1) G.1 G.2.1 dX2_happen_119 (by decide) ?_
                  refine lv_goto (tgt := 124) G.1 G.2.1 dX2_happen_120 (by decide) ?_
                  refine lv_iadd G.1 G.2.1 dX2_happen_124 ?_
                  refine lv_topi (fun t_39 et_39 => ?_)
                  refine hb_istore G dX2_happen_125 hl (by decide) (fun ls hl => ?_)
                  have hl : lh ls 14 [some (.ref r), some (.int (nI i)), some (.int k), some (.int (nI al)), some (.int o4), some (.int (A 1 (60 * i + (tn (A 0 i) - 1)))), some (.int (A 2 (60 * i + (tn (A 0 i) - 1)))), some (.int (nI (cK kp e2))), some (.int t_39), some (.int sg), some (.int pc), some (.int (nI e2)), some (.int 1), some (.int 0)] := hl
                  refine hb_iload G dX2_happen_127 hl rfl ?_
                  have hm1 : mCnt (A 5) (nI i) (e2 + 1) = mCnt (A 5) (nI i) e2 + 1 := by simp only [mCnt]; rw [if_pos hA5]
                  refine lv_if_ne (tgt := 203) G.1 G.2.1 dX2_happen_129 (by decide) (fun c_40 => ?_) (fun c_40 => ?_)
                  · exact absurd rfl c_40
                  · have hR0 : min (mCnt (A 5) (nI i) e2) al = mCnt (A 5) (nI i) e2 := Nat.min_eq_left (Nat.le_of_lt hmv.2)
                    have hR1 : min (mCnt (A 5) (nI i) (e2 + 1)) al = mCnt (A 5) (nI i) e2 + 1 := by rw [hm1]; exact Nat.min_eq_left hmv.2
                    refine hb_aload_n G dX2_happen_132 hl rfl ?_
                    refine hb_iload G dX2_happen_133 hl rfl ?_
                    refine hb_iload G dX2_happen_135 hl rfl ?_
                    refine hb_callV (As := [.int (nI e2), .int (nI (cK kp e2))]) (rest := []) G hml (m_copy g l r S B C a A2 cd wr lf dn en pl _ hK hC2 e2 (cK kp e2) (by omega) (by omega)) (hK.1) rfl km_X2_111 ki_X2_copy ks_X2_copy kn_X2 ko_X2_copy hd_X2_copy ⟨Nat.le_of_ble_eq_true rfl, Nat.le_of_ble_eq_true rfl⟩ hl.size rfl (Nat.le_of_ble_eq_true rfl) dX2_happen_137 ⟨Nat.le_of_ble_eq_true rfl, Nat.le_of_ble_eq_true rfl⟩ hL (fun q h => h) (fun v1 K6 locs hp hL => ?_)
                    obtain ⟨rfl, hk6, hm6⟩ := hp
                    refine hb_iload G dX2_happen_140 hl rfl ?_
                    refine lv_if_eq (tgt := 200) G.1 G.2.1 dX2_happen_142 (by decide) (fun c_41 => ?_) (fun c_41 => ?_)
                    · exact absurd c_41 (by decide)
                    · rw [hR0] at esg epc hsg2
                      obtain ⟨h9r, eh9⟩ : ∃ z : Nat × Int32, z = hR (A 11) sz k (mCnt (A 5) (nI i) e2) := ⟨_, rfl⟩
                      rw [← eh9] at esg epc hsg2
                      have hr9 : hR (A 11) sz k (mCnt (A 5) (nI i) e2 + 1) = ((hN (A 11) h9r).1, (hN (A 11) h9r).2 + (sz (mCnt (A 5) (nI i) e2) + 4)) := by simp only [hR]; rw [if_neg hrm, ← eh9]
                      have hsg3 : (hN (A 11) h9r).1 < 60 := by have := hsg (mCnt (A 5) (nI i) e2 + 1) hmv.2; rw [hr9] at this; exact this
                      have hC11 : mCp A2 e2 (cK kp e2) 11 = A 11 := by rw [mCp_ne (by omega)]; exact hfx 11 (by omega)
                      have hC10 : mCp A2 e2 (cK kp e2) 10 = A 10 := by rw [mCp_ne (by omega)]; exact hfx 10 (by omega)
                      have hs6 : mCp A2 e2 (cK kp e2) 6 (cK kp e2) = sz (mCnt (A 5) (nI i) e2) := by rw [mCp_in (by omega) (by omega), pk_us, hge 6 e2 (by decide) (by decide) (Nat.le_refl _)]; exact hsz e2 he3 hA5
                      refine hb_iload G dX2_happen_145 hl rfl ?_
                      refine hb_aload_n G dX2_happen_147 hl rfl ?_
                      refine hb_get G hk6.1 rfl inX2 19 (by decide) kf_X2_48 rfl rfl dX2_happen_148 ?_
                      refine hb_iload G dX2_happen_151 hl rfl ?_
                      refine hb_iald G (show ia g (a 11) 60 ((mCp A2 e2 (cK kp e2)) 11) _ from hk6.2.1 11 (by decide)) (by rw [esg]; exact vp_in_nI (by omega) (by decide)) dX2_happen_153 ?_
                      refine lv_topi (fun r_42 er_42 => ?_)
                      have er_42 : r_42 = (mCp A2 e2 (cK kp e2)) 11 (h9r.1) := by rw [er_42, show (sg).toNatClampNeg = h9r.1 by rw [esg]; exact nI_clamp (by omega)]
                      rw [hC11] at er_42
                      refine lv_icmp_ne (tgt := 163) G.1 G.2.1 dX2_happen_154 (by decide) (fun c_43 => ?_) (fun c_43 => ?_)
                      · have hNe : hN (A 11) h9r = h9r := by unfold hN; rw [if_neg (fun q => c_43 (by rw [epc, er_42]; exact q))]
                        have hsgE : sg = nI (hN (A 11) h9r).1 := (by rw [hNe]; exact esg)
                        have hpcE : pc = (hN (A 11) h9r).2 := (by rw [hNe]; exact epc)
                        refine hb_aload_n G dX2_happen_163 hl rfl ?_
                        refine hb_get G hk6.1 rfl inX2 15 (by decide) kf_X2_39 rfl rfl dX2_happen_164 ?_
                        refine hb_iload G dX2_happen_167 hl rfl ?_
                        refine hb_aload_n G dX2_happen_169 hl rfl ?_
                        refine hb_get G hk6.1 rfl inX2 18 (by decide) kf_X2_45 rfl rfl dX2_happen_170 ?_
                        refine hb_iload G dX2_happen_173 hl rfl ?_
                        refine hb_iald G (show ia g (a 10) 60 ((mCp A2 e2 (cK kp e2)) 10) _ from hk6.2.1 10 (by decide)) (by rw [hsgE]; exact vp_in_nI (by omega) (by decide)) dX2_happen_175 ?_
                        refine lv_topi (fun r_44 er_44 => ?_)
                        have er_44 : r_44 = (mCp A2 e2 (cK kp e2)) 10 ((hN (A 11) h9r).1) := by rw [er_44, show (sg).toNatClampNeg = (hN (A 11) h9r).1 by rw [hsgE]; exact nI_clamp (by omega)]
                        rw [hC10] at er_44
                        refine hb_iast G (show ia g (a 8) C ((mCp A2 e2 (cK kp e2)) 8) _ from hk6.2.1 8 (by decide)) (by rw [show nI (cK kp e2) = nI (cK kp e2) from rfl]; exact vp_in_nI (by omega) (by first | decide | omega)) hL (fM_a (by decide)) dX2_happen_176 (fun N1 locs hg1 hz1 ho1 hL => ?_)
                        rw [show ((nI (cK kp e2))).toNatClampNeg = cK kp e2 by rw [show nI (cK kp e2) = nI (cK kp e2) from rfl]; exact nI_clamp (by omega), er_44] at hg1
                        have hn1 := hk6.up (k := 8) (by decide) hg1 ⟨hz1, ho1⟩
                        refine hb_aload_n G dX2_happen_177 hl rfl ?_
                        refine hb_get G hn1.1 rfl inX2 16 (by decide) kf_X2_42 rfl rfl dX2_happen_178 ?_
                        refine hb_iload G dX2_happen_181 hl rfl ?_
                        refine hb_iload G dX2_happen_183 hl rfl ?_
                        refine hb_iast G (show ia g (a 9) C ((va_up (mCp A2 e2 (cK kp e2)) 8 (upd (mCp A2 e2 (cK kp e2) 8) (cK kp e2) (A 10 (hN (A 11) h9r).1))) 9) _ from hn1.2.1 9 (by decide)) (by rw [show nI (cK kp e2) = nI (cK kp e2) from rfl]; exact vp_in_nI (by omega) (by first | decide | omega)) hL (fM_a (by decide)) dX2_happen_185 (fun N2 locs hg2 hz2 ho2 hL => ?_)
                        rw [show ((nI (cK kp e2))).toNatClampNeg = cK kp e2 by rw [show nI (cK kp e2) = nI (cK kp e2) from rfl]; exact nI_clamp (by omega), show pc = (hN (A 11) h9r).2 from hpcE] at hg2
                        have hn2 := hn1.up (k := 9) (by decide) hg2 ⟨hz2, ho2⟩
                        have hn2 : mdAt g r S B C a (va_up (va_up (mCp A2 e2 (cK kp e2)) 8 (upd (mCp A2 e2 (cK kp e2) 8) (cK kp e2) (A 10 (hN (A 11) h9r).1))) 9 (upd (mCp A2 e2 (cK kp e2) 9) (cK kp e2) (hN (A 11) h9r).2)) cd wr lf dn en pl N2 := hn2
                        refine hb_iload G dX2_happen_186 hl rfl ?_
                        refine hb_aload_n G dX2_happen_188 hl rfl ?_
                        refine hb_get G hn2.1 rfl inX2 13 (by decide) kf_X2_33 rfl rfl dX2_happen_189 ?_
                        refine hb_iload G dX2_happen_192 hl rfl ?_
                        refine hb_iald G (show ia g (a 6) C ((va_up (va_up (mCp A2 e2 (cK kp e2)) 8 (upd (mCp A2 e2 (cK kp e2) 8) (cK kp e2) (A 10 (hN (A 11) h9r).1))) 9 (upd (mCp A2 e2 (cK kp e2) 9) (cK kp e2) (hN (A 11) h9r).2)) 6) _ from hn2.2.1 6 (by decide)) (by rw [show nI (cK kp e2) = nI (cK kp e2) from rfl]; exact vp_in_nI (by omega) (by omega)) dX2_happen_194 ?_
                        refine lv_topi (fun r_45 er_45 => ?_)
                        have er_45 : r_45 = (va_up (va_up (mCp A2 e2 (cK kp e2)) 8 (upd (mCp A2 e2 (cK kp e2) 8) (cK kp e2) (A 10 (hN (A 11) h9r).1))) 9 (upd (mCp A2 e2 (cK kp e2) 9) (cK kp e2) (hN (A 11) h9r).2)) 6 (cK kp e2) := by rw [er_45, show ((nI (cK kp e2))).toNatClampNeg = cK kp e2 by rw [show nI (cK kp e2) = nI (cK kp e2) from rfl]; exact nI_clamp (by omega)]
                        have er_45 : r_45 = sz (mCnt (A 5) (nI i) e2) := by rw [er_45]; exact hs6
                        refine lv_iconst (v := 4) G.1 G.2.1 dX2_happen_195 (by decide) ?_
                        refine lv_iadd G.1 G.2.1 dX2_happen_196 ?_
                        refine lv_topi (fun t_46 et_46 => ?_)
                        refine lv_iadd G.1 G.2.1 dX2_happen_197 ?_
                        refine lv_topi (fun t_47 et_47 => ?_)
                        refine hb_istore G dX2_happen_198 hl (by decide) (fun ls hl => ?_)
                        have hl : lh ls 14 [some (.ref r), some (.int (nI i)), some (.int k), some (.int (nI al)), some (.int o4), some (.int (A 1 (60 * i + (tn (A 0 i) - 1)))), some (.int (A 2 (60 * i + (tn (A 0 i) - 1)))), some (.int (nI (cK kp e2))), some (.int t_39), some (.int sg), some (.int t_47), some (.int (nI e2)), some (.int 1), some (.int 0)] := hl
                        obtain ⟨t_48, et_48⟩ : ∃ z : Int32, z = (nI (cK kp e2)) + 1 := ⟨_, rfl⟩
                        refine hb_iinc (v := t_48) G dX2_happen_200 hl rfl (by rw [et_48]; rfl) (by decide) (fun ls hl => ?_)
                        have hl : lh ls 14 [some (.ref r), some (.int (nI i)), some (.int k), some (.int (nI al)), some (.int o4), some (.int (A 1 (60 * i + (tn (A 0 i) - 1)))), some (.int (A 2 (60 * i + (tn (A 0 i) - 1)))), some (.int t_48), some (.int t_39), some (.int sg), some (.int t_47), some (.int (nI e2)), some (.int 1), some (.int 0)] := hl
                        obtain ⟨t_49, et_49⟩ : ∃ z : Int32, z = (nI e2) + 1 := ⟨_, rfl⟩
                        refine hb_iinc (v := t_49) G dX2_happen_203 hl rfl (by rw [et_49]; rfl) (by decide) (fun ls hl => ?_)
                        have hl : lh ls 14 [some (.ref r), some (.int (nI i)), some (.int k), some (.int (nI al)), some (.int o4), some (.int (A 1 (60 * i + (tn (A 0 i) - 1)))), some (.int (A 2 (60 * i + (tn (A 0 i) - 1)))), some (.int t_48), some (.int t_39), some (.int sg), some (.int t_47), some (.int t_49), some (.int 1), some (.int 0)] := hl
                        refine lv_goto (tgt := 54) G.1 G.2.1 dX2_happen_206 (by decide) ?_
                        have hTv8 : T 8 e2 = A 10 (hN (A 11) h9r).1 := by rw [← hTh]; show mT8 A i al k sz e2 = _; unfold mT8; rw [if_pos hmv, ← eh9]
                        have hTv9 : T 9 e2 = (hN (A 11) h9r).2 := by rw [← hTh]; show mT9 A i al k sz e2 = _; unfold mT9; rw [if_pos hmv, ← eh9]
                        have hTv : ∀ k5, ¬ k5 = 8 → ¬ k5 = 9 → T k5 e2 = A k5 e2 := fun k5 q8 q9 => by rw [← hTh]; unfold mTh; rw [va_up_ne _ _ q9, va_up_ne _ _ q8]
                        exact ih (e2 + 1) t_48 t_39 sg t_47 o4 t_49 (va_up (va_up (mCp A2 e2 (cK kp e2)) 8 (upd (mCp A2 e2 (cK kp e2) 8) (cK kp e2) (A 10 (hN (A 11) h9r).1))) 9 (upd (mCp A2 e2 (cK kp e2) 9) (cK kp e2) (hN (A 11) h9r).2)) N2 locs ls (by omega) (by omega) (by rw [et_49]; exact nI_1 e2) (by rw [et_39, em, hm1]; exact nI_1 _) (by rw [et_48]; simp only [cK]; rw [if_pos hkt]; exact nI_1 _) (by rw [hR1, hr9]; exact hsgE) (by rw [hR1, hr9, et_47, et_46, er_45]; show pc + _ = _; rw [hpcE]) (fun q q1 => by rw [va_up_ne _ _ (by omega), va_up_ne _ _ (by omega), mCp_ne q1]; exact hfx q q1) (fun k5 e5 q1 q2 q3 q4 => by
                            by_cases h8 : e5 = e2
                            · subst h8
                              by_cases k99 : k5 = 9
                              · subst k99; rw [va_up_self, pk_us]; exact hTv9.symm
                              · rw [va_up_ne _ _ k99]
                                by_cases k98 : k5 = 8
                                · subst k98; rw [va_up_self, pk_us]; exact hTv8.symm
                                · rw [va_up_ne _ _ k98, mCp_in q1 q2, pk_us, hTv k5 k98 k99]; exact hge k5 e5 q1 q2 (Nat.le_refl _)
                            · have h7 : cK kp (e5 + 1) ≤ cK kp e2 := cK_mono kp (by omega)
                              simp only [cK] at h7
                              rw [q4, if_pos rfl] at h7
                              have hold : mCp A2 e2 (cK kp e2) k5 (cK kp e5) = T k5 e5 := by rw [mCp_in q1 q2, pk_un (by omega)]; exact hcm k5 e5 q1 q2 (by omega) q4
                              by_cases k99 : k5 = 9
                              · subst k99; rw [va_up_self, pk_un (by omega)]; exact hold
                              · rw [va_up_ne _ _ k99]
                                by_cases k98 : k5 = 8
                                · subst k98; rw [va_up_self, pk_un (by omega)]; exact hold
                                · rw [va_up_ne _ _ k98]; exact hold) (fun k5 q q1 q2 q3 => by
                            have hold : mCp A2 e2 (cK kp e2) k5 q = A k5 q := by rw [mCp_in q1 q2, pk_un (by omega)]; exact hge k5 q q1 q2 (by omega)
                            by_cases k99 : k5 = 9
                            · subst k99; rw [va_up_self, pk_un (by omega)]; exact hold
                            · rw [va_up_ne _ _ k99]
                              by_cases k98 : k5 = 8
                              · subst k98; rw [va_up_self, pk_un (by omega)]; exact hold
                              · rw [va_up_ne _ _ k98]; exact hold) hn2 (hmK.tr (hm6.tr ((Mo.ar (k := 8) ⟨hz1, ho1⟩ (by decide)).tr (Mo.ar (k := 9) ⟨hz2, ho2⟩ (by decide))))) hL ((hl.drop 12).drop 13)
                      · obtain ⟨t_50, et_50⟩ : ∃ z : Int32, z = sg + 1 := ⟨_, rfl⟩
                        refine hb_iinc (v := t_50) G dX2_happen_157 hl rfl (by rw [et_50]; rfl) (by decide) (fun ls hl => ?_)
                        have hl : lh ls 14 [some (.ref r), some (.int (nI i)), some (.int k), some (.int (nI al)), some (.int o4), some (.int (A 1 (60 * i + (tn (A 0 i) - 1)))), some (.int (A 2 (60 * i + (tn (A 0 i) - 1)))), some (.int (nI (cK kp e2))), some (.int t_39), some (.int t_50), some (.int pc), some (.int (nI e2)), some (.int 1), some (.int 0)] := hl
                        refine lv_iconst (v := 0) G.1 G.2.1 dX2_happen_160 (by decide) ?_
                        refine hb_istore G dX2_happen_161 hl (by decide) (fun ls hl => ?_)
                        have hl : lh ls 14 [some (.ref r), some (.int (nI i)), some (.int k), some (.int (nI al)), some (.int o4), some (.int (A 1 (60 * i + (tn (A 0 i) - 1)))), some (.int (A 2 (60 * i + (tn (A 0 i) - 1)))), some (.int (nI (cK kp e2))), some (.int t_39), some (.int t_50), some (.int 0), some (.int (nI e2)), some (.int 1), some (.int 0)] := hl
                        have hNe : hN (A 11) h9r = (h9r.1 + 1, 0) := by unfold hN; rw [if_pos (by rw [← epc, ← er_42]; exact c_43)]
                        have hsgE : t_50 = nI (hN (A 11) h9r).1 := (by rw [hNe, et_50, esg]; exact nI_1 _)
                        have hpcE : 0 = (hN (A 11) h9r).2 := (by rw [hNe])
                        refine hb_aload_n G dX2_happen_163 hl rfl ?_
                        refine hb_get G hk6.1 rfl inX2 15 (by decide) kf_X2_39 rfl rfl dX2_happen_164 ?_
                        refine hb_iload G dX2_happen_167 hl rfl ?_
                        refine hb_aload_n G dX2_happen_169 hl rfl ?_
                        refine hb_get G hk6.1 rfl inX2 18 (by decide) kf_X2_45 rfl rfl dX2_happen_170 ?_
                        refine hb_iload G dX2_happen_173 hl rfl ?_
                        refine hb_iald G (show ia g (a 10) 60 ((mCp A2 e2 (cK kp e2)) 10) _ from hk6.2.1 10 (by decide)) (by rw [hsgE]; exact vp_in_nI (by omega) (by decide)) dX2_happen_175 ?_
                        refine lv_topi (fun r_51 er_51 => ?_)
                        have er_51 : r_51 = (mCp A2 e2 (cK kp e2)) 10 ((hN (A 11) h9r).1) := by rw [er_51, show (t_50).toNatClampNeg = (hN (A 11) h9r).1 by rw [hsgE]; exact nI_clamp (by omega)]
                        rw [hC10] at er_51
                        refine hb_iast G (show ia g (a 8) C ((mCp A2 e2 (cK kp e2)) 8) _ from hk6.2.1 8 (by decide)) (by rw [show nI (cK kp e2) = nI (cK kp e2) from rfl]; exact vp_in_nI (by omega) (by first | decide | omega)) hL (fM_a (by decide)) dX2_happen_176 (fun N1 locs hg1 hz1 ho1 hL => ?_)
                        rw [show ((nI (cK kp e2))).toNatClampNeg = cK kp e2 by rw [show nI (cK kp e2) = nI (cK kp e2) from rfl]; exact nI_clamp (by omega), er_51] at hg1
                        have hn1 := hk6.up (k := 8) (by decide) hg1 ⟨hz1, ho1⟩
                        refine hb_aload_n G dX2_happen_177 hl rfl ?_
                        refine hb_get G hn1.1 rfl inX2 16 (by decide) kf_X2_42 rfl rfl dX2_happen_178 ?_
                        refine hb_iload G dX2_happen_181 hl rfl ?_
                        refine hb_iload G dX2_happen_183 hl rfl ?_
                        refine hb_iast G (show ia g (a 9) C ((va_up (mCp A2 e2 (cK kp e2)) 8 (upd (mCp A2 e2 (cK kp e2) 8) (cK kp e2) (A 10 (hN (A 11) h9r).1))) 9) _ from hn1.2.1 9 (by decide)) (by rw [show nI (cK kp e2) = nI (cK kp e2) from rfl]; exact vp_in_nI (by omega) (by first | decide | omega)) hL (fM_a (by decide)) dX2_happen_185 (fun N2 locs hg2 hz2 ho2 hL => ?_)
                        rw [show ((nI (cK kp e2))).toNatClampNeg = cK kp e2 by rw [show nI (cK kp e2) = nI (cK kp e2) from rfl]; exact nI_clamp (by omega), show 0 = (hN (A 11) h9r).2 from hpcE] at hg2
                        have hn2 := hn1.up (k := 9) (by decide) hg2 ⟨hz2, ho2⟩
                        have hn2 : mdAt g r S B C a (va_up (va_up (mCp A2 e2 (cK kp e2)) 8 (upd (mCp A2 e2 (cK kp e2) 8) (cK kp e2) (A 10 (hN (A 11) h9r).1))) 9 (upd (mCp A2 e2 (cK kp e2) 9) (cK kp e2) (hN (A 11) h9r).2)) cd wr lf dn en pl N2 := hn2
                        refine hb_iload G dX2_happen_186 hl rfl ?_
                        refine hb_aload_n G dX2_happen_188 hl rfl ?_
                        refine hb_get G hn2.1 rfl inX2 13 (by decide) kf_X2_33 rfl rfl dX2_happen_189 ?_
                        refine hb_iload G dX2_happen_192 hl rfl ?_
                        refine hb_iald G (show ia g (a 6) C ((va_up (va_up (mCp A2 e2 (cK kp e2)) 8 (upd (mCp A2 e2 (cK kp e2) 8) (cK kp e2) (A 10 (hN (A 11) h9r).1))) 9 (upd (mCp A2 e2 (cK kp e2) 9) (cK kp e2) (hN (A 11) h9r).2)) 6) _ from hn2.2.1 6 (by decide)) (by rw [show nI (cK kp e2) = nI (cK kp e2) from rfl]; exact vp_in_nI (by omega) (by omega)) dX2_happen_194 ?_
                        refine lv_topi (fun r_52 er_52 => ?_)
                        have er_52 : r_52 = (va_up (va_up (mCp A2 e2 (cK kp e2)) 8 (upd (mCp A2 e2 (cK kp e2) 8) (cK kp e2) (A 10 (hN (A 11) h9r).1))) 9 (upd (mCp A2 e2 (cK kp e2) 9) (cK kp e2) (hN (A 11) h9r).2)) 6 (cK kp e2) := by rw [er_52, show ((nI (cK kp e2))).toNatClampNeg = cK kp e2 by rw [show nI (cK kp e2) = nI (cK kp e2) from rfl]; exact nI_clamp (by omega)]
                        have er_52 : r_52 = sz (mCnt (A 5) (nI i) e2) := by rw [er_52]; exact hs6
                        refine lv_iconst (v := 4) G.1 G.2.1 dX2_happen_195 (by decide) ?_
                        refine lv_iadd G.1 G.2.1 dX2_happen_196 ?_
                        refine lv_topi (fun t_53 et_53 => ?_)
                        refine lv_iadd G.1 G.2.1 dX2_happen_197 ?_
                        refine lv_topi (fun t_54 et_54 => ?_)
                        refine hb_istore G dX2_happen_198 hl (by decide) (fun ls hl => ?_)
                        have hl : lh ls 14 [some (.ref r), some (.int (nI i)), some (.int k), some (.int (nI al)), some (.int o4), some (.int (A 1 (60 * i + (tn (A 0 i) - 1)))), some (.int (A 2 (60 * i + (tn (A 0 i) - 1)))), some (.int (nI (cK kp e2))), some (.int t_39), some (.int t_50), some (.int t_54), some (.int (nI e2)), some (.int 1), some (.int 0)] := hl
                        obtain ⟨t_55, et_55⟩ : ∃ z : Int32, z = (nI (cK kp e2)) + 1 := ⟨_, rfl⟩
                        refine hb_iinc (v := t_55) G dX2_happen_200 hl rfl (by rw [et_55]; rfl) (by decide) (fun ls hl => ?_)
                        have hl : lh ls 14 [some (.ref r), some (.int (nI i)), some (.int k), some (.int (nI al)), some (.int o4), some (.int (A 1 (60 * i + (tn (A 0 i) - 1)))), some (.int (A 2 (60 * i + (tn (A 0 i) - 1)))), some (.int t_55), some (.int t_39), some (.int t_50), some (.int t_54), some (.int (nI e2)), some (.int 1), some (.int 0)] := hl
                        obtain ⟨t_56, et_56⟩ : ∃ z : Int32, z = (nI e2) + 1 := ⟨_, rfl⟩
                        refine hb_iinc (v := t_56) G dX2_happen_203 hl rfl (by rw [et_56]; rfl) (by decide) (fun ls hl => ?_)
                        have hl : lh ls 14 [some (.ref r), some (.int (nI i)), some (.int k), some (.int (nI al)), some (.int o4), some (.int (A 1 (60 * i + (tn (A 0 i) - 1)))), some (.int (A 2 (60 * i + (tn (A 0 i) - 1)))), some (.int t_55), some (.int t_39), some (.int t_50), some (.int t_54), some (.int t_56), some (.int 1), some (.int 0)] := hl
                        refine lv_goto (tgt := 54) G.1 G.2.1 dX2_happen_206 (by decide) ?_
                        have hTv8 : T 8 e2 = A 10 (hN (A 11) h9r).1 := by rw [← hTh]; show mT8 A i al k sz e2 = _; unfold mT8; rw [if_pos hmv, ← eh9]
                        have hTv9 : T 9 e2 = (hN (A 11) h9r).2 := by rw [← hTh]; show mT9 A i al k sz e2 = _; unfold mT9; rw [if_pos hmv, ← eh9]
                        have hTv : ∀ k5, ¬ k5 = 8 → ¬ k5 = 9 → T k5 e2 = A k5 e2 := fun k5 q8 q9 => by rw [← hTh]; unfold mTh; rw [va_up_ne _ _ q9, va_up_ne _ _ q8]
                        exact ih (e2 + 1) t_55 t_39 t_50 t_54 o4 t_56 (va_up (va_up (mCp A2 e2 (cK kp e2)) 8 (upd (mCp A2 e2 (cK kp e2) 8) (cK kp e2) (A 10 (hN (A 11) h9r).1))) 9 (upd (mCp A2 e2 (cK kp e2) 9) (cK kp e2) (hN (A 11) h9r).2)) N2 locs ls (by omega) (by omega) (by rw [et_56]; exact nI_1 e2) (by rw [et_39, em, hm1]; exact nI_1 _) (by rw [et_55]; simp only [cK]; rw [if_pos hkt]; exact nI_1 _) (by rw [hR1, hr9]; exact hsgE) (by rw [hR1, hr9, et_54, et_53, er_52]; show 0 + _ = _; rw [hpcE]) (fun q q1 => by rw [va_up_ne _ _ (by omega), va_up_ne _ _ (by omega), mCp_ne q1]; exact hfx q q1) (fun k5 e5 q1 q2 q3 q4 => by
                            by_cases h8 : e5 = e2
                            · subst h8
                              by_cases k99 : k5 = 9
                              · subst k99; rw [va_up_self, pk_us]; exact hTv9.symm
                              · rw [va_up_ne _ _ k99]
                                by_cases k98 : k5 = 8
                                · subst k98; rw [va_up_self, pk_us]; exact hTv8.symm
                                · rw [va_up_ne _ _ k98, mCp_in q1 q2, pk_us, hTv k5 k98 k99]; exact hge k5 e5 q1 q2 (Nat.le_refl _)
                            · have h7 : cK kp (e5 + 1) ≤ cK kp e2 := cK_mono kp (by omega)
                              simp only [cK] at h7
                              rw [q4, if_pos rfl] at h7
                              have hold : mCp A2 e2 (cK kp e2) k5 (cK kp e5) = T k5 e5 := by rw [mCp_in q1 q2, pk_un (by omega)]; exact hcm k5 e5 q1 q2 (by omega) q4
                              by_cases k99 : k5 = 9
                              · subst k99; rw [va_up_self, pk_un (by omega)]; exact hold
                              · rw [va_up_ne _ _ k99]
                                by_cases k98 : k5 = 8
                                · subst k98; rw [va_up_self, pk_un (by omega)]; exact hold
                                · rw [va_up_ne _ _ k98]; exact hold) (fun k5 q q1 q2 q3 => by
                            have hold : mCp A2 e2 (cK kp e2) k5 q = A k5 q := by rw [mCp_in q1 q2, pk_un (by omega)]; exact hge k5 q q1 q2 (by omega)
                            by_cases k99 : k5 = 9
                            · subst k99; rw [va_up_self, pk_un (by omega)]; exact hold
                            · rw [va_up_ne _ _ k99]
                              by_cases k98 : k5 = 8
                              · subst k98; rw [va_up_self, pk_un (by omega)]; exact hold
                              · rw [va_up_ne _ _ k98]; exact hold) hn2 (hmK.tr (hm6.tr ((Mo.ar (k := 8) ⟨hz1, ho1⟩ (by decide)).tr (Mo.ar (k := 9) ⟨hz2, ho2⟩ (by decide))))) hL ((hl.drop 12).drop 13)
              · have hrm : nI (mCnt (A 5) (nI i) e2) - nI (mCnt (A 5) (nI i) e2) / k * k = 0 := by rw [← em, ← et_35]; exact c_36
                have hkf : kp e2 = false := by rw [← hkp]; unfold kpT; rw [decide_eq_true hmv, decide_eq_true hrm]; rfl
                refine lv_iconst (v := 1) G.1 G.2.1 dX2_happen_99 (by decide) ?_
                refine lv_goto (tgt := 104) G.1 G.2.1 dX2_happen_100 (by decide) ?_
                refine hb_istore G dX2_happen_104 hl (by decide) (fun ls hl => ?_)
                have hl : lh ls 14 [some (.ref r), some (.int (nI i)), some (.int k), some (.int (nI al)), some (.int o4), some (.int (A 1 (60 * i + (tn (A 0 i) - 1)))), some (.int (A 2 (60 * i + (tn (A 0 i) - 1)))), some (.int (nI (cK kp e2))), some (.int me), some (.int sg), some (.int pc), some (.int (nI e2)), some (.int 1), some (.int 1)] := hl
                refine hb_iload G dX2_happen_106 hl rfl ?_
                refine hb_aload_n G dX2_happen_108 hl rfl ?_
                refine hb_get G hK.1 rfl inX2 12 (by decide) kf_X2_30 rfl rfl dX2_happen_109 ?_
                refine hb_iload G dX2_happen_112 hl rfl ?_
                refine hb_iald G (show ia g (a 5) C (A2 5) _ from hK.2.1 5 (by decide)) (by rw [show nI e2 = nI e2 from rfl]; exact vp_in_nI (by omega) (by omega)) dX2_happen_114 ?_
                refine lv_topi (fun r_57 er_57 => ?_)
                have er_57 : r_57 = A2 5 (e2) := by rw [er_57, show ((nI e2)).toNatClampNeg = e2 by rw [show nI e2 = nI e2 from rfl]; exact nI_clamp (by omega)]
                rw [hof] at er_57
                refine hb_iload_n G dX2_happen_115 hl rfl ?_
                refine lv_icmp_ne (tgt := 123) G.1 G.2.1 dX2_happen_116 (by decide) (fun c_58 => ?_) (fun c_58 => ?_)
                · exact absurd (by rw [er_57]; exact hA5) c_58
                · refine lv_iconst (v := 1) G.1 G.2.1 dX2_happen_119 (by decide) ?_
                  refine lv_goto (tgt := 124) G.1 G.2.1 dX2_happen_120 (by decide) ?_
                  refine lv_iadd G.1 G.2.1 dX2_happen_124 ?_
                  refine lv_topi (fun t_59 et_59 => ?_)
                  refine hb_istore G dX2_happen_125 hl (by decide) (fun ls hl => ?_)
                  have hl : lh ls 14 [some (.ref r), some (.int (nI i)), some (.int k), some (.int (nI al)), some (.int o4), some (.int (A 1 (60 * i + (tn (A 0 i) - 1)))), some (.int (A 2 (60 * i + (tn (A 0 i) - 1)))), some (.int (nI (cK kp e2))), some (.int t_59), some (.int sg), some (.int pc), some (.int (nI e2)), some (.int 1), some (.int 1)] := hl
                  refine hb_iload G dX2_happen_127 hl rfl ?_
                  have hm1 : mCnt (A 5) (nI i) (e2 + 1) = mCnt (A 5) (nI i) e2 + 1 := by simp only [mCnt]; rw [if_pos hA5]
                  refine lv_if_ne (tgt := 203) G.1 G.2.1 dX2_happen_129 (by decide) (fun c_60 => ?_) (fun c_60 => ?_)
                  · have hR0 : min (mCnt (A 5) (nI i) e2) al = mCnt (A 5) (nI i) e2 := Nat.min_eq_left (Nat.le_of_lt hmv.2)
                    have hR1 : min (mCnt (A 5) (nI i) (e2 + 1)) al = mCnt (A 5) (nI i) e2 + 1 := by rw [hm1]; exact Nat.min_eq_left hmv.2
                    obtain ⟨t_61, et_61⟩ : ∃ z : Int32, z = (nI e2) + 1 := ⟨_, rfl⟩
                    refine hb_iinc (v := t_61) G dX2_happen_203 hl rfl (by rw [et_61]; rfl) (by decide) (fun ls hl => ?_)
                    have hl : lh ls 14 [some (.ref r), some (.int (nI i)), some (.int k), some (.int (nI al)), some (.int o4), some (.int (A 1 (60 * i + (tn (A 0 i) - 1)))), some (.int (A 2 (60 * i + (tn (A 0 i) - 1)))), some (.int (nI (cK kp e2))), some (.int t_59), some (.int sg), some (.int pc), some (.int t_61), some (.int 1), some (.int 1)] := hl
                    refine lv_goto (tgt := 54) G.1 G.2.1 dX2_happen_206 (by decide) ?_
                    have hr9 : hR (A 11) sz k (mCnt (A 5) (nI i) e2 + 1) = hR (A 11) sz k (mCnt (A 5) (nI i) e2) := by simp only [hR]; rw [if_pos hrm]
                    exact ih (e2 + 1) (nI (cK kp e2)) t_59 sg pc o4 t_61 A2 K locs ls (by omega) (by omega) (by rw [et_61]; exact nI_1 e2) (by rw [et_59, em, hm1]; exact nI_1 _) (by simp only [cK]; rw [hkf]; rfl) (by rw [hR1, hr9, ← hR0]; exact esg) (by rw [hR1, hr9, ← hR0]; exact epc) hfx (fun k5 e5 q1 q2 q3 q4 => by
                        by_cases h8 : e5 = e2
                        · subst h8; rw [hkf] at q4; cases q4
                        · exact hcm k5 e5 q1 q2 (by omega) q4) (fun k5 q q1 q2 q3 => hge k5 q q1 q2 (by omega)) hK hmK hL ((hl.drop 12).drop 13)
                  · exact absurd c_60 (by decide)
  refine hb_aload_n G dX2_happen_0 hl rfl ?_
  refine hb_iload_n G dX2_happen_1 hl rfl ?_
  refine hb_callV (As := [.int (nI i)]) (rest := []) G hml (m_closed g l r S B C a A cd wr lf dn en pl _ h hB hA i hi) (h.1) rfl km_X2_121 ki_X2_closed ks_X2_closed kn_X2 ko_X2_closed hd_X2_closed ⟨Nat.le_of_ble_eq_true rfl, Nat.le_of_ble_eq_true rfl⟩ hl.size rfl (Nat.le_of_ble_eq_true rfl) dX2_happen_2 ⟨Nat.le_of_ble_eq_true rfl, Nat.le_of_ble_eq_true rfl⟩ hL (f0_in) (fun v1 H locs4 hp hL => ?_)
  obtain ⟨rfl, rfl⟩ := hp
  rw [hal]
  refine hb_istore_n G dX2_happen_5 hl (by decide) (fun ls hl => ?_)
  have hl : lh ls 14 [some (.ref r), some (.int (nI i)), some (.int k), some (.int (nI al)), none, none, none, none, none, none, none, none, none, none] := hl
  refine lv_bipush (v := 60) G.1 G.2.1 dX2_happen_6 (by decide) ?_
  refine hb_iload_n G dX2_happen_8 hl rfl ?_
  refine lv_imul G.1 G.2.1 dX2_happen_9 ?_
  refine lv_topi (fun t_62 et_62 => ?_)
  refine hb_aload_n G dX2_happen_10 hl rfl ?_
  refine hb_get G h.1 rfl inX2 6 (by decide) kf_X2_13 rfl rfl dX2_happen_11 ?_
  refine hb_iload_n G dX2_happen_14 hl rfl ?_
  refine hb_iald G (show ia g (a 0) 4 (A 0) _ from h.2.1 0 (by decide)) (by rw [show nI i = nI i from rfl]; exact vp_in_nI (by omega) (by decide)) dX2_happen_15 ?_
  refine lv_topi (fun r_63 er_63 => ?_)
  have er_63 : r_63 = A 0 (i) := by rw [er_63, show ((nI i)).toNatClampNeg = i by rw [show nI i = nI i from rfl]; exact nI_clamp (by omega)]
  refine lv_iadd G.1 G.2.1 dX2_happen_16 ?_
  refine lv_topi (fun t_64 et_64 => ?_)
  refine lv_iconst (v := 1) G.1 G.2.1 dX2_happen_17 (by decide) ?_
  refine lv_isub G.1 G.2.1 dX2_happen_18 ?_
  refine lv_topi (fun t_65 et_65 => ?_)
  refine hb_istore G dX2_happen_19 hl (by decide) (fun ls hl => ?_)
  have hl : lh ls 14 [some (.ref r), some (.int (nI i)), some (.int k), some (.int (nI al)), some (.int t_65), none, none, none, none, none, none, none, none, none] := hl
  have h4 : t_65 = nI (60 * i + (tn (A 0 i) - 1)) := by rw [et_65, et_64, et_62, er_63, hs0, nI_60, nI_m1 (by omega), tn_nI (by omega), show 60 * i + tn (A 0 i) - 1 = 60 * i + (tn (A 0 i) - 1) by omega]
  refine hb_aload_n G dX2_happen_21 hl rfl ?_
  refine hb_get G h.1 rfl inX2 7 (by decide) kf_X2_17 rfl rfl dX2_happen_22 ?_
  refine hb_iload G dX2_happen_25 hl rfl ?_
  refine hb_iald G (show ia g (a 1) 240 (A 1) _ from h.2.1 1 (by decide)) (by rw [h4]; exact vp_in_nI (by omega) (by decide)) dX2_happen_27 ?_
  refine lv_topi (fun r_66 er_66 => ?_)
  have er_66 : r_66 = A 1 (60 * i + (tn (A 0 i) - 1)) := by rw [er_66, show (t_65).toNatClampNeg = 60 * i + (tn (A 0 i) - 1) by rw [h4]; exact nI_clamp (by omega)]
  refine hb_istore G dX2_happen_28 hl (by decide) (fun ls hl => ?_)
  have hl : lh ls 14 [some (.ref r), some (.int (nI i)), some (.int k), some (.int (nI al)), some (.int t_65), some (.int r_66), none, none, none, none, none, none, none, none] := hl
  refine hb_aload_n G dX2_happen_30 hl rfl ?_
  refine hb_get G h.1 rfl inX2 8 (by decide) kf_X2_20 rfl rfl dX2_happen_31 ?_
  refine hb_iload G dX2_happen_34 hl rfl ?_
  refine hb_iald G (show ia g (a 2) 240 (A 2) _ from h.2.1 2 (by decide)) (by rw [h4]; exact vp_in_nI (by omega) (by decide)) dX2_happen_36 ?_
  refine lv_topi (fun r_67 er_67 => ?_)
  have er_67 : r_67 = A 2 (60 * i + (tn (A 0 i) - 1)) := by rw [er_67, show (t_65).toNatClampNeg = 60 * i + (tn (A 0 i) - 1) by rw [h4]; exact nI_clamp (by omega)]
  refine hb_istore G dX2_happen_37 hl (by decide) (fun ls hl => ?_)
  have hl : lh ls 14 [some (.ref r), some (.int (nI i)), some (.int k), some (.int (nI al)), some (.int t_65), some (.int r_66), some (.int r_67), none, none, none, none, none, none, none] := hl
  refine lv_iconst (v := 0) G.1 G.2.1 dX2_happen_39 (by decide) ?_
  refine hb_istore G dX2_happen_40 hl (by decide) (fun ls hl => ?_)
  have hl : lh ls 14 [some (.ref r), some (.int (nI i)), some (.int k), some (.int (nI al)), some (.int t_65), some (.int r_66), some (.int r_67), some (.int 0), none, none, none, none, none, none] := hl
  refine lv_iconst (v := 0) G.1 G.2.1 dX2_happen_42 (by decide) ?_
  refine hb_istore G dX2_happen_43 hl (by decide) (fun ls hl => ?_)
  have hl : lh ls 14 [some (.ref r), some (.int (nI i)), some (.int k), some (.int (nI al)), some (.int t_65), some (.int r_66), some (.int r_67), some (.int 0), some (.int 0), none, none, none, none, none] := hl
  refine lv_iconst (v := 0) G.1 G.2.1 dX2_happen_45 (by decide) ?_
  refine hb_istore G dX2_happen_46 hl (by decide) (fun ls hl => ?_)
  have hl : lh ls 14 [some (.ref r), some (.int (nI i)), some (.int k), some (.int (nI al)), some (.int t_65), some (.int r_66), some (.int r_67), some (.int 0), some (.int 0), some (.int 0), none, none, none, none] := hl
  refine lv_iconst (v := 0) G.1 G.2.1 dX2_happen_48 (by decide) ?_
  refine hb_istore G dX2_happen_49 hl (by decide) (fun ls hl => ?_)
  have hl : lh ls 14 [some (.ref r), some (.int (nI i)), some (.int k), some (.int (nI al)), some (.int t_65), some (.int r_66), some (.int r_67), some (.int 0), some (.int 0), some (.int 0), some (.int 0), none, none, none] := hl
  refine lv_iconst (v := 0) G.1 G.2.1 dX2_happen_51 (by decide) ?_
  refine hb_istore G dX2_happen_52 hl (by decide) (fun ls hl => ?_)
  have hl : lh ls 14 [some (.ref r), some (.int (nI i)), some (.int k), some (.int (nI al)), some (.int t_65), some (.int r_66), some (.int r_67), some (.int 0), some (.int 0), some (.int 0), some (.int 0), some (.int 0), none, none] := hl
  subst er_66
  subst er_67
  exact lpc (en + 1) 0 0 0 0 0 t_65 0 A H _ ls (by omega) (by omega) rfl rfl rfl (by rw [show mCnt (A 5) (nI i) 0 = 0 from rfl, Nat.zero_min]; rfl) (by rw [show mCnt (A 5) (nI i) 0 = 0 from rfl, Nat.zero_min]; rfl) (fun _ _ => rfl) (fun _ _ _ _ q => absurd q (by omega)) (fun _ _ _ _ _ => rfl) h Mo.rf hL hl
