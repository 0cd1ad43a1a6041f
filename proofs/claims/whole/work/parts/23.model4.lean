theorem Gr.rf {H : Heap} : Gr H H := ⟨Nat.le_refl _, fun _ _ => rfl⟩
def lgr (f : Nat → Int32) (k : Nat) : Nat → Int32 := fun j => if j < k then f j else 0
set_option maxHeartbeats 4000000 in
set_option maxRecDepth 100000 in
/-- longer: twice as long, the rest 0 -/
theorem m_longer (g : Gx) (l : Launch) (b k z : Nat) (f : Nat → Int32) (H : Heap) (hk : k ≤ 256) (hz : H.size = z) (hb : ia g b k f H) : HM g l yX2_longer cX2_longer 3 (some (.array .int)) 0 0 1 512 [.ref b] H (fun v H1 => v = some (.ref z) ∧ ia g z (2 * k) (lgr f k) H1 ∧ H1.size = z + 1 ∧ ∀ q : Nat, q < z → H1[q]? = H[q]?) (fG z) := by
  refine HM.ofW (by decide) (Nat.le_of_ble_eq_true rfl) (by simp [Value.category]) ?_
  intro p e s m args below meth c ls G hr hml hlocks hnm hH hl
  have hl : lh ls 3 [some (.ref b), none, none] := hl
  have hL : ∀ q ∈ ([] : List Loc), (fG z) q.base := fun q h => by cases h
  have hbl := hb.lt
  have lp : ∀ (n9 j : Nat) (c2 : Int32) (u : Nat → Int32) (K : Heap) (locs : List Loc) (ls : Array Slot), (k + 1 ≤ j + n9) → (j ≤ k) → (c2 = nI j) → (ia g z (2 * k) u K) → (∀ i, i < j → u i = f i) → (∀ i, j ≤ i → u i = 0) → (K.size = z + 1) → (∀ q : Nat, q < z → K[q]? = H[q]?) → (∀ q ∈ locs, (fG z) q.base) → lh ls 3 [some (.ref b), some (.ref z), some (.int c2)] → W p l e ({ frames := 0, cells := 1, slots := 512, locals := 0 } : Room) s m args below meth c K locs 1 512 (hQ below args s (fun v H1 => v = some (.ref z) ∧ ia g z (2 * k) (lgr f k) H1 ∧ H1.size = z + 1 ∧ ∀ q : Nat, q < z → H1[q]? = H[q]?) 1 512 (fG z)) (F0 m 9 ls []) := by
    intro n9
    induction n9 with
    | zero =>
      intro j c2 u K locs ls hd9 hj ec hu hu1 hu2 hzK hq hL hl
      exfalso; omega
    | succ n9 ih =>
      intro j c2 u K locs ls hd9 hj ec hu hu1 hu2 hzK hq hL hl
      have hbK := hb.kept (hq b (by omega))
      refine hb_iload_n G dX2_longer_9 hl rfl ?_
      refine hb_aload_n G dX2_longer_10 hl rfl ?_
      refine hb_alen_i G hbK dX2_longer_11 ?_
      refine lv_icmp_ge (tgt := 27) G.1 G.2.1 dX2_longer_12 (by decide) (fun c_1 => ?_) (fun c_1 => ?_)
      · have hj2 : j = k := by have := (ic_le rfl ec (by omega) (by omega)).mp c_1; omega
        subst hj2
        refine hb_aload_n G dX2_longer_27 hl rfl ?_
        exact hb_aret G hr (Or.inr ⟨_, rfl⟩) hlocks ⟨rfl, hu.ext (fun i hi => by unfold lgr; split; exact hu1 i (by assumption); exact hu2 i (by omega)), hzK, hq⟩ hL (Nat.le_of_ble_eq_true rfl) (Nat.le_of_ble_eq_true rfl) dX2_longer_28
      · have hj2 : j < k := by have := mt (ic_le rfl ec (by omega) (by omega)).mpr c_1; omega
        refine hb_aload_n G dX2_longer_15 hl rfl ?_
        refine hb_iload_n G dX2_longer_16 hl rfl ?_
        refine hb_aload_n G dX2_longer_17 hl rfl ?_
        refine hb_iload_n G dX2_longer_18 hl rfl ?_
        refine hb_iald G hbK (by rw [ec]; exact vp_in_nI hj2 (by omega)) dX2_longer_19 ?_
        refine lv_topi (fun r_2 er_2 => ?_)
        have er_2 : r_2 = f j := by rw [er_2, show c2.toNatClampNeg = j by rw [ec]; exact nI_clamp (by omega)]
        refine hb_iast G hu (by rw [ec]; exact vp_in_nI (by omega) (by omega)) hL (fG_mk (Nat.le_refl z)) dX2_longer_20 (fun K1 locs1 hu3 hz1 ho1 hL => ?_)
        rw [show c2.toNatClampNeg = j by rw [ec]; exact nI_clamp (by omega), er_2] at hu3
        obtain ⟨t_3, et_3⟩ : ∃ z : Int32, z = c2 + 1 := ⟨_, rfl⟩
        refine hb_iinc (v := t_3) G dX2_longer_21 hl rfl (by rw [et_3]; rfl) (by decide) (fun ls hl => ?_)
        have hl : lh ls 3 [some (.ref b), some (.ref z), some (.int t_3)] := hl
        refine lv_goto (tgt := 9) G.1 G.2.1 dX2_longer_24 (by decide) ?_
        exact ih (j + 1) t_3 _ K1 locs1 ls (by omega) (by omega) (by rw [et_3, ec]; exact nI_1 j) hu3 (fun i hi => by
            by_cases hij : i = j
            · subst hij; exact pk_us
            · rw [pk_un hij]; exact hu1 i (by omega)) (fun i hi => by rw [pk_un (by omega)]; exact hu2 i (by omega)) (hz1.trans hzK) (fun q h => (ho1 q (by omega)).trans (hq q h)) hL hl
  refine lv_iconst (v := 2) G.1 G.2.1 dX2_longer_0 (by decide) ?_
  refine hb_aload_n G dX2_longer_1 hl rfl ?_
  refine hb_alen_i G hb dX2_longer_2 ?_
  refine lv_imul G.1 G.2.1 dX2_longer_3 ?_
  refine lv_topi (fun t_4 et_4 => ?_)
  obtain rfl : t_4 = nI (2 * k) := by rw [et_4, show (2 : Int32) = nI 2 from rfl, pk_mul]
  refine hb_newi (z := z) (N := 2 * k) G hz (nI_pos (by omega)) (nI_clamp (by omega)) (by omega) (Nat.le_of_ble_eq_true rfl) (show 0 + 2 * k ≤ 512 by omega) dX2_longer_4 (fun K1 hu hz1 ho1 => ?_)
  refine W.widen (k := 1) (n := 512) (Nat.le_of_ble_eq_true rfl) (by omega) ?_
  refine hb_astore_n G dX2_longer_6 hl (by decide) (fun ls hl => ?_)
  have hl : lh ls 3 [some (.ref b), some (.ref z), none] := hl
  refine lv_iconst (v := 0) G.1 G.2.1 dX2_longer_7 (by decide) ?_
  refine hb_istore_n G dX2_longer_8 hl (by decide) (fun ls hl => ?_)
  have hl : lh ls 3 [some (.ref b), some (.ref z), some (.int 0)] := hl
  exact lp (k + 1) 0 0 _ K1 [] ls (by omega) (by omega) rfl hu (fun i hi => absurd hi (by omega)) (fun i _ => rfl) hz1 ho1 hL hl
def fN (r : Nat) (a : Nat → Nat) (z : Nat) : Nat → Prop := fun q => fM r a q ∨ z ≤ q
/-- like before but for the reference's own cells; its rows may have gone to new ones -/
def Mg (r : Nat) (a a2 : Nat → Nat) (H H1 : Heap) : Prop := H.size ≤ H1.size ∧ (∀ q : Nat, q < H.size → q ≠ r → (∀ k, k < 12 → q ≠ a k) → H1[q]? = H[q]?) ∧ ∀ k, k < 12 → a2 k = a k ∨ H.size ≤ a2 k
theorem Mg.of {r : Nat} {a : Nat → Nat} {H H1 : Heap} (h : Mo r a H H1) : Mg r a a H H1 := ⟨Nat.le_of_eq h.1.symm, fun q _ h2 h3 => h.2 q h2 h3, fun _ _ => Or.inl rfl⟩
theorem Mg.tr {r : Nat} {a a2 a3 : Nat → Nat} {H H1 H2 : Heap} (h : Mg r a a2 H H1) (h2 : Mg r a2 a3 H1 H2) : Mg r a a3 H H2 := by
  refine ⟨Nat.le_trans h.1 h2.1, fun q h3 h4 h5 => (h2.2.1 q (Nat.lt_of_lt_of_le h3 h.1) h4 (fun k hk he => ?_)).trans (h.2.1 q h3 h4 h5), fun k hk => ?_⟩
  · rcases h.2.2 k hk with h6 | h6
    · exact h5 k hk (by rw [he, h6])
    · omega
  · rcases h2.2.2 k hk with h6 | h6
    · rw [h6]; exact h.2.2 k hk
    · exact Or.inr (Nat.le_trans h.1 h6)
def mGa (a : Nat → Nat) (z : Nat) : Nat → Nat := fun k => if 5 ≤ k ∧ k ≤ 9 then z + (k - 5) else a k
def mGA (A : Nat → Nat → Int32) (C : Nat) : Nat → Nat → Int32 := fun k => if 5 ≤ k ∧ k ≤ 9 then lgr (A k) C else A k
/-- rows 5 .. 9 hold the new entry at en, and what they held before it -/
def mAdded (A A2 : Nat → Nat → Int32) (en : Nat) (x n b s q : Int32) : Prop := (∀ k, k < 5 ∨ 9 < k → A2 k = A k) ∧ (∀ k j, 5 ≤ k → k ≤ 9 → j < en → A2 k j = A k j) ∧ A2 5 en = x ∧ A2 6 en = n ∧ A2 7 en = b ∧ A2 8 en = s ∧ A2 9 en = q
set_option maxHeartbeats 4000000 in
set_option maxRecDepth 100000 in
/-- add -/
theorem m_add (g : Gx) (l : Launch) (r S B C : Nat) (a : Nat → Nat) (A : Nat → Nat → Int32) (cd wr lf dn : Int32) (en pl : Nat) (H : Heap) (h : mdAt g r S B C a A cd wr lf dn en pl H) (hC0 : 64 ≤ C) (hC1 : en ≤ C) (hC2 : C ≤ 512) (hen : en < 512) (hC3 : en = C → C ≤ 256) (x n b s9 q9 : Int32) : HM g l yX2_add cX2_add 6 none 1 22 5 2560 [.ref r, .int x, .int n, .int b, .int s9, .int q9] H (fun v H1 => v = none ∧ ∃ (C2 : Nat) (a2 : Nat → Nat) (A2 : Nat → Nat → Int32), mdAt g r S B C2 a2 A2 cd wr lf dn (en + 1) pl H1 ∧ (C2 = C ∧ en < C ∨ C2 = 2 * C ∧ en = C) ∧ mAdded A A2 en x n b s9 q9 ∧ Mg r a a2 H H1) (fN r a H.size) := by
  refine HM.ofW (by decide) (Nat.le_of_ble_eq_true rfl) (by simp [Value.category]) ?_
  intro p e s m args below meth c ls G hr hml hlocks hnm hH hl
  have hl : lh ls 6 [some (.ref r), some (.int x), some (.int n), some (.int b), some (.int s9), some (.int q9)] := hl
  have hL : ∀ q ∈ ([] : List Loc), (fN r a H.size) q.base := fun q h => by cases h
  have tail : ∀ (C2 : Nat) (a2 : Nat → Nat) (A2 : Nat → Nat → Int32) (K : Heap) (cs sl : Nat) (locs : List Loc), mdAt g r S B C2 a2 A2 cd wr lf dn en pl K → en < C2 → C2 ≤ 512 → (C2 = C ∧ en < C ∨ C2 = 2 * C ∧ en = C) → (∀ k, k < 5 ∨ 9 < k → A2 k = A k) → (∀ k j, 5 ≤ k → k ≤ 9 → j < en → A2 k j = A k j) → Mg r a a2 H K → cs ≤ 5 → sl ≤ 2560 → (∀ q ∈ locs, fN r a H.size q.base) → W p l e ({ frames := 1, cells := 5, slots := 2560, locals := 22 } : Room) s m args below meth c K locs cs sl (hQ below args s (fun v H1 => v = none ∧ ∃ (C2 : Nat) (a2 : Nat → Nat) (A2 : Nat → Nat → Int32), mdAt g r S B C2 a2 A2 cd wr lf dn (en + 1) pl H1 ∧ (C2 = C ∧ en < C ∨ C2 = 2 * C ∧ en = C) ∧ mAdded A A2 en x n b s9 q9 ∧ Mg r a a2 H H1) 5 2560 (fN r a H.size)) (F0 m 67 ls []) := by
    intro C2 a2 A2 K cs sl locs h2 h3 h4 h5 h6 h7 h8 h9 h10 hL
    have hA2 : ∀ k, k < 12 → fN r a H.size (a2 k) := fun k hk => (h8.2.2 k hk).elim (fun q => Or.inl (by rw [q]; exact fM_a hk)) Or.inr
    refine hb_aload_n G dX2_add_67 hl rfl ?_
    refine hb_get G h2.1 rfl inX2 12 (by decide) kf_X2_30 rfl rfl dX2_add_68 ?_
    refine hb_aload_n G dX2_add_71 hl rfl ?_
    refine hb_get G h2.1 rfl inX2 11 (by decide) kf_X2_71 rfl rfl dX2_add_72 ?_
    refine hb_iload_n G dX2_add_75 hl rfl ?_
    refine hb_iast G (show ia g (a2 5) C2 (A2 5) _ from h2.2.1 5 (by decide)) (vp_in_nI h3 (by omega)) hL (hA2 5 (by decide)) dX2_add_76 (fun K5 locs hg5 hz5 ho5 hL => ?_)
    rw [nI_clamp (by omega)] at hg5
    have hk5 := h2.up (k := 5) (by decide) hg5 ⟨hz5, ho5⟩
    have hm5 : Mo r a2 K K5 := (Mo.rf).tr (Mo.ar (k := 5) ⟨hz5, ho5⟩ (by decide))
    refine hb_aload_n G dX2_add_77 hl rfl ?_
    refine hb_get G hk5.1 rfl inX2 13 (by decide) kf_X2_33 rfl rfl dX2_add_78 ?_
    refine hb_aload_n G dX2_add_81 hl rfl ?_
    refine hb_get G hk5.1 rfl inX2 11 (by decide) kf_X2_71 rfl rfl dX2_add_82 ?_
    refine hb_iload_n G dX2_add_85 hl rfl ?_
    refine hb_iast G (show ia g (a2 6) C2 (A2 6) _ from hk5.2.1 6 (by decide)) (vp_in_nI h3 (by omega)) hL (hA2 6 (by decide)) dX2_add_86 (fun K6 locs hg6 hz6 ho6 hL => ?_)
    rw [nI_clamp (by omega)] at hg6
    have hk6 := hk5.up (k := 6) (by decide) hg6 ⟨hz6, ho6⟩
    have hm6 : Mo r a2 K K6 := (hm5).tr (Mo.ar (k := 6) ⟨hz6, ho6⟩ (by decide))
    refine hb_aload_n G dX2_add_87 hl rfl ?_
    refine hb_get G hk6.1 rfl inX2 14 (by decide) kf_X2_36 rfl rfl dX2_add_88 ?_
    refine hb_aload_n G dX2_add_91 hl rfl ?_
    refine hb_get G hk6.1 rfl inX2 11 (by decide) kf_X2_71 rfl rfl dX2_add_92 ?_
    refine hb_iload_n G dX2_add_95 hl rfl ?_
    refine hb_iast G (show ia g (a2 7) C2 (A2 7) _ from hk6.2.1 7 (by decide)) (vp_in_nI h3 (by omega)) hL (hA2 7 (by decide)) dX2_add_96 (fun K7 locs hg7 hz7 ho7 hL => ?_)
    rw [nI_clamp (by omega)] at hg7
    have hk7 := hk6.up (k := 7) (by decide) hg7 ⟨hz7, ho7⟩
    have hm7 : Mo r a2 K K7 := (hm6).tr (Mo.ar (k := 7) ⟨hz7, ho7⟩ (by decide))
    refine hb_aload_n G dX2_add_97 hl rfl ?_
    refine hb_get G hk7.1 rfl inX2 15 (by decide) kf_X2_39 rfl rfl dX2_add_98 ?_
    refine hb_aload_n G dX2_add_101 hl rfl ?_
    refine hb_get G hk7.1 rfl inX2 11 (by decide) kf_X2_71 rfl rfl dX2_add_102 ?_
    refine hb_iload G dX2_add_105 hl rfl ?_
    refine hb_iast G (show ia g (a2 8) C2 (A2 8) _ from hk7.2.1 8 (by decide)) (vp_in_nI h3 (by omega)) hL (hA2 8 (by decide)) dX2_add_107 (fun K8 locs hg8 hz8 ho8 hL => ?_)
    rw [nI_clamp (by omega)] at hg8
    have hk8 := hk7.up (k := 8) (by decide) hg8 ⟨hz8, ho8⟩
    have hm8 : Mo r a2 K K8 := (hm7).tr (Mo.ar (k := 8) ⟨hz8, ho8⟩ (by decide))
    refine hb_aload_n G dX2_add_108 hl rfl ?_
    refine hb_get G hk8.1 rfl inX2 16 (by decide) kf_X2_42 rfl rfl dX2_add_109 ?_
    refine hb_aload_n G dX2_add_112 hl rfl ?_
    refine hb_get G hk8.1 rfl inX2 11 (by decide) kf_X2_71 rfl rfl dX2_add_113 ?_
    refine hb_iload G dX2_add_116 hl rfl ?_
    refine hb_iast G (show ia g (a2 9) C2 (A2 9) _ from hk8.2.1 9 (by decide)) (vp_in_nI h3 (by omega)) hL (hA2 9 (by decide)) dX2_add_118 (fun K9 locs hg9 hz9 ho9 hL => ?_)
    rw [nI_clamp (by omega)] at hg9
    have hk9 := hk8.up (k := 9) (by decide) hg9 ⟨hz9, ho9⟩
    have hm9 : Mo r a2 K K9 := (hm8).tr (Mo.ar (k := 9) ⟨hz9, ho9⟩ (by decide))
    refine hb_aload_n G dX2_add_119 hl rfl ?_
    refine lv_dup G.1 G.2.1 dX2_add_120 rfl ?_
    refine hb_get G hk9.1 rfl inX2 11 (by decide) kf_X2_71 rfl rfl dX2_add_121 ?_
    refine lv_iconst (v := 1) G.1 G.2.1 dX2_add_124 (by decide) ?_
    refine lv_iadd G.1 G.2.1 dX2_add_125 ?_
    refine lv_topi (fun t_1 et_1 => ?_)
    refine hb_put G hk9.1 rfl inX2 tyX2 tyX2_ok nmX2 11 (by decide) kf_X2_71 rfl rfl rfl rfl (Nat.le_of_ble_eq_true rfl) hL (Or.inl fM_r) dX2_add_126 (fun K10 locs hf10 hz10 ho10 hL => ?_)
    have hf10 : ob g r 2 (mdFs S B a2 cd wr lf dn (en + 1) pl) K10 := by rw [et_1, nI_1] at hf10; exact hf10
    have hk10 := hk9.fd hf10 ⟨hz10, ho10⟩
    have hm10 : Mo r a2 K K10 := hm9.tr (Mo.fd ⟨hz10, ho10⟩)
    refine hb_vret G hr hlocks ⟨rfl, C2, a2, _, hk10, h5, ⟨fun k hk => ?_, fun k j g1 g2 g3 => ?_, pk_us, pk_us, pk_us, pk_us, pk_us⟩, h8.tr (Mg.of hm10)⟩ hL h9 h10 dX2_add_129
    · rw [va_up_ne _ _ (by omega), va_up_ne _ _ (by omega), va_up_ne _ _ (by omega), va_up_ne _ _ (by omega), va_up_ne _ _ (by omega)]; exact h6 k hk
    · rcases (show k = 5 ∨ k = 6 ∨ k = 7 ∨ k = 8 ∨ k = 9 by omega) with rfl | rfl | rfl | rfl | rfl
      all_goals exact (pk_un (by omega)).trans (h7 _ j g1 g2 g3)
  refine hb_aload_n G dX2_add_0 hl rfl ?_
  refine hb_get G h.1 rfl inX2 11 (by decide) kf_X2_71 rfl rfl dX2_add_1 ?_
  refine hb_aload_n G dX2_add_4 hl rfl ?_
  refine hb_get G h.1 rfl inX2 13 (by decide) kf_X2_33 rfl rfl dX2_add_5 ?_
  refine hb_alen_i G (show ia g (a 6) C (A 6) _ from h.2.1 6 (by decide)) dX2_add_8 ?_
  refine lv_icmp_ne (tgt := 67) G.1 G.2.1 dX2_add_9 (by decide) (fun c_2 => ?_) (fun c_2 => ?_)
  · have hne : en < C := by rcases Nat.lt_or_ge en C with q | q; exact q; exact absurd (by rw [show en = C by omega]) c_2
    exact tail C a A H 0 0 [] h hne hC2 (Or.inl ⟨rfl, hne⟩) (fun _ _ => rfl) (fun _ _ _ _ _ => rfl) (Mg.of Mo.rf) (by omega) (by omega) hL
  · have heq : en = C := (nI_eq (by omega) (by omega)).mp c_2
    have hC4 := hC3 heq
    have hrs := h.1.lt
    have hal : ∀ k, k < 12 → a k < H.size := fun k hk => by
      have h9 := h.2.1 k hk
      unfold mdArr at h9
      split at h9
      · exact za.lt h9
      · exact ia.lt h9
    have ar0 := h.2.1
    have he0 := h.1
    have hz0 : H.size = H.size + 0 := rfl
    have hq0 : ∀ q : Nat, q < H.size → q ≠ r → H[q]? = H[q]? := fun _ _ _ => rfl
    refine hb_aload_n G dX2_add_12 hl rfl ?_
    refine hb_aload_n G dX2_add_13 hl rfl ?_
    refine hb_get G he0 rfl inX2 12 (by decide) kf_X2_30 rfl rfl dX2_add_14 ?_
    refine hb_callS (As := [.ref (a 5)]) (rest := [.ref r]) G hml (m_longer g l (a 5) C (H.size + 0) (A 5) _ hC4 hz0 (show ia g (a 5) C (A 5) _ from ar0 5 (by decide))) km_X2_74 kt_X2_longer kn_X2 ko_X2_longer hd_X2_longer ⟨Nat.le_of_ble_eq_true rfl, Nat.le_of_ble_eq_true rfl⟩ hl.size rfl (Nat.le_of_ble_eq_true rfl) dX2_add_17 ⟨Nat.le_of_ble_eq_true rfl, Nat.le_of_ble_eq_true rfl⟩ hL (fun q h => Or.inr (Nat.le_trans (Nat.le_add_right _ _) h)) (fun v1 L0 locs0 hp hL => ?_)
    obtain ⟨rfl, hn, hzl, hql⟩ := hp
    have he100 := he0.kept (hql r (by omega))
    refine hb_put G he100 rfl inX2 tyX2 tyX2_ok nmX2 12 (by decide) kf_X2_30 rfl rfl rfl rfl (Nat.le_of_ble_eq_true rfl) hL (Or.inl fM_r) dX2_add_20 (fun N0 locs0 he1 hzp hop hL => ?_)
    have hn0 := hn.kept (hop (H.size + 0) (by omega))
    have hz1 : N0.size = H.size + 1 := hzp.trans hzl
    have hq1 : ∀ q : Nat, q < H.size → q ≠ r → N0[q]? = H[q]? := fun q g1 g2 => (hop q g2).trans ((hql q (by omega)).trans (hq0 q g1 g2))
    have ar1 : ∀ k, k < 12 → mdArr g (a k) k (mdLen C k) (A k) N0 := fun k hk => (h.2.1 k hk).kept (hq1 _ (hal k hk) (fun q => by have := h.2.2.1 k hk; omega))
    clear hn hzl hql hzp hop he100 ar0 hz0
    refine hb_aload_n G dX2_add_23 hl rfl ?_
    refine hb_aload_n G dX2_add_24 hl rfl ?_
    refine hb_get G he1 rfl inX2 13 (by decide) kf_X2_33 rfl rfl dX2_add_25 ?_
    refine hb_callS (As := [.ref (a 6)]) (rest := [.ref r]) G hml (m_longer g l (a 6) C (H.size + 1) (A 6) _ hC4 hz1 (show ia g (a 6) C (A 6) _ from ar1 6 (by decide))) km_X2_74 kt_X2_longer kn_X2 ko_X2_longer hd_X2_longer ⟨Nat.le_of_ble_eq_true rfl, Nat.le_of_ble_eq_true rfl⟩ hl.size rfl (Nat.le_of_ble_eq_true rfl) dX2_add_28 ⟨Nat.le_of_ble_eq_true rfl, Nat.le_of_ble_eq_true rfl⟩ hL (fun q h => Or.inr (Nat.le_trans (Nat.le_add_right _ _) h)) (fun v1 L1 locs1 hp hL => ?_)
    obtain ⟨rfl, hn, hzl, hql⟩ := hp
    have he101 := he1.kept (hql r (by omega))
    refine hb_put G he101 rfl inX2 tyX2 tyX2_ok nmX2 13 (by decide) kf_X2_33 rfl rfl rfl rfl (Nat.le_of_ble_eq_true rfl) hL (Or.inl fM_r) dX2_add_31 (fun N1 locs1 he2 hzp hop hL => ?_)
    have hn1 := hn.kept (hop (H.size + 1) (by omega))
    have hz2 : N1.size = H.size + 2 := hzp.trans hzl
    have hq2 : ∀ q : Nat, q < H.size → q ≠ r → N1[q]? = H[q]? := fun q g1 g2 => (hop q g2).trans ((hql q (by omega)).trans (hq1 q g1 g2))
    have ar2 : ∀ k, k < 12 → mdArr g (a k) k (mdLen C k) (A k) N1 := fun k hk => (h.2.1 k hk).kept (hq2 _ (hal k hk) (fun q => by have := h.2.2.1 k hk; omega))
    have hn0 := hn0.kept ((hop (H.size + 0) (by omega)).trans (hql (H.size + 0) (by omega)))
    clear hn hzl hql hzp hop he101 ar1 hz1
    refine hb_aload_n G dX2_add_34 hl rfl ?_
    refine hb_aload_n G dX2_add_35 hl rfl ?_
    refine hb_get G he2 rfl inX2 14 (by decide) kf_X2_36 rfl rfl dX2_add_36 ?_
    refine hb_callS (As := [.ref (a 7)]) (rest := [.ref r]) G hml (m_longer g l (a 7) C (H.size + 2) (A 7) _ hC4 hz2 (show ia g (a 7) C (A 7) _ from ar2 7 (by decide))) km_X2_74 kt_X2_longer kn_X2 ko_X2_longer hd_X2_longer ⟨Nat.le_of_ble_eq_true rfl, Nat.le_of_ble_eq_true rfl⟩ hl.size rfl (Nat.le_of_ble_eq_true rfl) dX2_add_39 ⟨Nat.le_of_ble_eq_true rfl, Nat.le_of_ble_eq_true rfl⟩ hL (fun q h => Or.inr (Nat.le_trans (Nat.le_add_right _ _) h)) (fun v1 L2 locs2 hp hL => ?_)
    obtain ⟨rfl, hn, hzl, hql⟩ := hp
    have he102 := he2.kept (hql r (by omega))
    refine hb_put G he102 rfl inX2 tyX2 tyX2_ok nmX2 14 (by decide) kf_X2_36 rfl rfl rfl rfl (Nat.le_of_ble_eq_true rfl) hL (Or.inl fM_r) dX2_add_42 (fun N2 locs2 he3 hzp hop hL => ?_)
    have hn2 := hn.kept (hop (H.size + 2) (by omega))
    have hz3 : N2.size = H.size + 3 := hzp.trans hzl
    have hq3 : ∀ q : Nat, q < H.size → q ≠ r → N2[q]? = H[q]? := fun q g1 g2 => (hop q g2).trans ((hql q (by omega)).trans (hq2 q g1 g2))
    have ar3 : ∀ k, k < 12 → mdArr g (a k) k (mdLen C k) (A k) N2 := fun k hk => (h.2.1 k hk).kept (hq3 _ (hal k hk) (fun q => by have := h.2.2.1 k hk; omega))
    have hn0 := hn0.kept ((hop (H.size + 0) (by omega)).trans (hql (H.size + 0) (by omega)))
    have hn1 := hn1.kept ((hop (H.size + 1) (by omega)).trans (hql (H.size + 1) (by omega)))
    clear hn hzl hql hzp hop he102 ar2 hz2
    refine hb_aload_n G dX2_add_45 hl rfl ?_
    refine hb_aload_n G dX2_add_46 hl rfl ?_
    refine hb_get G he3 rfl inX2 15 (by decide) kf_X2_39 rfl rfl dX2_add_47 ?_
    refine hb_callS (As := [.ref (a 8)]) (rest := [.ref r]) G hml (m_longer g l (a 8) C (H.size + 3) (A 8) _ hC4 hz3 (show ia g (a 8) C (A 8) _ from ar3 8 (by decide))) km_X2_74 kt_X2_longer kn_X2 ko_X2_longer hd_X2_longer ⟨Nat.le_of_ble_eq_true rfl, Nat.le_of_ble_eq_true rfl⟩ hl.size rfl (Nat.le_of_ble_eq_true rfl) dX2_add_50 ⟨Nat.le_of_ble_eq_true rfl, Nat.le_of_ble_eq_true rfl⟩ hL (fun q h => Or.inr (Nat.le_trans (Nat.le_add_right _ _) h)) (fun v1 L3 locs3 hp hL => ?_)
    obtain ⟨rfl, hn, hzl, hql⟩ := hp
    have he103 := he3.kept (hql r (by omega))
    refine hb_put G he103 rfl inX2 tyX2 tyX2_ok nmX2 15 (by decide) kf_X2_39 rfl rfl rfl rfl (Nat.le_of_ble_eq_true rfl) hL (Or.inl fM_r) dX2_add_53 (fun N3 locs3 he4 hzp hop hL => ?_)
    have hn3 := hn.kept (hop (H.size + 3) (by omega))
    have hz4 : N3.size = H.size + 4 := hzp.trans hzl
    have hq4 : ∀ q : Nat, q < H.size → q ≠ r → N3[q]? = H[q]? := fun q g1 g2 => (hop q g2).trans ((hql q (by omega)).trans (hq3 q g1 g2))
    have ar4 : ∀ k, k < 12 → mdArr g (a k) k (mdLen C k) (A k) N3 := fun k hk => (h.2.1 k hk).kept (hq4 _ (hal k hk) (fun q => by have := h.2.2.1 k hk; omega))
    have hn0 := hn0.kept ((hop (H.size + 0) (by omega)).trans (hql (H.size + 0) (by omega)))
    have hn1 := hn1.kept ((hop (H.size + 1) (by omega)).trans (hql (H.size + 1) (by omega)))
    have hn2 := hn2.kept ((hop (H.size + 2) (by omega)).trans (hql (H.size + 2) (by omega)))
    clear hn hzl hql hzp hop he103 ar3 hz3
    refine hb_aload_n G dX2_add_56 hl rfl ?_
    refine hb_aload_n G dX2_add_57 hl rfl ?_
    refine hb_get G he4 rfl inX2 16 (by decide) kf_X2_42 rfl rfl dX2_add_58 ?_
    refine hb_callS (As := [.ref (a 9)]) (rest := [.ref r]) G hml (m_longer g l (a 9) C (H.size + 4) (A 9) _ hC4 hz4 (show ia g (a 9) C (A 9) _ from ar4 9 (by decide))) km_X2_74 kt_X2_longer kn_X2 ko_X2_longer hd_X2_longer ⟨Nat.le_of_ble_eq_true rfl, Nat.le_of_ble_eq_true rfl⟩ hl.size rfl (Nat.le_of_ble_eq_true rfl) dX2_add_61 ⟨Nat.le_of_ble_eq_true rfl, Nat.le_of_ble_eq_true rfl⟩ hL (fun q h => Or.inr (Nat.le_trans (Nat.le_add_right _ _) h)) (fun v1 L4 locs4 hp hL => ?_)
    obtain ⟨rfl, hn, hzl, hql⟩ := hp
    have he104 := he4.kept (hql r (by omega))
    refine hb_put G he104 rfl inX2 tyX2 tyX2_ok nmX2 16 (by decide) kf_X2_42 rfl rfl rfl rfl (Nat.le_of_ble_eq_true rfl) hL (Or.inl fM_r) dX2_add_64 (fun N4 locs4 he5 hzp hop hL => ?_)
    have hn4 := hn.kept (hop (H.size + 4) (by omega))
    have hz5 : N4.size = H.size + 5 := hzp.trans hzl
    have hq5 : ∀ q : Nat, q < H.size → q ≠ r → N4[q]? = H[q]? := fun q g1 g2 => (hop q g2).trans ((hql q (by omega)).trans (hq4 q g1 g2))
    have ar5 : ∀ k, k < 12 → mdArr g (a k) k (mdLen C k) (A k) N4 := fun k hk => (h.2.1 k hk).kept (hq5 _ (hal k hk) (fun q => by have := h.2.2.1 k hk; omega))
    have hn0 := hn0.kept ((hop (H.size + 0) (by omega)).trans (hql (H.size + 0) (by omega)))
    have hn1 := hn1.kept ((hop (H.size + 1) (by omega)).trans (hql (H.size + 1) (by omega)))
    have hn2 := hn2.kept ((hop (H.size + 2) (by omega)).trans (hql (H.size + 2) (by omega)))
    have hn3 := hn3.kept ((hop (H.size + 3) (by omega)).trans (hql (H.size + 3) (by omega)))
    clear hn hzl hql hzp hop he104 ar4 hz4
    have hmd : mdAt g r S B (2 * C) (mGa a H.size) (mGA A C) cd wr lf dn en pl N4 := by
      refine ⟨he5, fun k hk => ?_, ⟨fun k hk => ?_, fun i j hi hj hij => ?_⟩⟩
      · unfold mGa mGA
        by_cases hk5 : 5 ≤ k ∧ k ≤ 9
        · rw [if_pos hk5, if_pos hk5]
          rcases (show k = 5 ∨ k = 6 ∨ k = 7 ∨ k = 8 ∨ k = 9 by omega) with rfl | rfl | rfl | rfl | rfl
          · exact hn0
          · exact hn1
          · exact hn2
          · exact hn3
          · exact hn4
        · rw [if_neg hk5, if_neg hk5]
          have h9 := ar5 k hk
          rcases (show k = 0 ∨ k = 1 ∨ k = 2 ∨ k = 3 ∨ k = 4 ∨ k = 10 ∨ k = 11 by omega) with rfl | rfl | rfl | rfl | rfl | rfl | rfl <;> exact h9
      · unfold mGa
        have := h.2.2.1 k hk
        split <;> omega
      · unfold mGa at hij
        have h1 := hal i hi
        have h2 := hal j hj
        split at hij <;> split at hij
        · omega
        · omega
        · omega
        · exact h.2.2.2 i j hi hj hij
    have hmg : Mg r a (mGa a H.size) H N4 := ⟨by omega, fun q g1 g2 _ => hq5 q g1 g2, fun k _ => by unfold mGa; split; exact Or.inr (by omega); exact Or.inl rfl⟩
    exact tail (2 * C) (mGa a H.size) (mGA A C) N4 _ _ locs4 hmd (by omega) (by omega) (Or.inr ⟨rfl, heq⟩) (fun k hk => by unfold mGA; rw [if_neg (by omega)]) (fun k j g1 g2 g3 => by unfold mGA lgr; rw [if_pos ⟨g1, g2⟩, if_pos (by omega)]) hmg (Nat.le_of_ble_eq_true rfl) (Nat.le_of_ble_eq_true rfl) hL
