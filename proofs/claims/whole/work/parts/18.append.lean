abbrev apFit (S : Nat) (v : LV) (n : Int32) : Prop := 0 < v.2.1 ∧ lgOB v + (n + 4) ≤ nI S * 1024
def apSt (B S : Nat) (V : Nat → LV) (v : LV) (n : Int32) : Int32 := if apFit S v n then lgOS v else sons B S V v
def apCnt (S : Nat) (v : LV) (n : Int32) : Int32 := btV (if apFit S v n then lgOB v else 0) (n + 4) + 1
def came1 (w : LV) : LV := (w.1, w.2.1, w.2.2.1, w.2.2.2 + 1)
def apNew (B S : Nat) (V : Nat → LV) (v : LV) (n b : Int32) : LV := came1 (lgPut (if apFit S v n then v else lgOpen v (apSt B S V v n)) n b)
def apV (B S : Nat) (V : Nat → LV) (v : LV) (n b tc dn wr : Int32) : Int32 × LV × Int32 × Int32 × Int32 :=
  if nI S * 1024 < n + 4 then (-5, v, tc, dn, wr) else if apSt B S V v n = -1 ∨ ¬ v.2.2.1 < 512 then (-2, v, tc, dn, wr)
  else (if whN tc dn (apCnt S v n) = 0 then apCnt S v n else -3, if whR tc (apCnt S v n) = 0 then v else apNew B S V v n b, whT tc (apCnt S v n), whN tc dn (apCnt S v n), whW tc wr (apCnt S v n))
/-- the disk as calls see it: its four logs, its power, its writes -/
def dkSt (g : Gx) (d S B : Nat) (U : Nat → LV) (tc dn wr : Int32) (H : Heap) : Prop := ∃ (P : Nat → Nat) (V : Nat → LV) (bv : Nat → Int32), dkAt g d S B P V bv tc dn wr H ∧ (∀ m, m < 4 → V m = U m) ∧ ∀ m, m < 5 → lgOk (V m)
theorem up_ok {V : Nat → LV} {j : Nat} {v : LV} (hV : ∀ m, m < 5 → lgOk (V m)) (hv : lgOk v) : ∀ m, m < 5 → lgOk (va_up V j v m) := fun m hm => by
  by_cases h : m = j
  · subst h; rw [va_up_self]; exact hv
  · rw [va_up_ne _ _ h]; exact hV m hm
theorem up_same {α : Type} (V : Nat → α) (j : Nat) : va_up V j (V j) = V := by
  funext m
  by_cases h : m = j
  · subst h; rw [va_up_self]
  · rw [va_up_ne _ _ h]
theorem swp_ok {V : Nat → LV} {j : Nat} (hj : j < 4) (hV : ∀ m, m < 5 → lgOk (V m)) : ∀ m, m < 5 → lgOk (swp V j m) := fun m hm => by
  unfold swp
  split
  · exact hV 4 (by decide)
  · split
    · exact hV j (by omega)
    · exact hV m hm
theorem swp_up {V : Nat → LV} {j : Nat} {w : LV} (hj : j < 4) : ∀ m, m < 4 → swp (va_up V 4 w) j m = va_up V j w m := fun m hm => by
  unfold swp
  by_cases h : m = j
  · subst h; rw [if_pos rfl, va_up_self, va_up_self]
  · rw [if_neg h, if_neg (by omega), va_up_ne _ _ (by omega), va_up_ne _ _ h]
theorem came1_at {g : Gx} {x : Nat} {v : LV} {H H1 : Heap} (hg : lgAt g x v H) {t : Int32} (ht : t = v.2.2.2 + 1) (hf : ob g x 0 ((lgFs x v).set 8 (.int t)) H1) (ho : ∀ q : Nat, q ≠ x → H1[q]? = H[q]?) : lgAt g x (came1 v) H1 := by
  subst ht
  exact lgAt.fd hg rfl hf ho
set_option maxHeartbeats 4000000 in
set_option maxRecDepth 100000 in
/-- append -/
theorem c_append (g : Gx) (z : Nat) (sa : Nat → Nat) (l : Launch) (hlt : l.stackTraces = false) (d S B : Nat) (P : Nat → Nat) (V : Nat → LV) (bu : Nat → Int32) (tc dn wr : Int32) (H : Heap) (hSB : dkB S B) (hV : ∀ j, j < 5 → lgOk (V j)) (h : dkAt g d S B P V bu tc dn wr H) (i n b : Int32) : HX g z sa l yX1_append cX1_append 10 (some .int) 7 112 3 18 [.ref d, .int i, .int n, .int b] H (fun r H1 => (∃ j : Nat, j < 4 ∧ i = nI j ∧ r = some (.int (apV B S V (V j) n b tc dn wr).1) ∧ dkSt g d S B (va_up V j (apV B S V (V j) n b tc dn wr).2.1) (apV B S V (V j) n b tc dn wr).2.2.1 (apV B S V (V j) n b tc dn wr).2.2.2.1 (apV B S V (V j) n b tc dn wr).2.2.2.2 H1) ∧ (1 ≤ n ∧ n ≤ 20000) ∧ dn = 0 ∧ Fr d 38 H H1) (thX (dkIs i ∧ 1 ≤ n ∧ n ≤ 20000) dn H) (fB d 38) := by
  refine HX.ofW (by decide) (Nat.le_of_ble_eq_true rfl) (by simp [Value.category]) ?_
  intro p e s m args below meth c ls G hr hml hlocks htb hH hXs hl
  have hl : lh ls 10 [some (.ref d), some (.int i), some (.int n), some (.int b), none, none, none, none, none, none] := hl
  have hL : ∀ q ∈ ([] : List Loc), (fB d 38) q.base := fun q h => by cases h
  refine hb_aload_n G dX1_append_0 hl rfl ?_
  refine hb_iload_n G dX1_append_1 hl rfl ?_
  refine hx_callV (As := [.int i]) (rest := []) G hXs hml (c_existingLog g z sa l hlt d S B P V bu tc dn wr _ hSB hV h i) (h.1) rfl km_X1_47 ki_X1_existingLog ks_X1_existingLog kn_X1 ko_X1_existingLog hd_X1_existingLog ⟨Nat.le_of_ble_eq_true rfl, Nat.le_of_ble_eq_true rfl⟩ hl.size rfl (Nat.le_of_ble_eq_true rfl) dX1_append_2 ⟨Nat.le_of_ble_eq_true rfl, Nat.le_of_ble_eq_true rfl⟩ hL (f0_in) (fun E ce q9 K9 locs9 hp hL hc1 hc2 hc3 => hx_out htb hlocks (⟨hp.2.2, Or.inl ⟨hp.1, fun q => hp.2.1 q.1⟩⟩) hL hc1 hc2 hc3 (Nat.le_of_ble_eq_true rfl) (Nat.le_of_ble_eq_true rfl)) (fun v1 H locs1 hp hL => ?_)
  obtain ⟨⟨j, hj, rfl, rfl⟩, rfl⟩ := hp
  refine hb_astore G dX1_append_5 hl (by decide) (fun ls hl => ?_)
  have hl : lh ls 10 [some (.ref d), some (.int (nI j)), some (.int n), some (.int b), some (.ref (P j)), none, none, none, none, none] := hl
  refine hb_iload_n G dX1_append_7 hl rfl ?_
  refine lv_iconst (v := 1) G.1 G.2.1 dX1_append_8 (by decide) ?_
  refine lv_sipush (v := 20000) G.1 G.2.1 dX1_append_9 (by decide) ?_
  refine hx_callS (As := [.int n, .int 1, .int 20000]) (rest := []) G hXs hml (c_requireWithin g z sa l hlt n 1 20000 _) km_X1_51 kt_X1_requireWithin kn_X1 ko_X1_requireWithin hd_X1_requireWithin ⟨Nat.le_of_ble_eq_true rfl, Nat.le_of_ble_eq_true rfl⟩ hl.size rfl (Nat.le_of_ble_eq_true rfl) dX1_append_12 ⟨Nat.le_of_ble_eq_true rfl, Nat.le_of_ble_eq_true rfl⟩ hL (f0_in) (fun E ce q9 K9 locs9 hp hL hc1 hc2 hc3 => hx_out htb hlocks (⟨hp.2.2, Or.inl ⟨hp.1, fun q => hp.2.1 q.2⟩⟩) hL hc1 hc2 hc3 (Nat.le_of_ble_eq_true rfl) (Nat.le_of_ble_eq_true rfl)) (fun v1 H locs1 hp hL => ?_)
  obtain ⟨rfl, hw, rfl⟩ := hp
  refine hb_aload_n G dX1_append_15 hl rfl ?_
  refine hx_callV (As := []) (rest := []) G hXs hml (c_requirePower g z sa l hlt d S (P 4) tc dn wr _ h.1) (h.1) rfl km_X1_55 ki_X1_requirePower ks_X1_requirePower kn_X1 ko_X1_requirePower hd_X1_requirePower ⟨Nat.le_of_ble_eq_true rfl, Nat.le_of_ble_eq_true rfl⟩ hl.size rfl (Nat.le_of_ble_eq_true rfl) dX1_append_16 ⟨Nat.le_of_ble_eq_true rfl, Nat.le_of_ble_eq_true rfl⟩ hL (f0_in) (fun E ce q9 K9 locs9 hp hL hc1 hc2 hc3 => hx_out htb hlocks (⟨hp.2.2, Or.inr ⟨hp.1, ⟨dkIs_nI hj, hw⟩, hp.2.1⟩⟩) hL hc1 hc2 hc3 (Nat.le_of_ble_eq_true rfl) (Nat.le_of_ble_eq_true rfl)) (fun v1 H locs1 hp hL => ?_)
  obtain ⟨rfl, hdn, rfl⟩ := hp
  have hPj := h.far (j := j) (by omega)
  have hgj := h.2.2.2.1 j (by omega)
  have hvj := hV j (by omega)
  refine hb_iload_n G dX1_append_19 hl rfl ?_
  refine lv_iconst (v := 4) G.1 G.2.1 dX1_append_20 (by decide) ?_
  refine lv_iadd G.1 G.2.1 dX1_append_21 ?_
  refine lv_topi (fun t_1 et_1 => ?_)
  obtain rfl : t_1 = n + 4 := et_1
  refine hb_istore G dX1_append_22 hl (by decide) (fun ls hl => ?_)
  have hl : lh ls 10 [some (.ref d), some (.int (nI j)), some (.int n), some (.int b), some (.ref (P j)), some (.int (n + 4)), none, none, none, none] := hl
  refine hb_iload G dX1_append_24 hl rfl ?_
  refine hb_aload_n G dX1_append_26 hl rfl ?_
  refine hb_callV (As := []) (rest := [.int (n + 4)]) G hml (c_segmentBytes g l d S (P 4) tc dn wr _ h.1) (h.1) rfl km_X1_58 ki_X1_segmentBytes ks_X1_segmentBytes kn_X1 ko_X1_segmentBytes hd_X1_segmentBytes ⟨Nat.le_of_ble_eq_true rfl, Nat.le_of_ble_eq_true rfl⟩ hl.size rfl (Nat.le_of_ble_eq_true rfl) dX1_append_27 ⟨Nat.le_of_ble_eq_true rfl, Nat.le_of_ble_eq_true rfl⟩ hL (f0_in) (fun v1 H locs1 hp hL => ?_)
  obtain ⟨rfl, rfl⟩ := hp
  refine lv_icmp_le (tgt := 36) G.1 G.2.1 dX1_append_30 (by decide) (fun c_2 => ?_) (fun c_2 => ?_)
  · have hla : ¬ nI S * 1024 < n + 4 := i32_nlt.mpr c_2
    refine hb_aload G dX1_append_36 hl rfl ?_
    refine hb_iload G dX1_append_38 hl rfl ?_
    refine hb_aload_n G dX1_append_40 hl rfl ?_
    refine hb_callV (As := []) (rest := [.int (n + 4), .ref (P j)]) G hml (c_segmentBytes g l d S (P 4) tc dn wr _ h.1) (h.1) rfl km_X1_58 ki_X1_segmentBytes ks_X1_segmentBytes kn_X1 ko_X1_segmentBytes hd_X1_segmentBytes ⟨Nat.le_of_ble_eq_true rfl, Nat.le_of_ble_eq_true rfl⟩ hl.size rfl (Nat.le_of_ble_eq_true rfl) dX1_append_41 ⟨Nat.le_of_ble_eq_true rfl, Nat.le_of_ble_eq_true rfl⟩ hL (f0_in) (fun v1 H locs1 hp hL => ?_)
    obtain ⟨rfl, rfl⟩ := hp
    refine hb_callV (As := [.int (n + 4), .int (nI S * 1024)]) (rest := []) G hml (c_openHasRoom g l (P j) (V j) _ hvj hgj (n + 4) (nI S * 1024)) (hgj.1) rfl km_X1_62 ki_X0_openHasRoom ks_X0_openHasRoom kn_X0 ko_X0_openHasRoom hd_X0_openHasRoom ⟨Nat.le_of_ble_eq_true rfl, Nat.le_of_ble_eq_true rfl⟩ hl.size rfl (Nat.le_of_ble_eq_true rfl) dX1_append_44 ⟨Nat.le_of_ble_eq_true rfl, Nat.le_of_ble_eq_true rfl⟩ hL (f0_in) (fun v1 H locs1 hp hL => ?_)
    obtain ⟨rfl, rfl⟩ := hp
    refine lv_topi (fun r_3 er_3 => ?_)
    refine hb_istore G dX1_append_47 hl (by decide) (fun ls hl => ?_)
    have hl : lh ls 10 [some (.ref d), some (.int (nI j)), some (.int n), some (.int b), some (.ref (P j)), some (.int (n + 4)), some (.int r_3), none, none, none] := hl
    refine hb_iload G dX1_append_49 hl rfl ?_
    refine lv_if_eq (tgt := 62) G.1 G.2.1 dX1_append_51 (by decide) (fun c_4 => ?_) (fun c_4 => ?_)
    · have hfit : ¬ apFit S (V j) n := (it0 er_3).mp c_4
      refine hb_aload_n G dX1_append_62 hl rfl ?_
      refine hb_aload G dX1_append_63 hl rfl ?_
      refine hb_callV (As := [.ref (P j)]) (rest := []) G hml (c_startOfNewSegment g l d S B P V bu tc dn wr _ hSB hV h j (by omega)) (h.1) rfl km_X1_69 ki_X1_startOfNewSegment ks_X1_startOfNewSegment kn_X1 ko_X1_startOfNewSegment hd_X1_startOfNewSegment ⟨Nat.le_of_ble_eq_true rfl, Nat.le_of_ble_eq_true rfl⟩ hl.size rfl (Nat.le_of_ble_eq_true rfl) dX1_append_65 ⟨Nat.le_of_ble_eq_true rfl, Nat.le_of_ble_eq_true rfl⟩ hL (f1_in (fB_mk (by omega) (by omega))) (fun v1 K locs1 hp hL => ?_)
      obtain ⟨rfl, bv, hbv, hFo⟩ := hp
      have hk := h.ub hbv hFo
      have hF0 : Fr d 38 _ K := hFo.fr (by omega) (by omega)
      have hgk := hk.2.2.2.1 j (by omega)
      refine lv_topi (fun r_5 er_5 => ?_)
      have hap : apSt B S V (V j) n = r_5 := by unfold apSt; rw [if_neg hfit, er_5]
      refine hb_istore G dX1_append_68 hl (by decide) (fun ls hl => ?_)
      have hl : lh ls 10 [some (.ref d), some (.int (nI j)), some (.int n), some (.int b), some (.ref (P j)), some (.int (n + 4)), some (.int r_3), some (.int r_5), none, none] := hl
      refine hb_iload G dX1_append_70 hl rfl ?_
      refine lv_iconst (v := (-1)) G.1 G.2.1 dX1_append_72 (by decide) ?_
      refine lv_icmp_eq (tgt := 84) G.1 G.2.1 dX1_append_73 (by decide) (fun c_6 => ?_) (fun c_6 => ?_)
      · have hae : apV B S V (V j) n b tc dn wr = (-2, V j, tc, dn, wr) := by unfold apV; rw [if_neg hla, if_pos (Or.inl (by rw [hap]; exact c_6))]
        refine lv_bipush (v := (-2)) G.1 G.2.1 dX1_append_84 (by decide) ?_
        exact hx_iret G hr hlocks ⟨⟨j, hj, rfl, by rw [hae], by rw [hae]; exact ⟨P, V, _, hk, fun m _ => by rw [up_same], hV⟩⟩, hw, hdn, hF0⟩ hL (Nat.le_of_ble_eq_true rfl) (Nat.le_of_ble_eq_true rfl) dX1_append_86
      · refine hb_aload G dX1_append_76 hl rfl ?_
        refine hb_callV (As := []) (rest := []) G hml (c_canHoldMore g l (P j) (V j) _ hvj hgk) (hgk.1) rfl km_X1_73 ki_X0_canHoldMore ks_X0_canHoldMore kn_X0 ko_X0_canHoldMore hd_X0_canHoldMore ⟨Nat.le_of_ble_eq_true rfl, Nat.le_of_ble_eq_true rfl⟩ hl.size rfl (Nat.le_of_ble_eq_true rfl) dX1_append_78 ⟨Nat.le_of_ble_eq_true rfl, Nat.le_of_ble_eq_true rfl⟩ hL (f0_in) (fun v1 K locs1 hp hL => ?_)
        obtain ⟨rfl, rfl⟩ := hp
        refine lv_topi (fun r_7 er_7 => ?_)
        refine lv_if_ne (tgt := 87) G.1 G.2.1 dX1_append_81 (by decide) (fun c_8 => ?_) (fun c_8 => ?_)
        · have h512 : (V j).2.2.1 < 512 := Decidable.not_not.mp (fun q => c_8 ((it0 er_7).mpr q))
          refine hb_iload G dX1_append_87 hl rfl ?_
          refine lv_if_eq (tgt := 100) G.1 G.2.1 dX1_append_89 (by decide) (fun c_9 => ?_) (fun c_9 => ?_)
          · refine lv_iconst (v := 0) G.1 G.2.1 dX1_append_100 (by decide) ?_
            refine hb_istore G dX1_append_101 hl (by decide) (fun ls hl => ?_)
            have hl : lh ls 10 [some (.ref d), some (.int (nI j)), some (.int n), some (.int b), some (.ref (P j)), some (.int (n + 4)), some (.int r_3), some (.int r_5), some (.int 0), none] := hl
            refine hb_iload G dX1_append_103 hl rfl ?_
            refine hb_iload G dX1_append_105 hl rfl ?_
            refine hb_callS (As := [.int 0, .int (n + 4)]) (rest := []) G hml (c_blocksTouched g l 0 (n + 4) _) km_X1_80 kt_X1_blocksTouched kn_X1 ko_X1_blocksTouched hd_X1_blocksTouched ⟨Nat.le_of_ble_eq_true rfl, Nat.le_of_ble_eq_true rfl⟩ hl.size rfl (Nat.le_of_ble_eq_true rfl) dX1_append_107 ⟨Nat.le_of_ble_eq_true rfl, Nat.le_of_ble_eq_true rfl⟩ hL (f0_in) (fun v1 K locs1 hp hL => ?_)
            obtain ⟨rfl, rfl⟩ := hp
            refine lv_topi (fun r_10 er_10 => ?_)
            refine lv_iconst (v := 1) G.1 G.2.1 dX1_append_110 (by decide) ?_
            refine lv_iadd G.1 G.2.1 dX1_append_111 ?_
            refine lv_topi (fun t_11 et_11 => ?_)
            obtain rfl : t_11 = apCnt S (V j) n := by rw [et_11, er_10]; unfold apCnt; rw [if_neg hfit]
            have hae : apV B S V (V j) n b tc dn wr = (if whN tc dn (apCnt S (V j) n) = 0 then apCnt S (V j) n else -3, if whR tc (apCnt S (V j) n) = 0 then V j else apNew B S V (V j) n b, whT tc (apCnt S (V j) n), whN tc dn (apCnt S (V j) n), whW tc wr (apCnt S (V j) n)) := by unfold apV; rw [if_neg hla, if_neg (fun q => q.elim (fun q1 => c_6 (by rw [← hap]; exact q1)) (fun q2 => q2 h512))]
            generalize hcn : apCnt S (V j) n = cn at *
            refine hb_istore G dX1_append_112 hl (by decide) (fun ls hl => ?_)
            have hl : lh ls 10 [some (.ref d), some (.int (nI j)), some (.int n), some (.int b), some (.ref (P j)), some (.int (n + 4)), some (.int r_3), some (.int r_5), some (.int 0), some (.int cn)] := hl
            refine hb_aload_n G dX1_append_114 hl rfl ?_
            refine hb_iload G dX1_append_115 hl rfl ?_
            refine hb_callV (As := [.int cn]) (rest := []) G hml (c_writeThroughHead g l d S (P 4) tc dn wr _ hk.1 cn) (hk.1) rfl km_X1_83 ki_X1_writeThroughHead ks_X1_writeThroughHead kn_X1 ko_X1_writeThroughHead hd_X1_writeThroughHead ⟨Nat.le_of_ble_eq_true rfl, Nat.le_of_ble_eq_true rfl⟩ hl.size rfl (Nat.le_of_ble_eq_true rfl) dX1_append_117 ⟨Nat.le_of_ble_eq_true rfl, Nat.le_of_ble_eq_true rfl⟩ hL (f1_in (fB_mk (by omega) (by omega))) (fun v1 K2 locs2 hp hL => ?_)
            obtain ⟨rfl, hob, hFo2⟩ := hp
            have hk2 := hk.ob hob hFo2
            have hF2 : Fr d 38 _ K2 := hF0.tr (hFo2.fr (by omega) (by omega))
            have hg2 := hk2.2.2.2.1 j (by omega)
            refine lv_topi (fun r_12 er_12 => ?_)
            refine lv_if_eq (tgt := 153) G.1 G.2.1 dX1_append_120 (by decide) (fun c_13 => ?_) (fun c_13 => ?_)
            · refine hb_aload_n G dX1_append_153 hl rfl ?_
              refine hb_get G hk2.1 rfl inX1 5 (by decide) kf_X1_24 rfl rfl dX1_append_154 ?_
              refine lv_if_eq (tgt := 165) G.1 G.2.1 dX1_append_157 (by decide) (fun c_14 => ?_) (fun c_14 => ?_)
              · refine hb_iload G dX1_append_165 hl rfl ?_
                have q1 : (apV B S V (V j) n b tc dn wr).1 = cn := by rw [hae]; exact if_pos c_14
                have q2 : (apV B S V (V j) n b tc dn wr).2.1 = V j := by rw [hae]; exact if_pos (by rw [← er_12]; exact c_13)
                have q3 : (apV B S V (V j) n b tc dn wr).2.2 = (whT tc cn, whN tc dn cn, whW tc wr cn) := by rw [hae]
                exact hx_iret G hr hlocks ⟨⟨j, hj, rfl, by rw [q1], by rw [q2, q3]; exact ⟨P, V, _, hk2, fun m _ => by rw [up_same], hV⟩⟩, hw, hdn, hF2⟩ hL (Nat.le_of_ble_eq_true rfl) (Nat.le_of_ble_eq_true rfl) dX1_append_167
              · refine lv_bipush (v := (-3)) G.1 G.2.1 dX1_append_160 (by decide) ?_
                refine lv_goto (tgt := 167) G.1 G.2.1 dX1_append_162 (by decide) ?_
                have q1 : (apV B S V (V j) n b tc dn wr).1 = -3 := by rw [hae]; exact if_neg c_14
                have q2 : (apV B S V (V j) n b tc dn wr).2.1 = V j := by rw [hae]; exact if_pos (by rw [← er_12]; exact c_13)
                have q3 : (apV B S V (V j) n b tc dn wr).2.2 = (whT tc cn, whN tc dn cn, whW tc wr cn) := by rw [hae]
                exact hx_iret G hr hlocks ⟨⟨j, hj, rfl, by rw [q1], by rw [q2, q3]; exact ⟨P, V, _, hk2, fun m _ => by rw [up_same], hV⟩⟩, hw, hdn, hF2⟩ hL (Nat.le_of_ble_eq_true rfl) (Nat.le_of_ble_eq_true rfl) dX1_append_167
            · refine hb_iload G dX1_append_123 hl rfl ?_
              refine lv_if_ne (tgt := 135) G.1 G.2.1 dX1_append_125 (by decide) (fun c_15 => ?_) (fun c_15 => ?_)
              · exact absurd c_4 c_15
              · refine hb_aload G dX1_append_128 hl rfl ?_
                refine hb_iload G dX1_append_130 hl rfl ?_
                refine hb_callV (As := [.int r_5]) (rest := []) G hml (c_openSegment g l (P j) (V j) _ hvj hg2 r_5) (hg2.1) rfl km_X1_87 ki_X0_openSegment ks_X0_openSegment kn_X0 ko_X0_openSegment hd_X0_openSegment ⟨Nat.le_of_ble_eq_true rfl, Nat.le_of_ble_eq_true rfl⟩ hl.size rfl (Nat.le_of_ble_eq_true rfl) dX1_append_132 ⟨Nat.le_of_ble_eq_true rfl, Nat.le_of_ble_eq_true rfl⟩ hL (fun q h => fB_mk (by have := h.1; omega) (by have := h.2; omega)) (fun v1 K3 locs3 hp hL => ?_)
                obtain ⟨rfl, hg3, hF3⟩ := hp
                have enew : apNew B S V (V j) n b = came1 (lgPut (lgOpen (V j) r_5) n b) := by unfold apNew; rw [if_neg hfit, hap]
                refine hb_aload G dX1_append_135 hl rfl ?_
                refine hb_iload_n G dX1_append_137 hl rfl ?_
                refine hb_iload_n G dX1_append_138 hl rfl ?_
                refine hb_callV (As := [.int n, .int b]) (rest := []) G hml (c_put g l (P j) (lgOpen (V j) r_5) _ (lgOpen_ok hvj _) hg3 n b) (hg3.1) rfl km_X1_91 ki_X0_put ks_X0_put kn_X0 ko_X0_put hd_X0_put ⟨Nat.le_of_ble_eq_true rfl, Nat.le_of_ble_eq_true rfl⟩ hl.size rfl (Nat.le_of_ble_eq_true rfl) dX1_append_139 ⟨Nat.le_of_ble_eq_true rfl, Nat.le_of_ble_eq_true rfl⟩ hL (fun q h => fB_mk (by have := h.1; omega) (by have := h.2; omega)) (fun v1 K4 locs4 hp hL => ?_)
                obtain ⟨rfl, hg4, hF4⟩ := hp
                refine hb_aload G dX1_append_142 hl rfl ?_
                refine lv_dup G.1 G.2.1 dX1_append_144 rfl ?_
                refine hb_get G hg4.1 rfl inX0 8 (by decide) kf_X1_95 rfl rfl dX1_append_145 ?_
                refine lv_iconst (v := 1) G.1 G.2.1 dX1_append_148 (by decide) ?_
                refine lv_iadd G.1 G.2.1 dX1_append_149 ?_
                refine lv_topi (fun t_16 et_16 => ?_)
                refine hb_put G hg4.1 rfl inX0 tyX0 tyX0_ok nmX0 8 (by decide) kf_X1_95 rfl rfl rfl rfl (Nat.le_of_ble_eq_true rfl) hL (fB_mk (by omega) (by omega)) dX1_append_150 (fun K5 locs5 hf5 hz5 ho5 hL => ?_)
                have hg5 := came1_at hg4 et_16 hf5 ho5
                have hFl : Fr (P j) 7 K2 K5 := hF3.tr (hF4.tr (Fr.one hz5 ho5 (by omega) (by omega)))
                rw [← enew] at hg5
                have hok5 : lgOk (apNew B S V (V j) n b) := by rw [enew]; exact lgPut_ok (lgOpen_ok hvj _) _ _
                have hk5 := hk2.lg (by omega) hg5 hFl
                refine hb_aload_n G dX1_append_153 hl rfl ?_
                refine hb_get G hk5.1 rfl inX1 5 (by decide) kf_X1_24 rfl rfl dX1_append_154 ?_
                refine lv_if_eq (tgt := 165) G.1 G.2.1 dX1_append_157 (by decide) (fun c_17 => ?_) (fun c_17 => ?_)
                · refine hb_iload G dX1_append_165 hl rfl ?_
                  have q1 : (apV B S V (V j) n b tc dn wr).1 = cn := by rw [hae]; exact if_pos c_17
                  have q2 : (apV B S V (V j) n b tc dn wr).2.1 = apNew B S V (V j) n b := by rw [hae]; exact if_neg (by rw [← er_12]; exact c_13)
                  have q3 : (apV B S V (V j) n b tc dn wr).2.2 = (whT tc cn, whN tc dn cn, whW tc wr cn) := by rw [hae]
                  exact hx_iret G hr hlocks ⟨⟨j, hj, rfl, by rw [q1], by rw [q2, q3]; exact ⟨P, _, _, hk5, fun m _ => rfl, up_ok hV hok5⟩⟩, hw, hdn, hF2.tr (hFl.wide (by omega) (by omega))⟩ hL (Nat.le_of_ble_eq_true rfl) (Nat.le_of_ble_eq_true rfl) dX1_append_167
                · refine lv_bipush (v := (-3)) G.1 G.2.1 dX1_append_160 (by decide) ?_
                  refine lv_goto (tgt := 167) G.1 G.2.1 dX1_append_162 (by decide) ?_
                  have q1 : (apV B S V (V j) n b tc dn wr).1 = -3 := by rw [hae]; exact if_neg c_17
                  have q2 : (apV B S V (V j) n b tc dn wr).2.1 = apNew B S V (V j) n b := by rw [hae]; exact if_neg (by rw [← er_12]; exact c_13)
                  have q3 : (apV B S V (V j) n b tc dn wr).2.2 = (whT tc cn, whN tc dn cn, whW tc wr cn) := by rw [hae]
                  exact hx_iret G hr hlocks ⟨⟨j, hj, rfl, by rw [q1], by rw [q2, q3]; exact ⟨P, _, _, hk5, fun m _ => rfl, up_ok hV hok5⟩⟩, hw, hdn, hF2.tr (hFl.wide (by omega) (by omega))⟩ hL (Nat.le_of_ble_eq_true rfl) (Nat.le_of_ble_eq_true rfl) dX1_append_167
          · exact absurd c_4 c_9
        · have hae : apV B S V (V j) n b tc dn wr = (-2, V j, tc, dn, wr) := by unfold apV; rw [if_neg hla, if_pos (Or.inr ((it0 er_7).mp c_8))]
          refine lv_bipush (v := (-2)) G.1 G.2.1 dX1_append_84 (by decide) ?_
          exact hx_iret G hr hlocks ⟨⟨j, hj, rfl, by rw [hae], by rw [hae]; exact ⟨P, V, _, hk, fun m _ => by rw [up_same], hV⟩⟩, hw, hdn, hF0⟩ hL (Nat.le_of_ble_eq_true rfl) (Nat.le_of_ble_eq_true rfl) dX1_append_86
    · have hfit : apFit S (V j) n := Decidable.not_not.mp (fun q => c_4 ((it0 er_3).mpr q))
      refine hb_aload G dX1_append_54 hl rfl ?_
      refine hb_callV (As := []) (rest := []) G hml (c_openStart g l (P j) (V j) _ hvj hgj) (hgj.1) rfl km_X1_66 ki_X0_openStart ks_X0_openStart kn_X0 ko_X0_openStart hd_X0_openStart ⟨Nat.le_of_ble_eq_true rfl, Nat.le_of_ble_eq_true rfl⟩ hl.size rfl (Nat.le_of_ble_eq_true rfl) dX1_append_56 ⟨Nat.le_of_ble_eq_true rfl, Nat.le_of_ble_eq_true rfl⟩ hL (f0_in) (fun v1 H locs1 hp hL => ?_)
      obtain ⟨rfl, rfl⟩ := hp
      refine lv_topi (fun r_18 er_18 => ?_)
      have hap : apSt B S V (V j) n = r_18 := by unfold apSt; rw [if_pos hfit, er_18]
      refine lv_goto (tgt := 68) G.1 G.2.1 dX1_append_59 (by decide) ?_
      refine hb_istore G dX1_append_68 hl (by decide) (fun ls hl => ?_)
      have hl : lh ls 10 [some (.ref d), some (.int (nI j)), some (.int n), some (.int b), some (.ref (P j)), some (.int (n + 4)), some (.int r_3), some (.int r_18), none, none] := hl
      refine hb_iload G dX1_append_70 hl rfl ?_
      refine lv_iconst (v := (-1)) G.1 G.2.1 dX1_append_72 (by decide) ?_
      refine lv_icmp_eq (tgt := 84) G.1 G.2.1 dX1_append_73 (by decide) (fun c_19 => ?_) (fun c_19 => ?_)
      · have hae : apV B S V (V j) n b tc dn wr = (-2, V j, tc, dn, wr) := by unfold apV; rw [if_neg hla, if_pos (Or.inl (by rw [hap]; exact c_19))]
        refine lv_bipush (v := (-2)) G.1 G.2.1 dX1_append_84 (by decide) ?_
        exact hx_iret G hr hlocks ⟨⟨j, hj, rfl, by rw [hae], by rw [hae]; exact ⟨P, V, _, h, fun m _ => by rw [up_same], hV⟩⟩, hw, hdn, Fr.rf⟩ hL (Nat.le_of_ble_eq_true rfl) (Nat.le_of_ble_eq_true rfl) dX1_append_86
      · refine hb_aload G dX1_append_76 hl rfl ?_
        refine hb_callV (As := []) (rest := []) G hml (c_canHoldMore g l (P j) (V j) _ hvj hgj) (hgj.1) rfl km_X1_73 ki_X0_canHoldMore ks_X0_canHoldMore kn_X0 ko_X0_canHoldMore hd_X0_canHoldMore ⟨Nat.le_of_ble_eq_true rfl, Nat.le_of_ble_eq_true rfl⟩ hl.size rfl (Nat.le_of_ble_eq_true rfl) dX1_append_78 ⟨Nat.le_of_ble_eq_true rfl, Nat.le_of_ble_eq_true rfl⟩ hL (f0_in) (fun v1 H locs1 hp hL => ?_)
        obtain ⟨rfl, rfl⟩ := hp
        refine lv_topi (fun r_20 er_20 => ?_)
        refine lv_if_ne (tgt := 87) G.1 G.2.1 dX1_append_81 (by decide) (fun c_21 => ?_) (fun c_21 => ?_)
        · have h512 : (V j).2.2.1 < 512 := Decidable.not_not.mp (fun q => c_21 ((it0 er_20).mpr q))
          refine hb_iload G dX1_append_87 hl rfl ?_
          refine lv_if_eq (tgt := 100) G.1 G.2.1 dX1_append_89 (by decide) (fun c_22 => ?_) (fun c_22 => ?_)
          · exact absurd c_22 c_4
          · refine hb_aload G dX1_append_92 hl rfl ?_
            refine hb_callV (As := []) (rest := []) G hml (c_openBytes g l (P j) (V j) _ hvj hgj) (hgj.1) rfl km_X1_77 ki_X0_openBytes ks_X0_openBytes kn_X0 ko_X0_openBytes hd_X0_openBytes ⟨Nat.le_of_ble_eq_true rfl, Nat.le_of_ble_eq_true rfl⟩ hl.size rfl (Nat.le_of_ble_eq_true rfl) dX1_append_94 ⟨Nat.le_of_ble_eq_true rfl, Nat.le_of_ble_eq_true rfl⟩ hL (f0_in) (fun v1 H locs1 hp hL => ?_)
            obtain ⟨rfl, rfl⟩ := hp
            refine lv_goto (tgt := 101) G.1 G.2.1 dX1_append_97 (by decide) ?_
            refine hb_istore G dX1_append_101 hl (by decide) (fun ls hl => ?_)
            have hl : lh ls 10 [some (.ref d), some (.int (nI j)), some (.int n), some (.int b), some (.ref (P j)), some (.int (n + 4)), some (.int r_3), some (.int r_18), some (.int (lgOB (V j))), none] := hl
            refine hb_iload G dX1_append_103 hl rfl ?_
            refine hb_iload G dX1_append_105 hl rfl ?_
            refine hb_callS (As := [.int (lgOB (V j)), .int (n + 4)]) (rest := []) G hml (c_blocksTouched g l (lgOB (V j)) (n + 4) _) km_X1_80 kt_X1_blocksTouched kn_X1 ko_X1_blocksTouched hd_X1_blocksTouched ⟨Nat.le_of_ble_eq_true rfl, Nat.le_of_ble_eq_true rfl⟩ hl.size rfl (Nat.le_of_ble_eq_true rfl) dX1_append_107 ⟨Nat.le_of_ble_eq_true rfl, Nat.le_of_ble_eq_true rfl⟩ hL (f0_in) (fun v1 H locs1 hp hL => ?_)
            obtain ⟨rfl, rfl⟩ := hp
            refine lv_topi (fun r_23 er_23 => ?_)
            refine lv_iconst (v := 1) G.1 G.2.1 dX1_append_110 (by decide) ?_
            refine lv_iadd G.1 G.2.1 dX1_append_111 ?_
            refine lv_topi (fun t_24 et_24 => ?_)
            obtain rfl : t_24 = apCnt S (V j) n := by rw [et_24, er_23]; unfold apCnt; rw [if_pos hfit]
            have hae : apV B S V (V j) n b tc dn wr = (if whN tc dn (apCnt S (V j) n) = 0 then apCnt S (V j) n else -3, if whR tc (apCnt S (V j) n) = 0 then V j else apNew B S V (V j) n b, whT tc (apCnt S (V j) n), whN tc dn (apCnt S (V j) n), whW tc wr (apCnt S (V j) n)) := by unfold apV; rw [if_neg hla, if_neg (fun q => q.elim (fun q1 => c_19 (by rw [← hap]; exact q1)) (fun q2 => q2 h512))]
            generalize hcn : apCnt S (V j) n = cn at *
            refine hb_istore G dX1_append_112 hl (by decide) (fun ls hl => ?_)
            have hl : lh ls 10 [some (.ref d), some (.int (nI j)), some (.int n), some (.int b), some (.ref (P j)), some (.int (n + 4)), some (.int r_3), some (.int r_18), some (.int (lgOB (V j))), some (.int cn)] := hl
            refine hb_aload_n G dX1_append_114 hl rfl ?_
            refine hb_iload G dX1_append_115 hl rfl ?_
            refine hb_callV (As := [.int cn]) (rest := []) G hml (c_writeThroughHead g l d S (P 4) tc dn wr _ h.1 cn) (h.1) rfl km_X1_83 ki_X1_writeThroughHead ks_X1_writeThroughHead kn_X1 ko_X1_writeThroughHead hd_X1_writeThroughHead ⟨Nat.le_of_ble_eq_true rfl, Nat.le_of_ble_eq_true rfl⟩ hl.size rfl (Nat.le_of_ble_eq_true rfl) dX1_append_117 ⟨Nat.le_of_ble_eq_true rfl, Nat.le_of_ble_eq_true rfl⟩ hL (f1_in (fB_mk (by omega) (by omega))) (fun v1 K2 locs2 hp hL => ?_)
            obtain ⟨rfl, hob, hFo2⟩ := hp
            have hk2 := h.ob hob hFo2
            have hF2 : Fr d 38 _ K2 := Fr.rf.tr (hFo2.fr (by omega) (by omega))
            have hg2 := hk2.2.2.2.1 j (by omega)
            refine lv_topi (fun r_25 er_25 => ?_)
            refine lv_if_eq (tgt := 153) G.1 G.2.1 dX1_append_120 (by decide) (fun c_26 => ?_) (fun c_26 => ?_)
            · refine hb_aload_n G dX1_append_153 hl rfl ?_
              refine hb_get G hk2.1 rfl inX1 5 (by decide) kf_X1_24 rfl rfl dX1_append_154 ?_
              refine lv_if_eq (tgt := 165) G.1 G.2.1 dX1_append_157 (by decide) (fun c_27 => ?_) (fun c_27 => ?_)
              · refine hb_iload G dX1_append_165 hl rfl ?_
                have q1 : (apV B S V (V j) n b tc dn wr).1 = cn := by rw [hae]; exact if_pos c_27
                have q2 : (apV B S V (V j) n b tc dn wr).2.1 = V j := by rw [hae]; exact if_pos (by rw [← er_25]; exact c_26)
                have q3 : (apV B S V (V j) n b tc dn wr).2.2 = (whT tc cn, whN tc dn cn, whW tc wr cn) := by rw [hae]
                exact hx_iret G hr hlocks ⟨⟨j, hj, rfl, by rw [q1], by rw [q2, q3]; exact ⟨P, V, _, hk2, fun m _ => by rw [up_same], hV⟩⟩, hw, hdn, hF2⟩ hL (Nat.le_of_ble_eq_true rfl) (Nat.le_of_ble_eq_true rfl) dX1_append_167
              · refine lv_bipush (v := (-3)) G.1 G.2.1 dX1_append_160 (by decide) ?_
                refine lv_goto (tgt := 167) G.1 G.2.1 dX1_append_162 (by decide) ?_
                have q1 : (apV B S V (V j) n b tc dn wr).1 = -3 := by rw [hae]; exact if_neg c_27
                have q2 : (apV B S V (V j) n b tc dn wr).2.1 = V j := by rw [hae]; exact if_pos (by rw [← er_25]; exact c_26)
                have q3 : (apV B S V (V j) n b tc dn wr).2.2 = (whT tc cn, whN tc dn cn, whW tc wr cn) := by rw [hae]
                exact hx_iret G hr hlocks ⟨⟨j, hj, rfl, by rw [q1], by rw [q2, q3]; exact ⟨P, V, _, hk2, fun m _ => by rw [up_same], hV⟩⟩, hw, hdn, hF2⟩ hL (Nat.le_of_ble_eq_true rfl) (Nat.le_of_ble_eq_true rfl) dX1_append_167
            · refine hb_iload G dX1_append_123 hl rfl ?_
              refine lv_if_ne (tgt := 135) G.1 G.2.1 dX1_append_125 (by decide) (fun c_28 => ?_) (fun c_28 => ?_)
              · have enew : apNew B S V (V j) n b = came1 (lgPut (V j) n b) := by unfold apNew; rw [if_pos hfit]
                refine hb_aload G dX1_append_135 hl rfl ?_
                refine hb_iload_n G dX1_append_137 hl rfl ?_
                refine hb_iload_n G dX1_append_138 hl rfl ?_
                refine hb_callV (As := [.int n, .int b]) (rest := []) G hml (c_put g l (P j) (V j) _ (hvj) hg2 n b) (hg2.1) rfl km_X1_91 ki_X0_put ks_X0_put kn_X0 ko_X0_put hd_X0_put ⟨Nat.le_of_ble_eq_true rfl, Nat.le_of_ble_eq_true rfl⟩ hl.size rfl (Nat.le_of_ble_eq_true rfl) dX1_append_139 ⟨Nat.le_of_ble_eq_true rfl, Nat.le_of_ble_eq_true rfl⟩ hL (fun q h => fB_mk (by have := h.1; omega) (by have := h.2; omega)) (fun v1 K4 locs4 hp hL => ?_)
                obtain ⟨rfl, hg4, hF4⟩ := hp
                refine hb_aload G dX1_append_142 hl rfl ?_
                refine lv_dup G.1 G.2.1 dX1_append_144 rfl ?_
                refine hb_get G hg4.1 rfl inX0 8 (by decide) kf_X1_95 rfl rfl dX1_append_145 ?_
                refine lv_iconst (v := 1) G.1 G.2.1 dX1_append_148 (by decide) ?_
                refine lv_iadd G.1 G.2.1 dX1_append_149 ?_
                refine lv_topi (fun t_29 et_29 => ?_)
                refine hb_put G hg4.1 rfl inX0 tyX0 tyX0_ok nmX0 8 (by decide) kf_X1_95 rfl rfl rfl rfl (Nat.le_of_ble_eq_true rfl) hL (fB_mk (by omega) (by omega)) dX1_append_150 (fun K5 locs5 hf5 hz5 ho5 hL => ?_)
                have hg5 := came1_at hg4 et_29 hf5 ho5
                have hFl : Fr (P j) 7 K2 K5 := hF4.tr (Fr.one hz5 ho5 (by omega) (by omega))
                rw [← enew] at hg5
                have hok5 : lgOk (apNew B S V (V j) n b) := by rw [enew]; exact lgPut_ok (hvj) _ _
                have hk5 := hk2.lg (by omega) hg5 hFl
                refine hb_aload_n G dX1_append_153 hl rfl ?_
                refine hb_get G hk5.1 rfl inX1 5 (by decide) kf_X1_24 rfl rfl dX1_append_154 ?_
                refine lv_if_eq (tgt := 165) G.1 G.2.1 dX1_append_157 (by decide) (fun c_30 => ?_) (fun c_30 => ?_)
                · refine hb_iload G dX1_append_165 hl rfl ?_
                  have q1 : (apV B S V (V j) n b tc dn wr).1 = cn := by rw [hae]; exact if_pos c_30
                  have q2 : (apV B S V (V j) n b tc dn wr).2.1 = apNew B S V (V j) n b := by rw [hae]; exact if_neg (by rw [← er_25]; exact c_26)
                  have q3 : (apV B S V (V j) n b tc dn wr).2.2 = (whT tc cn, whN tc dn cn, whW tc wr cn) := by rw [hae]
                  exact hx_iret G hr hlocks ⟨⟨j, hj, rfl, by rw [q1], by rw [q2, q3]; exact ⟨P, _, _, hk5, fun m _ => rfl, up_ok hV hok5⟩⟩, hw, hdn, hF2.tr (hFl.wide (by omega) (by omega))⟩ hL (Nat.le_of_ble_eq_true rfl) (Nat.le_of_ble_eq_true rfl) dX1_append_167
                · refine lv_bipush (v := (-3)) G.1 G.2.1 dX1_append_160 (by decide) ?_
                  refine lv_goto (tgt := 167) G.1 G.2.1 dX1_append_162 (by decide) ?_
                  have q1 : (apV B S V (V j) n b tc dn wr).1 = -3 := by rw [hae]; exact if_neg c_30
                  have q2 : (apV B S V (V j) n b tc dn wr).2.1 = apNew B S V (V j) n b := by rw [hae]; exact if_neg (by rw [← er_25]; exact c_26)
                  have q3 : (apV B S V (V j) n b tc dn wr).2.2 = (whT tc cn, whN tc dn cn, whW tc wr cn) := by rw [hae]
                  exact hx_iret G hr hlocks ⟨⟨j, hj, rfl, by rw [q1], by rw [q2, q3]; exact ⟨P, _, _, hk5, fun m _ => rfl, up_ok hV hok5⟩⟩, hw, hdn, hF2.tr (hFl.wide (by omega) (by omega))⟩ hL (Nat.le_of_ble_eq_true rfl) (Nat.le_of_ble_eq_true rfl) dX1_append_167
              · exact absurd c_28 c_4
        · have hae : apV B S V (V j) n b tc dn wr = (-2, V j, tc, dn, wr) := by unfold apV; rw [if_neg hla, if_pos (Or.inr ((it0 er_20).mp c_21))]
          refine lv_bipush (v := (-2)) G.1 G.2.1 dX1_append_84 (by decide) ?_
          exact hx_iret G hr hlocks ⟨⟨j, hj, rfl, by rw [hae], by rw [hae]; exact ⟨P, V, _, h, fun m _ => by rw [up_same], hV⟩⟩, hw, hdn, Fr.rf⟩ hL (Nat.le_of_ble_eq_true rfl) (Nat.le_of_ble_eq_true rfl) dX1_append_86
  · have hae : apV B S V (V j) n b tc dn wr = (-5, V j, tc, dn, wr) := by unfold apV; rw [if_pos (i32_nle.mp c_2)]
    refine lv_bipush (v := (-5)) G.1 G.2.1 dX1_append_33 (by decide) ?_
    exact hx_iret G hr hlocks ⟨⟨j, hj, rfl, by rw [hae], by rw [hae]; exact ⟨P, V, _, h, fun m _ => by rw [up_same], hV⟩⟩, hw, hdn, Fr.rf⟩ hL (Nat.le_of_ble_eq_true rfl) (Nat.le_of_ble_eq_true rfl) dX1_append_35
