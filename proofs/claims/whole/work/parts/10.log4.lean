theorem lh.drop {ls : Array Slot} {n : Nat} {vs : List (Option Value)} (h : lh ls n vs) (k : Nat) : lh ls n (vs.set k none) := by
  have key : ∀ (i : Nat) (v : Value), (vs.set k none)[i]? = some (some v) → vs[i]? = some (some v) := by
    intro i v hv
    rw [List.getElem?_set] at hv
    by_cases hk : k = i
    · rw [if_pos hk] at hv
      split at hv <;> simp at hv
    · rw [if_neg hk] at hv; exact hv
  refine ⟨⟨h.1.1, h.1.2.1, fun q hq => ?_⟩, fun v hv => ?_⟩
  · obtain ⟨j, h1, h2⟩ := (lpr_mem _ 0).mp hq
    exact h.1.2.2 q ((lpr_mem _ 0).mpr ⟨j, key _ _ h1, h2⟩)
  · obtain ⟨j, hj⟩ := List.mem_iff_getElem?.mp hv
    exact h.2 v (List.mem_of_getElem? (key _ _ hj))
set_option maxHeartbeats 4000000 in
set_option maxRecDepth 100000 in
/-- takeSegments -/
theorem c_takeSegments (g : Gx) (l : Launch) (x : Nat) (v : LV) (H : Heap) (hv : lgOk v) (hg : lgAt g x v H) (y : Nat) (u : LV) (hu : lgOk u) (hgu : lgAt g y u H) (hxy : y + 7 ≤ x ∨ x + 7 ≤ y) (z : Int32) : HM g l yX0_takeSegments cX0_takeSegments 6 none 3 63 0 0 [.ref x, .ref y, .int z] H (fun r H1 => r = none ∧ lgAt g x (lgTk u z (v, -1) u.2.2.1).1 H1 ∧ Fr x 7 H H1) (fB x 7) := by
  refine HM.ofW (by decide) (Nat.le_of_ble_eq_true rfl) (by simp [Value.category]) ?_
  intro p e s m args below meth c ls G hr hml hlocks hnm hH hl
  have hl : lh ls 6 [some (.ref x), some (.ref y), some (.int z), none, none, none] := hl
  have hL : ∀ q ∈ ([] : List Loc), (fB x 7) q.base := fun q h => by cases h
  have hu2 := hu.2
  have lp : ∀ (d j : Nat) (a b : Int32) (K : Heap) (locs : List Loc) (ls : Array Slot), u.2.2.1 + 1 ≤ j + d → j ≤ u.2.2.1 → a = (lgTk u z (v, -1) j).2 → b = nI j → lgAt g x (lgTk u z (v, -1) j).1 K → Fr x 7 H K → (∀ q ∈ locs, (fB x 7) q.base) → lh ls 6 [some (.ref x), some (.ref y), some (.int z), some (.int a), some (.int b), none] → W p l e ({ frames := 3, cells := 0, slots := 0, locals := 63 } : Room) s m args below meth c K locs 0 0 (hQ below args s (fun r H1 => r = none ∧ lgAt g x (lgTk u z (v, -1) u.2.2.1).1 H1 ∧ Fr x 7 H H1) 0 0 (fB x 7)) (F0 m 5 ls []) := by
    intro d
    induction d with
    | zero =>
      intro j a b K locs ls hd hj ea eb hgK hF hL hl
      exfalso; omega
    | succ d ih =>
      intro j a b K locs ls hd hj ea eb hgK hF hL hl
      have huK : lgAt g y u K := hgu.kept (fun q h1 h2 => hF.2 q (by omega))
      refine hb_iload G dX0_takeSegments_5 hl rfl ?_
      refine hb_aload_n G dX0_takeSegments_7 hl rfl ?_
      refine hb_get G huK.1 rfl inX0 7 (by decide) kf_X0_34 rfl rfl dX0_takeSegments_8 ?_
      refine lv_icmp_ge (tgt := 81) G.1 G.2.1 dX0_takeSegments_11 (by decide) (fun c_1 => ?_) (fun c_1 => ?_)
      · have hj2 : j = u.2.2.1 := by have := (ic_le rfl eb (by omega) (by omega)).mp c_1; omega
        subst hj2
        exact hb_vret G hr hlocks ⟨rfl, hgK, hF⟩ hL (Nat.le_refl _) (Nat.le_refl _) dX0_takeSegments_81
      · have hj2 : j < u.2.2.1 := by have := mt (ic_le rfl eb (by omega) (by omega)).mpr c_1; omega
        refine hb_aload_n G dX0_takeSegments_14 hl rfl ?_
        refine hb_get G huK.1 rfl inX0 5 (by decide) kf_X0_28 rfl rfl dX0_takeSegments_15 ?_
        refine hb_iload G dX0_takeSegments_18 hl rfl ?_
        refine hb_callSN (As := [.ref (y + 5), .int b]) (rest := []) G hml (c_at g l (y + 5) 512 (u.1 4) b _ (by decide) (huK.2 4 (by decide))) G.2.2.2.2.2.2.1 kt_X1_at kn_X1 ko_X1_at hd_X1_at ⟨Nat.le_of_ble_eq_true rfl, Nat.le_of_ble_eq_true rfl⟩ hl.size rfl (Nat.le_of_ble_eq_true rfl) dX0_takeSegments_20 ⟨Nat.le_of_ble_eq_true rfl, Nat.le_of_ble_eq_true rfl⟩ hL (f0_in) (fun v1 K locs hp hL => ?_)
        obtain ⟨rfl, rfl⟩ := hp
        refine lv_topi (fun r_2 er_2 => ?_)
        have er_2 : r_2 = u.1 4 j := by rw [er_2, eb, atV_in (by omega) (by decide)]
        have hok := lgTk_ok (u := u) (z := z) (r := (v, -1)) hv j
        refine hb_istore G dX0_takeSegments_23 hl (by decide) (fun ls hl => ?_)
        have hl : lh ls 6 [some (.ref x), some (.ref y), some (.int z), some (.int a), some (.int b), some (.int r_2)] := hl
        refine hb_iload G dX0_takeSegments_25 hl rfl ?_
        refine hb_iload_n G dX0_takeSegments_27 hl rfl ?_
        refine lv_icmp_lt (tgt := 75) G.1 G.2.1 dX0_takeSegments_28 (by decide) (fun c_3 => ?_) (fun c_3 => ?_)
        · obtain ⟨t_4, et_4⟩ : ∃ z : Int32, z = b + 1 := ⟨_, rfl⟩
          refine hb_iinc (v := t_4) G dX0_takeSegments_75 hl rfl (by rw [et_4]; rfl) (by decide) (fun ls hl => ?_)
          have hl : lh ls 6 [some (.ref x), some (.ref y), some (.int z), some (.int a), some (.int t_4), some (.int r_2)] := hl
          refine lv_goto (tgt := 5) G.1 G.2.1 dX0_takeSegments_78 (by decide) ?_
          exact ih (j + 1) a t_4 K locs ls (by omega) (by omega) (by rw [ea]; simp only [lgTk, tkStep]; rw [if_neg (by rw [← er_2]; exact i32_nle.mpr c_3)]) (by rw [et_4, eb]; exact nI_1 j) (by simp only [lgTk, tkStep]; rw [if_neg (by rw [← er_2]; exact i32_nle.mpr c_3)]; exact hgK) hF hL (hl.drop 5)
        · have hz9 : z ≤ u.1 4 j := by rw [← er_2]; exact i32_nlt.mp c_3
          refine hb_iload G dX0_takeSegments_31 hl rfl ?_
          refine hb_iload_n G dX0_takeSegments_33 hl rfl ?_
          refine lv_icmp_eq (tgt := 53) G.1 G.2.1 dX0_takeSegments_34 (by decide) (fun c_5 => ?_) (fun c_5 => ?_)
          · refine hb_aload_n G dX0_takeSegments_53 hl rfl ?_
            refine hb_aload_n G dX0_takeSegments_54 hl rfl ?_
            refine hb_get G huK.1 rfl inX0 3 (by decide) kf_X0_22 rfl rfl dX0_takeSegments_55 ?_
            refine hb_iload G dX0_takeSegments_58 hl rfl ?_
            refine hb_callSN (As := [.ref (y + 3), .int b]) (rest := [.ref x]) G hml (c_at g l (y + 3) 512 (u.1 2) b _ (by decide) (huK.2 2 (by decide))) G.2.2.2.2.2.2.1 kt_X1_at kn_X1 ko_X1_at hd_X1_at ⟨Nat.le_of_ble_eq_true rfl, Nat.le_of_ble_eq_true rfl⟩ hl.size rfl (Nat.le_of_ble_eq_true rfl) dX0_takeSegments_60 ⟨Nat.le_of_ble_eq_true rfl, Nat.le_of_ble_eq_true rfl⟩ hL (f0_in) (fun v1 K locs hp hL => ?_)
            obtain ⟨rfl, rfl⟩ := hp
            refine lv_topi (fun r_6 er_6 => ?_)
            have er_6 : r_6 = u.1 2 j := by rw [er_6, eb, atV_in (by omega) (by decide)]
            refine hb_aload_n G dX0_takeSegments_63 hl rfl ?_
            refine hb_get G huK.1 rfl inX0 4 (by decide) kf_X0_25 rfl rfl dX0_takeSegments_64 ?_
            refine hb_iload G dX0_takeSegments_67 hl rfl ?_
            refine hb_callSN (As := [.ref (y + 4), .int b]) (rest := [.int r_6, .ref x]) G hml (c_at g l (y + 4) 512 (u.1 3) b _ (by decide) (huK.2 3 (by decide))) G.2.2.2.2.2.2.1 kt_X1_at kn_X1 ko_X1_at hd_X1_at ⟨Nat.le_of_ble_eq_true rfl, Nat.le_of_ble_eq_true rfl⟩ hl.size rfl (Nat.le_of_ble_eq_true rfl) dX0_takeSegments_69 ⟨Nat.le_of_ble_eq_true rfl, Nat.le_of_ble_eq_true rfl⟩ hL (f0_in) (fun v1 K locs hp hL => ?_)
            obtain ⟨rfl, rfl⟩ := hp
            refine lv_topi (fun r_7 er_7 => ?_)
            have er_7 : r_7 = u.1 3 j := by rw [er_7, eb, atV_in (by omega) (by decide)]
            refine hb_callV (As := [.int r_6, .int r_7]) (rest := []) G hml (c_put g l x (lgTk u z (v, -1) j).1 _ (hok) hgK r_6 r_7) (hgK.1) rfl km_X0_63 ki_X0_put ks_X0_put kn_X0 ko_X0_put hd_X0_put ⟨Nat.le_of_ble_eq_true rfl, Nat.le_of_ble_eq_true rfl⟩ hl.size rfl (Nat.le_of_ble_eq_true rfl) dX0_takeSegments_72 ⟨Nat.le_of_ble_eq_true rfl, Nat.le_of_ble_eq_true rfl⟩ hL (fun q h => h) (fun v1 K5 locs hp hL => ?_)
            obtain ⟨rfl, hg5, hF5⟩ := hp
            rw [er_6, er_7] at hg5
            obtain ⟨t_8, et_8⟩ : ∃ z : Int32, z = b + 1 := ⟨_, rfl⟩
            refine hb_iinc (v := t_8) G dX0_takeSegments_75 hl rfl (by rw [et_8]; rfl) (by decide) (fun ls hl => ?_)
            have hl : lh ls 6 [some (.ref x), some (.ref y), some (.int z), some (.int a), some (.int t_8), some (.int r_2)] := hl
            refine lv_goto (tgt := 5) G.1 G.2.1 dX0_takeSegments_78 (by decide) ?_
            have e9 : lgTk u z (v, -1) (j + 1) = (lgPut (lgTk u z (v, -1) j).1 (u.1 2 j) (u.1 3 j), u.1 4 j) := by simp only [lgTk, tkStep]; rw [if_pos hz9, if_pos (by rw [← er_2, c_5, ea])]
            exact ih (j + 1) a t_8 K5 locs ls (by omega) (by omega) (by rw [e9]; exact (by rw [← c_5]; exact er_2)) (by rw [et_8, eb]; exact nI_1 j) (by rw [e9]; exact hg5) (hF.tr hF5) hL (hl.drop 5)
          · refine hb_aload_n G dX0_takeSegments_37 hl rfl ?_
            refine hb_aload_n G dX0_takeSegments_38 hl rfl ?_
            refine hb_get G huK.1 rfl inX0 0 (by decide) kf_X0_9 rfl rfl dX0_takeSegments_39 ?_
            refine hb_iload G dX0_takeSegments_42 hl rfl ?_
            refine hb_callSN (As := [.ref (y + 1), .int r_2]) (rest := [.ref x]) G hml (c_at g l (y + 1) 60 (u.1 0) r_2 _ (by decide) (huK.2 0 (by decide))) G.2.2.2.2.2.2.1 kt_X1_at kn_X1 ko_X1_at hd_X1_at ⟨Nat.le_of_ble_eq_true rfl, Nat.le_of_ble_eq_true rfl⟩ hl.size rfl (Nat.le_of_ble_eq_true rfl) dX0_takeSegments_44 ⟨Nat.le_of_ble_eq_true rfl, Nat.le_of_ble_eq_true rfl⟩ hL (f0_in) (fun v1 K locs hp hL => ?_)
            obtain ⟨rfl, rfl⟩ := hp
            refine lv_topi (fun r_9 er_9 => ?_)
            refine hb_callV (As := [.int r_9]) (rest := []) G hml (c_openSegment g l x _ _ hok hgK r_9) (hgK.1) rfl km_X0_59 ki_X0_openSegment ks_X0_openSegment kn_X0 ko_X0_openSegment hd_X0_openSegment ⟨Nat.le_of_ble_eq_true rfl, Nat.le_of_ble_eq_true rfl⟩ hl.size rfl (Nat.le_of_ble_eq_true rfl) dX0_takeSegments_47 ⟨Nat.le_of_ble_eq_true rfl, Nat.le_of_ble_eq_true rfl⟩ hL (fun q h => h) (fun v1 K1 locs hp hL => ?_)
            obtain ⟨rfl, hg1, hF1⟩ := hp
            rw [er_9, er_2] at hg1
            have hu1 : lgAt g y u K1 := huK.kept (fun q h1 h2 => hF1.2 q (by omega))
            refine hb_iload G dX0_takeSegments_50 hl rfl ?_
            refine hb_istore_n G dX0_takeSegments_52 hl (by decide) (fun ls hl => ?_)
            have hl : lh ls 6 [some (.ref x), some (.ref y), some (.int z), some (.int r_2), some (.int b), some (.int r_2)] := hl
            refine hb_aload_n G dX0_takeSegments_53 hl rfl ?_
            refine hb_aload_n G dX0_takeSegments_54 hl rfl ?_
            refine hb_get G hu1.1 rfl inX0 3 (by decide) kf_X0_22 rfl rfl dX0_takeSegments_55 ?_
            refine hb_iload G dX0_takeSegments_58 hl rfl ?_
            refine hb_callSN (As := [.ref (y + 3), .int b]) (rest := [.ref x]) G hml (c_at g l (y + 3) 512 (u.1 2) b _ (by decide) (hu1.2 2 (by decide))) G.2.2.2.2.2.2.1 kt_X1_at kn_X1 ko_X1_at hd_X1_at ⟨Nat.le_of_ble_eq_true rfl, Nat.le_of_ble_eq_true rfl⟩ hl.size rfl (Nat.le_of_ble_eq_true rfl) dX0_takeSegments_60 ⟨Nat.le_of_ble_eq_true rfl, Nat.le_of_ble_eq_true rfl⟩ hL (f0_in) (fun v1 K locs hp hL => ?_)
            obtain ⟨rfl, rfl⟩ := hp
            refine lv_topi (fun r_10 er_10 => ?_)
            have er_10 : r_10 = u.1 2 j := by rw [er_10, eb, atV_in (by omega) (by decide)]
            refine hb_aload_n G dX0_takeSegments_63 hl rfl ?_
            refine hb_get G hu1.1 rfl inX0 4 (by decide) kf_X0_25 rfl rfl dX0_takeSegments_64 ?_
            refine hb_iload G dX0_takeSegments_67 hl rfl ?_
            refine hb_callSN (As := [.ref (y + 4), .int b]) (rest := [.int r_10, .ref x]) G hml (c_at g l (y + 4) 512 (u.1 3) b _ (by decide) (hu1.2 3 (by decide))) G.2.2.2.2.2.2.1 kt_X1_at kn_X1 ko_X1_at hd_X1_at ⟨Nat.le_of_ble_eq_true rfl, Nat.le_of_ble_eq_true rfl⟩ hl.size rfl (Nat.le_of_ble_eq_true rfl) dX0_takeSegments_69 ⟨Nat.le_of_ble_eq_true rfl, Nat.le_of_ble_eq_true rfl⟩ hL (f0_in) (fun v1 K locs hp hL => ?_)
            obtain ⟨rfl, rfl⟩ := hp
            refine lv_topi (fun r_11 er_11 => ?_)
            have er_11 : r_11 = u.1 3 j := by rw [er_11, eb, atV_in (by omega) (by decide)]
            refine hb_callV (As := [.int r_10, .int r_11]) (rest := []) G hml (c_put g l x (lgOpen (lgTk u z (v, -1) j).1 (atV (u.1 0) 60 (u.1 4 j))) _ (lgOpen_ok hok _) hg1 r_10 r_11) (hg1.1) rfl km_X0_63 ki_X0_put ks_X0_put kn_X0 ko_X0_put hd_X0_put ⟨Nat.le_of_ble_eq_true rfl, Nat.le_of_ble_eq_true rfl⟩ hl.size rfl (Nat.le_of_ble_eq_true rfl) dX0_takeSegments_72 ⟨Nat.le_of_ble_eq_true rfl, Nat.le_of_ble_eq_true rfl⟩ hL (fun q h => h) (fun v1 K5 locs hp hL => ?_)
            obtain ⟨rfl, hg5, hF5⟩ := hp
            rw [er_10, er_11] at hg5
            obtain ⟨t_12, et_12⟩ : ∃ z : Int32, z = b + 1 := ⟨_, rfl⟩
            refine hb_iinc (v := t_12) G dX0_takeSegments_75 hl rfl (by rw [et_12]; rfl) (by decide) (fun ls hl => ?_)
            have hl : lh ls 6 [some (.ref x), some (.ref y), some (.int z), some (.int r_2), some (.int t_12), some (.int r_2)] := hl
            refine lv_goto (tgt := 5) G.1 G.2.1 dX0_takeSegments_78 (by decide) ?_
            have e9 : lgTk u z (v, -1) (j + 1) = (lgPut (lgOpen (lgTk u z (v, -1) j).1 (atV (u.1 0) 60 (u.1 4 j))) (u.1 2 j) (u.1 3 j), u.1 4 j) := by simp only [lgTk, tkStep]; rw [if_pos hz9, if_neg (by rw [← er_2, ← ea]; exact c_5)]
            exact ih (j + 1) r_2 t_12 K5 locs ls (by omega) (by omega) (by rw [e9]; exact er_2) (by rw [et_12, eb]; exact nI_1 j) (by rw [e9]; exact hg5) (hF.tr (hF1.tr hF5)) hL (hl.drop 5)
  refine lv_iconst (v := (-1)) G.1 G.2.1 dX0_takeSegments_0 (by decide) ?_
  refine hb_istore_n G dX0_takeSegments_1 hl (by decide) (fun ls hl => ?_)
  have hl : lh ls 6 [some (.ref x), some (.ref y), some (.int z), some (.int (-1)), none, none] := hl
  refine lv_iconst (v := 0) G.1 G.2.1 dX0_takeSegments_2 (by decide) ?_
  refine hb_istore G dX0_takeSegments_3 hl (by decide) (fun ls hl => ?_)
  have hl : lh ls 6 [some (.ref x), some (.ref y), some (.int z), some (.int (-1)), some (.int 0), none] := hl
  exact lp (u.2.2.1 + 1) 0 (-1) 0 H [] ls (by omega) (by omega) rfl rfl hg Fr.rf hL hl
