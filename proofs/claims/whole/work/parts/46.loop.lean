/-! THE LAW'S LOOP -/
theorem go_iff {j L : Nat} (hL : L ≤ 2050) (hj : j ≤ 512) : nI L - 4 < nI (2 + 4 * j) ↔ L < 2 + 4 * j + 4 := by
  have h1 := pk_sub_toInt (a := L) (b := 4) (by omega) (by omega)
  rw [Int32.lt_iff_toInt_lt, show (4 : Int32) = nI 4 from rfl, h1, nI_toInt (by omega)]
  omega
set_option maxHeartbeats 4000000 in
set_option maxRecDepth 100000 in
theorem law_loop {p : Program} {l : Launch} {e : Env} {s : State} {m : MethodId} {below : List Frame} {meth : Method} {c : Code} {g : Gx} {b L : Nat} {xs : Nat → Int32} {sa : Nat → Nat} {S B : Nat} (A0 : LA g p l s m meth c b L xs sa) (hSB : dkB S B) (hL2 : L ≤ 2050) : ∀ (k9 j : Nat) (H : Heap) (locs : List Loc) (ls : Array Slot) (cells slots : Nat), 513 ≤ j + k9 → j ≤ 512 → cells ≤ 52 + 10 * j → slots ≤ 12357 + 2600 * j → (∃ (P : Nat → Nat) (V : Nat → LV) (bu : Nat → Int32) (A : Nat → Nat → Int32) (C : Nat) (a : Nat → Nat) (tc dn wr cd : Int32) (en pl : Nat), JS g s.heap.size S B P V bu A C a tc dn wr cd en pl j H) → va_S (fG s.heap.size) s.heap H locs → lh ls 7 (LL b s.heap.size (nI (2 + 4 * j))) → W p l e room_1 s m #[Value.ref b] below meth c H locs cells slots (lw_Z below #[Value.ref b] s) (F0 m 43 ls []) := by
  intro k9
  induction k9 with
  | zero =>
    intro j H locs ls cells slots h1 h2
    exfalso; omega
  | succ k9 ih =>
    intro j H locs ls cells slots h1 h2 hc hs ⟨P, V, bu, A, C, a, tc, dn, wr, cd, en, pl, hJ⟩ hS hl
    obtain ⟨G, hml, hXx, hbl, hlt, hXX, hN, hr, hlocks⟩ := id A0
    have hbA : ¬ fG s.heap.size b := fun q => Nat.not_le.mpr hbl q
    refine hb_iload G dL_law_43 hl rfl ?_
    refine hb_aload_n G dL_law_45 hl rfl ?_
    refine va_slen G.1 G.2.1 hXx hbl hbA hS dL_law_46 ?_
    refine lv_iconst (v := 4) G.1 G.2.1 dL_law_47 (by decide) ?_
    refine lv_isub G.1 G.2.1 dL_law_48 ?_
    refine lv_icmp_gt (tgt := 685) G.1 G.2.1 dL_law_49 (by decide) (fun c1 => ?_) (fun c1 => ?_)
    · refine lv_iconst (v := 1) G.1 G.2.1 dL_law_685 (by decide) ?_
      refine va_forget (fun q h => hS.2.2 q h) ?_
      exact W.widen (k := 601024) (n := 7292999) (by omega) (by omega) (lw_ret G.1 G.2.1 hr hlocks dL_law_686)
    · have hle : 2 + 4 * j + 4 ≤ L := by
        rcases Nat.lt_or_ge L (2 + 4 * j + 4) with q | q
        · exact absurd ((go_iff hL2 h2).mpr q) c1
        · exact q
      have hj : j < 512 := by omega
      have hi0 : vp_in (nI (2 + 4 * j)) L := vp_in_nI (by omega) (by omega)
      have hi1 : vp_in (nI (2 + 4 * j) + 1) L := by rw [show (1 : Int32) = nI 1 from rfl, nI_add]; exact vp_in_nI (by omega) (by omega)
      have hi2 : vp_in (nI (2 + 4 * j) + 2) L := by rw [show (2 : Int32) = nI 2 from rfl, nI_add]; exact vp_in_nI (by omega) (by omega)
      have hi3 : vp_in (nI (2 + 4 * j) + 3) L := by rw [show (3 : Int32) = nI 3 from rfl, nI_add]; exact vp_in_nI (by omega) (by omega)
      have hK : K679 p l e s m below meth c b g S B j (nI (2 + 4 * j)) := by
        intro H1 K1 locs1 ls1 cells1 slots1 k hc1 hs1 hO hS1 hl1
        obtain ⟨_, P1, V1, bu1, A1, C1, a1, tc1, dn1, wr1, en1, pl1, hJ1⟩ := hO
        refine hb_iinc (v := nI (2 + 4 * (j + 1))) G dL_law_679 hl1 rfl (by show nI (2 + 4 * j) + nI 4 = _; rw [nI_add]; rfl) (by decide) (fun ls2 hl2 => ?_)
        refine lv_goto (tgt := 43) G.1 G.2.1 dL_law_682 (by decide) ?_
        exact ih (j + 1) H1 locs1 ls2 cells1 slots1 (by omega) (by omega) (by omega) (by omega) ⟨P1, V1, bu1, A1, C1, a1, tc1, dn1, wr1, k, en1, pl1, hJ1⟩ hS1 hl2
      refine hb_aload_n G dL_law_52 hl rfl ?_
      refine hb_iload G dL_law_53 hl rfl ?_
      refine va_sld G.1 G.2.1 hXx hbl hbA hS hi0 dL_law_55 ?_
      refine lv_bipush (v := 15) G.1 G.2.1 dL_law_56 (by decide) ?_
      refine lv_iand G.1 G.2.1 dL_law_58 ?_
      refine lv_topi (fun t et => ?_)
      by_cases ht : t.toInt < 0 ∨ 10 < t.toInt
      · refine lv_tableOut (tgt := 679) G.1 G.2.1 dL_law_59 ht (by decide) ?_
        exact hK H H locs ls cells slots cd (by omega) (by omega) ⟨⟨Nat.le_refl _, fun _ _ => rfl⟩, P, V, bu, A, C, a, tc, dn, wr, en, pl, J_none hJ⟩ hS hl
      · have ht2 : t.toInt = 0 ∨ t.toInt = 1 ∨ t.toInt = 2 ∨ t.toInt = 3 ∨ t.toInt = 4 ∨ t.toInt = 5 ∨ t.toInt = 6 ∨ t.toInt = 7 ∨ t.toInt = 8 ∨ t.toInt = 9 ∨ t.toInt = 10 := by omega
        have n1 : ¬ t.toInt < 0 := by omega
        have n2 : ¬ 10 < t.toInt := by omega
        rcases ht2 with q | q | q | q | q | q | q | q | q | q | q
        · exact lv_tableIn (off := 57) (tgt := 116) G.1 G.2.1 dL_law_59 n1 n2 (by rw [q]; rfl) (by decide) (law_append A0 hSB hj hi1 hi2 hi3 hJ hS hl hc hs hK)
        · exact lv_tableIn (off := 137) (tgt := 196) G.1 G.2.1 dL_law_59 n1 n2 (by rw [q]; rfl) (by decide) (law_retain A0 hSB hj hi1 hi2 hJ hS hl hc hs hK)
        · exact lv_tableIn (off := 205) (tgt := 264) G.1 G.2.1 dL_law_59 n1 n2 (by rw [q]; rfl) (by decide) (law_thin A0 hSB hj hi1 hi2 hJ hS hl hc hs hK)
        · exact lv_tableIn (off := 273) (tgt := 332) G.1 G.2.1 dL_law_59 n1 n2 (by rw [q]; rfl) (by decide) (law_log A0 hSB hj hi1 hi2 hJ hS hl hc hs hK)
        · exact lv_tableIn (off := 341) (tgt := 400) G.1 G.2.1 dL_law_59 n1 n2 (by rw [q]; rfl) (by decide) (law_entry A0 hSB hj hi1 hi2 hi3 hJ hS hl hc hs hK)
        · exact lv_tableIn (off := 421) (tgt := 480) G.1 G.2.1 dL_law_59 n1 n2 (by rw [q]; rfl) (by decide) (law_byteAt A0 hSB hj hi1 hi2 hi3 hJ hS hl hc hs hK)
        · exact lv_tableIn (off := 501) (tgt := 560) G.1 G.2.1 dL_law_59 n1 n2 (by rw [q]; rfl) (by decide) (law_crash A0 hSB hj hi1 hJ hS hl hc hs hK)
        · exact lv_tableIn (off := 537) (tgt := 596) G.1 G.2.1 dL_law_59 n1 n2 (by rw [q]; rfl) (by decide) (law_recover A0 hSB hj hJ hS hl hc hs hK)
        · exact lv_tableIn (off := 550) (tgt := 609) G.1 G.2.1 dL_law_59 n1 n2 (by rw [q]; rfl) (by decide) (law_isDown A0 hSB hj hJ hS hl hc hs hK)
        · exact lv_tableIn (off := 563) (tgt := 622) G.1 G.2.1 dL_law_59 n1 n2 (by rw [q]; rfl) (by decide) (law_writes A0 hSB hj hJ hS hl hc hs hK)
        · exact lv_tableIn (off := 576) (tgt := 635) G.1 G.2.1 dL_law_59 n1 n2 (by rw [q]; rfl) (by decide) (law_free A0 hSB hj hJ hS hl hc hs hK)
