theorem hb_qaldR {p : Program} {l : Launch} {e : Env} {R : Room} {s : State} {m : MethodId} {args : Array Value} {below : List Frame} {meth : Method} {c : Code} {H : Heap} {locs : List Loc} {cells slots : Nat} {Q : State → Prop} {g : Gx} {cc : ByteArray} {own : String} {pc : Nat} {ls : Array Slot} {rest : List Value} {a : Nat} (G : Cx g p s m args c cc own) {k x : Nat} {f : Nat → Option Nat} (ha : qa g a k f H) {i : Int32} (hin : vp_in i k) (hx : f i.toNatClampNeg = some x) (hdg : decode cc pc = .ok (.aaload, 1)) (kk : W p l e R s m args below meth c H locs cells slots Q (F0 m (pc + 1) ls (.ref x :: rest))) : W p l e R s m args below meth c H locs cells slots Q (F0 m pc ls (.int i :: .ref a :: rest)) :=
  hb_qald G ha hin hdg (by rw [hx]; exact kk)
section DK
variable {g : Gx} {d S B : Nat} {P : Nat → Nat} {V : Nat → LV} {bu : Nat → Int32} {tc dn wr : Int32} {H H1 : Heap}
theorem dkAt.far (h : dkAt g d S B P V bu tc dn wr H) {j : Nat} (hj : j < 5) : d + 2 ≤ P j ∧ P j + 7 ≤ d + 38 ∧ (P j + 7 ≤ d + 9 ∨ d + 10 ≤ P j) := h.2.2.2.2.1 j hj
theorem dkAt.kept (h : dkAt g d S B P V bu tc dn wr H) (hq : ∀ q, d ≤ q → q < d + 38 → H1[q]? = H[q]?) : dkAt g d S B P V bu tc dn wr H1 :=
  ⟨h.1.kept (hq _ (by omega) (by omega)), h.2.1.kept (hq _ (by omega) (by omega)), h.2.2.1.kept (hq _ (by omega) (by omega)), fun j hj => (h.2.2.2.1 j hj).kept (fun q h1 h2 => by have := h.far hj; exact hq q (by omega) (by omega)), h.2.2.2.2⟩
theorem dkAt.ub (h : dkAt g d S B P V bu tc dn wr H) {bv : Nat → Int32} (hb : ia g (d + 9) B bv H1) (hF : Fo (d + 9) H H1) : dkAt g d S B P V bv tc dn wr H1 :=
  ⟨h.1.kept (hF.2 _ (by omega)), h.2.1.kept (hF.2 _ (by omega)), hb, fun j hj => (h.2.2.2.1 j hj).kept (fun q h1 h2 => by have := h.far hj; exact hF.2 q (by omega)), h.2.2.2.2⟩
theorem dkAt.lg (h : dkAt g d S B P V bu tc dn wr H) {j : Nat} (hj : j < 5) {v : LV} (hg : lgAt g (P j) v H1) (hF : Fr (P j) 7 H H1) : dkAt g d S B P (va_up V j v) bu tc dn wr H1 := by
  have hf := h.far hj
  refine ⟨h.1.kept (hF.2 _ (by omega)), h.2.1.kept (hF.2 _ (by omega)), h.2.2.1.kept (hF.2 _ (by omega)), fun i hi => ?_, h.2.2.2.2⟩
  by_cases hij : i = j
  · subst hij; rw [va_up_self]; exact hg
  · rw [va_up_ne _ _ hij]
    have := h.2.2.2.2.2 i j hi hj hij
    exact (h.2.2.2.1 i hi).kept (fun q h1 h2 => hF.2 q (by omega))
theorem dkAt.ob (h : dkAt g d S B P V bu tc dn wr H) {tc2 dn2 wr2 : Int32} (hg : ob g d 1 (dkFs d S (P 4) tc2 dn2 wr2) H1) (hF : Fo d H H1) : dkAt g d S B P V bu tc2 dn2 wr2 H1 :=
  ⟨hg, h.2.1.kept (hF.2 _ (by omega)), h.2.2.1.kept (hF.2 _ (by omega)), fun j hj => (h.2.2.2.1 j hj).kept (fun q h1 h2 => by have := h.far hj; exact hF.2 q (by omega)), h.2.2.2.2⟩
end DK
/-- the disk's lasting bounds -/
def dkB (S B : Nat) : Prop := 1 ≤ S ∧ S ≤ 16 ∧ 16 ≤ B ∧ B ≤ 256
def sons (B S : Nat) (V : Nat → LV) (v : LV) : Int32 := if v.2.1 < 60 then ffr (mkD B S V 4) S B 0 else -1
def pkE (B S : Nat) (w : LV) (bu : Nat → Int32) (b z : Int32) : Int32 × LV × (Nat → Int32) :=
  if 0 < w.2.1 ∧ lgOB w + (b + 4) ≤ nI S * 1024 then (1, lgPut w b z, bu)
  else if ffr bu S B 0 = -1 ∨ ¬ w.2.1 < 60 then (0, w, bu)
  else (1, lgPut (lgOpen w (ffr bu S B 0)) b z, mkSeg B bu (ffr bu S B 0) S)
def pkL (B S : Nat) (u : LV) (k : Int32) : Nat → Nat → LV → (Nat → Int32) → Int32 × LV × (Nat → Int32)
  | 0, _, w, bu => (1, w, bu)
  | n + 1, i, w, bu => if nI i - nI i / k * k = 0 then pkL B S u k n (i + 1) w bu else if (pkE B S w bu (u.1 2 i) (u.1 3 i)).1 = 0 then pkE B S w bu (u.1 2 i) (u.1 3 i) else pkL B S u k n (i + 1) (pkE B S w bu (u.1 2 i) (u.1 3 i)).2.1 (pkE B S w bu (u.1 2 i) (u.1 3 i)).2.2
theorem pkE_ok {B S : Nat} {w : LV} {bu : Nat → Int32} {b z : Int32} (h : lgOk w) : lgOk (pkE B S w bu b z).2.1 := by
  unfold pkE
  split
  · exact lgPut_ok h _ _
  · split
    · exact h
    · exact lgPut_ok (lgOpen_ok h _) _ _
set_option maxHeartbeats 4000000 in
set_option maxRecDepth 100000 in
/-- markBlockUse -/
theorem c_markBlockUse (g : Gx) (l : Launch) (d S B : Nat) (P : Nat → Nat) (V : Nat → LV) (bu : Nat → Int32) (tc dn wr : Int32) (H : Heap) (hSB : dkB S B) (hV : ∀ j, j < 5 → lgOk (V j)) (h : dkAt g d S B P V bu tc dn wr H) : HM g l yX1_markBlockUse cX1_markBlockUse 5 none 3 66 0 0 [.ref d] H (fun r H1 => r = none ∧ ia g (d + 9) B (mkD B S V 4) H1 ∧ Fo (d + 9) H H1) (f1 (d + 9)) := by
  refine HM.ofW (by decide) (Nat.le_of_ble_eq_true rfl) (by simp [Value.category]) ?_
  intro p e s m args below meth c ls G hr hml hlocks hnm hH hl
  have hl : lh ls 5 [some (.ref d), none, none, none, none] := hl
  have hL : ∀ q ∈ ([] : List Loc), (f1 (d + 9)) q.base := fun q h => by cases h
  obtain ⟨hS1, hS2, hB1, hB2⟩ := hSB
  have lp2 : ∀ (k j : Nat) (b : Int32) (K : Heap) (locs : List Loc) (ls : Array Slot), (4 + 1 ≤ j + k) → (j ≤ 4) → (b = nI j) → (ia g (d + 9) B (mkD B S V j) K) → (Fo (d + 9) H K) → (∀ q ∈ locs, (f1 (d + 9)) q.base) → lh ls 5 [some (.ref d), some (.ref (d + 1)), some (.int (nI 4)), some (.int b), none] → W p l e ({ frames := 3, cells := 0, slots := 0, locals := 66 } : Room) s m args below meth c K locs 0 0 (hQ below args s (fun r H1 => r = none ∧ ia g (d + 9) B (mkD B S V 4) H1 ∧ Fo (d + 9) H H1) 0 0 (f1 (d + 9))) (F0 m 40 ls []) := by
    intro k
    induction k with
    | zero =>
      intro j b K locs ls hd9 hj eb hK hF hL hl
      exfalso; omega
    | succ k ih =>
      intro j b K locs ls hd9 hj eb hK hF hL hl
      have hk := h.ub hK hF
      refine hb_iload_n G dX1_markBlockUse_40 hl rfl ?_
      refine hb_iload_n G dX1_markBlockUse_41 hl rfl ?_
      refine lv_icmp_ge (tgt := 67) G.1 G.2.1 dX1_markBlockUse_42 (by decide) (fun c_1 => ?_) (fun c_1 => ?_)
      · have hj2 : j = 4 := by have := (ic_le rfl eb (by omega) (by omega)).mp c_1; omega
        subst hj2
        exact hb_vret G hr hlocks ⟨rfl, hK, hF⟩ hL (Nat.le_refl _) (Nat.le_refl _) dX1_markBlockUse_67
      · have hj2 : j < 4 := by have := mt (ic_le rfl eb (by omega) (by omega)).mpr c_1; omega
        refine hb_aload_n G dX1_markBlockUse_45 hl rfl ?_
        refine hb_iload_n G dX1_markBlockUse_46 hl rfl ?_
        refine hb_qaldR (x := P j) G hk.2.1 (by rw [eb]; exact vp_in_nI hj2 (by decide)) (by rw [eb, nI_clamp (by omega)]) dX1_markBlockUse_47 ?_
        refine hb_astore G dX1_markBlockUse_48 hl (by decide) (fun ls hl => ?_)
        have hl : lh ls 5 [some (.ref d), some (.ref (d + 1)), some (.int (nI 4)), some (.int b), some (.ref (P j))] := hl
        refine hb_aload G dX1_markBlockUse_50 hl rfl ?_
        refine lv_ifnull G.1 G.2.1 dX1_markBlockUse_52 ?_
        refine hb_aload_n G dX1_markBlockUse_55 hl rfl ?_
        refine hb_aload G dX1_markBlockUse_56 hl rfl ?_
        refine hb_callV (As := [.ref (P j)]) (rest := []) G hml (c_markSegmentsOf g l d S (P 4) tc dn wr _ hk.1 B _ hB2 hS2 hK (P j) (V j) (hV j (by omega)) (hk.2.2.2.1 j (by omega)) (by have := hk.far (j := j) (by omega); omega)) (hk.1) rfl km_X1_194 ki_X1_markSegmentsOf ks_X1_markSegmentsOf kn_X1 ko_X1_markSegmentsOf hd_X1_markSegmentsOf ⟨Nat.le_of_ble_eq_true rfl, Nat.le_of_ble_eq_true rfl⟩ hl.size rfl (Nat.le_of_ble_eq_true rfl) dX1_markBlockUse_58 ⟨Nat.le_of_ble_eq_true rfl, Nat.le_of_ble_eq_true rfl⟩ hL (fun q h => h) (fun v1 K1 locs1 hp hL => ?_)
        obtain ⟨rfl, hK1, hF1⟩ := hp
        obtain ⟨t_2, et_2⟩ : ∃ z : Int32, z = b + 1 := ⟨_, rfl⟩
        refine hb_iinc (v := t_2) G dX1_markBlockUse_61 hl rfl (by rw [et_2]; rfl) (by decide) (fun ls hl => ?_)
        have hl : lh ls 5 [some (.ref d), some (.ref (d + 1)), some (.int (nI 4)), some (.int t_2), some (.ref (P j))] := hl
        refine lv_goto (tgt := 40) G.1 G.2.1 dX1_markBlockUse_64 (by decide) ?_
        exact ih (j + 1) t_2 K1 locs1 ls (by omega) (by omega) (by rw [et_2, eb]; exact nI_1 j) hK1 (hF.tr hF1) hL (hl.drop 4)
  have lp1 : ∀ (k j : Nat) (b : Int32) (K : Heap) (locs : List Loc) (ls : Array Slot), (4 + 1 ≤ j + k) → (j ≤ 4) → (b = nI j) → (ia g (d + 9) B (mkHd B j) K) → (Fo (d + 9) H K) → (∀ q ∈ locs, (f1 (d + 9)) q.base) → lh ls 5 [some (.ref d), some (.int b), none, none, none] → W p l e ({ frames := 3, cells := 0, slots := 0, locals := 66 } : Room) s m args below meth c K locs 0 0 (hQ below args s (fun r H1 => r = none ∧ ia g (d + 9) B (mkD B S V 4) H1 ∧ Fo (d + 9) H H1) 0 0 (f1 (d + 9))) (F0 m 10 ls []) := by
    intro k
    induction k with
    | zero =>
      intro j b K locs ls hd9 hj eb hK hF hL hl
      exfalso; omega
    | succ k ih =>
      intro j b K locs ls hd9 hj eb hK hF hL hl
      have hk := h.ub hK hF
      refine hb_iload_n G dX1_markBlockUse_10 hl rfl ?_
      refine lv_iconst (v := 4) G.1 G.2.1 dX1_markBlockUse_11 (by decide) ?_
      refine lv_icmp_ge (tgt := 30) G.1 G.2.1 dX1_markBlockUse_12 (by decide) (fun c_3 => ?_) (fun c_3 => ?_)
      · have hj2 : j = 4 := by have := (ic_le (b := j) (a := 4) rfl eb (by omega) (by omega)).mp c_3; omega
        subst hj2
        refine hb_aload_n G dX1_markBlockUse_30 hl rfl ?_
        refine hb_get G hk.1 rfl inX1 1 (by decide) kf_X1_11 rfl rfl dX1_markBlockUse_31 ?_
        refine hb_astore_n G dX1_markBlockUse_34 hl (by decide) (fun ls hl => ?_)
        have hl : lh ls 5 [some (.ref d), some (.ref (d + 1)), none, none, none] := hl
        refine hb_aload_n G dX1_markBlockUse_35 hl rfl ?_
        refine hb_alen_q G hk.2.1 dX1_markBlockUse_36 ?_
        refine hb_istore_n G dX1_markBlockUse_37 hl (by decide) (fun ls hl => ?_)
        have hl : lh ls 5 [some (.ref d), some (.ref (d + 1)), some (.int (nI 4)), none, none] := hl
        refine lv_iconst (v := 0) G.1 G.2.1 dX1_markBlockUse_38 (by decide) ?_
        refine hb_istore_n G dX1_markBlockUse_39 hl (by decide) (fun ls hl => ?_)
        have hl : lh ls 5 [some (.ref d), some (.ref (d + 1)), some (.int (nI 4)), some (.int 0), none] := hl
        exact lp2 5 0 0 K locs ls (by omega) (by omega) rfl hK hF hL hl
      · have hj2 : j < 4 := by have := mt (ic_le (b := j) (a := 4) rfl eb (by omega) (by omega)).mpr c_3; omega
        refine hb_aload_n G dX1_markBlockUse_15 hl rfl ?_
        refine hb_get G hk.1 rfl inX1 2 (by decide) kf_X1_43 rfl rfl dX1_markBlockUse_16 ?_
        refine hb_iload_n G dX1_markBlockUse_19 hl rfl ?_
        refine lv_iconst (v := 1) G.1 G.2.1 dX1_markBlockUse_20 (by decide) ?_
        refine hb_callS (As := [.ref (d + 9), .int b, .int 1]) (rest := []) G hml (c_set g l (d + 9) B _ b 1 _ (by omega) hK) km_X1_190 kt_X1_set kn_X1 ko_X1_set hd_X1_set ⟨Nat.le_of_ble_eq_true rfl, Nat.le_of_ble_eq_true rfl⟩ hl.size rfl (Nat.le_of_ble_eq_true rfl) dX1_markBlockUse_21 ⟨Nat.le_of_ble_eq_true rfl, Nat.le_of_ble_eq_true rfl⟩ hL (f1_in rfl) (fun v1 K1 locs1 hp hL => ?_)
        obtain ⟨rfl, hK1, hz1, ho1⟩ := hp
        rw [eb] at hK1
        obtain ⟨t_4, et_4⟩ : ∃ z : Int32, z = b + 1 := ⟨_, rfl⟩
        refine hb_iinc (v := t_4) G dX1_markBlockUse_24 hl rfl (by rw [et_4]; rfl) (by decide) (fun ls hl => ?_)
        have hl : lh ls 5 [some (.ref d), some (.int t_4), none, none, none] := hl
        refine lv_goto (tgt := 10) G.1 G.2.1 dX1_markBlockUse_27 (by decide) ?_
        exact ih (j + 1) t_4 K1 locs1 ls (by omega) (by omega) (by rw [et_4, eb]; exact nI_1 j) hK1 (hF.tr ⟨hz1, ho1⟩) hL hl
  refine hb_aload_n G dX1_markBlockUse_0 hl rfl ?_
  refine hb_get G h.1 rfl inX1 2 (by decide) kf_X1_43 rfl rfl dX1_markBlockUse_1 ?_
  refine lv_iconst (v := 0) G.1 G.2.1 dX1_markBlockUse_4 (by decide) ?_
  refine hb_callS (As := [.ref (d + 9), .int 0]) (rest := []) G hml (c_fill g l (d + 9) B bu 0 _ (by omega) h.2.2.1) km_X1_184 kt_Ja_fill kn_Ja ko_J_fill hd_J_fill ⟨Nat.le_of_ble_eq_true rfl, Nat.le_of_ble_eq_true rfl⟩ hl.size rfl (Nat.le_of_ble_eq_true rfl) dX1_markBlockUse_5 ⟨Nat.le_of_ble_eq_true rfl, Nat.le_of_ble_eq_true rfl⟩ hL (fun q h => h) (fun v1 K0 locs0 hp hL => ?_)
  obtain ⟨rfl, hK0, hF0⟩ := hp
  refine lv_iconst (v := 0) G.1 G.2.1 dX1_markBlockUse_8 (by decide) ?_
  refine hb_istore_n G dX1_markBlockUse_9 hl (by decide) (fun ls hl => ?_)
  have hl : lh ls 5 [some (.ref d), some (.int 0), none, none, none] := hl
  exact lp1 5 0 0 K0 locs0 ls (by omega) (by omega) rfl hK0 hF0 hL hl
set_option maxHeartbeats 4000000 in
set_option maxRecDepth 100000 in
/-- startOfNewSegment -/
theorem c_startOfNewSegment (g : Gx) (l : Launch) (d S B : Nat) (P : Nat → Nat) (V : Nat → LV) (bu : Nat → Int32) (tc dn wr : Int32) (H : Heap) (hSB : dkB S B) (hV : ∀ j, j < 5 → lgOk (V j)) (h : dkAt g d S B P V bu tc dn wr H) (j : Nat) (hj : j < 5) : HM g l yX1_startOfNewSegment cX1_startOfNewSegment 2 (some .int) 4 90 0 0 [.ref d, .ref (P j)] H (fun r H1 => r = some (.int (sons B S V (V j))) ∧ ∃ bv, ia g (d + 9) B bv H1 ∧ Fo (d + 9) H H1) (f1 (d + 9)) := by
  refine HM.ofW (by decide) (Nat.le_of_ble_eq_true rfl) (by simp [Value.category]) ?_
  intro p e s m args below meth c ls G hr hml hlocks hnm hH hl
  have hl : lh ls 2 [some (.ref d), some (.ref (P j))] := hl
  have hL : ∀ q ∈ ([] : List Loc), (f1 (d + 9)) q.base := fun q h => by cases h
  refine hb_aload_n G dX1_startOfNewSegment_0 hl rfl ?_
  refine hb_callV (As := []) (rest := []) G hml (c_canOpenMore g l (P j) (V j) _ (hV j hj) (h.2.2.2.1 j hj)) ((h.2.2.2.1 j hj).1) rfl km_X1_178 ki_X0_canOpenMore ks_X0_canOpenMore kn_X0 ko_X0_canOpenMore hd_X0_canOpenMore ⟨Nat.le_of_ble_eq_true rfl, Nat.le_of_ble_eq_true rfl⟩ hl.size rfl (Nat.le_of_ble_eq_true rfl) dX1_startOfNewSegment_1 ⟨Nat.le_of_ble_eq_true rfl, Nat.le_of_ble_eq_true rfl⟩ hL (f0_in) (fun v1 H locs1 hp hL => ?_)
  obtain ⟨rfl, rfl⟩ := hp
  refine lv_topi (fun r_1 er_1 => ?_)
  refine lv_if_ne (tgt := 9) G.1 G.2.1 dX1_startOfNewSegment_4 (by decide) (fun c_2 => ?_) (fun c_2 => ?_)
  · have h60 : (V j).2.1 < 60 := Decidable.not_not.mp (fun q => c_2 ((it0 er_1).mpr q))
    refine hb_aload_n G dX1_startOfNewSegment_9 hl rfl ?_
    refine hb_callV (As := []) (rest := []) G hml (c_markBlockUse g l d S B P V bu tc dn wr _ hSB hV h) (h.1) rfl km_X1_151 ki_X1_markBlockUse ks_X1_markBlockUse kn_X1 ko_X1_markBlockUse hd_X1_markBlockUse ⟨Nat.le_of_ble_eq_true rfl, Nat.le_of_ble_eq_true rfl⟩ hl.size rfl (Nat.le_of_ble_eq_true rfl) dX1_startOfNewSegment_10 ⟨Nat.le_of_ble_eq_true rfl, Nat.le_of_ble_eq_true rfl⟩ hL (fun q h => h) (fun v1 K0 locs0 hp hL => ?_)
    obtain ⟨rfl, hK0, hF0⟩ := hp
    have hk := h.ub hK0 hF0
    refine hb_aload_n G dX1_startOfNewSegment_13 hl rfl ?_
    refine hb_callV (As := []) (rest := []) G hml (c_firstFreeRun g l d S (P 4) tc dn wr _ hk.1 B _ hSB.2.2.2 hSB.2.1 hK0) (hk.1) rfl km_X1_175 ki_X1_firstFreeRun ks_X1_firstFreeRun kn_X1 ko_X1_firstFreeRun hd_X1_firstFreeRun ⟨Nat.le_of_ble_eq_true rfl, Nat.le_of_ble_eq_true rfl⟩ hl.size rfl (Nat.le_of_ble_eq_true rfl) dX1_startOfNewSegment_14 ⟨Nat.le_of_ble_eq_true rfl, Nat.le_of_ble_eq_true rfl⟩ hL (f0_in) (fun v1 K0 locs0 hp hL => ?_)
    obtain ⟨rfl, rfl⟩ := hp
    exact hb_iret G hr hlocks ⟨by unfold sons; rw [if_pos h60], _, hK0, hF0⟩ hL (Nat.le_refl _) (Nat.le_refl _) dX1_startOfNewSegment_17
  · refine lv_iconst (v := (-1)) G.1 G.2.1 dX1_startOfNewSegment_7 (by decide) ?_
    exact hb_iret G hr hlocks ⟨by unfold sons; rw [if_neg ((it0 er_1).mp c_2)], _, h.2.2.1, Fo.rf⟩ hL (Nat.le_refl _) (Nat.le_refl _) dX1_startOfNewSegment_8
theorem swp_P {d j : Nat} {P : Nat → Nat} (hj : j < 4) (h : dkP d P) : dkP d (swp P j) := by
  have hP : ∀ i, i < 5 → ∃ i', i' < 5 ∧ swp P j i = P i' ∧ (i = j → i' = 4) ∧ (i = 4 → i' = j) ∧ (i ≠ j → i ≠ 4 → i' = i) := by
    intro i hi
    unfold swp
    by_cases h1 : i = j
    · exact ⟨4, by omega, by rw [if_pos h1], fun _ => rfl, fun h9 => by omega, fun h9 => absurd h1 h9⟩
    · by_cases h2 : i = 4
      · exact ⟨j, by omega, by rw [if_neg h1, if_pos h2], fun h9 => absurd h9 h1, fun _ => rfl, fun _ h9 => absurd h2 h9⟩
      · exact ⟨i, hi, by rw [if_neg h1, if_neg h2], fun h9 => absurd h9 h1, fun h9 => absurd h9 h2, fun _ _ => rfl⟩
  refine ⟨fun i hi => ?_, fun i k hi hk hik => ?_⟩
  · obtain ⟨i', h1, h2, -⟩ := hP i hi
    rw [h2]; exact h.1 i' h1
  · obtain ⟨i', h1, h2, h3, h4, h5⟩ := hP i hi
    obtain ⟨k', g1, g2, g3, g4, g5⟩ := hP k hk
    rw [h2, g2]
    refine h.2 i' k' h1 g1 ?_
    omega
set_option maxHeartbeats 4000000 in
set_option maxRecDepth 100000 in
/-- putDraftInPlaceOf -/
theorem c_putDraftInPlaceOf (g : Gx) (l : Launch) (d S B : Nat) (P : Nat → Nat) (V : Nat → LV) (bu : Nat → Int32) (tc dn wr : Int32) (H : Heap) (hSB : dkB S B) (hV : ∀ j, j < 5 → lgOk (V j)) (h : dkAt g d S B P V bu tc dn wr H) (j : Nat) (hj : j < 4) : HM g l yX1_putDraftInPlaceOf cX1_putDraftInPlaceOf 3 none 0 0 0 0 [.ref d, .int (nI j)] H (fun r H1 => r = none ∧ dkAt g d S B (swp P j) (swp V j) bu tc dn wr H1 ∧ Fr d 38 H H1) (fB d 38) := by
  refine HM.ofW (by decide) (Nat.le_of_ble_eq_true rfl) (by simp [Value.category]) ?_
  intro p e s m args below meth c ls G hr hml hlocks hnm hH hl
  have hl : lh ls 3 [some (.ref d), some (.int (nI j)), none] := hl
  have hL : ∀ q ∈ ([] : List Loc), (fB d 38) q.base := fun q h => by cases h
  refine hb_iload_n G dX1_putDraftInPlaceOf_0 hl rfl ?_
  refine lv_if_lt (tgt := 44) G.1 G.2.1 dX1_putDraftInPlaceOf_1 (by decide) (fun c_1 => ?_) (fun c_1 => ?_)
  · exact absurd c_1 (nI_pos (by omega))
  · refine hb_iload_n G dX1_putDraftInPlaceOf_4 hl rfl ?_
    refine hb_aload_n G dX1_putDraftInPlaceOf_5 hl rfl ?_
    refine hb_get G h.1 rfl inX1 1 (by decide) kf_X1_11 rfl rfl dX1_putDraftInPlaceOf_6 ?_
    refine hb_alen_q G h.2.1 dX1_putDraftInPlaceOf_9 ?_
    refine lv_icmp_ge (tgt := 44) G.1 G.2.1 dX1_putDraftInPlaceOf_10 (by decide) (fun c_2 => ?_) (fun c_2 => ?_)
    · exact absurd ((nI_leI (by omega) (by omega)).mp c_2) (by omega)
    · refine hb_aload_n G dX1_putDraftInPlaceOf_13 hl rfl ?_
      refine hb_get G h.1 rfl inX1 1 (by decide) kf_X1_11 rfl rfl dX1_putDraftInPlaceOf_14 ?_
      refine hb_iload_n G dX1_putDraftInPlaceOf_17 hl rfl ?_
      refine hb_qaldR (x := P j) G h.2.1 (vp_in_nI hj (by decide)) (by rw [nI_clamp (by omega)]) dX1_putDraftInPlaceOf_18 ?_
      refine lv_ifnull G.1 G.2.1 dX1_putDraftInPlaceOf_19 ?_
      refine hb_aload_n G dX1_putDraftInPlaceOf_22 hl rfl ?_
      refine hb_get G h.1 rfl inX1 1 (by decide) kf_X1_11 rfl rfl dX1_putDraftInPlaceOf_23 ?_
      refine hb_iload_n G dX1_putDraftInPlaceOf_26 hl rfl ?_
      refine hb_qaldR (x := P j) G h.2.1 (vp_in_nI hj (by decide)) (by rw [nI_clamp (by omega)]) dX1_putDraftInPlaceOf_27 ?_
      refine hb_astore_n G dX1_putDraftInPlaceOf_28 hl (by decide) (fun ls hl => ?_)
      have hl : lh ls 3 [some (.ref d), some (.int (nI j)), some (.ref (P j))] := hl
      refine hb_aload_n G dX1_putDraftInPlaceOf_29 hl rfl ?_
      refine hb_get G h.1 rfl inX1 1 (by decide) kf_X1_11 rfl rfl dX1_putDraftInPlaceOf_30 ?_
      refine hb_iload_n G dX1_putDraftInPlaceOf_33 hl rfl ?_
      refine hb_aload_n G dX1_putDraftInPlaceOf_34 hl rfl ?_
      refine hb_get G h.1 rfl inX1 3 (by decide) kf_X1_16 rfl rfl dX1_putDraftInPlaceOf_35 ?_
      refine hb_qast G h.2.1 (h.2.2.2.1 4 (by decide)).1 (vp_in_nI hj (by decide)) hL (fB_mk (by omega) (by omega)) dX1_putDraftInPlaceOf_38 (fun K1 locs1 hqa hz1 ho1 hL => ?_)
      rw [nI_clamp (by omega)] at hqa
      refine hb_aload_n G dX1_putDraftInPlaceOf_39 hl rfl ?_
      refine hb_aload_n G dX1_putDraftInPlaceOf_40 hl rfl ?_
      refine hb_put G (h.1.kept (ho1 _ (by omega))) rfl inX1 tyX1 tyX1_ok nmX1 3 (by decide) kf_X1_16 rfl rfl rfl rfl (Nat.le_of_ble_eq_true rfl) hL (fB_mk (by omega) (by omega)) dX1_putDraftInPlaceOf_41 (fun K2 locs2 hf hz2 ho2 hL => ?_)
      have hk2 : ∀ q : Nat, q ≠ d → q ≠ d + 1 → K2[q]? = H[q]? := fun q h1 h2 => (ho2 q h1).trans (ho1 q h2)
      have e4 : swp P j 4 = P j := by unfold swp; rw [if_neg (by omega), if_pos rfl]
      refine hb_vret G hr hlocks ⟨rfl, ⟨by rw [e4]; exact hf, (hqa.kept (ho2 _ (by omega))).ext (fun i hi => ?_), h.2.2.1.kept (hk2 _ (by omega) (by omega)), fun i hi => ?_, swp_P hj h.2.2.2.2⟩, (Fr.one hz1 ho1 (by omega) (by omega)).tr (Fr.one hz2 ho2 (by omega) (by omega))⟩ hL (Nat.le_refl _) (Nat.le_refl _) dX1_putDraftInPlaceOf_44
      · unfold swp
        by_cases h1 : i = j
        · subst h1; rw [va_up_self, if_pos rfl]
        · rw [va_up_ne _ _ h1, if_neg h1, if_neg (by omega)]
      · unfold swp
        by_cases h1 : i = j
        · rw [if_pos h1, if_pos h1]
          exact (h.2.2.2.1 4 (by decide)).kept (fun q g1 g2 => by have := h.far (j := 4) (by decide); exact hk2 q (by omega) (by omega))
        · by_cases h2 : i = 4
          · rw [if_neg h1, if_neg h1, if_pos h2, if_pos h2]
            exact (h.2.2.2.1 j (by omega)).kept (fun q g1 g2 => by have := h.far (j := j) (by omega); exact hk2 q (by omega) (by omega))
          · rw [if_neg h1, if_neg h1, if_neg h2, if_neg h2]
            exact (h.2.2.2.1 i hi).kept (fun q g1 g2 => by have := h.far hi; exact hk2 q (by omega) (by omega))
