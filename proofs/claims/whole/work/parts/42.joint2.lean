def cRt (g : Gx) (d S B : Nat) (V : Nat → LV) (tc dn wr i n : Int32) (H : Heap) (r : Option Value) (H1 : Heap) : Prop := (∃ j : Nat, j < 4 ∧ i = nI j ∧ r = some (.int (rtV V (V j) n tc dn wr).1) ∧ dkSt g d S B (va_up V j (rtV V (V j) n tc dn wr).2.1) (rtV V (V j) n tc dn wr).2.2.1 (rtV V (V j) n tc dn wr).2.2.2.1 (rtV V (V j) n tc dn wr).2.2.2.2 H1) ∧ (0 ≤ n ∧ n ≤ 2147483647) ∧ dn = 0 ∧ Fr d 38 H H1
theorem i32_max (n : Int32) : n ≤ 2147483647 := i32_le.mpr (by have := n.toInt_lt; rw [show (2147483647 : Int32).toInt = 2147483647 from rfl]; omega)
def OK1 (g : Gx) (z S B n : Nat) (k : Int32) (K H : Heap) : Prop := PX z K H ∧ ∃ (P : Nat → Nat) (V : Nat → LV) (bu : Nat → Int32) (A : Nat → Nat → Int32) (C : Nat) (a : Nat → Nat) (tc dn wr : Int32) (en pl : Nat), JS g z S B P V bu A C a tc dn wr k en pl n H
theorem OK2.one {g : Gx} {z S B n : Nat} {k y : Int32} {K H : Heap} (h : OK2 g z S B n k y K H) : OK1 g z S B n k K H := by
  obtain ⟨hx, P, V, bu, A, C, a, tc, dn, wr, en, pl, h1, _⟩ := h
  exact ⟨hx, P, V, bu, A, C, a, tc, dn, wr, en, pl, h1⟩
section JB
variable {g : Gx} {z S B : Nat} {P : Nat → Nat} {V : Nat → LV} {bu : Nat → Int32} {A : Nat → Nat → Int32} {C : Nat} {a : Nat → Nat} {tc dn wr cd : Int32} {en pl n : Nat} {H K2 H2 : Heap}
theorem J_fin1 {U : Nat → LV} {A2 : Nat → Nat → Int32} {C2 : Nat} {a2 : Nat → Nat} {en2 pl2 : Nat} {k : Int32} {f : Nat → Int64} (hD : dkSt g z S B U tc dn wr K2) (hR : Rel S B U A2 en2) (hM : mdAt g (z + 38) S B C2 a2 A2 k wr tc dn en2 pl2 H2) (hMg : Mg (z + 38) a a2 K2 H2) (hG : JG z a K2) (hj : ja g (z + 51) 1 f K2) (hc : JC tc dn en2 n C2) : OK1 g z S B n k K2 H2 := by
  obtain ⟨g1, g2⟩ := hG
  obtain ⟨m1, m2, m3⟩ := hMg
  have hkeep : ∀ q : Nat, q < z + 38 → H2[q]? = K2[q]? := fun q hq => m2 q (by omega) (by omega) (fun k hk he => by have := (g1 k hk).1; omega)
  have hjk : ja g (z + 51) 1 f H2 := hj.kept (m2 _ (by omega) (by omega) (fun k hk he => (g1 k hk).2.1 he.symm))
  obtain ⟨P, V, bv, d1, d2, d3⟩ := hD.keep (fun q _ hq => hkeep q hq)
  refine ⟨⟨m1, fun q hq => hkeep q (by omega)⟩, P, V, bv, A2, C2, a2, tc, dn, wr, en2, pl2, ⟨d1, d3⟩, hM, hR.cong (fun _ _ _ => rfl) d2, hc, ⟨fun k hk => ?_, by omega⟩, f, hjk⟩
  have h1 := (hM.2.1 k hk).lt
  rcases m3 k hk with h2 | h2
  · rw [h2] at h1 ⊢
    exact ⟨(g1 k hk).1, (g1 k hk).2.1, h1⟩
  · exact ⟨by omega, by omega, h1⟩
set_option maxHeartbeats 1000000 in
theorem J_retain (h : JS g z S B P V bu A C a tc dn wr cd en pl n H) {x m k : Int32} {v : Option Value} (h1 : hPo g (z + 51) (cRt g z S B V tc dn wr x m H) (thX (dkIs x ∧ 0 ≤ m ∧ m ≤ 2147483647) dn H) (some (.int k)) K2) (h2 : mRetd g (z + 38) S B C a A cd wr tc dn en pl x m K2 v H2) : ∃ y, v = some (.int y) ∧ OK2 g z S B (n + 1) k y K2 H2 := by
  unfold mRetd at h2
  rw [goC_eq] at h2
  rcases h1 with ⟨hk, ans, K, f, ⟨⟨j, hj, rfl, hans, hD⟩, hm, hdn, hFr⟩, hja, hf0, hFo⟩ | ⟨hk, hp⟩ | ⟨hk, hp⟩
  · have hk0 : k = 0 := by cases hk; rfl
    subst hk0
    subst hdn
    have hok : mOkR (nI j) m := ⟨dkIs_nI hj, hm.1⟩
    rw [if_pos hok, if_pos rfl] at h2
    have hR := h.2.2.1
    obtain ⟨c1, c2, c3, c4, c5⟩ := h.2.2.2.1
    have hG := (h.mid (MK.fr hFr hFo)).2
    have hD2 := hD.keep (H1 := K2) (fun q q1 q2 => hFo.2 q (by omega))
    rcases h2 with ⟨q, _⟩ | ⟨i, hi, hij, _, _, h2⟩
    · exact absurd rfl q
    · have : j = i := nI4 hj hi hij
      subst this
      have hans : ans = (rtV V (V j) m tc 0 wr).1 := by injection hans with h9; injection h9
      obtain ⟨_, _, hh, ss, oo, hI⟩ := hR.1 j hj
      have hrv := rv_eq hR hj hI m
      have hle := (lgPast_le (V j) m ((V j).2.1 - 1) 0).1
      rw [hrv, hR.tn0 hj] at h2
      dsimp only at h2
      generalize hgo : lgPast (V j) m ((V j).2.1 - 1) 0 = go at *
      rcases h2 with ⟨l1, l2, l3, l4⟩ | ⟨l1, l2, l3, l4⟩
      · have hap : rtV V (V j) m tc 0 wr = (0, V j, tc, 0, wr) := by unfold rtV; rw [hgo, if_pos l1]
        rw [hap] at hans hD2
        dsimp only at hD2
        rw [va_up_id] at hD2
        exact ⟨0, l2, J_fin hD2 hR l3 (Mg.of l4) hG hja ⟨c1, c2, by omega, c4, c5⟩ (fun _ => by rw [hf0, hans])⟩
      · obtain ⟨p1, p2, p3, p4, p5, p6⟩ := pw (n := 1) c1 (by decide)
        have hap : rtV V (V j) m tc 0 wr = (if spN tc 1 = 0 then nI go else -3, if spR tc 1 = 0 then V j else rtW V (V j) go, spL tc 1, spN tc 1, wr + spW tc 1) := by
          unfold rtV
          rw [hgo, if_neg l1, p1, p2, p3, p4]
        rw [hap] at hans hD2
        dsimp only at hans hD2
        rcases l4 with ⟨e1, e2⟩ | ⟨e1, A2, e2, e3, e4, e5, e6, e7⟩
        · rw [if_pos e1, va_up_id] at hD2
          exact ⟨_, l2, J_fin hD2 hR e2 (Mg.of l3) hG hja ⟨p5, p6, by omega, c4, c5⟩ (fun _ => by rw [hf0, hans])⟩
        · rw [if_neg e1] at hD2
          have hR2 := rt_new hR hj hI (g := go) (by omega) e3 e4 e5 e6 e7
          have hcl := cK_le (kpR A j (loE hh go (V j).2.2.1)) en
          exact ⟨_, l2, J_fin hD2 hR2 e2 (Mg.of l3) hG hja ⟨p5, p6, by omega, c4, by omega⟩ (fun _ => by rw [hf0, hans])⟩
  · have hk1 : k = 1 := by injection hk with h9; injection h9
    obtain ⟨hG, hno⟩ := thX_IA hp
    have hno : ¬ mOkR x m := fun q => hno ⟨q.1, q.2, i32_max m⟩
    rw [if_neg hno] at h2
    rcases h2 with ⟨_, q2, q3, q4⟩ | ⟨i, hi, rfl, q1, q2, _⟩
    · exact ⟨0, q2, by rw [hk1]; exact J_ref h hG (fun _ _ _ => rfl) q3 (Mg.of q4) (by decide)⟩
    · exact absurd ⟨dkIs_nI hi, q1⟩ hno
  · have hk1 : k = 2 := by injection hk with h9; injection h9
    obtain ⟨hG, hok, hdn⟩ := thX_IS hp
    have hok : mOkR x m := ⟨hok.1, hok.2.1⟩
    rw [if_pos hok, if_neg hdn] at h2
    rcases h2 with ⟨_, q2, q3, q4⟩ | ⟨i, hi, rfl, q1, q2, _⟩
    · exact ⟨0, q2, by rw [hk1]; exact J_ref h hG (fun _ _ _ => rfl) q3 (Mg.of q4) (by decide)⟩
    · exact absurd q2 hdn
end JB
/-! THIN -/
theorem k1000 {k : Int32} (h : 1 ≤ k ∧ k ≤ 1000) : ∃ t : Nat, 1 ≤ t ∧ t ≤ 1000 ∧ k = nI t := by
  have h1 := i32_le.mp h.1
  have h2 := i32_le.mp h.2
  rw [show (1 : Int32).toInt = 1 from rfl] at h1
  rw [show (1000 : Int32).toInt = 1000 from rfl] at h2
  have h3 := clamp_of_int (x := k) (by omega)
  exact ⟨k.toNatClampNeg, by omega, by omega, (nI_tc (by omega)).symm⟩
theorem ceil_eq {al t : Nat} (ha : al ≤ 512) (ht : 1 ≤ t ∧ t ≤ 1000) : (nI al + nI t - 1) / nI t = nI ((al + t - 1) / t) := by
  rw [nI_add, nI_m1 (by omega), nI_div (by omega) (by omega)]
theorem ceil_0 {al t : Nat} (ha : al ≤ 512) (ht : 1 ≤ t ∧ t ≤ 1000) : (nI al + nI t - 1) / nI t = 0 ↔ al = 0 := by
  rw [ceil_eq ha ht]
  have hle : (al + t - 1) / t ≤ al + t - 1 := Nat.div_le_self _ _
  rw [show (0 : Int32) = nI 0 from rfl, nI_eq (by omega) (by decide)]
  constructor
  · intro h
    rcases Nat.eq_zero_or_pos al with q | q
    · exact q
    · have := (Nat.div_eq_zero_iff.mp h)
      omega
  · intro h
    rw [h, Nat.div_eq_of_lt (by omega)]
theorem qT_cnt {t al : Nat} (ha : al ≤ 512) (ht : 1 ≤ t ∧ t ≤ 1000) : al - cK (qT (nI t)) al = (al + t - 1) / t := by
  rw [← cK_mult ht.1 al]
  have h1 : cK (fun _ => true) al = cK (qT (nI t)) al + cK (fun j => decide (j % t = 0)) al := by
    refine cK_add al (fun j hj => ?_)
    have hr := rem_iff (j := j) (k := t) (by omega) (by omega)
    unfold qT
    by_cases q : j % t = 0
    · rw [decide_eq_true (hr.mpr q), decide_eq_true q]; rfl
    · rw [decide_eq_false (fun z => q (hr.mp z)), decide_eq_false q]; rfl
  rw [cK_all al (fun _ _ => rfl)] at h1
  omega
section JT
variable {g : Gx} {z S B : Nat} {P : Nat → Nat} {V : Nat → LV} {bu : Nat → Int32} {A : Nat → Nat → Int32} {C : Nat} {a : Nat → Nat} {tc dn wr cd : Int32} {en pl n : Nat} {H K2 H2 : Heap}
def alV (V : Nat → LV) : Nat → Nat := fun i => lgCl (V i) (V i).2.2.1
def szV (V : Nat → LV) : Nat → Nat → Int32 := fun i => (V i).1 2
set_option maxHeartbeats 1000000 in
theorem th_plan (hSB : dkB S B) (hR : Rel S B V A en) {i : Nat} (hi : i < 4) {h s o : Nat → Nat} (hI : lgI S (V i) h s o) (k : Int32) (hns : 0 < (V i).2.1) :
    (∀ t, t ≤ alV V i → (pRun S B k (szV V i) (pIni A S B) t).2.2.2.2 ≤ 59) ∧ (((tnR B S V (V i) k).1 = 0 ∧ (thP A S B k (alV V i) (szV V i)).1 = 0) ∨ ((tnR B S V (V i) k).1 = 1 ∧ PkI S B (V i) h o k (alV V i) (tnR B S V (V i) k).2.1 (tnR B S V (V i) k).2.2 (thP A S B k (alV V i) (szV V i)))) := by
  have hal : alV V i = loE h ((V i).2.1 - 1) (V i).2.2.1 := lgCl_eq hI _ (Nat.le_refl _)
  obtain ⟨hle, hlo⟩ := loE_all (h := h) (g := (V i).2.1 - 1) (n := (V i).2.2.1) (fun j hj => hI.mono hj)
  have := pk_all (S := S) (B := B) (u := V i) (h := h) (s := s) (o := o) (k := k) (al := alV V i) (s0 := pIni A S B) hSB hI (by rw [hal]; exact hle) (fun j hj => by have := (hlo j (by omega)).mp (by omega); omega) (alV V i) 0 (lgBegin (V i) (V 4)) (mkD B S V 4) (Nat.zero_add _) (pk_ini hSB hR hi k hns)
  exact ⟨fun t ht => this.1 t (Nat.zero_le _) ht, this.2⟩
theorem th_pre (hSB : dkB S B) (hRl : Rel S B V A en) {i : Nat} (hi : i < 4) {k : Int32} (hk : 1 ≤ k ∧ k ≤ 1000) : thPre A S B en i k (alV V i) (szV V i) := by
  obtain ⟨t, t1, t2, rfl⟩ := k1000 hk
  obtain ⟨⟨r1, r2, r3, r4, r5⟩, _, h, s, o, hI⟩ := hRl.1 i hi
  have hal : alV V i = loE h ((V i).2.1 - 1) (V i).2.2.1 := lgCl_eq hI _ (Nat.le_refl _)
  have hle : alV V i ≤ (V i).2.2.1 := by rw [hal]; exact cK_le _ _
  have hb := hI.1
  refine ⟨cl_eq hRl hi hI, by rw [← r3]; exact hle, fun e he a5 => (r5 e he a5 _ rfl).1, ?_, ?_, ?_⟩
  · by_cases hns : 0 < (V i).2.1
    · exact (th_plan hSB hRl hi hI (nI t) hns).1
    · have he : (V i).2.2.1 = 0 := by
        rcases Nat.eq_zero_or_pos (V i).2.2.1 with q | q
        · exact q
        · have := (hI.2.2.2.1 q).2.2.1; omega
      intro j hj
      have : j = 0 := by omega
      rw [this]
      exact Nat.zero_le _
  · intro hP j hj
    by_cases hns : 0 < (V i).2.1
    · rcases (th_plan hSB hRl hi hI (nI t) hns).2 with ⟨_, q⟩ | ⟨_, q⟩
      · exact absurd q hP
      · obtain ⟨⟨p1, p2, p3, p4, p5⟩, ⟨hw, sw, ow, a2, _⟩, a4, a5, a6, a7, _⟩ := q
        have hw := hR_walk (u := V i) (k := nI t) (al := alV V i) (pb := (thP A S B (nI t) (alV V i) (szV V i)).2.2.2.1) hSB.2.1 a2 (fun t ht => (p3 t ht).2) a5 (fun t ht hq => (a7 t ht hq).1) j hj
        have hwb := a2.1.1
        by_cases hz : cK (qT (nI t)) j = 0
        · have := hw.1 hz
          show (hR _ ((V i).1 2) (nI t) j).1 < 60
          rw [this]; decide
        · have h9 := hw.2.1 (by omega)
          show (hR _ ((V i).1 2) (nI t) j).1 < 60
          rw [h9]
          have hmono := cK_mono (qT (nI t)) hj
          have := (a2.2.1 (cK (qT (nI t)) j - 1) (by omega)).2.2.2.1
          show _ < 60
          dsimp only
          omega
    · have he : (V i).2.2.1 = 0 := by
        rcases Nat.eq_zero_or_pos (V i).2.2.1 with q | q
        · exact q
        · have := (hI.2.2.2.1 q).2.2.1; omega
      have : j = 0 := by omega
      rw [this]
      show (0 : Nat) < 60
      decide
  · intro hg
    rw [hRl.tn0 hi]
    rcases Nat.eq_zero_or_pos (V i).2.1 with q | q
    · have he : (V i).2.2.1 = 0 := by
        rcases Nat.eq_zero_or_pos (V i).2.2.1 with q2 | q2
        · exact q2
        · have := (hI.2.2.2.1 q2).2.2.1; omega
      exact absurd ((ceil_0 (by omega) ⟨t1, t2⟩).mpr (by omega)) hg
    · exact q
def cTn (g : Gx) (d S B : Nat) (V : Nat → LV) (tc dn wr i n : Int32) (H : Heap) (r : Option Value) (H1 : Heap) : Prop := (∃ j : Nat, j < 4 ∧ i = nI j ∧ r = some (.int (tnV B S V (V j) n tc dn wr).1) ∧ dkSt g d S B (va_up V j (tnV B S V (V j) n tc dn wr).2.1) (tnV B S V (V j) n tc dn wr).2.2.1 (tnV B S V (V j) n tc dn wr).2.2.2.1 (tnV B S V (V j) n tc dn wr).2.2.2.2 H1) ∧ (1 ≤ n ∧ n ≤ 1000) ∧ dn = 0 ∧ Fr d 38 H H1
set_option maxHeartbeats 2000000 in
theorem J_thin (hSB : dkB S B) (h : JS g z S B P V bu A C a tc dn wr cd en pl n H) {x m k : Int32} {v : Option Value} (h1 : hPo g (z + 51) (cTn g z S B V tc dn wr x m H) (thX (dkIs x ∧ 1 ≤ m ∧ m ≤ 1000) dn H) (some (.int k)) K2) (h2 : mThd g (z + 38) S B C a A cd wr tc dn en pl (alV V) (szV V) x m K2 v H2) : ∃ y, v = some (.int y) ∧ OK2 g z S B (n + 1) k y K2 H2 := by
  unfold mThd at h2
  rw [goC_eq] at h2
  rcases h1 with ⟨hk, ans, K, f, ⟨⟨j, hj, rfl, hans, hD⟩, hm, hdn, hFr⟩, hja, hf0, hFo⟩ | ⟨hk, hp⟩ | ⟨hk, hp⟩
  · have hk0 : k = 0 := by cases hk; rfl
    subst hk0
    subst hdn
    have hok : mOkT (nI j) m := ⟨dkIs_nI hj, hm.1, hm.2⟩
    rw [if_pos hok, if_pos rfl] at h2
    have hRl := h.2.2.1
    obtain ⟨c1, c2, c3, c4, c5⟩ := h.2.2.2.1
    have hG := (h.mid (MK.fr hFr hFo)).2
    have hD2 := hD.keep (H1 := K2) (fun q q1 q2 => hFo.2 q (by omega))
    rcases h2 with ⟨q, _⟩ | ⟨i, hi, hij, _, _, P9, eP, h2⟩
    · exact absurd rfl q
    · have : j = i := nI4 hj hi hij
      subst this
      have hans : ans = (tnV B S V (V j) m tc 0 wr).1 := by injection hans with h9; injection h9
      obtain ⟨⟨r1, r2, r3, r4, r5⟩, _, hh, ss, oo, hI⟩ := hRl.1 j hj
      have hb := hI.1
      have hal : alV V j = loE hh ((V j).2.1 - 1) (V j).2.2.1 := lgCl_eq hI _ (Nat.le_refl _)
      have hale : alV V j ≤ (V j).2.2.1 := by rw [hal]; exact cK_le _ _
      obtain ⟨t, t1, t2, rfl⟩ := k1000 hm
      have hc0 := ceil_0 (al := alV V j) (t := t) (by omega) ⟨t1, t2⟩
      have hce := ceil_eq (al := alV V j) (t := t) (by omega) ⟨t1, t2⟩
      rcases h2 with ⟨l1, l2, l3, l4⟩ | ⟨l1, w1, l2, l3, l4⟩ | ⟨l1, w1, l2, l3, l4⟩
      · have hap : tnV B S V (V j) (nI t) tc 0 wr = (0, V j, tc, 0, wr) := by unfold tnV; rw [if_pos (show lgCl (V j) (V j).2.2.1 = 0 from hc0.mp l1)]
        rw [hap] at hans hD2
        dsimp only at hD2
        rw [va_up_id] at hD2
        exact ⟨0, l2, J_fin hD2 hRl l3 (Mg.of l4) hG hja ⟨c1, c2, by omega, c4, c5⟩ (fun _ => by rw [hf0, hans])⟩
      · have ha0 : ¬ lgCl (V j) (V j).2.2.1 = 0 := fun q => l1 (hc0.mpr q)
        have hns : 0 < (V j).2.1 := by
          rcases Nat.eq_zero_or_pos (V j).2.1 with q | q
          · have h9 : alV V j ≠ 0 := ha0
            have := (hI.2.2.2.1 (by omega)).2.2.1; omega
          · exact q
        rcases (th_plan hSB hRl hj hI (nI t) hns).2 with ⟨q1, q2⟩ | ⟨q1, q2⟩
        · have hap : tnV B S V (V j) (nI t) tc 0 wr = (-2, V j, tc, 0, wr) := by unfold tnV; rw [if_neg ha0, if_pos q1]
          rw [hap] at hans hD2
          dsimp only at hD2
          rw [va_up_id] at hD2
          exact ⟨-2, l2, J_fin hD2 (hRl.cong (fun q e1 e2 => by unfold mPA; rw [va_up_ne _ _ (by omega), va_up_ne _ _ (by omega), va_up_ne _ _ e2]) (fun _ _ => rfl)) l3 (Mg.of l4) hG hja ⟨c1, c2, by omega, c4, c5⟩ (fun _ => by rw [hf0, hans])⟩
        · rw [← eP] at q2
          exact absurd (q2.1.1.symm.trans w1) (by decide)
      · have ha0 : ¬ lgCl (V j) (V j).2.2.1 = 0 := fun q => l1 (hc0.mpr q)
        have hns : 0 < (V j).2.1 := by
          rcases Nat.eq_zero_or_pos (V j).2.1 with q | q
          · have h9 : alV V j ≠ 0 := ha0
            have := (hI.2.2.2.1 (by omega)).2.2.1; omega
          · exact q
        rcases (th_plan hSB hRl hj hI (nI t) hns).2 with ⟨q1, q2⟩ | ⟨q1, q2⟩
        · exact absurd (by rw [eP]; exact q2) w1
        · rw [← eP] at q2
          obtain ⟨⟨p1, p2, p3, p4, p5⟩, ⟨hw, sw, ow, a2, _⟩, a4, a5, _⟩ := id q2
          obtain ⟨mm, m1, m2, m3⟩ := bf_tb hSB.2.1 a2 (pb := P9.2.2.2.1) (fun t ht => (p3 t ht).2) _ (Nat.le_refl _)
          have hwb := a2.1.1
          have hC : tnC B S V (V j) (nI t) = mTB P9.2.2.2.1 P9.2.2.2.2 := by
            unfold tnC; rw [m1, nI_1, p2, m3]
          have hpos : 0 < mTB P9.2.2.2.1 P9.2.2.2.2 := by rw [p2, m3]; exact i32_nle.mp (nI_nle (by omega) (by omega))
          obtain ⟨u1, u2, u3, u4, u5, u6⟩ := pw c1 hpos
          have hgone : nI (lgCl (V j) (V j).2.2.1) - nI (tnR B S V (V j) (nI t)).2.1.2.2.1 = (nI (alV V j) + nI t - 1) / nI t := by
            rw [a5, hce, ← qT_cnt (by omega) ⟨t1, t2⟩]
            exact pk_sub (cK_le _ _)
          have hap : tnV B S V (V j) (nI t) tc 0 wr = (if spN tc (mTB P9.2.2.2.1 P9.2.2.2.2) = 0 then (nI (alV V j) + nI t - 1) / nI t else -3, if spR tc (mTB P9.2.2.2.1 P9.2.2.2.2) = 0 then V j else tnW B S V (V j) (nI t), spL tc (mTB P9.2.2.2.1 P9.2.2.2.2), spN tc (mTB P9.2.2.2.1 P9.2.2.2.2), wr + spW tc (mTB P9.2.2.2.1 P9.2.2.2.2)) := by
            unfold tnV
            rw [if_neg ha0, if_neg (by rw [q1]; decide), hC, hgone, u1, u2, u3, u4]
          rw [hap] at hans hD2
          dsimp only at hans hD2
          rcases l4 with ⟨e1, e2⟩ | ⟨e1, A3, e2, e3⟩
          · rw [if_pos e1, va_up_id] at hD2
            exact ⟨_, l2, J_fin hD2 (hRl.cong (fun q e1 e2 => by unfold mPA; rw [va_up_ne _ _ (by omega), va_up_ne _ _ (by omega), va_up_ne _ _ e2]) (fun _ _ => rfl)) e2 (Mg.of l3) hG hja ⟨u5, u6, by omega, c4, c5⟩ (fun _ => by rw [hf0, hans])⟩
          · rw [if_neg e1] at hD2
            have hcl := cK_le (kpT (mPA A P9) j (alV V j) (nI t)) en
            have hap0 : 0 < alV V j := Nat.pos_of_ne_zero ha0
            rw [hal] at q2 e3 e2 hcl hap0
            have hR2 := th_new hSB hRl hj hI (nI t) hap0 q2 e3
            exact ⟨_, l2, J_fin hD2 hR2 e2 (Mg.of l3) hG hja ⟨u5, u6, by omega, c4, by omega⟩ (fun _ => by rw [hf0, hans])⟩
  · have hk1 : k = 1 := by injection hk with h9; injection h9
    obtain ⟨hG, hno⟩ := thX_IA hp
    have hno : ¬ mOkT x m := fun q => hno ⟨q.1, q.2.1, q.2.2⟩
    rw [if_neg hno] at h2
    rcases h2 with ⟨_, q2, q3, q4⟩ | ⟨i, hi, rfl, q1, q2, _⟩
    · exact ⟨0, q2, by rw [hk1]; exact J_ref h hG (fun _ _ _ => rfl) q3 (Mg.of q4) (by decide)⟩
    · exact absurd ⟨dkIs_nI hi, q1⟩ hno
  · have hk1 : k = 2 := by injection hk with h9; injection h9
    obtain ⟨hG, hok, hdn⟩ := thX_IS hp
    have hok : mOkT x m := ⟨hok.1, hok.2.1, hok.2.2⟩
    rw [if_pos hok, if_neg hdn] at h2
    rcases h2 with ⟨_, q2, q3, q4⟩ | ⟨i, hi, rfl, q1, q2, _⟩
    · exact ⟨0, q2, by rw [hk1]; exact J_ref h hG (fun _ _ _ => rfl) q3 (Mg.of q4) (by decide)⟩
    · exact absurd q2 hdn
end JT
