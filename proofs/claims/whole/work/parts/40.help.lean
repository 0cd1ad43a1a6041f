/-- what a helper answers: 0 and the answer in the row, or which refusal was caught -/
def hPo (g : Gx) (oa : Nat) (post : Option Value → Heap → Prop) (px : String → Heap → Prop) (v : Option Value) (H1 : Heap) : Prop := (v = some (.int 0) ∧ ∃ (ans : Int32) (K : Heap) (f : Nat → Int64), post (some (.int ans)) K ∧ ja g oa 1 f H1 ∧ f 0 = ans.toInt64 ∧ Fo oa K H1) ∨ (v = some (.int 1) ∧ px nIA H1) ∨ (v = some (.int 2) ∧ px nIS H1)
def hPv (post : Option Value → Heap → Prop) (px : String → Heap → Prop) (v : Option Value) (H1 : Heap) : Prop := (v = some (.int 0) ∧ post none H1) ∨ (v = some (.int 1) ∧ px nIA H1) ∨ (v = some (.int 2) ∧ px nIS H1)
def hPf (g : Gx) (oa : Nat) (post : Option Value → Heap → Prop) (px : String → Heap → Prop) (v : Option Value) (H1 : Heap) : Prop := (v = some (.int 0) ∧ ∃ (ans : Int32) (K : Heap) (f : Nat → Int64), post (some (.int ans)) K ∧ ja g oa 1 f H1 ∧ f 0 = ans.toInt64 ∧ Fo oa K H1) ∨ (v = some (.int 1) ∧ px nIS H1)
theorem vp01 : vp_in (0 : Int32) 1 := vp_in_nI (n := 0) (by decide) (by decide)
theorem updL0 {f : Nat → Int64} {x : Int64} : vp_updL f (0 : Int32).toNatClampNeg x 0 = x := by simp [vp_updL]
set_option maxHeartbeats 1000000 in
theorem e_append (g : Gx) (z : Nat) (sa : Nat → Nat) (l : Launch) (d oa : Nat) (x n b : Int32) (fs : List Value) (H : Heap) {mc ms : Nat} {post : Option Value → Heap → Prop} {px : String → Heap → Prop} {F : Nat → Prop} (hd : ob g d 1 fs H) (hM : HX g z sa l yX1_append cX1_append 10 (some .int) 7 112 mc ms [.ref d, .int x, .int n, .int b] H post px F) (hv : ∀ v K, post v K → ∃ ans : Int32, v = some (.int ans)) (hj : ∀ v K, post v K → ∃ f, ja g oa 1 f K) (hx : ∀ E K, px E K → E = nIA ∨ E = nIS) : HL g z sa l yL_append cL_append 6 [(0, 12, 15, 13), (0, 12, 19, 15)] 8 141 mc ms [.ref d, .int x, .int n, .int b, .ref oa] H (hPo g oa post px) (fun q => F q ∨ q = oa) := by
  refine HL.ofW (by decide) (Nat.le_of_ble_eq_true rfl) (by simp [Value.category]) ?_
  intro p e s m args below meth c ls G hr hml hlocks htb hH hXs hN hl
  have hl : lh ls 6 [some (.ref d), some (.int x), some (.int n), some (.int b), some (.ref oa), none] := hl
  refine hb_aload G dL_append_0 hl rfl ?_
  refine lv_iconst (v := 0) G.1 G.2.1 dL_append_2 (by decide) ?_
  refine hb_aload_n G dL_append_3 hl rfl ?_
  refine hb_iload_n G dL_append_4 hl rfl ?_
  refine hb_iload_n G dL_append_5 hl rfl ?_
  refine hb_iload_n G dL_append_6 hl rfl ?_
  refine hx_callV (A := fun q => F q ∨ q = oa) (As := [.int x, .int n, .int b]) (rest := [.int 0, .ref oa]) G hXs hml hM hd rfl km_L_7 ki_X1_append ks_X1_append kn_X1 ko_X1_append hd_X1_append ⟨Nat.le_of_ble_eq_true rfl, Nat.le_of_ble_eq_true rfl⟩ hl.size rfl (Nat.le_of_ble_eq_true rfl) dL_append_7 ⟨Nat.le_of_eq (Nat.zero_add _), Nat.le_of_eq (Nat.zero_add _)⟩ (fun q h => by cases h) (fun q h => Or.inl h) (fun E ce q9 K9 locs9 hp hL h1 h2 h3 => ?_) (fun v1 K1 locs1 hp hL => ?_)
  · rcases hx E K9 hp with rfl | rfl
    · refine vx_catch (own := RL) (name := nIA) G.2.2.1 [] ⟨0, 12, 15, 13⟩ [⟨0, 12, 19, 15⟩] htb (fun q9 h9 => by cases h9) (by decide) (by decide) (G.2.2.2.1 _ kc_L_13) (va_Nw.use (nbIA_ot _ List.mem_cons_self) (hXs.2.2.2.1.1 _ List.mem_cons_self)) h1 h2 h3 ?_
      refine hb_astore G dL_append_15 hl (by decide) (fun ls hl => ?_)
      refine lv_iconst (v := 1) G.1 G.2.1 dL_append_17 (by decide) ?_
      exact hx_iret G hr hlocks (Or.inr (Or.inl ⟨rfl, hp⟩)) hL (Nat.le_of_eq (Nat.zero_add _)) (Nat.le_of_eq (Nat.zero_add _)) dL_append_18
    · refine vx_catch (own := RL) (name := nIS) G.2.2.1 [⟨0, 12, 15, 13⟩] ⟨0, 12, 19, 15⟩ [] htb (fun q9 h9 => by
          have h8 : q9 = ⟨0, 12, 15, 13⟩ := by simpa using h9
          subst h8
          exact Or.inr ⟨by decide, nIA, G.2.2.2.1 _ kc_L_13, hN⟩) (by decide) (by decide) (G.2.2.2.1 _ kc_L_15) (va_Nw.use (nbIS_ot _ List.mem_cons_self) (hXs.2.2.2.1.2 _ List.mem_cons_self)) h1 h2 h3 ?_
      refine hb_astore G dL_append_19 hl (by decide) (fun ls hl => ?_)
      refine lv_iconst (v := 2) G.1 G.2.1 dL_append_21 (by decide) ?_
      exact hx_iret G hr hlocks (Or.inr (Or.inr ⟨rfl, hp⟩)) hL (Nat.le_of_eq (Nat.zero_add _)) (Nat.le_of_eq (Nat.zero_add _)) dL_append_22
  · obtain ⟨ans, rfl⟩ := hv _ _ hp
    obtain ⟨f, hf⟩ := hj _ _ hp
    refine lv_i2l (v := ans.toInt64) G.1 G.2.1 dL_append_10 rfl ?_
    refine hb_jast (A := fun q => F q ∨ q = oa) G hf vp01 hL (Or.inr rfl) dL_append_11 (fun K2 locs2 hj2 hz2 ho2 hL => ?_)
    refine lv_goto (tgt := 23) G.1 G.2.1 dL_append_12 (by decide) ?_
    refine lv_iconst (v := 0) G.1 G.2.1 dL_append_23 (by decide) ?_
    exact hx_iret G hr hlocks (Or.inl ⟨rfl, ans, K1, _, hp, hj2, updL0, hz2, ho2⟩) hL (Nat.le_of_eq (Nat.zero_add _)) (Nat.le_of_eq (Nat.zero_add _)) dL_append_24
set_option maxHeartbeats 1000000 in
theorem e_retain (g : Gx) (z : Nat) (sa : Nat → Nat) (l : Launch) (d oa : Nat) (x n : Int32) (fs : List Value) (H : Heap) {mc ms : Nat} {post : Option Value → Heap → Prop} {px : String → Heap → Prop} {F : Nat → Prop} (hd : ob g d 1 fs H) (hM : HX g z sa l yX1_retain cX1_retain 5 (some .int) 7 112 mc ms [.ref d, .int x, .int n] H post px F) (hv : ∀ v K, post v K → ∃ ans : Int32, v = some (.int ans)) (hj : ∀ v K, post v K → ∃ f, ja g oa 1 f K) (hx : ∀ E K, px E K → E = nIA ∨ E = nIS) : HL g z sa l yL_retain cL_retain 5 [(0, 10, 13, 13), (0, 10, 17, 15)] 8 136 mc ms [.ref d, .int x, .int n, .ref oa] H (hPo g oa post px) (fun q => F q ∨ q = oa) := by
  refine HL.ofW (by decide) (Nat.le_of_ble_eq_true rfl) (by simp [Value.category]) ?_
  intro p e s m args below meth c ls G hr hml hlocks htb hH hXs hN hl
  have hl : lh ls 5 [some (.ref d), some (.int x), some (.int n), some (.ref oa), none] := hl
  refine hb_aload_n G dL_retain_0 hl rfl ?_
  refine lv_iconst (v := 0) G.1 G.2.1 dL_retain_1 (by decide) ?_
  refine hb_aload_n G dL_retain_2 hl rfl ?_
  refine hb_iload_n G dL_retain_3 hl rfl ?_
  refine hb_iload_n G dL_retain_4 hl rfl ?_
  refine hx_callV (A := fun q => F q ∨ q = oa) (As := [.int x, .int n]) (rest := [.int 0, .ref oa]) G hXs hml hM hd rfl km_L_17 ki_X1_retain ks_X1_retain kn_X1 ko_X1_retain hd_X1_retain ⟨Nat.le_of_ble_eq_true rfl, Nat.le_of_ble_eq_true rfl⟩ hl.size rfl (Nat.le_of_ble_eq_true rfl) dL_retain_5 ⟨Nat.le_of_eq (Nat.zero_add _), Nat.le_of_eq (Nat.zero_add _)⟩ (fun q h => by cases h) (fun q h => Or.inl h) (fun E ce q9 K9 locs9 hp hL h1 h2 h3 => ?_) (fun v1 K1 locs1 hp hL => ?_)
  · rcases hx E K9 hp with rfl | rfl
    · refine vx_catch (own := RL) (name := nIA) G.2.2.1 [] ⟨0, 10, 13, 13⟩ [⟨0, 10, 17, 15⟩] htb (fun q9 h9 => by cases h9) (by decide) (by decide) (G.2.2.2.1 _ kc_L_13) (va_Nw.use (nbIA_ot _ List.mem_cons_self) (hXs.2.2.2.1.1 _ List.mem_cons_self)) h1 h2 h3 ?_
      refine hb_astore G dL_retain_13 hl (by decide) (fun ls hl => ?_)
      refine lv_iconst (v := 1) G.1 G.2.1 dL_retain_15 (by decide) ?_
      exact hx_iret G hr hlocks (Or.inr (Or.inl ⟨rfl, hp⟩)) hL (Nat.le_of_eq (Nat.zero_add _)) (Nat.le_of_eq (Nat.zero_add _)) dL_retain_16
    · refine vx_catch (own := RL) (name := nIS) G.2.2.1 [⟨0, 10, 13, 13⟩] ⟨0, 10, 17, 15⟩ [] htb (fun q9 h9 => by
          have h8 : q9 = ⟨0, 10, 13, 13⟩ := by simpa using h9
          subst h8
          exact Or.inr ⟨by decide, nIA, G.2.2.2.1 _ kc_L_13, hN⟩) (by decide) (by decide) (G.2.2.2.1 _ kc_L_15) (va_Nw.use (nbIS_ot _ List.mem_cons_self) (hXs.2.2.2.1.2 _ List.mem_cons_self)) h1 h2 h3 ?_
      refine hb_astore G dL_retain_17 hl (by decide) (fun ls hl => ?_)
      refine lv_iconst (v := 2) G.1 G.2.1 dL_retain_19 (by decide) ?_
      exact hx_iret G hr hlocks (Or.inr (Or.inr ⟨rfl, hp⟩)) hL (Nat.le_of_eq (Nat.zero_add _)) (Nat.le_of_eq (Nat.zero_add _)) dL_retain_20
  · obtain ⟨ans, rfl⟩ := hv _ _ hp
    obtain ⟨f, hf⟩ := hj _ _ hp
    refine lv_i2l (v := ans.toInt64) G.1 G.2.1 dL_retain_8 rfl ?_
    refine hb_jast (A := fun q => F q ∨ q = oa) G hf vp01 hL (Or.inr rfl) dL_retain_9 (fun K2 locs2 hj2 hz2 ho2 hL => ?_)
    refine lv_goto (tgt := 21) G.1 G.2.1 dL_retain_10 (by decide) ?_
    refine lv_iconst (v := 0) G.1 G.2.1 dL_retain_21 (by decide) ?_
    exact hx_iret G hr hlocks (Or.inl ⟨rfl, ans, K1, _, hp, hj2, updL0, hz2, ho2⟩) hL (Nat.le_of_eq (Nat.zero_add _)) (Nat.le_of_eq (Nat.zero_add _)) dL_retain_22
set_option maxHeartbeats 1000000 in
theorem e_thin (g : Gx) (z : Nat) (sa : Nat → Nat) (l : Launch) (d oa : Nat) (x n : Int32) (fs : List Value) (H : Heap) {mc ms : Nat} {post : Option Value → Heap → Prop} {px : String → Heap → Prop} {F : Nat → Prop} (hd : ob g d 1 fs H) (hM : HX g z sa l yX1_thin cX1_thin 7 (some .int) 7 114 mc ms [.ref d, .int x, .int n] H post px F) (hv : ∀ v K, post v K → ∃ ans : Int32, v = some (.int ans)) (hj : ∀ v K, post v K → ∃ f, ja g oa 1 f K) (hx : ∀ E K, px E K → E = nIA ∨ E = nIS) : HL g z sa l yL_thin cL_thin 5 [(0, 10, 13, 13), (0, 10, 17, 15)] 8 140 mc ms [.ref d, .int x, .int n, .ref oa] H (hPo g oa post px) (fun q => F q ∨ q = oa) := by
  refine HL.ofW (by decide) (Nat.le_of_ble_eq_true rfl) (by simp [Value.category]) ?_
  intro p e s m args below meth c ls G hr hml hlocks htb hH hXs hN hl
  have hl : lh ls 5 [some (.ref d), some (.int x), some (.int n), some (.ref oa), none] := hl
  refine hb_aload_n G dL_thin_0 hl rfl ?_
  refine lv_iconst (v := 0) G.1 G.2.1 dL_thin_1 (by decide) ?_
  refine hb_aload_n G dL_thin_2 hl rfl ?_
  refine hb_iload_n G dL_thin_3 hl rfl ?_
  refine hb_iload_n G dL_thin_4 hl rfl ?_
  refine hx_callV (A := fun q => F q ∨ q = oa) (As := [.int x, .int n]) (rest := [.int 0, .ref oa]) G hXs hml hM hd rfl km_L_21 ki_X1_thin ks_X1_thin kn_X1 ko_X1_thin hd_X1_thin ⟨Nat.le_of_ble_eq_true rfl, Nat.le_of_ble_eq_true rfl⟩ hl.size rfl (Nat.le_of_ble_eq_true rfl) dL_thin_5 ⟨Nat.le_of_eq (Nat.zero_add _), Nat.le_of_eq (Nat.zero_add _)⟩ (fun q h => by cases h) (fun q h => Or.inl h) (fun E ce q9 K9 locs9 hp hL h1 h2 h3 => ?_) (fun v1 K1 locs1 hp hL => ?_)
  · rcases hx E K9 hp with rfl | rfl
    · refine vx_catch (own := RL) (name := nIA) G.2.2.1 [] ⟨0, 10, 13, 13⟩ [⟨0, 10, 17, 15⟩] htb (fun q9 h9 => by cases h9) (by decide) (by decide) (G.2.2.2.1 _ kc_L_13) (va_Nw.use (nbIA_ot _ List.mem_cons_self) (hXs.2.2.2.1.1 _ List.mem_cons_self)) h1 h2 h3 ?_
      refine hb_astore G dL_thin_13 hl (by decide) (fun ls hl => ?_)
      refine lv_iconst (v := 1) G.1 G.2.1 dL_thin_15 (by decide) ?_
      exact hx_iret G hr hlocks (Or.inr (Or.inl ⟨rfl, hp⟩)) hL (Nat.le_of_eq (Nat.zero_add _)) (Nat.le_of_eq (Nat.zero_add _)) dL_thin_16
    · refine vx_catch (own := RL) (name := nIS) G.2.2.1 [⟨0, 10, 13, 13⟩] ⟨0, 10, 17, 15⟩ [] htb (fun q9 h9 => by
          have h8 : q9 = ⟨0, 10, 13, 13⟩ := by simpa using h9
          subst h8
          exact Or.inr ⟨by decide, nIA, G.2.2.2.1 _ kc_L_13, hN⟩) (by decide) (by decide) (G.2.2.2.1 _ kc_L_15) (va_Nw.use (nbIS_ot _ List.mem_cons_self) (hXs.2.2.2.1.2 _ List.mem_cons_self)) h1 h2 h3 ?_
      refine hb_astore G dL_thin_17 hl (by decide) (fun ls hl => ?_)
      refine lv_iconst (v := 2) G.1 G.2.1 dL_thin_19 (by decide) ?_
      exact hx_iret G hr hlocks (Or.inr (Or.inr ⟨rfl, hp⟩)) hL (Nat.le_of_eq (Nat.zero_add _)) (Nat.le_of_eq (Nat.zero_add _)) dL_thin_20
  · obtain ⟨ans, rfl⟩ := hv _ _ hp
    obtain ⟨f, hf⟩ := hj _ _ hp
    refine lv_i2l (v := ans.toInt64) G.1 G.2.1 dL_thin_8 rfl ?_
    refine hb_jast (A := fun q => F q ∨ q = oa) G hf vp01 hL (Or.inr rfl) dL_thin_9 (fun K2 locs2 hj2 hz2 ho2 hL => ?_)
    refine lv_goto (tgt := 21) G.1 G.2.1 dL_thin_10 (by decide) ?_
    refine lv_iconst (v := 0) G.1 G.2.1 dL_thin_21 (by decide) ?_
    exact hx_iret G hr hlocks (Or.inl ⟨rfl, ans, K1, _, hp, hj2, updL0, hz2, ho2⟩) hL (Nat.le_of_eq (Nat.zero_add _)) (Nat.le_of_eq (Nat.zero_add _)) dL_thin_22
set_option maxHeartbeats 1000000 in
theorem e_log (g : Gx) (z : Nat) (sa : Nat → Nat) (l : Launch) (d oa : Nat) (x n : Int32) (fs : List Value) (H : Heap) {mc ms : Nat} {post : Option Value → Heap → Prop} {px : String → Heap → Prop} {F : Nat → Prop} (hd : ob g d 1 fs H) (hM : HX g z sa l yX1_log cX1_log 4 (some .int) 7 112 mc ms [.ref d, .int x, .int n] H post px F) (hv : ∀ v K, post v K → ∃ ans : Int32, v = some (.int ans)) (hj : ∀ v K, post v K → ∃ f, ja g oa 1 f K) (hx : ∀ E K, px E K → E = nIA ∨ E = nIS) : HL g z sa l yL_log cL_log 5 [(0, 10, 13, 13), (0, 10, 17, 15)] 8 135 mc ms [.ref d, .int x, .int n, .ref oa] H (hPo g oa post px) (fun q => F q ∨ q = oa) := by
  refine HL.ofW (by decide) (Nat.le_of_ble_eq_true rfl) (by simp [Value.category]) ?_
  intro p e s m args below meth c ls G hr hml hlocks htb hH hXs hN hl
  have hl : lh ls 5 [some (.ref d), some (.int x), some (.int n), some (.ref oa), none] := hl
  refine hb_aload_n G dL_log_0 hl rfl ?_
  refine lv_iconst (v := 0) G.1 G.2.1 dL_log_1 (by decide) ?_
  refine hb_aload_n G dL_log_2 hl rfl ?_
  refine hb_iload_n G dL_log_3 hl rfl ?_
  refine hb_iload_n G dL_log_4 hl rfl ?_
  refine hx_callV (A := fun q => F q ∨ q = oa) (As := [.int x, .int n]) (rest := [.int 0, .ref oa]) G hXs hml hM hd rfl km_L_24 ki_X1_log ks_X1_log kn_X1 ko_X1_log hd_X1_log ⟨Nat.le_of_ble_eq_true rfl, Nat.le_of_ble_eq_true rfl⟩ hl.size rfl (Nat.le_of_ble_eq_true rfl) dL_log_5 ⟨Nat.le_of_eq (Nat.zero_add _), Nat.le_of_eq (Nat.zero_add _)⟩ (fun q h => by cases h) (fun q h => Or.inl h) (fun E ce q9 K9 locs9 hp hL h1 h2 h3 => ?_) (fun v1 K1 locs1 hp hL => ?_)
  · rcases hx E K9 hp with rfl | rfl
    · refine vx_catch (own := RL) (name := nIA) G.2.2.1 [] ⟨0, 10, 13, 13⟩ [⟨0, 10, 17, 15⟩] htb (fun q9 h9 => by cases h9) (by decide) (by decide) (G.2.2.2.1 _ kc_L_13) (va_Nw.use (nbIA_ot _ List.mem_cons_self) (hXs.2.2.2.1.1 _ List.mem_cons_self)) h1 h2 h3 ?_
      refine hb_astore G dL_log_13 hl (by decide) (fun ls hl => ?_)
      refine lv_iconst (v := 1) G.1 G.2.1 dL_log_15 (by decide) ?_
      exact hx_iret G hr hlocks (Or.inr (Or.inl ⟨rfl, hp⟩)) hL (Nat.le_of_eq (Nat.zero_add _)) (Nat.le_of_eq (Nat.zero_add _)) dL_log_16
    · refine vx_catch (own := RL) (name := nIS) G.2.2.1 [⟨0, 10, 13, 13⟩] ⟨0, 10, 17, 15⟩ [] htb (fun q9 h9 => by
          have h8 : q9 = ⟨0, 10, 13, 13⟩ := by simpa using h9
          subst h8
          exact Or.inr ⟨by decide, nIA, G.2.2.2.1 _ kc_L_13, hN⟩) (by decide) (by decide) (G.2.2.2.1 _ kc_L_15) (va_Nw.use (nbIS_ot _ List.mem_cons_self) (hXs.2.2.2.1.2 _ List.mem_cons_self)) h1 h2 h3 ?_
      refine hb_astore G dL_log_17 hl (by decide) (fun ls hl => ?_)
      refine lv_iconst (v := 2) G.1 G.2.1 dL_log_19 (by decide) ?_
      exact hx_iret G hr hlocks (Or.inr (Or.inr ⟨rfl, hp⟩)) hL (Nat.le_of_eq (Nat.zero_add _)) (Nat.le_of_eq (Nat.zero_add _)) dL_log_20
  · obtain ⟨ans, rfl⟩ := hv _ _ hp
    obtain ⟨f, hf⟩ := hj _ _ hp
    refine lv_i2l (v := ans.toInt64) G.1 G.2.1 dL_log_8 rfl ?_
    refine hb_jast (A := fun q => F q ∨ q = oa) G hf vp01 hL (Or.inr rfl) dL_log_9 (fun K2 locs2 hj2 hz2 ho2 hL => ?_)
    refine lv_goto (tgt := 21) G.1 G.2.1 dL_log_10 (by decide) ?_
    refine lv_iconst (v := 0) G.1 G.2.1 dL_log_21 (by decide) ?_
    exact hx_iret G hr hlocks (Or.inl ⟨rfl, ans, K1, _, hp, hj2, updL0, hz2, ho2⟩) hL (Nat.le_of_eq (Nat.zero_add _)) (Nat.le_of_eq (Nat.zero_add _)) dL_log_22
set_option maxHeartbeats 1000000 in
theorem e_entry (g : Gx) (z : Nat) (sa : Nat → Nat) (l : Launch) (d oa : Nat) (x n b : Int32) (fs : List Value) (H : Heap) {mc ms : Nat} {post : Option Value → Heap → Prop} {px : String → Heap → Prop} {F : Nat → Prop} (hd : ob g d 1 fs H) (hM : HX g z sa l yX1_entry cX1_entry 5 (some .int) 7 112 mc ms [.ref d, .int x, .int n, .int b] H post px F) (hv : ∀ v K, post v K → ∃ ans : Int32, v = some (.int ans)) (hj : ∀ v K, post v K → ∃ f, ja g oa 1 f K) (hx : ∀ E K, px E K → E = nIA ∨ E = nIS) : HL g z sa l yL_entry cL_entry 6 [(0, 12, 15, 13), (0, 12, 19, 15)] 8 136 mc ms [.ref d, .int x, .int n, .int b, .ref oa] H (hPo g oa post px) (fun q => F q ∨ q = oa) := by
  refine HL.ofW (by decide) (Nat.le_of_ble_eq_true rfl) (by simp [Value.category]) ?_
  intro p e s m args below meth c ls G hr hml hlocks htb hH hXs hN hl
  have hl : lh ls 6 [some (.ref d), some (.int x), some (.int n), some (.int b), some (.ref oa), none] := hl
  refine hb_aload G dL_entry_0 hl rfl ?_
  refine lv_iconst (v := 0) G.1 G.2.1 dL_entry_2 (by decide) ?_
  refine hb_aload_n G dL_entry_3 hl rfl ?_
  refine hb_iload_n G dL_entry_4 hl rfl ?_
  refine hb_iload_n G dL_entry_5 hl rfl ?_
  refine hb_iload_n G dL_entry_6 hl rfl ?_
  refine hx_callV (A := fun q => F q ∨ q = oa) (As := [.int x, .int n, .int b]) (rest := [.int 0, .ref oa]) G hXs hml hM hd rfl km_L_27 ki_X1_entry ks_X1_entry kn_X1 ko_X1_entry hd_X1_entry ⟨Nat.le_of_ble_eq_true rfl, Nat.le_of_ble_eq_true rfl⟩ hl.size rfl (Nat.le_of_ble_eq_true rfl) dL_entry_7 ⟨Nat.le_of_eq (Nat.zero_add _), Nat.le_of_eq (Nat.zero_add _)⟩ (fun q h => by cases h) (fun q h => Or.inl h) (fun E ce q9 K9 locs9 hp hL h1 h2 h3 => ?_) (fun v1 K1 locs1 hp hL => ?_)
  · rcases hx E K9 hp with rfl | rfl
    · refine vx_catch (own := RL) (name := nIA) G.2.2.1 [] ⟨0, 12, 15, 13⟩ [⟨0, 12, 19, 15⟩] htb (fun q9 h9 => by cases h9) (by decide) (by decide) (G.2.2.2.1 _ kc_L_13) (va_Nw.use (nbIA_ot _ List.mem_cons_self) (hXs.2.2.2.1.1 _ List.mem_cons_self)) h1 h2 h3 ?_
      refine hb_astore G dL_entry_15 hl (by decide) (fun ls hl => ?_)
      refine lv_iconst (v := 1) G.1 G.2.1 dL_entry_17 (by decide) ?_
      exact hx_iret G hr hlocks (Or.inr (Or.inl ⟨rfl, hp⟩)) hL (Nat.le_of_eq (Nat.zero_add _)) (Nat.le_of_eq (Nat.zero_add _)) dL_entry_18
    · refine vx_catch (own := RL) (name := nIS) G.2.2.1 [⟨0, 12, 15, 13⟩] ⟨0, 12, 19, 15⟩ [] htb (fun q9 h9 => by
          have h8 : q9 = ⟨0, 12, 15, 13⟩ := by simpa using h9
          subst h8
          exact Or.inr ⟨by decide, nIA, G.2.2.2.1 _ kc_L_13, hN⟩) (by decide) (by decide) (G.2.2.2.1 _ kc_L_15) (va_Nw.use (nbIS_ot _ List.mem_cons_self) (hXs.2.2.2.1.2 _ List.mem_cons_self)) h1 h2 h3 ?_
      refine hb_astore G dL_entry_19 hl (by decide) (fun ls hl => ?_)
      refine lv_iconst (v := 2) G.1 G.2.1 dL_entry_21 (by decide) ?_
      exact hx_iret G hr hlocks (Or.inr (Or.inr ⟨rfl, hp⟩)) hL (Nat.le_of_eq (Nat.zero_add _)) (Nat.le_of_eq (Nat.zero_add _)) dL_entry_22
  · obtain ⟨ans, rfl⟩ := hv _ _ hp
    obtain ⟨f, hf⟩ := hj _ _ hp
    refine lv_i2l (v := ans.toInt64) G.1 G.2.1 dL_entry_10 rfl ?_
    refine hb_jast (A := fun q => F q ∨ q = oa) G hf vp01 hL (Or.inr rfl) dL_entry_11 (fun K2 locs2 hj2 hz2 ho2 hL => ?_)
    refine lv_goto (tgt := 23) G.1 G.2.1 dL_entry_12 (by decide) ?_
    refine lv_iconst (v := 0) G.1 G.2.1 dL_entry_23 (by decide) ?_
    exact hx_iret G hr hlocks (Or.inl ⟨rfl, ans, K1, _, hp, hj2, updL0, hz2, ho2⟩) hL (Nat.le_of_eq (Nat.zero_add _)) (Nat.le_of_eq (Nat.zero_add _)) dL_entry_24
set_option maxHeartbeats 1000000 in
theorem e_byteAt (g : Gx) (z : Nat) (sa : Nat → Nat) (l : Launch) (d oa : Nat) (x n b : Int32) (fs : List Value) (H : Heap) {mc ms : Nat} {post : Option Value → Heap → Prop} {px : String → Heap → Prop} {F : Nat → Prop} (hd : ob g d 1 fs H) (hM : HX g z sa l yX1_byteAt cX1_byteAt 5 (some .int) 7 112 mc ms [.ref d, .int x, .int n, .int b] H post px F) (hv : ∀ v K, post v K → ∃ ans : Int32, v = some (.int ans)) (hj : ∀ v K, post v K → ∃ f, ja g oa 1 f K) (hx : ∀ E K, px E K → E = nIA ∨ E = nIS) : HL g z sa l yL_byteAt cL_byteAt 6 [(0, 12, 15, 13), (0, 12, 19, 15)] 8 136 mc ms [.ref d, .int x, .int n, .int b, .ref oa] H (hPo g oa post px) (fun q => F q ∨ q = oa) := by
  refine HL.ofW (by decide) (Nat.le_of_ble_eq_true rfl) (by simp [Value.category]) ?_
  intro p e s m args below meth c ls G hr hml hlocks htb hH hXs hN hl
  have hl : lh ls 6 [some (.ref d), some (.int x), some (.int n), some (.int b), some (.ref oa), none] := hl
  refine hb_aload G dL_byteAt_0 hl rfl ?_
  refine lv_iconst (v := 0) G.1 G.2.1 dL_byteAt_2 (by decide) ?_
  refine hb_aload_n G dL_byteAt_3 hl rfl ?_
  refine hb_iload_n G dL_byteAt_4 hl rfl ?_
  refine hb_iload_n G dL_byteAt_5 hl rfl ?_
  refine hb_iload_n G dL_byteAt_6 hl rfl ?_
  refine hx_callV (A := fun q => F q ∨ q = oa) (As := [.int x, .int n, .int b]) (rest := [.int 0, .ref oa]) G hXs hml hM hd rfl km_L_30 ki_X1_byteAt ks_X1_byteAt kn_X1 ko_X1_byteAt hd_X1_byteAt ⟨Nat.le_of_ble_eq_true rfl, Nat.le_of_ble_eq_true rfl⟩ hl.size rfl (Nat.le_of_ble_eq_true rfl) dL_byteAt_7 ⟨Nat.le_of_eq (Nat.zero_add _), Nat.le_of_eq (Nat.zero_add _)⟩ (fun q h => by cases h) (fun q h => Or.inl h) (fun E ce q9 K9 locs9 hp hL h1 h2 h3 => ?_) (fun v1 K1 locs1 hp hL => ?_)
  · rcases hx E K9 hp with rfl | rfl
    · refine vx_catch (own := RL) (name := nIA) G.2.2.1 [] ⟨0, 12, 15, 13⟩ [⟨0, 12, 19, 15⟩] htb (fun q9 h9 => by cases h9) (by decide) (by decide) (G.2.2.2.1 _ kc_L_13) (va_Nw.use (nbIA_ot _ List.mem_cons_self) (hXs.2.2.2.1.1 _ List.mem_cons_self)) h1 h2 h3 ?_
      refine hb_astore G dL_byteAt_15 hl (by decide) (fun ls hl => ?_)
      refine lv_iconst (v := 1) G.1 G.2.1 dL_byteAt_17 (by decide) ?_
      exact hx_iret G hr hlocks (Or.inr (Or.inl ⟨rfl, hp⟩)) hL (Nat.le_of_eq (Nat.zero_add _)) (Nat.le_of_eq (Nat.zero_add _)) dL_byteAt_18
    · refine vx_catch (own := RL) (name := nIS) G.2.2.1 [⟨0, 12, 15, 13⟩] ⟨0, 12, 19, 15⟩ [] htb (fun q9 h9 => by
          have h8 : q9 = ⟨0, 12, 15, 13⟩ := by simpa using h9
          subst h8
          exact Or.inr ⟨by decide, nIA, G.2.2.2.1 _ kc_L_13, hN⟩) (by decide) (by decide) (G.2.2.2.1 _ kc_L_15) (va_Nw.use (nbIS_ot _ List.mem_cons_self) (hXs.2.2.2.1.2 _ List.mem_cons_self)) h1 h2 h3 ?_
      refine hb_astore G dL_byteAt_19 hl (by decide) (fun ls hl => ?_)
      refine lv_iconst (v := 2) G.1 G.2.1 dL_byteAt_21 (by decide) ?_
      exact hx_iret G hr hlocks (Or.inr (Or.inr ⟨rfl, hp⟩)) hL (Nat.le_of_eq (Nat.zero_add _)) (Nat.le_of_eq (Nat.zero_add _)) dL_byteAt_22
  · obtain ⟨ans, rfl⟩ := hv _ _ hp
    obtain ⟨f, hf⟩ := hj _ _ hp
    refine lv_i2l (v := ans.toInt64) G.1 G.2.1 dL_byteAt_10 rfl ?_
    refine hb_jast (A := fun q => F q ∨ q = oa) G hf vp01 hL (Or.inr rfl) dL_byteAt_11 (fun K2 locs2 hj2 hz2 ho2 hL => ?_)
    refine lv_goto (tgt := 23) G.1 G.2.1 dL_byteAt_12 (by decide) ?_
    refine lv_iconst (v := 0) G.1 G.2.1 dL_byteAt_23 (by decide) ?_
    exact hx_iret G hr hlocks (Or.inl ⟨rfl, ans, K1, _, hp, hj2, updL0, hz2, ho2⟩) hL (Nat.le_of_eq (Nat.zero_add _)) (Nat.le_of_eq (Nat.zero_add _)) dL_byteAt_24
set_option maxHeartbeats 1000000 in
theorem e_crash (g : Gx) (z : Nat) (sa : Nat → Nat) (l : Launch) (d : Nat) (x : Int32) (fs : List Value) (H : Heap) {mc ms : Nat} {post : Option Value → Heap → Prop} {px : String → Heap → Prop} {F : Nat → Prop} (hd : ob g d 1 fs H) (hM : HX g z sa l yX1_crash cX1_crash 2 none 7 112 mc ms [.ref d, .int x] H post px F) (hv : ∀ v K, post v K → v = none) (hx : ∀ E K, px E K → E = nIA ∨ E = nIS) : HL g z sa l yL_crash cL_crash 3 [(0, 5, 8, 13), (0, 5, 11, 15)] 8 133 mc ms [.ref d, .int x] H (hPv post px) (F) := by
  refine HL.ofW (by decide) (Nat.le_of_ble_eq_true rfl) (by simp [Value.category]) ?_
  intro p e s m args below meth c ls G hr hml hlocks htb hH hXs hN hl
  have hl : lh ls 3 [some (.ref d), some (.int x), none] := hl
  refine hb_aload_n G dL_crash_0 hl rfl ?_
  refine hb_iload_n G dL_crash_1 hl rfl ?_
  refine hx_callV (A := F) (As := [.int x]) (rest := []) G hXs hml hM hd rfl km_L_33 ki_X1_crash ks_X1_crash kn_X1 ko_X1_crash hd_X1_crash ⟨Nat.le_of_ble_eq_true rfl, Nat.le_of_ble_eq_true rfl⟩ hl.size rfl (Nat.le_of_ble_eq_true rfl) dL_crash_2 ⟨Nat.le_of_eq (Nat.zero_add _), Nat.le_of_eq (Nat.zero_add _)⟩ (fun q h => by cases h) (fun q h => h) (fun E ce q9 K9 locs9 hp hL h1 h2 h3 => ?_) (fun v1 K1 locs1 hp hL => ?_)
  · rcases hx E K9 hp with rfl | rfl
    · refine vx_catch (own := RL) (name := nIA) G.2.2.1 [] ⟨0, 5, 8, 13⟩ [⟨0, 5, 11, 15⟩] htb (fun q9 h9 => by cases h9) (by decide) (by decide) (G.2.2.2.1 _ kc_L_13) (va_Nw.use (nbIA_ot _ List.mem_cons_self) (hXs.2.2.2.1.1 _ List.mem_cons_self)) h1 h2 h3 ?_
      refine hb_astore_n G dL_crash_8 hl (by decide) (fun ls hl => ?_)
      refine lv_iconst (v := 1) G.1 G.2.1 dL_crash_9 (by decide) ?_
      exact hx_iret G hr hlocks (Or.inr (Or.inl ⟨rfl, hp⟩)) hL (Nat.le_of_eq (Nat.zero_add _)) (Nat.le_of_eq (Nat.zero_add _)) dL_crash_10
    · refine vx_catch (own := RL) (name := nIS) G.2.2.1 [⟨0, 5, 8, 13⟩] ⟨0, 5, 11, 15⟩ [] htb (fun q9 h9 => by
          have h8 : q9 = ⟨0, 5, 8, 13⟩ := by simpa using h9
          subst h8
          exact Or.inr ⟨by decide, nIA, G.2.2.2.1 _ kc_L_13, hN⟩) (by decide) (by decide) (G.2.2.2.1 _ kc_L_15) (va_Nw.use (nbIS_ot _ List.mem_cons_self) (hXs.2.2.2.1.2 _ List.mem_cons_self)) h1 h2 h3 ?_
      refine hb_astore_n G dL_crash_11 hl (by decide) (fun ls hl => ?_)
      refine lv_iconst (v := 2) G.1 G.2.1 dL_crash_12 (by decide) ?_
      exact hx_iret G hr hlocks (Or.inr (Or.inr ⟨rfl, hp⟩)) hL (Nat.le_of_eq (Nat.zero_add _)) (Nat.le_of_eq (Nat.zero_add _)) dL_crash_13
  · obtain rfl := hv _ _ hp
    refine lv_goto (tgt := 14) G.1 G.2.1 dL_crash_5 (by decide) ?_
    refine lv_iconst (v := 0) G.1 G.2.1 dL_crash_14 (by decide) ?_
    exact hx_iret G hr hlocks (Or.inl ⟨rfl, hp⟩) hL (Nat.le_of_eq (Nat.zero_add _)) (Nat.le_of_eq (Nat.zero_add _)) dL_crash_15
set_option maxHeartbeats 1000000 in
theorem e_free (g : Gx) (z : Nat) (sa : Nat → Nat) (l : Launch) (d oa : Nat) (fs : List Value) (H : Heap) {mc ms : Nat} {post : Option Value → Heap → Prop} {px : String → Heap → Prop} {F : Nat → Prop} (hd : ob g d 1 fs H) (hM : HX g z sa l yX1_free cX1_free 6 (some .int) 7 110 mc ms [.ref d] H post px F) (hv : ∀ v K, post v K → ∃ ans : Int32, v = some (.int ans)) (hj : ∀ v K, post v K → ∃ f, ja g oa 1 f K) (hx : ∀ E K, px E K → E = nIS) : HL g z sa l yL_free cL_free 3 [(0, 8, 11, 15)] 8 135 mc ms [.ref d, .ref oa] H (hPf g oa post px) (fun q => F q ∨ q = oa) := by
  refine HL.ofW (by decide) (Nat.le_of_ble_eq_true rfl) (by simp [Value.category]) ?_
  intro p e s m args below meth c ls G hr hml hlocks htb hH hXs hN hl
  have hl : lh ls 3 [some (.ref d), some (.ref oa), none] := hl
  refine hb_aload_n G dL_free_0 hl rfl ?_
  refine lv_iconst (v := 0) G.1 G.2.1 dL_free_1 (by decide) ?_
  refine hb_aload_n G dL_free_2 hl rfl ?_
  refine hx_callV (A := fun q => F q ∨ q = oa) (As := []) (rest := [.int 0, .ref oa]) G hXs hml hM hd rfl km_L_37 ki_X1_free ks_X1_free kn_X1 ko_X1_free hd_X1_free ⟨Nat.le_of_ble_eq_true rfl, Nat.le_of_ble_eq_true rfl⟩ hl.size rfl (Nat.le_of_ble_eq_true rfl) dL_free_3 ⟨Nat.le_of_eq (Nat.zero_add _), Nat.le_of_eq (Nat.zero_add _)⟩ (fun q h => by cases h) (fun q h => Or.inl h) (fun E ce q9 K9 locs9 hp hL h1 h2 h3 => ?_) (fun v1 K1 locs1 hp hL => ?_)
  · obtain rfl := hx E K9 hp
    refine vx_catch (own := RL) (name := nIS) G.2.2.1 [] ⟨0, 8, 11, 15⟩ [] htb (fun q9 h9 => by cases h9) (by decide) (by decide) (G.2.2.2.1 _ kc_L_15) (va_Nw.use (nbIS_ot _ List.mem_cons_self) (hXs.2.2.2.1.2 _ List.mem_cons_self)) h1 h2 h3 ?_
    refine hb_astore_n G dL_free_11 hl (by decide) (fun ls hl => ?_)
    refine lv_iconst (v := 1) G.1 G.2.1 dL_free_12 (by decide) ?_
    exact hx_iret G hr hlocks (Or.inr ⟨rfl, hp⟩) hL (Nat.le_of_eq (Nat.zero_add _)) (Nat.le_of_eq (Nat.zero_add _)) dL_free_13
  · obtain ⟨ans, rfl⟩ := hv _ _ hp
    obtain ⟨f, hf⟩ := hj _ _ hp
    refine lv_i2l (v := ans.toInt64) G.1 G.2.1 dL_free_6 rfl ?_
    refine hb_jast (A := fun q => F q ∨ q = oa) G hf vp01 hL (Or.inr rfl) dL_free_7 (fun K2 locs2 hj2 hz2 ho2 hL => ?_)
    refine lv_goto (tgt := 14) G.1 G.2.1 dL_free_8 (by decide) ?_
    refine lv_iconst (v := 0) G.1 G.2.1 dL_free_14 (by decide) ?_
    exact hx_iret G hr hlocks (Or.inl ⟨rfl, ans, K1, _, hp, hj2, updL0, hz2, ho2⟩) hL (Nat.le_of_eq (Nat.zero_add _)) (Nat.le_of_eq (Nat.zero_add _)) dL_free_15
