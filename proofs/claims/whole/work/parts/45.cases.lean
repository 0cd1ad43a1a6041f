/-! THE LAW'S CASES -/
def LA (g : Gx) (p : Program) (l : Launch) (s : State) (m : MethodId) (meth : Method) (c : Code) (b L : Nat) (xs : Nat → Int32) (sa : Nat → Nat) : Prop := Cx g p s m #[Value.ref b] c code RL ∧ c.maxLocals = 7 ∧ va_X b L xs s s.heap ∧ b < s.heap.size ∧ l.stackTraces = false ∧ XX s.heap.size sa s s.heap ∧ va_Nc nIS nIA s ∧ meth.sig.returnType = ret ∧ meth.locks = false
def LL (b z : Nat) (i : Int32) : List (Option Value) := [some (.ref b), some (.ref z), some (.ref (z + 38)), some (.ref (z + 51)), some (.int i), none, none]
/-- the end of a case -/
def K679 (p : Program) (l : Launch) (e : Env) (s : State) (m : MethodId) (below : List Frame) (meth : Method) (c : Code) (b : Nat) (g : Gx) (S B j : Nat) (i : Int32) : Prop := ∀ (H K : Heap) (locs : List Loc) (ls : Array Slot) (cells slots : Nat) (k : Int32), cells ≤ 62 + 10 * j → slots ≤ 14957 + 2600 * j → OK1 g s.heap.size S B (j + 1) k K H → va_S (fG s.heap.size) s.heap H locs → lh ls 7 (LL b s.heap.size i) → W p l e room_1 s m #[Value.ref b] below meth c H locs cells slots (lw_Z below #[Value.ref b] s) (F0 m 679 ls [])
theorem lgc0 {x y : Int64} (h : x = y) : lg_cmp x y = 0 := (lg_cmp_eq x y).mpr h
set_option maxHeartbeats 4000000 in
set_option maxRecDepth 100000 in
theorem law_append {p : Program} {l : Launch} {e : Env} {s : State} {m : MethodId} {below : List Frame} {meth : Method} {c : Code} {g : Gx} {b L : Nat} {xs : Nat → Int32} {sa : Nat → Nat} {S B : Nat} {P : Nat → Nat} {V : Nat → LV} {bu : Nat → Int32} {A : Nat → Nat → Int32} {C : Nat} {a : Nat → Nat} {tc dn wr cd : Int32} {en pl j : Nat} {i : Int32} {H : Heap} {locs : List Loc} {ls : Array Slot} {cells slots : Nat} (A0 : LA g p l s m meth c b L xs sa) (hSB : dkB S B) (hj : j < 512) (hi1 : vp_in (i + 1) L) (hi2 : vp_in (i + 2) L) (hi3 : vp_in (i + 3) L) (hJ : JS g s.heap.size S B P V bu A C a tc dn wr cd en pl j H) (hS : va_S (fG s.heap.size) s.heap H locs) (hl : lh ls 7 (LL b s.heap.size i)) (hc : cells ≤ 52 + 10 * j) (hs : slots ≤ 12357 + 2600 * j) (hK : K679 p l e s m below meth c b g S B j i) : W p l e room_1 s m #[Value.ref b] below meth c H locs cells slots (lw_Z below #[Value.ref b] s) (F0 m 116 ls []) := by
  obtain ⟨G, hml, hXx, hbl, hlt, hXX, hN, hr, hlocks⟩ := A0
  have hbA : ¬ fG s.heap.size b := fun q => Nat.not_le.mpr hbl q
  have hL := hS.2.2
  have hR := hJ.2.2.1
  obtain ⟨c1, c2, c3, c4, c5⟩ := id hJ.2.2.2.1
  have hsg := hR.sg hSB.2.2.2
  refine hb_aload_n G dL_law_116 hl rfl ?_
  refine hb_aload_n G dL_law_117 hl rfl ?_
  refine hb_iload G dL_law_118 hl rfl ?_
  refine lv_iconst (v := 1) G.1 G.2.1 dL_law_120 (by decide) ?_
  refine lv_iadd G.1 G.2.1 dL_law_121 ?_
  refine va_sld G.1 G.2.1 hXx hbl hbA hS hi1 dL_law_122 ?_
  refine hb_aload_n G dL_law_123 hl rfl ?_
  refine hb_iload G dL_law_124 hl rfl ?_
  refine lv_iconst (v := 2) G.1 G.2.1 dL_law_126 (by decide) ?_
  refine lv_iadd G.1 G.2.1 dL_law_127 ?_
  refine va_sld G.1 G.2.1 hXx hbl hbA hS hi2 dL_law_128 ?_
  refine hb_aload_n G dL_law_129 hl rfl ?_
  refine hb_iload G dL_law_130 hl rfl ?_
  refine lv_iconst (v := 3) G.1 G.2.1 dL_law_132 (by decide) ?_
  refine lv_iadd G.1 G.2.1 dL_law_133 ?_
  refine va_sld G.1 G.2.1 hXx hbl hbA hS hi3 dL_law_134 ?_
  refine hb_aload_n G dL_law_135 hl rfl ?_
  have hFr : ∀ (v : Option Value) (K : Heap), (cAp g s.heap.size S B V tc dn wr (xs (i + 1).toNatClampNeg) (xs (i + 2).toNatClampNeg) (xs (i + 3).toNatClampNeg) H) v K → Fr s.heap.size 38 H K := fun v K h9 => h9.2.2.2
  obtain ⟨f0_, hf0_⟩ := hJ.2.2.2.2.2
  refine hl_callS (A := fG s.heap.size) (As := [.ref s.heap.size, .int (xs (i + 1).toNatClampNeg), .int (xs (i + 2).toNatClampNeg), .int (xs (i + 3).toNatClampNeg), .ref (s.heap.size + 51)]) (rest := []) G (XX_S hXX hS) hN hml (e_append (post := cAp g s.heap.size S B V tc dn wr (xs (i + 1).toNatClampNeg) (xs (i + 2).toNatClampNeg) (xs (i + 3).toNatClampNeg) H) (px := thX (dkIs (xs (i + 1).toNatClampNeg) ∧ 1 ≤ (xs (i + 2).toNatClampNeg) ∧ (xs (i + 2).toNatClampNeg) ≤ 20000) dn H) (F := fB s.heap.size 38) g s.heap.size sa l s.heap.size (s.heap.size + 51) (xs (i + 1).toNatClampNeg) (xs (i + 2).toNatClampNeg) (xs (i + 3).toNatClampNeg) _ H hJ.1.1.1 (c_append g s.heap.size sa l hlt s.heap.size S B P V bu tc dn wr H hSB hJ.1.2 hJ.1.1 (xs (i + 1).toNatClampNeg) (xs (i + 2).toNatClampNeg) (xs (i + 3).toNatClampNeg)) (fun v K h9 => by obtain ⟨⟨_, _, _, h8, _⟩, _⟩ := h9; exact ⟨_, h8⟩) (fun v K h9 => ⟨f0_, hf0_.kept ((hFr v K h9).2 _ (by omega))⟩) (fun E K h9 => thX_any h9)) km_L_53 kt_L_append kn_L ko_L_append hd_L_append ⟨Nat.le_of_ble_eq_true rfl, Nat.le_of_ble_eq_true rfl⟩ hl.size rfl (Nat.le_of_ble_eq_true rfl) dL_law_136 ⟨by show cells + 3 ≤ 601024; omega, by show slots + 18 ≤ 7292999; omega⟩ hL (fun q h => h.elim (fun h9 => h9.1) (fun h9 => by show s.heap.size ≤ q; omega)) (fun v1 K2 locs1 hp hL => ?_)
  obtain ⟨k, rfl⟩ := hPo_int hp
  have hMK : MK s.heap.size H K2 := hPo_MK hp hFr (fun E K h9 => h9.1)
  have hS2 := S_MK hS hMK hL
  replace hS := hS2
  obtain ⟨hmd, hG2⟩ := hJ.mid hMK
  refine hb_istore G dL_law_139 hl (by decide) (fun ls hl => ?_)
  refine hb_aload_n G dL_law_141 hl rfl ?_
  refine hb_aload_n G dL_law_142 hl rfl ?_
  refine hb_iload G dL_law_143 hl rfl ?_
  refine lv_iconst (v := 1) G.1 G.2.1 dL_law_145 (by decide) ?_
  refine lv_iadd G.1 G.2.1 dL_law_146 ?_
  refine va_sld G.1 G.2.1 hXx hbl hbA hS hi1 dL_law_147 ?_
  refine hb_aload_n G dL_law_148 hl rfl ?_
  refine hb_iload G dL_law_149 hl rfl ?_
  refine lv_iconst (v := 2) G.1 G.2.1 dL_law_151 (by decide) ?_
  refine lv_iadd G.1 G.2.1 dL_law_152 ?_
  refine va_sld G.1 G.2.1 hXx hbl hbA hS hi2 dL_law_153 ?_
  refine hb_aload_n G dL_law_154 hl rfl ?_
  refine hb_iload G dL_law_155 hl rfl ?_
  refine lv_iconst (v := 3) G.1 G.2.1 dL_law_157 (by decide) ?_
  refine lv_iadd G.1 G.2.1 dL_law_158 ?_
  refine va_sld G.1 G.2.1 hXx hbl hbA hS hi3 dL_law_159 ?_
  refine hb_callV (A := fG s.heap.size) (As := [.int (xs (i + 1).toNatClampNeg), .int (xs (i + 2).toNatClampNeg), .int (xs (i + 3).toNatClampNeg)]) (rest := []) G hml (m_append g l (s.heap.size + 38) S B C a A cd wr tc dn en pl K2 hmd hSB hsg (by omega) (by omega) (by omega) (by omega) (by omega) (xs (i + 1).toNatClampNeg) (xs (i + 2).toNatClampNeg) (xs (i + 3).toNatClampNeg)) hmd.1 rfl km_L_56 ki_X2_append ks_X2_append kn_X2 ko_X2_append hd_X2_append ⟨Nat.le_of_ble_eq_true rfl, Nat.le_of_ble_eq_true rfl⟩ hl.size rfl (Nat.le_of_ble_eq_true rfl) dL_law_160 ⟨by show cells + 3 + 5 ≤ 601024; omega, by show slots + 18 + 2560 ≤ 7292999; omega⟩ hL (fN_G hG2) (fun v2 H2 locs2 hp2 hL => ?_)
  obtain ⟨y, rfl, hOK⟩ := J_append hSB hJ hj hp hp2
  have hO1 := hOK.one
  obtain ⟨hPX, P1, V1, bu1, A1, C1, a1, tc1, dn1, wr1, en1, pl1, hJ1, hy1⟩ := hOK
  have hS3 := S_PX hS hPX hL
  refine hb_istore G dL_law_163 hl (by decide) (fun ls hl => ?_)
  refine hb_aload_n G dL_law_165 hl rfl ?_
  refine hb_callV (A := fG s.heap.size) (As := []) (rest := []) G hml (m_thrown g l (s.heap.size + 38) S B C1 a1 A1 k wr1 tc1 dn1 en1 pl1 H2 hJ1.2.1) hJ1.2.1.1 rfl km_L_57 ki_X2_thrown ks_X2_thrown kn_X2 ko_X2_thrown hd_X2_thrown ⟨Nat.le_of_ble_eq_true rfl, Nat.le_of_ble_eq_true rfl⟩ hl.size rfl (Nat.le_of_ble_eq_true rfl) dL_law_166 ⟨by show cells + 3 + 5 + 0 ≤ 601024; omega, by show slots + 18 + 2560 + 0 ≤ 7292999; omega⟩ hL (fun q h9 => h9.elim) (fun v3 H3 locs3 hp3 hL => ?_)
  obtain ⟨rfl, rfl⟩ := hp3
  have hS4 := S_PX hS hPX hL
  refine hb_iload G dL_law_169 hl rfl ?_
  refine lv_icmp_eq (tgt := 176) G.1 G.2.1 dL_law_171 (by decide) (fun _ => ?_) (fun h9 => absurd rfl h9)
  refine hb_iload G dL_law_176 hl rfl ?_
  refine lv_if_ne (tgt := 193) G.1 G.2.1 dL_law_178 (by decide) (fun _ => ?_) (fun k0 => ?_)
  · refine lv_goto (tgt := 679) G.1 G.2.1 dL_law_193 (by decide) ?_
    exact hK _ _ _ _ _ _ k (by omega) (by omega) hO1 hS4 ((hl.drop 5).drop 6)
  · obtain ⟨f9, hf9, hy9⟩ := hy1 k0
    refine hb_aload_n G dL_law_181 hl rfl ?_
    refine lv_iconst (v := 0) G.1 G.2.1 dL_law_182 (by decide) ?_
    refine hb_jald G hf9 vp01 dL_law_183 ?_
    refine hb_iload G dL_law_184 hl rfl ?_
    refine lv_i2l (v := y.toInt64) G.1 G.2.1 dL_law_186 rfl ?_
    refine W.lcmp G.1 G.2.1 dL_law_187 ?_
    refine lv_if_eq (tgt := 193) G.1 G.2.1 dL_law_188 (by decide) (fun _ => ?_) (fun h9 => absurd (lgc0 hy9) h9)
    refine lv_goto (tgt := 679) G.1 G.2.1 dL_law_193 (by decide) ?_
    exact hK _ _ _ _ _ _ k (by omega) (by omega) hO1 hS4 ((hl.drop 5).drop 6)
set_option maxHeartbeats 4000000 in
set_option maxRecDepth 100000 in
theorem law_retain {p : Program} {l : Launch} {e : Env} {s : State} {m : MethodId} {below : List Frame} {meth : Method} {c : Code} {g : Gx} {b L : Nat} {xs : Nat → Int32} {sa : Nat → Nat} {S B : Nat} {P : Nat → Nat} {V : Nat → LV} {bu : Nat → Int32} {A : Nat → Nat → Int32} {C : Nat} {a : Nat → Nat} {tc dn wr cd : Int32} {en pl j : Nat} {i : Int32} {H : Heap} {locs : List Loc} {ls : Array Slot} {cells slots : Nat} (A0 : LA g p l s m meth c b L xs sa) (hSB : dkB S B) (hj : j < 512) (hi1 : vp_in (i + 1) L) (hi2 : vp_in (i + 2) L) (hJ : JS g s.heap.size S B P V bu A C a tc dn wr cd en pl j H) (hS : va_S (fG s.heap.size) s.heap H locs) (hl : lh ls 7 (LL b s.heap.size i)) (hc : cells ≤ 52 + 10 * j) (hs : slots ≤ 12357 + 2600 * j) (hK : K679 p l e s m below meth c b g S B j i) : W p l e room_1 s m #[Value.ref b] below meth c H locs cells slots (lw_Z below #[Value.ref b] s) (F0 m 196 ls []) := by
  obtain ⟨G, hml, hXx, hbl, hlt, hXX, hN, hr, hlocks⟩ := A0
  have hbA : ¬ fG s.heap.size b := fun q => Nat.not_le.mpr hbl q
  have hL := hS.2.2
  have hR := hJ.2.2.1
  obtain ⟨c1, c2, c3, c4, c5⟩ := id hJ.2.2.2.1
  have hsg := hR.sg hSB.2.2.2
  refine hb_aload_n G dL_law_196 hl rfl ?_
  refine hb_aload_n G dL_law_197 hl rfl ?_
  refine hb_iload G dL_law_198 hl rfl ?_
  refine lv_iconst (v := 1) G.1 G.2.1 dL_law_200 (by decide) ?_
  refine lv_iadd G.1 G.2.1 dL_law_201 ?_
  refine va_sld G.1 G.2.1 hXx hbl hbA hS hi1 dL_law_202 ?_
  refine hb_aload_n G dL_law_203 hl rfl ?_
  refine hb_iload G dL_law_204 hl rfl ?_
  refine lv_iconst (v := 2) G.1 G.2.1 dL_law_206 (by decide) ?_
  refine lv_iadd G.1 G.2.1 dL_law_207 ?_
  refine va_sld G.1 G.2.1 hXx hbl hbA hS hi2 dL_law_208 ?_
  refine hb_aload_n G dL_law_209 hl rfl ?_
  have hFr : ∀ (v : Option Value) (K : Heap), (cRt g s.heap.size S B V tc dn wr (xs (i + 1).toNatClampNeg) (xs (i + 2).toNatClampNeg) H) v K → Fr s.heap.size 38 H K := fun v K h9 => h9.2.2.2
  obtain ⟨f0_, hf0_⟩ := hJ.2.2.2.2.2
  refine hl_callS (A := fG s.heap.size) (As := [.ref s.heap.size, .int (xs (i + 1).toNatClampNeg), .int (xs (i + 2).toNatClampNeg), .ref (s.heap.size + 51)]) (rest := []) G (XX_S hXX hS) hN hml (e_retain (post := cRt g s.heap.size S B V tc dn wr (xs (i + 1).toNatClampNeg) (xs (i + 2).toNatClampNeg) H) (px := thX (dkIs (xs (i + 1).toNatClampNeg) ∧ 0 ≤ (xs (i + 2).toNatClampNeg) ∧ (xs (i + 2).toNatClampNeg) ≤ 2147483647) dn H) (F := fB s.heap.size 38) g s.heap.size sa l s.heap.size (s.heap.size + 51) (xs (i + 1).toNatClampNeg) (xs (i + 2).toNatClampNeg) _ H hJ.1.1.1 (c_retain g s.heap.size sa l hlt s.heap.size S B P V bu tc dn wr H hSB hJ.1.2 hJ.1.1 (xs (i + 1).toNatClampNeg) (xs (i + 2).toNatClampNeg)) (fun v K h9 => by obtain ⟨⟨_, _, _, h8, _⟩, _⟩ := h9; exact ⟨_, h8⟩) (fun v K h9 => ⟨f0_, hf0_.kept ((hFr v K h9).2 _ (by omega))⟩) (fun E K h9 => thX_any h9)) km_L_60 kt_L_retain kn_L ko_L_retain hd_L_retain ⟨Nat.le_of_ble_eq_true rfl, Nat.le_of_ble_eq_true rfl⟩ hl.size rfl (Nat.le_of_ble_eq_true rfl) dL_law_210 ⟨by show cells + 3 ≤ 601024; omega, by show slots + 18 ≤ 7292999; omega⟩ hL (fun q h => h.elim (fun h9 => h9.1) (fun h9 => by show s.heap.size ≤ q; omega)) (fun v1 K2 locs1 hp hL => ?_)
  obtain ⟨k, rfl⟩ := hPo_int hp
  have hMK : MK s.heap.size H K2 := hPo_MK hp hFr (fun E K h9 => h9.1)
  have hS2 := S_MK hS hMK hL
  replace hS := hS2
  obtain ⟨hmd, hG2⟩ := hJ.mid hMK
  refine hb_istore G dL_law_213 hl (by decide) (fun ls hl => ?_)
  refine hb_aload_n G dL_law_215 hl rfl ?_
  refine hb_aload_n G dL_law_216 hl rfl ?_
  refine hb_iload G dL_law_217 hl rfl ?_
  refine lv_iconst (v := 1) G.1 G.2.1 dL_law_219 (by decide) ?_
  refine lv_iadd G.1 G.2.1 dL_law_220 ?_
  refine va_sld G.1 G.2.1 hXx hbl hbA hS hi1 dL_law_221 ?_
  refine hb_aload_n G dL_law_222 hl rfl ?_
  refine hb_iload G dL_law_223 hl rfl ?_
  refine lv_iconst (v := 2) G.1 G.2.1 dL_law_225 (by decide) ?_
  refine lv_iadd G.1 G.2.1 dL_law_226 ?_
  refine va_sld G.1 G.2.1 hXx hbl hbA hS hi2 dL_law_227 ?_
  refine hb_callV (A := fG s.heap.size) (As := [.int (xs (i + 1).toNatClampNeg), .int (xs (i + 2).toNatClampNeg)]) (rest := []) G hml (m_retain g l (s.heap.size + 38) S B C a A cd wr tc dn en pl K2 hmd hSB hsg (by omega) (by omega) (xs (i + 1).toNatClampNeg) (xs (i + 2).toNatClampNeg)) hmd.1 rfl km_L_63 ki_X2_retain ks_X2_retain kn_X2 ko_X2_retain hd_X2_retain ⟨Nat.le_of_ble_eq_true rfl, Nat.le_of_ble_eq_true rfl⟩ hl.size rfl (Nat.le_of_ble_eq_true rfl) dL_law_228 ⟨by show cells + 3 + 0 ≤ 601024; omega, by show slots + 18 + 0 ≤ 7292999; omega⟩ hL (fM_G hG2) (fun v2 H2 locs2 hp2 hL => ?_)
  obtain ⟨y, rfl, hOK⟩ := J_retain hJ hp hp2
  have hO1 := hOK.one
  obtain ⟨hPX, P1, V1, bu1, A1, C1, a1, tc1, dn1, wr1, en1, pl1, hJ1, hy1⟩ := hOK
  have hS3 := S_PX hS hPX hL
  refine hb_istore G dL_law_231 hl (by decide) (fun ls hl => ?_)
  refine hb_aload_n G dL_law_233 hl rfl ?_
  refine hb_callV (A := fG s.heap.size) (As := []) (rest := []) G hml (m_thrown g l (s.heap.size + 38) S B C1 a1 A1 k wr1 tc1 dn1 en1 pl1 H2 hJ1.2.1) hJ1.2.1.1 rfl km_L_57 ki_X2_thrown ks_X2_thrown kn_X2 ko_X2_thrown hd_X2_thrown ⟨Nat.le_of_ble_eq_true rfl, Nat.le_of_ble_eq_true rfl⟩ hl.size rfl (Nat.le_of_ble_eq_true rfl) dL_law_234 ⟨by show cells + 3 + 0 + 0 ≤ 601024; omega, by show slots + 18 + 0 + 0 ≤ 7292999; omega⟩ hL (fun q h9 => h9.elim) (fun v3 H3 locs3 hp3 hL => ?_)
  obtain ⟨rfl, rfl⟩ := hp3
  have hS4 := S_PX hS hPX hL
  refine hb_iload G dL_law_237 hl rfl ?_
  refine lv_icmp_eq (tgt := 244) G.1 G.2.1 dL_law_239 (by decide) (fun _ => ?_) (fun h9 => absurd rfl h9)
  refine hb_iload G dL_law_244 hl rfl ?_
  refine lv_if_ne (tgt := 261) G.1 G.2.1 dL_law_246 (by decide) (fun _ => ?_) (fun k0 => ?_)
  · refine lv_goto (tgt := 679) G.1 G.2.1 dL_law_261 (by decide) ?_
    exact hK _ _ _ _ _ _ k (by omega) (by omega) hO1 hS4 ((hl.drop 5).drop 6)
  · obtain ⟨f9, hf9, hy9⟩ := hy1 k0
    refine hb_aload_n G dL_law_249 hl rfl ?_
    refine lv_iconst (v := 0) G.1 G.2.1 dL_law_250 (by decide) ?_
    refine hb_jald G hf9 vp01 dL_law_251 ?_
    refine hb_iload G dL_law_252 hl rfl ?_
    refine lv_i2l (v := y.toInt64) G.1 G.2.1 dL_law_254 rfl ?_
    refine W.lcmp G.1 G.2.1 dL_law_255 ?_
    refine lv_if_eq (tgt := 261) G.1 G.2.1 dL_law_256 (by decide) (fun _ => ?_) (fun h9 => absurd (lgc0 hy9) h9)
    refine lv_goto (tgt := 679) G.1 G.2.1 dL_law_261 (by decide) ?_
    exact hK _ _ _ _ _ _ k (by omega) (by omega) hO1 hS4 ((hl.drop 5).drop 6)
set_option maxHeartbeats 4000000 in
set_option maxRecDepth 100000 in
theorem law_thin {p : Program} {l : Launch} {e : Env} {s : State} {m : MethodId} {below : List Frame} {meth : Method} {c : Code} {g : Gx} {b L : Nat} {xs : Nat → Int32} {sa : Nat → Nat} {S B : Nat} {P : Nat → Nat} {V : Nat → LV} {bu : Nat → Int32} {A : Nat → Nat → Int32} {C : Nat} {a : Nat → Nat} {tc dn wr cd : Int32} {en pl j : Nat} {i : Int32} {H : Heap} {locs : List Loc} {ls : Array Slot} {cells slots : Nat} (A0 : LA g p l s m meth c b L xs sa) (hSB : dkB S B) (hj : j < 512) (hi1 : vp_in (i + 1) L) (hi2 : vp_in (i + 2) L) (hJ : JS g s.heap.size S B P V bu A C a tc dn wr cd en pl j H) (hS : va_S (fG s.heap.size) s.heap H locs) (hl : lh ls 7 (LL b s.heap.size i)) (hc : cells ≤ 52 + 10 * j) (hs : slots ≤ 12357 + 2600 * j) (hK : K679 p l e s m below meth c b g S B j i) : W p l e room_1 s m #[Value.ref b] below meth c H locs cells slots (lw_Z below #[Value.ref b] s) (F0 m 264 ls []) := by
  obtain ⟨G, hml, hXx, hbl, hlt, hXX, hN, hr, hlocks⟩ := A0
  have hbA : ¬ fG s.heap.size b := fun q => Nat.not_le.mpr hbl q
  have hL := hS.2.2
  have hR := hJ.2.2.1
  obtain ⟨c1, c2, c3, c4, c5⟩ := id hJ.2.2.2.1
  have hsg := hR.sg hSB.2.2.2
  refine hb_aload_n G dL_law_264 hl rfl ?_
  refine hb_aload_n G dL_law_265 hl rfl ?_
  refine hb_iload G dL_law_266 hl rfl ?_
  refine lv_iconst (v := 1) G.1 G.2.1 dL_law_268 (by decide) ?_
  refine lv_iadd G.1 G.2.1 dL_law_269 ?_
  refine va_sld G.1 G.2.1 hXx hbl hbA hS hi1 dL_law_270 ?_
  refine hb_aload_n G dL_law_271 hl rfl ?_
  refine hb_iload G dL_law_272 hl rfl ?_
  refine lv_iconst (v := 2) G.1 G.2.1 dL_law_274 (by decide) ?_
  refine lv_iadd G.1 G.2.1 dL_law_275 ?_
  refine va_sld G.1 G.2.1 hXx hbl hbA hS hi2 dL_law_276 ?_
  refine hb_aload_n G dL_law_277 hl rfl ?_
  have hFr : ∀ (v : Option Value) (K : Heap), (cTn g s.heap.size S B V tc dn wr (xs (i + 1).toNatClampNeg) (xs (i + 2).toNatClampNeg) H) v K → Fr s.heap.size 38 H K := fun v K h9 => h9.2.2.2
  obtain ⟨f0_, hf0_⟩ := hJ.2.2.2.2.2
  refine hl_callS (A := fG s.heap.size) (As := [.ref s.heap.size, .int (xs (i + 1).toNatClampNeg), .int (xs (i + 2).toNatClampNeg), .ref (s.heap.size + 51)]) (rest := []) G (XX_S hXX hS) hN hml (e_thin (post := cTn g s.heap.size S B V tc dn wr (xs (i + 1).toNatClampNeg) (xs (i + 2).toNatClampNeg) H) (px := thX (dkIs (xs (i + 1).toNatClampNeg) ∧ 1 ≤ (xs (i + 2).toNatClampNeg) ∧ (xs (i + 2).toNatClampNeg) ≤ 1000) dn H) (F := fB s.heap.size 38) g s.heap.size sa l s.heap.size (s.heap.size + 51) (xs (i + 1).toNatClampNeg) (xs (i + 2).toNatClampNeg) _ H hJ.1.1.1 (c_thin g s.heap.size sa l hlt s.heap.size S B P V bu tc dn wr H hSB hJ.1.2 hJ.1.1 (xs (i + 1).toNatClampNeg) (xs (i + 2).toNatClampNeg)) (fun v K h9 => by obtain ⟨⟨_, _, _, h8, _⟩, _⟩ := h9; exact ⟨_, h8⟩) (fun v K h9 => ⟨f0_, hf0_.kept ((hFr v K h9).2 _ (by omega))⟩) (fun E K h9 => thX_any h9)) km_L_64 kt_L_thin kn_L ko_L_thin hd_L_thin ⟨Nat.le_of_ble_eq_true rfl, Nat.le_of_ble_eq_true rfl⟩ hl.size rfl (Nat.le_of_ble_eq_true rfl) dL_law_278 ⟨by show cells + 3 ≤ 601024; omega, by show slots + 18 ≤ 7292999; omega⟩ hL (fun q h => h.elim (fun h9 => h9.1) (fun h9 => by show s.heap.size ≤ q; omega)) (fun v1 K2 locs1 hp hL => ?_)
  obtain ⟨k, rfl⟩ := hPo_int hp
  have hMK : MK s.heap.size H K2 := hPo_MK hp hFr (fun E K h9 => h9.1)
  have hS2 := S_MK hS hMK hL
  replace hS := hS2
  obtain ⟨hmd, hG2⟩ := hJ.mid hMK
  refine hb_istore G dL_law_281 hl (by decide) (fun ls hl => ?_)
  refine hb_aload_n G dL_law_283 hl rfl ?_
  refine hb_aload_n G dL_law_284 hl rfl ?_
  refine hb_iload G dL_law_285 hl rfl ?_
  refine lv_iconst (v := 1) G.1 G.2.1 dL_law_287 (by decide) ?_
  refine lv_iadd G.1 G.2.1 dL_law_288 ?_
  refine va_sld G.1 G.2.1 hXx hbl hbA hS hi1 dL_law_289 ?_
  refine hb_aload_n G dL_law_290 hl rfl ?_
  refine hb_iload G dL_law_291 hl rfl ?_
  refine lv_iconst (v := 2) G.1 G.2.1 dL_law_293 (by decide) ?_
  refine lv_iadd G.1 G.2.1 dL_law_294 ?_
  refine va_sld G.1 G.2.1 hXx hbl hbA hS hi2 dL_law_295 ?_
  refine hb_callV (A := fG s.heap.size) (As := [.int (xs (i + 1).toNatClampNeg), .int (xs (i + 2).toNatClampNeg)]) (rest := []) G hml (m_thin g l (s.heap.size + 38) S B C a A cd wr tc dn en pl K2 hmd ⟨hSB, by omega, by omega⟩ hsg (alV V) (szV V) (xs (i + 1).toNatClampNeg) (xs (i + 2).toNatClampNeg) (fun q hq _ hk9 => th_pre hSB hR hq hk9)) hmd.1 rfl km_L_66 ki_X2_thin ks_X2_thin kn_X2 ko_X2_thin hd_X2_thin ⟨Nat.le_of_ble_eq_true rfl, Nat.le_of_ble_eq_true rfl⟩ hl.size rfl (Nat.le_of_ble_eq_true rfl) dL_law_296 ⟨by show cells + 3 + 0 ≤ 601024; omega, by show slots + 18 + 0 ≤ 7292999; omega⟩ hL (fM_G hG2) (fun v2 H2 locs2 hp2 hL => ?_)
  obtain ⟨y, rfl, hOK⟩ := J_thin hSB hJ hp hp2
  have hO1 := hOK.one
  obtain ⟨hPX, P1, V1, bu1, A1, C1, a1, tc1, dn1, wr1, en1, pl1, hJ1, hy1⟩ := hOK
  have hS3 := S_PX hS hPX hL
  refine hb_istore G dL_law_299 hl (by decide) (fun ls hl => ?_)
  refine hb_aload_n G dL_law_301 hl rfl ?_
  refine hb_callV (A := fG s.heap.size) (As := []) (rest := []) G hml (m_thrown g l (s.heap.size + 38) S B C1 a1 A1 k wr1 tc1 dn1 en1 pl1 H2 hJ1.2.1) hJ1.2.1.1 rfl km_L_57 ki_X2_thrown ks_X2_thrown kn_X2 ko_X2_thrown hd_X2_thrown ⟨Nat.le_of_ble_eq_true rfl, Nat.le_of_ble_eq_true rfl⟩ hl.size rfl (Nat.le_of_ble_eq_true rfl) dL_law_302 ⟨by show cells + 3 + 0 + 0 ≤ 601024; omega, by show slots + 18 + 0 + 0 ≤ 7292999; omega⟩ hL (fun q h9 => h9.elim) (fun v3 H3 locs3 hp3 hL => ?_)
  obtain ⟨rfl, rfl⟩ := hp3
  have hS4 := S_PX hS hPX hL
  refine hb_iload G dL_law_305 hl rfl ?_
  refine lv_icmp_eq (tgt := 312) G.1 G.2.1 dL_law_307 (by decide) (fun _ => ?_) (fun h9 => absurd rfl h9)
  refine hb_iload G dL_law_312 hl rfl ?_
  refine lv_if_ne (tgt := 329) G.1 G.2.1 dL_law_314 (by decide) (fun _ => ?_) (fun k0 => ?_)
  · refine lv_goto (tgt := 679) G.1 G.2.1 dL_law_329 (by decide) ?_
    exact hK _ _ _ _ _ _ k (by omega) (by omega) hO1 hS4 ((hl.drop 5).drop 6)
  · obtain ⟨f9, hf9, hy9⟩ := hy1 k0
    refine hb_aload_n G dL_law_317 hl rfl ?_
    refine lv_iconst (v := 0) G.1 G.2.1 dL_law_318 (by decide) ?_
    refine hb_jald G hf9 vp01 dL_law_319 ?_
    refine hb_iload G dL_law_320 hl rfl ?_
    refine lv_i2l (v := y.toInt64) G.1 G.2.1 dL_law_322 rfl ?_
    refine W.lcmp G.1 G.2.1 dL_law_323 ?_
    refine lv_if_eq (tgt := 329) G.1 G.2.1 dL_law_324 (by decide) (fun _ => ?_) (fun h9 => absurd (lgc0 hy9) h9)
    refine lv_goto (tgt := 679) G.1 G.2.1 dL_law_329 (by decide) ?_
    exact hK _ _ _ _ _ _ k (by omega) (by omega) hO1 hS4 ((hl.drop 5).drop 6)
set_option maxHeartbeats 4000000 in
set_option maxRecDepth 100000 in
theorem law_log {p : Program} {l : Launch} {e : Env} {s : State} {m : MethodId} {below : List Frame} {meth : Method} {c : Code} {g : Gx} {b L : Nat} {xs : Nat → Int32} {sa : Nat → Nat} {S B : Nat} {P : Nat → Nat} {V : Nat → LV} {bu : Nat → Int32} {A : Nat → Nat → Int32} {C : Nat} {a : Nat → Nat} {tc dn wr cd : Int32} {en pl j : Nat} {i : Int32} {H : Heap} {locs : List Loc} {ls : Array Slot} {cells slots : Nat} (A0 : LA g p l s m meth c b L xs sa) (hSB : dkB S B) (hj : j < 512) (hi1 : vp_in (i + 1) L) (hi2 : vp_in (i + 2) L) (hJ : JS g s.heap.size S B P V bu A C a tc dn wr cd en pl j H) (hS : va_S (fG s.heap.size) s.heap H locs) (hl : lh ls 7 (LL b s.heap.size i)) (hc : cells ≤ 52 + 10 * j) (hs : slots ≤ 12357 + 2600 * j) (hK : K679 p l e s m below meth c b g S B j i) : W p l e room_1 s m #[Value.ref b] below meth c H locs cells slots (lw_Z below #[Value.ref b] s) (F0 m 332 ls []) := by
  obtain ⟨G, hml, hXx, hbl, hlt, hXX, hN, hr, hlocks⟩ := A0
  have hbA : ¬ fG s.heap.size b := fun q => Nat.not_le.mpr hbl q
  have hL := hS.2.2
  have hR := hJ.2.2.1
  obtain ⟨c1, c2, c3, c4, c5⟩ := id hJ.2.2.2.1
  have hsg := hR.sg hSB.2.2.2
  refine hb_aload_n G dL_law_332 hl rfl ?_
  refine hb_aload_n G dL_law_333 hl rfl ?_
  refine hb_iload G dL_law_334 hl rfl ?_
  refine lv_iconst (v := 1) G.1 G.2.1 dL_law_336 (by decide) ?_
  refine lv_iadd G.1 G.2.1 dL_law_337 ?_
  refine va_sld G.1 G.2.1 hXx hbl hbA hS hi1 dL_law_338 ?_
  refine hb_aload_n G dL_law_339 hl rfl ?_
  refine hb_iload G dL_law_340 hl rfl ?_
  refine lv_iconst (v := 2) G.1 G.2.1 dL_law_342 (by decide) ?_
  refine lv_iadd G.1 G.2.1 dL_law_343 ?_
  refine va_sld G.1 G.2.1 hXx hbl hbA hS hi2 dL_law_344 ?_
  refine hb_aload_n G dL_law_345 hl rfl ?_
  have hFr : ∀ (v : Option Value) (K : Heap), (cLo V dn (xs (i + 1).toNatClampNeg) (xs (i + 2).toNatClampNeg) H) v K → Fr s.heap.size 38 H K := fun v K h9 => (by rw [h9.2.2.2]; exact Fr.rf)
  obtain ⟨f0_, hf0_⟩ := hJ.2.2.2.2.2
  refine hl_callS (A := fG s.heap.size) (As := [.ref s.heap.size, .int (xs (i + 1).toNatClampNeg), .int (xs (i + 2).toNatClampNeg), .ref (s.heap.size + 51)]) (rest := []) G (XX_S hXX hS) hN hml (e_log (post := cLo V dn (xs (i + 1).toNatClampNeg) (xs (i + 2).toNatClampNeg) H) (px := thX (dkIs (xs (i + 1).toNatClampNeg) ∧ 0 ≤ (xs (i + 2).toNatClampNeg) ∧ (xs (i + 2).toNatClampNeg) ≤ 3) dn H) (F := f0) g s.heap.size sa l s.heap.size (s.heap.size + 51) (xs (i + 1).toNatClampNeg) (xs (i + 2).toNatClampNeg) _ H hJ.1.1.1 (c_log g s.heap.size sa l hlt s.heap.size S B P V bu tc dn wr H hSB hJ.1.2 hJ.1.1 (xs (i + 1).toNatClampNeg) (xs (i + 2).toNatClampNeg)) (fun v K h9 => by obtain ⟨⟨_, _, _, h8⟩, _⟩ := h9; exact ⟨_, h8⟩) (fun v K h9 => ⟨f0_, hf0_.kept ((hFr v K h9).2 _ (by omega))⟩) (fun E K h9 => thX_any h9)) km_L_67 kt_L_log kn_L ko_L_log hd_L_log ⟨Nat.le_of_ble_eq_true rfl, Nat.le_of_ble_eq_true rfl⟩ hl.size rfl (Nat.le_of_ble_eq_true rfl) dL_law_346 ⟨by show cells + 3 ≤ 601024; omega, by show slots + 18 ≤ 7292999; omega⟩ hL (fun q h => h.elim (fun h9 => h9.elim) (fun h9 => by show s.heap.size ≤ q; omega)) (fun v1 K2 locs1 hp hL => ?_)
  obtain ⟨k, rfl⟩ := hPo_int hp
  have hMK : MK s.heap.size H K2 := hPo_MK hp hFr (fun E K h9 => h9.1)
  have hS2 := S_MK hS hMK hL
  replace hS := hS2
  obtain ⟨hmd, hG2⟩ := hJ.mid hMK
  refine hb_istore G dL_law_349 hl (by decide) (fun ls hl => ?_)
  refine hb_aload_n G dL_law_351 hl rfl ?_
  refine hb_aload_n G dL_law_352 hl rfl ?_
  refine hb_iload G dL_law_353 hl rfl ?_
  refine lv_iconst (v := 1) G.1 G.2.1 dL_law_355 (by decide) ?_
  refine lv_iadd G.1 G.2.1 dL_law_356 ?_
  refine va_sld G.1 G.2.1 hXx hbl hbA hS hi1 dL_law_357 ?_
  refine hb_aload_n G dL_law_358 hl rfl ?_
  refine hb_iload G dL_law_359 hl rfl ?_
  refine lv_iconst (v := 2) G.1 G.2.1 dL_law_361 (by decide) ?_
  refine lv_iadd G.1 G.2.1 dL_law_362 ?_
  refine va_sld G.1 G.2.1 hXx hbl hbA hS hi2 dL_law_363 ?_
  refine hb_callV (A := fG s.heap.size) (As := [.int (xs (i + 1).toNatClampNeg), .int (xs (i + 2).toNatClampNeg)]) (rest := []) G hml (m_log g l (s.heap.size + 38) S B C a A cd wr tc dn en pl K2 hmd ⟨hSB, by omega, by omega⟩ hsg (xs (i + 1).toNatClampNeg) (xs (i + 2).toNatClampNeg)) hmd.1 rfl km_L_69 ki_X2_log ks_X2_log kn_X2 ko_X2_log hd_X2_log ⟨Nat.le_of_ble_eq_true rfl, Nat.le_of_ble_eq_true rfl⟩ hl.size rfl (Nat.le_of_ble_eq_true rfl) dL_law_364 ⟨by show cells + 3 + 0 ≤ 601024; omega, by show slots + 18 + 0 ≤ 7292999; omega⟩ hL (fM_G hG2) (fun v2 H2 locs2 hp2 hL => ?_)
  obtain ⟨y, rfl, hOK⟩ := J_log hJ hp hp2
  have hO1 := hOK.one
  obtain ⟨hPX, P1, V1, bu1, A1, C1, a1, tc1, dn1, wr1, en1, pl1, hJ1, hy1⟩ := hOK
  have hS3 := S_PX hS hPX hL
  refine hb_istore G dL_law_367 hl (by decide) (fun ls hl => ?_)
  refine hb_aload_n G dL_law_369 hl rfl ?_
  refine hb_callV (A := fG s.heap.size) (As := []) (rest := []) G hml (m_thrown g l (s.heap.size + 38) S B C1 a1 A1 k wr1 tc1 dn1 en1 pl1 H2 hJ1.2.1) hJ1.2.1.1 rfl km_L_57 ki_X2_thrown ks_X2_thrown kn_X2 ko_X2_thrown hd_X2_thrown ⟨Nat.le_of_ble_eq_true rfl, Nat.le_of_ble_eq_true rfl⟩ hl.size rfl (Nat.le_of_ble_eq_true rfl) dL_law_370 ⟨by show cells + 3 + 0 + 0 ≤ 601024; omega, by show slots + 18 + 0 + 0 ≤ 7292999; omega⟩ hL (fun q h9 => h9.elim) (fun v3 H3 locs3 hp3 hL => ?_)
  obtain ⟨rfl, rfl⟩ := hp3
  have hS4 := S_PX hS hPX hL
  refine hb_iload G dL_law_373 hl rfl ?_
  refine lv_icmp_eq (tgt := 380) G.1 G.2.1 dL_law_375 (by decide) (fun _ => ?_) (fun h9 => absurd rfl h9)
  refine hb_iload G dL_law_380 hl rfl ?_
  refine lv_if_ne (tgt := 397) G.1 G.2.1 dL_law_382 (by decide) (fun _ => ?_) (fun k0 => ?_)
  · refine lv_goto (tgt := 679) G.1 G.2.1 dL_law_397 (by decide) ?_
    exact hK _ _ _ _ _ _ k (by omega) (by omega) hO1 hS4 ((hl.drop 5).drop 6)
  · obtain ⟨f9, hf9, hy9⟩ := hy1 k0
    refine hb_aload_n G dL_law_385 hl rfl ?_
    refine lv_iconst (v := 0) G.1 G.2.1 dL_law_386 (by decide) ?_
    refine hb_jald G hf9 vp01 dL_law_387 ?_
    refine hb_iload G dL_law_388 hl rfl ?_
    refine lv_i2l (v := y.toInt64) G.1 G.2.1 dL_law_390 rfl ?_
    refine W.lcmp G.1 G.2.1 dL_law_391 ?_
    refine lv_if_eq (tgt := 397) G.1 G.2.1 dL_law_392 (by decide) (fun _ => ?_) (fun h9 => absurd (lgc0 hy9) h9)
    refine lv_goto (tgt := 679) G.1 G.2.1 dL_law_397 (by decide) ?_
    exact hK _ _ _ _ _ _ k (by omega) (by omega) hO1 hS4 ((hl.drop 5).drop 6)
set_option maxHeartbeats 4000000 in
set_option maxRecDepth 100000 in
theorem law_entry {p : Program} {l : Launch} {e : Env} {s : State} {m : MethodId} {below : List Frame} {meth : Method} {c : Code} {g : Gx} {b L : Nat} {xs : Nat → Int32} {sa : Nat → Nat} {S B : Nat} {P : Nat → Nat} {V : Nat → LV} {bu : Nat → Int32} {A : Nat → Nat → Int32} {C : Nat} {a : Nat → Nat} {tc dn wr cd : Int32} {en pl j : Nat} {i : Int32} {H : Heap} {locs : List Loc} {ls : Array Slot} {cells slots : Nat} (A0 : LA g p l s m meth c b L xs sa) (hSB : dkB S B) (hj : j < 512) (hi1 : vp_in (i + 1) L) (hi2 : vp_in (i + 2) L) (hi3 : vp_in (i + 3) L) (hJ : JS g s.heap.size S B P V bu A C a tc dn wr cd en pl j H) (hS : va_S (fG s.heap.size) s.heap H locs) (hl : lh ls 7 (LL b s.heap.size i)) (hc : cells ≤ 52 + 10 * j) (hs : slots ≤ 12357 + 2600 * j) (hK : K679 p l e s m below meth c b g S B j i) : W p l e room_1 s m #[Value.ref b] below meth c H locs cells slots (lw_Z below #[Value.ref b] s) (F0 m 400 ls []) := by
  obtain ⟨G, hml, hXx, hbl, hlt, hXX, hN, hr, hlocks⟩ := A0
  have hbA : ¬ fG s.heap.size b := fun q => Nat.not_le.mpr hbl q
  have hL := hS.2.2
  have hR := hJ.2.2.1
  obtain ⟨c1, c2, c3, c4, c5⟩ := id hJ.2.2.2.1
  have hsg := hR.sg hSB.2.2.2
  refine hb_aload_n G dL_law_400 hl rfl ?_
  refine hb_aload_n G dL_law_401 hl rfl ?_
  refine hb_iload G dL_law_402 hl rfl ?_
  refine lv_iconst (v := 1) G.1 G.2.1 dL_law_404 (by decide) ?_
  refine lv_iadd G.1 G.2.1 dL_law_405 ?_
  refine va_sld G.1 G.2.1 hXx hbl hbA hS hi1 dL_law_406 ?_
  refine hb_aload_n G dL_law_407 hl rfl ?_
  refine hb_iload G dL_law_408 hl rfl ?_
  refine lv_iconst (v := 2) G.1 G.2.1 dL_law_410 (by decide) ?_
  refine lv_iadd G.1 G.2.1 dL_law_411 ?_
  refine va_sld G.1 G.2.1 hXx hbl hbA hS hi2 dL_law_412 ?_
  refine hb_aload_n G dL_law_413 hl rfl ?_
  refine hb_iload G dL_law_414 hl rfl ?_
  refine lv_iconst (v := 3) G.1 G.2.1 dL_law_416 (by decide) ?_
  refine lv_iadd G.1 G.2.1 dL_law_417 ?_
  refine va_sld G.1 G.2.1 hXx hbl hbA hS hi3 dL_law_418 ?_
  refine hb_aload_n G dL_law_419 hl rfl ?_
  have hFr : ∀ (v : Option Value) (K : Heap), (cEn V dn (xs (i + 1).toNatClampNeg) (xs (i + 2).toNatClampNeg) (xs (i + 3).toNatClampNeg) H) v K → Fr s.heap.size 38 H K := fun v K h9 => (by rw [h9.2.2.2]; exact Fr.rf)
  obtain ⟨f0_, hf0_⟩ := hJ.2.2.2.2.2
  refine hl_callS (A := fG s.heap.size) (As := [.ref s.heap.size, .int (xs (i + 1).toNatClampNeg), .int (xs (i + 2).toNatClampNeg), .int (xs (i + 3).toNatClampNeg), .ref (s.heap.size + 51)]) (rest := []) G (XX_S hXX hS) hN hml (e_entry (post := cEn V dn (xs (i + 1).toNatClampNeg) (xs (i + 2).toNatClampNeg) (xs (i + 3).toNatClampNeg) H) (px := thX (dkIs (xs (i + 1).toNatClampNeg) ∧ (0 ≤ (xs (i + 3).toNatClampNeg) ∧ (xs (i + 3).toNatClampNeg) ≤ 2) ∧ (¬ dn = 0 ∨ ∀ j : Nat, j < 4 → (xs (i + 1).toNatClampNeg) = nI j → 0 ≤ (xs (i + 2).toNatClampNeg) ∧ (xs (i + 2).toNatClampNeg) ≤ nI (V j).2.2.1 - 1)) dn H) (F := f0) g s.heap.size sa l s.heap.size (s.heap.size + 51) (xs (i + 1).toNatClampNeg) (xs (i + 2).toNatClampNeg) (xs (i + 3).toNatClampNeg) _ H hJ.1.1.1 (c_entry g s.heap.size sa l hlt s.heap.size S B P V bu tc dn wr H hSB hJ.1.2 hJ.1.1 (xs (i + 1).toNatClampNeg) (xs (i + 2).toNatClampNeg) (xs (i + 3).toNatClampNeg)) (fun v K h9 => by obtain ⟨⟨_, _, _, _, h8⟩, _⟩ := h9; exact ⟨_, h8⟩) (fun v K h9 => ⟨f0_, hf0_.kept ((hFr v K h9).2 _ (by omega))⟩) (fun E K h9 => thX_any h9)) km_L_70 kt_L_entry kn_L ko_L_entry hd_L_entry ⟨Nat.le_of_ble_eq_true rfl, Nat.le_of_ble_eq_true rfl⟩ hl.size rfl (Nat.le_of_ble_eq_true rfl) dL_law_420 ⟨by show cells + 4 ≤ 601024; omega, by show slots + 24 ≤ 7292999; omega⟩ hL (fun q h => h.elim (fun h9 => h9.elim) (fun h9 => by show s.heap.size ≤ q; omega)) (fun v1 K2 locs1 hp hL => ?_)
  obtain ⟨k, rfl⟩ := hPo_int hp
  have hMK : MK s.heap.size H K2 := hPo_MK hp hFr (fun E K h9 => h9.1)
  have hS2 := S_MK hS hMK hL
  replace hS := hS2
  obtain ⟨hmd, hG2⟩ := hJ.mid hMK
  refine hb_istore G dL_law_423 hl (by decide) (fun ls hl => ?_)
  refine hb_aload_n G dL_law_425 hl rfl ?_
  refine hb_aload_n G dL_law_426 hl rfl ?_
  refine hb_iload G dL_law_427 hl rfl ?_
  refine lv_iconst (v := 1) G.1 G.2.1 dL_law_429 (by decide) ?_
  refine lv_iadd G.1 G.2.1 dL_law_430 ?_
  refine va_sld G.1 G.2.1 hXx hbl hbA hS hi1 dL_law_431 ?_
  refine hb_aload_n G dL_law_432 hl rfl ?_
  refine hb_iload G dL_law_433 hl rfl ?_
  refine lv_iconst (v := 2) G.1 G.2.1 dL_law_435 (by decide) ?_
  refine lv_iadd G.1 G.2.1 dL_law_436 ?_
  refine va_sld G.1 G.2.1 hXx hbl hbA hS hi2 dL_law_437 ?_
  refine hb_aload_n G dL_law_438 hl rfl ?_
  refine hb_iload G dL_law_439 hl rfl ?_
  refine lv_iconst (v := 3) G.1 G.2.1 dL_law_441 (by decide) ?_
  refine lv_iadd G.1 G.2.1 dL_law_442 ?_
  refine va_sld G.1 G.2.1 hXx hbl hbA hS hi3 dL_law_443 ?_
  refine hb_callV (A := fG s.heap.size) (As := [.int (xs (i + 1).toNatClampNeg), .int (xs (i + 2).toNatClampNeg), .int (xs (i + 3).toNatClampNeg)]) (rest := []) G hml (m_entry g l (s.heap.size + 38) S B C a A cd wr tc dn en pl K2 hmd ⟨hSB, by omega, by omega⟩ hsg (xs (i + 1).toNatClampNeg) (xs (i + 2).toNatClampNeg) (xs (i + 3).toNatClampNeg) hR.seg) hmd.1 rfl km_L_72 ki_X2_entry ks_X2_entry kn_X2 ko_X2_entry hd_X2_entry ⟨Nat.le_of_ble_eq_true rfl, Nat.le_of_ble_eq_true rfl⟩ hl.size rfl (Nat.le_of_ble_eq_true rfl) dL_law_444 ⟨by show cells + 4 + 0 ≤ 601024; omega, by show slots + 24 + 0 ≤ 7292999; omega⟩ hL (fM_G hG2) (fun v2 H2 locs2 hp2 hL => ?_)
  obtain ⟨y, rfl, hOK⟩ := J_entry hJ hp hp2
  have hO1 := hOK.one
  obtain ⟨hPX, P1, V1, bu1, A1, C1, a1, tc1, dn1, wr1, en1, pl1, hJ1, hy1⟩ := hOK
  have hS3 := S_PX hS hPX hL
  refine hb_istore G dL_law_447 hl (by decide) (fun ls hl => ?_)
  refine hb_aload_n G dL_law_449 hl rfl ?_
  refine hb_callV (A := fG s.heap.size) (As := []) (rest := []) G hml (m_thrown g l (s.heap.size + 38) S B C1 a1 A1 k wr1 tc1 dn1 en1 pl1 H2 hJ1.2.1) hJ1.2.1.1 rfl km_L_57 ki_X2_thrown ks_X2_thrown kn_X2 ko_X2_thrown hd_X2_thrown ⟨Nat.le_of_ble_eq_true rfl, Nat.le_of_ble_eq_true rfl⟩ hl.size rfl (Nat.le_of_ble_eq_true rfl) dL_law_450 ⟨by show cells + 4 + 0 + 0 ≤ 601024; omega, by show slots + 24 + 0 + 0 ≤ 7292999; omega⟩ hL (fun q h9 => h9.elim) (fun v3 H3 locs3 hp3 hL => ?_)
  obtain ⟨rfl, rfl⟩ := hp3
  have hS4 := S_PX hS hPX hL
  refine hb_iload G dL_law_453 hl rfl ?_
  refine lv_icmp_eq (tgt := 460) G.1 G.2.1 dL_law_455 (by decide) (fun _ => ?_) (fun h9 => absurd rfl h9)
  refine hb_iload G dL_law_460 hl rfl ?_
  refine lv_if_ne (tgt := 477) G.1 G.2.1 dL_law_462 (by decide) (fun _ => ?_) (fun k0 => ?_)
  · refine lv_goto (tgt := 679) G.1 G.2.1 dL_law_477 (by decide) ?_
    exact hK _ _ _ _ _ _ k (by omega) (by omega) hO1 hS4 ((hl.drop 5).drop 6)
  · obtain ⟨f9, hf9, hy9⟩ := hy1 k0
    refine hb_aload_n G dL_law_465 hl rfl ?_
    refine lv_iconst (v := 0) G.1 G.2.1 dL_law_466 (by decide) ?_
    refine hb_jald G hf9 vp01 dL_law_467 ?_
    refine hb_iload G dL_law_468 hl rfl ?_
    refine lv_i2l (v := y.toInt64) G.1 G.2.1 dL_law_470 rfl ?_
    refine W.lcmp G.1 G.2.1 dL_law_471 ?_
    refine lv_if_eq (tgt := 477) G.1 G.2.1 dL_law_472 (by decide) (fun _ => ?_) (fun h9 => absurd (lgc0 hy9) h9)
    refine lv_goto (tgt := 679) G.1 G.2.1 dL_law_477 (by decide) ?_
    exact hK _ _ _ _ _ _ k (by omega) (by omega) hO1 hS4 ((hl.drop 5).drop 6)
set_option maxHeartbeats 4000000 in
set_option maxRecDepth 100000 in
theorem law_byteAt {p : Program} {l : Launch} {e : Env} {s : State} {m : MethodId} {below : List Frame} {meth : Method} {c : Code} {g : Gx} {b L : Nat} {xs : Nat → Int32} {sa : Nat → Nat} {S B : Nat} {P : Nat → Nat} {V : Nat → LV} {bu : Nat → Int32} {A : Nat → Nat → Int32} {C : Nat} {a : Nat → Nat} {tc dn wr cd : Int32} {en pl j : Nat} {i : Int32} {H : Heap} {locs : List Loc} {ls : Array Slot} {cells slots : Nat} (A0 : LA g p l s m meth c b L xs sa) (hSB : dkB S B) (hj : j < 512) (hi1 : vp_in (i + 1) L) (hi2 : vp_in (i + 2) L) (hi3 : vp_in (i + 3) L) (hJ : JS g s.heap.size S B P V bu A C a tc dn wr cd en pl j H) (hS : va_S (fG s.heap.size) s.heap H locs) (hl : lh ls 7 (LL b s.heap.size i)) (hc : cells ≤ 52 + 10 * j) (hs : slots ≤ 12357 + 2600 * j) (hK : K679 p l e s m below meth c b g S B j i) : W p l e room_1 s m #[Value.ref b] below meth c H locs cells slots (lw_Z below #[Value.ref b] s) (F0 m 480 ls []) := by
  obtain ⟨G, hml, hXx, hbl, hlt, hXX, hN, hr, hlocks⟩ := A0
  have hbA : ¬ fG s.heap.size b := fun q => Nat.not_le.mpr hbl q
  have hL := hS.2.2
  have hR := hJ.2.2.1
  obtain ⟨c1, c2, c3, c4, c5⟩ := id hJ.2.2.2.1
  have hsg := hR.sg hSB.2.2.2
  refine hb_aload_n G dL_law_480 hl rfl ?_
  refine hb_aload_n G dL_law_481 hl rfl ?_
  refine hb_iload G dL_law_482 hl rfl ?_
  refine lv_iconst (v := 1) G.1 G.2.1 dL_law_484 (by decide) ?_
  refine lv_iadd G.1 G.2.1 dL_law_485 ?_
  refine va_sld G.1 G.2.1 hXx hbl hbA hS hi1 dL_law_486 ?_
  refine hb_aload_n G dL_law_487 hl rfl ?_
  refine hb_iload G dL_law_488 hl rfl ?_
  refine lv_iconst (v := 2) G.1 G.2.1 dL_law_490 (by decide) ?_
  refine lv_iadd G.1 G.2.1 dL_law_491 ?_
  refine va_sld G.1 G.2.1 hXx hbl hbA hS hi2 dL_law_492 ?_
  refine hb_aload_n G dL_law_493 hl rfl ?_
  refine hb_iload G dL_law_494 hl rfl ?_
  refine lv_iconst (v := 3) G.1 G.2.1 dL_law_496 (by decide) ?_
  refine lv_iadd G.1 G.2.1 dL_law_497 ?_
  refine va_sld G.1 G.2.1 hXx hbl hbA hS hi3 dL_law_498 ?_
  refine hb_aload_n G dL_law_499 hl rfl ?_
  have hFr : ∀ (v : Option Value) (K : Heap), (cBy V dn (xs (i + 1).toNatClampNeg) (xs (i + 2).toNatClampNeg) (xs (i + 3).toNatClampNeg) H) v K → Fr s.heap.size 38 H K := fun v K h9 => (by rw [h9.2.2]; exact Fr.rf)
  obtain ⟨f0_, hf0_⟩ := hJ.2.2.2.2.2
  refine hl_callS (A := fG s.heap.size) (As := [.ref s.heap.size, .int (xs (i + 1).toNatClampNeg), .int (xs (i + 2).toNatClampNeg), .int (xs (i + 3).toNatClampNeg), .ref (s.heap.size + 51)]) (rest := []) G (XX_S hXX hS) hN hml (e_byteAt (post := cBy V dn (xs (i + 1).toNatClampNeg) (xs (i + 2).toNatClampNeg) (xs (i + 3).toNatClampNeg) H) (px := thX (dkIs (xs (i + 1).toNatClampNeg) ∧ (¬ dn = 0 ∨ ∀ j : Nat, j < 4 → (xs (i + 1).toNatClampNeg) = nI j → (0 ≤ (xs (i + 2).toNatClampNeg) ∧ (xs (i + 2).toNatClampNeg) ≤ nI (V j).2.2.1 - 1) ∧ (0 ≤ (xs (i + 3).toNatClampNeg) ∧ (xs (i + 3).toNatClampNeg) ≤ atV ((V j).1 2) 512 (xs (i + 2).toNatClampNeg) - 1))) dn H) (F := f0) g s.heap.size sa l s.heap.size (s.heap.size + 51) (xs (i + 1).toNatClampNeg) (xs (i + 2).toNatClampNeg) (xs (i + 3).toNatClampNeg) _ H hJ.1.1.1 (c_byteAt g s.heap.size sa l hlt s.heap.size S B P V bu tc dn wr H hSB hJ.1.2 hJ.1.1 (xs (i + 1).toNatClampNeg) (xs (i + 2).toNatClampNeg) (xs (i + 3).toNatClampNeg)) (fun v K h9 => by obtain ⟨⟨_, _, _, _, _, h8⟩, _⟩ := h9; exact ⟨_, h8⟩) (fun v K h9 => ⟨f0_, hf0_.kept ((hFr v K h9).2 _ (by omega))⟩) (fun E K h9 => thX_any h9)) km_L_73 kt_L_byteAt kn_L ko_L_byteAt hd_L_byteAt ⟨Nat.le_of_ble_eq_true rfl, Nat.le_of_ble_eq_true rfl⟩ hl.size rfl (Nat.le_of_ble_eq_true rfl) dL_law_500 ⟨by show cells + 4 ≤ 601024; omega, by show slots + 24 ≤ 7292999; omega⟩ hL (fun q h => h.elim (fun h9 => h9.elim) (fun h9 => by show s.heap.size ≤ q; omega)) (fun v1 K2 locs1 hp hL => ?_)
  obtain ⟨k, rfl⟩ := hPo_int hp
  have hMK : MK s.heap.size H K2 := hPo_MK hp hFr (fun E K h9 => h9.1)
  have hS2 := S_MK hS hMK hL
  replace hS := hS2
  obtain ⟨hmd, hG2⟩ := hJ.mid hMK
  refine hb_istore G dL_law_503 hl (by decide) (fun ls hl => ?_)
  refine hb_aload_n G dL_law_505 hl rfl ?_
  refine hb_aload_n G dL_law_506 hl rfl ?_
  refine hb_iload G dL_law_507 hl rfl ?_
  refine lv_iconst (v := 1) G.1 G.2.1 dL_law_509 (by decide) ?_
  refine lv_iadd G.1 G.2.1 dL_law_510 ?_
  refine va_sld G.1 G.2.1 hXx hbl hbA hS hi1 dL_law_511 ?_
  refine hb_aload_n G dL_law_512 hl rfl ?_
  refine hb_iload G dL_law_513 hl rfl ?_
  refine lv_iconst (v := 2) G.1 G.2.1 dL_law_515 (by decide) ?_
  refine lv_iadd G.1 G.2.1 dL_law_516 ?_
  refine va_sld G.1 G.2.1 hXx hbl hbA hS hi2 dL_law_517 ?_
  refine hb_aload_n G dL_law_518 hl rfl ?_
  refine hb_iload G dL_law_519 hl rfl ?_
  refine lv_iconst (v := 3) G.1 G.2.1 dL_law_521 (by decide) ?_
  refine lv_iadd G.1 G.2.1 dL_law_522 ?_
  refine va_sld G.1 G.2.1 hXx hbl hbA hS hi3 dL_law_523 ?_
  refine hb_callV (A := fG s.heap.size) (As := [.int (xs (i + 1).toNatClampNeg), .int (xs (i + 2).toNatClampNeg), .int (xs (i + 3).toNatClampNeg)]) (rest := []) G hml (m_byteAt g l (s.heap.size + 38) S B C a A cd wr tc dn en pl K2 hmd ⟨hSB, by omega, by omega⟩ hsg (szV V) (xs (i + 1).toNatClampNeg) (xs (i + 2).toNatClampNeg) (xs (i + 3).toNatClampNeg) hR.szs) hmd.1 rfl km_L_75 ki_X2_byteAt ks_X2_byteAt kn_X2 ko_X2_byteAt hd_X2_byteAt ⟨Nat.le_of_ble_eq_true rfl, Nat.le_of_ble_eq_true rfl⟩ hl.size rfl (Nat.le_of_ble_eq_true rfl) dL_law_524 ⟨by show cells + 4 + 0 ≤ 601024; omega, by show slots + 24 + 0 ≤ 7292999; omega⟩ hL (fM_G hG2) (fun v2 H2 locs2 hp2 hL => ?_)
  obtain ⟨y, rfl, hOK⟩ := J_byteAt hJ hp hp2
  have hO1 := hOK.one
  obtain ⟨hPX, P1, V1, bu1, A1, C1, a1, tc1, dn1, wr1, en1, pl1, hJ1, hy1⟩ := hOK
  have hS3 := S_PX hS hPX hL
  refine hb_istore G dL_law_527 hl (by decide) (fun ls hl => ?_)
  refine hb_aload_n G dL_law_529 hl rfl ?_
  refine hb_callV (A := fG s.heap.size) (As := []) (rest := []) G hml (m_thrown g l (s.heap.size + 38) S B C1 a1 A1 k wr1 tc1 dn1 en1 pl1 H2 hJ1.2.1) hJ1.2.1.1 rfl km_L_57 ki_X2_thrown ks_X2_thrown kn_X2 ko_X2_thrown hd_X2_thrown ⟨Nat.le_of_ble_eq_true rfl, Nat.le_of_ble_eq_true rfl⟩ hl.size rfl (Nat.le_of_ble_eq_true rfl) dL_law_530 ⟨by show cells + 4 + 0 + 0 ≤ 601024; omega, by show slots + 24 + 0 + 0 ≤ 7292999; omega⟩ hL (fun q h9 => h9.elim) (fun v3 H3 locs3 hp3 hL => ?_)
  obtain ⟨rfl, rfl⟩ := hp3
  have hS4 := S_PX hS hPX hL
  refine hb_iload G dL_law_533 hl rfl ?_
  refine lv_icmp_eq (tgt := 540) G.1 G.2.1 dL_law_535 (by decide) (fun _ => ?_) (fun h9 => absurd rfl h9)
  refine hb_iload G dL_law_540 hl rfl ?_
  refine lv_if_ne (tgt := 557) G.1 G.2.1 dL_law_542 (by decide) (fun _ => ?_) (fun k0 => ?_)
  · refine lv_goto (tgt := 679) G.1 G.2.1 dL_law_557 (by decide) ?_
    exact hK _ _ _ _ _ _ k (by omega) (by omega) hO1 hS4 ((hl.drop 5).drop 6)
  · obtain ⟨f9, hf9, hy9⟩ := hy1 k0
    refine hb_aload_n G dL_law_545 hl rfl ?_
    refine lv_iconst (v := 0) G.1 G.2.1 dL_law_546 (by decide) ?_
    refine hb_jald G hf9 vp01 dL_law_547 ?_
    refine hb_iload G dL_law_548 hl rfl ?_
    refine lv_i2l (v := y.toInt64) G.1 G.2.1 dL_law_550 rfl ?_
    refine W.lcmp G.1 G.2.1 dL_law_551 ?_
    refine lv_if_eq (tgt := 557) G.1 G.2.1 dL_law_552 (by decide) (fun _ => ?_) (fun h9 => absurd (lgc0 hy9) h9)
    refine lv_goto (tgt := 679) G.1 G.2.1 dL_law_557 (by decide) ?_
    exact hK _ _ _ _ _ _ k (by omega) (by omega) hO1 hS4 ((hl.drop 5).drop 6)
set_option maxHeartbeats 4000000 in
set_option maxRecDepth 100000 in
theorem law_crash {p : Program} {l : Launch} {e : Env} {s : State} {m : MethodId} {below : List Frame} {meth : Method} {c : Code} {g : Gx} {b L : Nat} {xs : Nat → Int32} {sa : Nat → Nat} {S B : Nat} {P : Nat → Nat} {V : Nat → LV} {bu : Nat → Int32} {A : Nat → Nat → Int32} {C : Nat} {a : Nat → Nat} {tc dn wr cd : Int32} {en pl j : Nat} {i : Int32} {H : Heap} {locs : List Loc} {ls : Array Slot} {cells slots : Nat} (A0 : LA g p l s m meth c b L xs sa) (hSB : dkB S B) (hj : j < 512) (hi1 : vp_in (i + 1) L) (hJ : JS g s.heap.size S B P V bu A C a tc dn wr cd en pl j H) (hS : va_S (fG s.heap.size) s.heap H locs) (hl : lh ls 7 (LL b s.heap.size i)) (hc : cells ≤ 52 + 10 * j) (hs : slots ≤ 12357 + 2600 * j) (hK : K679 p l e s m below meth c b g S B j i) : W p l e room_1 s m #[Value.ref b] below meth c H locs cells slots (lw_Z below #[Value.ref b] s) (F0 m 560 ls []) := by
  obtain ⟨G, hml, hXx, hbl, hlt, hXX, hN, hr, hlocks⟩ := A0
  have hbA : ¬ fG s.heap.size b := fun q => Nat.not_le.mpr hbl q
  have hL := hS.2.2
  have hR := hJ.2.2.1
  obtain ⟨c1, c2, c3, c4, c5⟩ := id hJ.2.2.2.1
  have hsg := hR.sg hSB.2.2.2
  refine hb_aload_n G dL_law_560 hl rfl ?_
  refine hb_aload_n G dL_law_561 hl rfl ?_
  refine hb_iload G dL_law_562 hl rfl ?_
  refine lv_iconst (v := 1) G.1 G.2.1 dL_law_564 (by decide) ?_
  refine lv_iadd G.1 G.2.1 dL_law_565 ?_
  refine va_sld G.1 G.2.1 hXx hbl hbA hS hi1 dL_law_566 ?_
  have hFr : ∀ (v : Option Value) (K : Heap), (cCr g s.heap.size S B P V bu dn wr (xs (i + 1).toNatClampNeg) H) v K → Fr s.heap.size 38 H K := fun v K h9 => (Fr.one h9.2.2.2.2.1 h9.2.2.2.2.2 (Nat.le_refl _) (by omega))
  obtain ⟨f0_, hf0_⟩ := hJ.2.2.2.2.2
  refine hl_callS (A := fG s.heap.size) (As := [.ref s.heap.size, .int (xs (i + 1).toNatClampNeg)]) (rest := []) G (XX_S hXX hS) hN hml (e_crash (post := cCr g s.heap.size S B P V bu dn wr (xs (i + 1).toNatClampNeg) H) (px := thX (-1 ≤ (xs (i + 1).toNatClampNeg) ∧ (xs (i + 1).toNatClampNeg) ≤ 1000) dn H) (F := f1 s.heap.size) g s.heap.size sa l s.heap.size (xs (i + 1).toNatClampNeg) _ H hJ.1.1.1 (c_crash g s.heap.size sa l hlt s.heap.size S B P V bu tc dn wr H hSB hJ.1.2 hJ.1.1 (xs (i + 1).toNatClampNeg)) (fun v K h9 => h9.1) (fun E K h9 => thX_any h9)) km_L_76 kt_L_crash kn_L ko_L_crash hd_L_crash ⟨Nat.le_of_ble_eq_true rfl, Nat.le_of_ble_eq_true rfl⟩ hl.size rfl (Nat.le_of_ble_eq_true rfl) dL_law_567 ⟨by show cells + 2 ≤ 601024; omega, by show slots + 12 ≤ 7292999; omega⟩ hL (fun q h9 => Nat.le_of_eq h9.symm) (fun v1 K2 locs1 hp hL => ?_)
  obtain ⟨k, rfl⟩ := hPv_int hp
  have hMK : MK s.heap.size H K2 := hPv_MK hp hFr (fun E K h9 => h9.1)
  have hS2 := S_MK hS hMK hL
  replace hS := hS2
  obtain ⟨hmd, hG2⟩ := hJ.mid hMK
  refine hb_istore G dL_law_570 hl (by decide) (fun ls hl => ?_)
  refine hb_aload_n G dL_law_572 hl rfl ?_
  refine hb_aload_n G dL_law_573 hl rfl ?_
  refine hb_iload G dL_law_574 hl rfl ?_
  refine lv_iconst (v := 1) G.1 G.2.1 dL_law_576 (by decide) ?_
  refine lv_iadd G.1 G.2.1 dL_law_577 ?_
  refine va_sld G.1 G.2.1 hXx hbl hbA hS hi1 dL_law_578 ?_
  refine hb_callV (A := fG s.heap.size) (As := [.int (xs (i + 1).toNatClampNeg)]) (rest := []) G hml (m_crash g l (s.heap.size + 38) S B C a A cd wr tc dn en pl K2 hmd (xs (i + 1).toNatClampNeg)) hmd.1 rfl km_L_79 ki_X2_crash ks_X2_crash kn_X2 ko_X2_crash hd_X2_crash ⟨Nat.le_of_ble_eq_true rfl, Nat.le_of_ble_eq_true rfl⟩ hl.size rfl (Nat.le_of_ble_eq_true rfl) dL_law_579 ⟨by show cells + 2 + 0 ≤ 601024; omega, by show slots + 12 + 0 ≤ 7292999; omega⟩ hL (fM_G hG2) (fun v2 H2 locs2 hp2 hL => ?_)
  obtain ⟨rfl, hO1⟩ := J_crash hJ hp hp2
  obtain ⟨hPX, P1, V1, bu1, A1, C1, a1, tc1, dn1, wr1, en1, pl1, hJ1⟩ := id hO1
  have hS3 := S_PX hS hPX hL
  refine hb_aload_n G dL_law_582 hl rfl ?_
  refine hb_callV (A := fG s.heap.size) (As := []) (rest := []) G hml (m_thrown g l (s.heap.size + 38) S B C1 a1 A1 k wr1 tc1 dn1 en1 pl1 H2 hJ1.2.1) hJ1.2.1.1 rfl km_L_57 ki_X2_thrown ks_X2_thrown kn_X2 ko_X2_thrown hd_X2_thrown ⟨Nat.le_of_ble_eq_true rfl, Nat.le_of_ble_eq_true rfl⟩ hl.size rfl (Nat.le_of_ble_eq_true rfl) dL_law_583 ⟨by show cells + 2 + 0 + 0 ≤ 601024; omega, by show slots + 12 + 0 + 0 ≤ 7292999; omega⟩ hL (fun q h9 => h9.elim) (fun v3 H3 locs3 hp3 hL => ?_)
  obtain ⟨rfl, rfl⟩ := hp3
  have hS4 := S_PX hS hPX hL
  refine hb_iload G dL_law_586 hl rfl ?_
  refine lv_icmp_eq (tgt := 593) G.1 G.2.1 dL_law_588 (by decide) (fun _ => ?_) (fun h9 => absurd rfl h9)
  refine lv_goto (tgt := 679) G.1 G.2.1 dL_law_593 (by decide) ?_
  exact hK _ _ _ _ _ _ k (by omega) (by omega) hO1 hS4 ((hl.drop 5).drop 6)
set_option maxHeartbeats 4000000 in
set_option maxRecDepth 100000 in
theorem law_free {p : Program} {l : Launch} {e : Env} {s : State} {m : MethodId} {below : List Frame} {meth : Method} {c : Code} {g : Gx} {b L : Nat} {xs : Nat → Int32} {sa : Nat → Nat} {S B : Nat} {P : Nat → Nat} {V : Nat → LV} {bu : Nat → Int32} {A : Nat → Nat → Int32} {C : Nat} {a : Nat → Nat} {tc dn wr cd : Int32} {en pl j : Nat} {i : Int32} {H : Heap} {locs : List Loc} {ls : Array Slot} {cells slots : Nat} (A0 : LA g p l s m meth c b L xs sa) (hSB : dkB S B) (hj : j < 512) (hJ : JS g s.heap.size S B P V bu A C a tc dn wr cd en pl j H) (hS : va_S (fG s.heap.size) s.heap H locs) (hl : lh ls 7 (LL b s.heap.size i)) (hc : cells ≤ 52 + 10 * j) (hs : slots ≤ 12357 + 2600 * j) (hK : K679 p l e s m below meth c b g S B j i) : W p l e room_1 s m #[Value.ref b] below meth c H locs cells slots (lw_Z below #[Value.ref b] s) (F0 m 635 ls []) := by
  obtain ⟨G, hml, hXx, hbl, hlt, hXX, hN, hr, hlocks⟩ := A0
  have hbA : ¬ fG s.heap.size b := fun q => Nat.not_le.mpr hbl q
  have hL := hS.2.2
  have hR := hJ.2.2.1
  obtain ⟨c1, c2, c3, c4, c5⟩ := id hJ.2.2.2.1
  have hsg := hR.sg hSB.2.2.2
  refine hb_aload_n G dL_law_635 hl rfl ?_
  refine hb_aload_n G dL_law_636 hl rfl ?_
  have hFr : ∀ (v : Option Value) (K : Heap), (cFr g s.heap.size S B P V tc dn wr H) v K → Fr s.heap.size 38 H K := fun v K h9 => (Fr.one h9.2.2.2.1 h9.2.2.2.2 (by omega) (by omega))
  obtain ⟨f0_, hf0_⟩ := hJ.2.2.2.2.2
  refine hl_callS (A := fG s.heap.size) (As := [.ref s.heap.size, .ref (s.heap.size + 51)]) (rest := []) G (XX_S hXX hS) hN hml (e_free (post := cFr g s.heap.size S B P V tc dn wr H) (px := thX True dn H) (F := f1 (s.heap.size + 9)) g s.heap.size sa l s.heap.size (s.heap.size + 51)  _ H hJ.1.1.1 (c_free g s.heap.size sa l hlt s.heap.size S B P V bu tc dn wr H hSB hJ.1.2 hJ.1.1 ) (fun v K h9 => ⟨_, h9.1⟩) (fun v K h9 => ⟨f0_, hf0_.kept ((hFr v K h9).2 _ (by omega))⟩) (fun E K h9 => h9.2.elim (fun h8 => absurd trivial h8.2) (fun h8 => h8.1))) km_L_93 kt_L_free kn_L ko_L_free hd_L_free ⟨Nat.le_of_ble_eq_true rfl, Nat.le_of_ble_eq_true rfl⟩ hl.size rfl (Nat.le_of_ble_eq_true rfl) dL_law_637 ⟨by show cells + 1 ≤ 601024; omega, by show slots + 6 ≤ 7292999; omega⟩ hL (fun q h => h.elim (fun h9 => (by show s.heap.size ≤ q; have h8 : q = s.heap.size + 9 := h9; omega)) (fun h9 => by show s.heap.size ≤ q; omega)) (fun v1 K2 locs1 hp hL => ?_)
  obtain ⟨k, rfl⟩ := hPf_int hp
  have hMK : MK s.heap.size H K2 := hPf_MK hp hFr (fun E K h9 => h9.1)
  have hS2 := S_MK hS hMK hL
  replace hS := hS2
  obtain ⟨hmd, hG2⟩ := hJ.mid hMK
  refine hb_istore G dL_law_640 hl (by decide) (fun ls hl => ?_)
  refine hb_aload_n G dL_law_642 hl rfl ?_
  refine hb_callV (A := fG s.heap.size) (As := []) (rest := []) G hml (m_free g l (s.heap.size + 38) S B C a A cd wr tc dn en pl K2 hmd hSB hsg) hmd.1 rfl km_L_96 ki_X2_free ks_X2_free kn_X2 ko_X2_free hd_X2_free ⟨Nat.le_of_ble_eq_true rfl, Nat.le_of_ble_eq_true rfl⟩ hl.size rfl (Nat.le_of_ble_eq_true rfl) dL_law_643 ⟨by show cells + 1 + 0 ≤ 601024; omega, by show slots + 6 + 0 ≤ 7292999; omega⟩ hL (fM_G hG2) (fun v2 H2 locs2 hp2 hL => ?_)
  obtain ⟨y, rfl, hOK⟩ := J_free hSB hJ hp hp2
  have hO1 := hOK.one
  obtain ⟨hPX, P1, V1, bu1, A1, C1, a1, tc1, dn1, wr1, en1, pl1, hJ1, hy1⟩ := hOK
  have hS3 := S_PX hS hPX hL
  refine hb_istore G dL_law_646 hl (by decide) (fun ls hl => ?_)
  refine hb_aload_n G dL_law_648 hl rfl ?_
  refine hb_callV (A := fG s.heap.size) (As := []) (rest := []) G hml (m_thrown g l (s.heap.size + 38) S B C1 a1 A1 k wr1 tc1 dn1 en1 pl1 H2 hJ1.2.1) hJ1.2.1.1 rfl km_L_57 ki_X2_thrown ks_X2_thrown kn_X2 ko_X2_thrown hd_X2_thrown ⟨Nat.le_of_ble_eq_true rfl, Nat.le_of_ble_eq_true rfl⟩ hl.size rfl (Nat.le_of_ble_eq_true rfl) dL_law_649 ⟨by show cells + 1 + 0 + 0 ≤ 601024; omega, by show slots + 6 + 0 + 0 ≤ 7292999; omega⟩ hL (fun q h9 => h9.elim) (fun v3 H3 locs3 hp3 hL => ?_)
  obtain ⟨rfl, rfl⟩ := hp3
  have hS4 := S_PX hS hPX hL
  refine hb_iload G dL_law_652 hl rfl ?_
  refine lv_icmp_eq (tgt := 659) G.1 G.2.1 dL_law_654 (by decide) (fun _ => ?_) (fun h9 => absurd rfl h9)
  refine hb_iload G dL_law_659 hl rfl ?_
  refine lv_if_ne (tgt := 676) G.1 G.2.1 dL_law_661 (by decide) (fun _ => ?_) (fun k0 => ?_)
  · refine lv_goto (tgt := 679) G.1 G.2.1 dL_law_676 (by decide) ?_
    exact hK _ _ _ _ _ _ k (by omega) (by omega) hO1 hS4 ((hl.drop 5).drop 6)
  · obtain ⟨f9, hf9, hy9⟩ := hy1 k0
    refine hb_aload_n G dL_law_664 hl rfl ?_
    refine lv_iconst (v := 0) G.1 G.2.1 dL_law_665 (by decide) ?_
    refine hb_jald G hf9 vp01 dL_law_666 ?_
    refine hb_iload G dL_law_667 hl rfl ?_
    refine lv_i2l (v := y.toInt64) G.1 G.2.1 dL_law_669 rfl ?_
    refine W.lcmp G.1 G.2.1 dL_law_670 ?_
    refine lv_if_eq (tgt := 676) G.1 G.2.1 dL_law_671 (by decide) (fun _ => ?_) (fun h9 => absurd (lgc0 hy9) h9)
    refine lv_goto (tgt := 679) G.1 G.2.1 dL_law_676 (by decide) ?_
    exact hK _ _ _ _ _ _ k (by omega) (by omega) hO1 hS4 ((hl.drop 5).drop 6)
set_option maxHeartbeats 4000000 in
set_option maxRecDepth 100000 in
theorem law_recover {p : Program} {l : Launch} {e : Env} {s : State} {m : MethodId} {below : List Frame} {meth : Method} {c : Code} {g : Gx} {b L : Nat} {xs : Nat → Int32} {sa : Nat → Nat} {S B : Nat} {P : Nat → Nat} {V : Nat → LV} {bu : Nat → Int32} {A : Nat → Nat → Int32} {C : Nat} {a : Nat → Nat} {tc dn wr cd : Int32} {en pl j : Nat} {i : Int32} {H : Heap} {locs : List Loc} {ls : Array Slot} {cells slots : Nat} (A0 : LA g p l s m meth c b L xs sa) (hSB : dkB S B) (hj : j < 512) (hJ : JS g s.heap.size S B P V bu A C a tc dn wr cd en pl j H) (hS : va_S (fG s.heap.size) s.heap H locs) (hl : lh ls 7 (LL b s.heap.size i)) (hc : cells ≤ 52 + 10 * j) (hs : slots ≤ 12357 + 2600 * j) (hK : K679 p l e s m below meth c b g S B j i) : W p l e room_1 s m #[Value.ref b] below meth c H locs cells slots (lw_Z below #[Value.ref b] s) (F0 m 596 ls []) := by
  obtain ⟨G, hml, hXx, hbl, hlt, hXX, hN, hr, hlocks⟩ := A0
  have hL := hS.2.2
  refine hb_aload_n G dL_law_596 hl rfl ?_
  refine hb_callV (A := fG s.heap.size) (As := []) (rest := []) G hml (c_recover g l s.heap.size S B P V bu tc dn wr H hSB hJ.1.2 hJ.1.1) hJ.1.1.1 rfl km_L_80 ki_X1_recover ks_X1_recover kn_X1 ko_X1_recover hd_X1_recover ⟨Nat.le_of_ble_eq_true rfl, Nat.le_of_ble_eq_true rfl⟩ hl.size rfl (Nat.le_of_ble_eq_true rfl) dL_law_597 ⟨by show cells + 0 ≤ 601024; omega, by show slots + 0 ≤ 7292999; omega⟩ hL (fun q h9 => Nat.le_of_eq (Eq.symm h9)) (fun v1 K2 locs1 hp hL => ?_)
  have hMK : MK s.heap.size H K2 := MK.fr1 (Fr.one hp.2.2.1 hp.2.2.2 (Nat.le_refl _) (by omega))
  have hv1 := hp.1
  subst hv1
  have hS2 := S_MK hS hMK hL
  replace hS := hS2
  obtain ⟨hmd, hG2⟩ := hJ.mid hMK
  refine hb_aload_n G dL_law_600 hl rfl ?_
  refine hb_callV (A := fG s.heap.size) (As := []) (rest := [.int (nI (sumE V 4))]) G hml (m_recover g l (s.heap.size + 38) S B C a A cd wr tc dn en pl K2 hmd) hmd.1 rfl km_L_83 ki_X2_recover ks_X2_recover kn_X2 ko_X2_recover hd_X2_recover ⟨Nat.le_of_ble_eq_true rfl, Nat.le_of_ble_eq_true rfl⟩ hl.size rfl (Nat.le_of_ble_eq_true rfl) dL_law_601 ⟨by show cells + 0 + 0 ≤ 601024; omega, by show slots + 0 + 0 ≤ 7292999; omega⟩ hL (fM_G hG2) (fun v2 H2 locs2 hp2 hL => ?_)
  obtain ⟨hrv, hO1⟩ := J_recover hJ hp hp2
  subst hrv
  refine lv_icmp_eq (tgt := 679) G.1 G.2.1 dL_law_604 (by decide) (fun _ => ?_) (fun h9 => absurd rfl h9)
  exact hK _ _ _ _ _ _ 0 (by omega) (by omega) hO1 (S_PX hS hO1.1 hL) hl
set_option maxHeartbeats 4000000 in
set_option maxRecDepth 100000 in
theorem law_isDown {p : Program} {l : Launch} {e : Env} {s : State} {m : MethodId} {below : List Frame} {meth : Method} {c : Code} {g : Gx} {b L : Nat} {xs : Nat → Int32} {sa : Nat → Nat} {S B : Nat} {P : Nat → Nat} {V : Nat → LV} {bu : Nat → Int32} {A : Nat → Nat → Int32} {C : Nat} {a : Nat → Nat} {tc dn wr cd : Int32} {en pl j : Nat} {i : Int32} {H : Heap} {locs : List Loc} {ls : Array Slot} {cells slots : Nat} (A0 : LA g p l s m meth c b L xs sa) (hSB : dkB S B) (hj : j < 512) (hJ : JS g s.heap.size S B P V bu A C a tc dn wr cd en pl j H) (hS : va_S (fG s.heap.size) s.heap H locs) (hl : lh ls 7 (LL b s.heap.size i)) (hc : cells ≤ 52 + 10 * j) (hs : slots ≤ 12357 + 2600 * j) (hK : K679 p l e s m below meth c b g S B j i) : W p l e room_1 s m #[Value.ref b] below meth c H locs cells slots (lw_Z below #[Value.ref b] s) (F0 m 609 ls []) := by
  obtain ⟨G, hml, hXx, hbl, hlt, hXX, hN, hr, hlocks⟩ := A0
  have hL := hS.2.2
  refine hb_aload_n G dL_law_609 hl rfl ?_
  refine hb_callV (A := fG s.heap.size) (As := []) (rest := []) G hml (c_isDown g l s.heap.size S _ tc dn wr H hJ.1.1.1 hJ.2.2.2.1.2.1) hJ.1.1.1 rfl km_L_84 ki_X1_isDown ks_X1_isDown kn_X1 ko_X1_isDown hd_X1_isDown ⟨Nat.le_of_ble_eq_true rfl, Nat.le_of_ble_eq_true rfl⟩ hl.size rfl (Nat.le_of_ble_eq_true rfl) dL_law_610 ⟨by show cells + 0 ≤ 601024; omega, by show slots + 0 ≤ 7292999; omega⟩ hL (fun q h9 => h9.elim) (fun v1 K2 locs1 hp hL => ?_)
  obtain ⟨rfl, rfl⟩ := hp
  have hMK : MK s.heap.size K2 K2 := MK.gr Gr.rf
  have hS2 := S_MK hS hMK hL
  replace hS := hS2
  obtain ⟨hmd, hG2⟩ := hJ.mid hMK
  refine hb_aload_n G dL_law_613 hl rfl ?_
  refine hb_callV (A := fG s.heap.size) (As := []) (rest := [.int dn]) G hml (m_isDown g l (s.heap.size + 38) S B C a A cd wr tc dn en pl K2 hmd hJ.2.2.2.1.2.1) hmd.1 rfl km_L_88 ki_X2_isDown ks_X2_isDown kn_X2 ko_X2_isDown hd_X2_isDown ⟨Nat.le_of_ble_eq_true rfl, Nat.le_of_ble_eq_true rfl⟩ hl.size rfl (Nat.le_of_ble_eq_true rfl) dL_law_614 ⟨by show cells + 0 + 0 ≤ 601024; omega, by show slots + 0 + 0 ≤ 7292999; omega⟩ hL (fM_G hG2) (fun v2 H2 locs2 hp2 hL => ?_)
  have hO1 := J_same hJ hp2.2.1 hp2.2.2
  have hv2 := hp2.1
  subst hv2
  refine lv_icmp_eq (tgt := 679) G.1 G.2.1 dL_law_617 (by decide) (fun _ => ?_) (fun h9 => absurd rfl h9)
  exact hK _ _ _ _ _ _ 0 (by omega) (by omega) hO1 (S_PX hS hO1.1 hL) hl
set_option maxHeartbeats 4000000 in
set_option maxRecDepth 100000 in
theorem law_writes {p : Program} {l : Launch} {e : Env} {s : State} {m : MethodId} {below : List Frame} {meth : Method} {c : Code} {g : Gx} {b L : Nat} {xs : Nat → Int32} {sa : Nat → Nat} {S B : Nat} {P : Nat → Nat} {V : Nat → LV} {bu : Nat → Int32} {A : Nat → Nat → Int32} {C : Nat} {a : Nat → Nat} {tc dn wr cd : Int32} {en pl j : Nat} {i : Int32} {H : Heap} {locs : List Loc} {ls : Array Slot} {cells slots : Nat} (A0 : LA g p l s m meth c b L xs sa) (hSB : dkB S B) (hj : j < 512) (hJ : JS g s.heap.size S B P V bu A C a tc dn wr cd en pl j H) (hS : va_S (fG s.heap.size) s.heap H locs) (hl : lh ls 7 (LL b s.heap.size i)) (hc : cells ≤ 52 + 10 * j) (hs : slots ≤ 12357 + 2600 * j) (hK : K679 p l e s m below meth c b g S B j i) : W p l e room_1 s m #[Value.ref b] below meth c H locs cells slots (lw_Z below #[Value.ref b] s) (F0 m 622 ls []) := by
  obtain ⟨G, hml, hXx, hbl, hlt, hXX, hN, hr, hlocks⟩ := A0
  have hL := hS.2.2
  refine hb_aload_n G dL_law_622 hl rfl ?_
  refine hb_callV (A := fG s.heap.size) (As := []) (rest := []) G hml (c_writes g l s.heap.size S _ tc dn wr H hJ.1.1.1) hJ.1.1.1 rfl km_L_89 ki_X1_writes ks_X1_writes kn_X1 ko_X1_writes hd_X1_writes ⟨Nat.le_of_ble_eq_true rfl, Nat.le_of_ble_eq_true rfl⟩ hl.size rfl (Nat.le_of_ble_eq_true rfl) dL_law_623 ⟨by show cells + 0 ≤ 601024; omega, by show slots + 0 ≤ 7292999; omega⟩ hL (fun q h9 => h9.elim) (fun v1 K2 locs1 hp hL => ?_)
  obtain ⟨rfl, rfl⟩ := hp
  have hMK : MK s.heap.size K2 K2 := MK.gr Gr.rf
  have hS2 := S_MK hS hMK hL
  replace hS := hS2
  obtain ⟨hmd, hG2⟩ := hJ.mid hMK
  refine hb_aload_n G dL_law_626 hl rfl ?_
  refine hb_callV (A := fG s.heap.size) (As := []) (rest := [.int wr]) G hml (m_writes g l (s.heap.size + 38) S B C a A cd wr tc dn en pl K2 hmd) hmd.1 rfl km_L_92 ki_X2_writes ks_X2_writes kn_X2 ko_X2_writes hd_X2_writes ⟨Nat.le_of_ble_eq_true rfl, Nat.le_of_ble_eq_true rfl⟩ hl.size rfl (Nat.le_of_ble_eq_true rfl) dL_law_627 ⟨by show cells + 0 + 0 ≤ 601024; omega, by show slots + 0 + 0 ≤ 7292999; omega⟩ hL (fM_G hG2) (fun v2 H2 locs2 hp2 hL => ?_)
  have hO1 := J_same hJ hp2.2.1 hp2.2.2
  have hv2 := hp2.1
  subst hv2
  refine lv_icmp_eq (tgt := 679) G.1 G.2.1 dL_law_630 (by decide) (fun _ => ?_) (fun h9 => absurd rfl h9)
  exact hK _ _ _ _ _ _ 0 (by omega) (by omega) hO1 (S_PX hS hO1.1 hL) hl
