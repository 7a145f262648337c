/-! ===== the law's loop ===== -/
theorem xi_cnt {M T T' : Nat} {d d' : Dt} (h : XI M T d) (h' : XI M T' d') : d'.1 0 0 1 = d.1 0 0 1 := Int32.toInt_inj.mp (by rw [h.1, h'.1])
theorem c_X4_meterB (l : Launch) (D : va_G) (G : Gc) (M T : Nat) (ad : Nat → Nat → Nat) (d : Dt) (sz : Nat) (p1 : Int32) (hI : XI M T d) : Met l yX4_meter (wsU yX4_meter cX4_meter 2 (some .int)) ({ frames := 2, cells := 5, slots := 47, locals := 45 } : Room) (va_Pc [.ref (ad 0 0), .int p1] (fun U => U.heap.size = sz ∧ XPre D (tysG G) (XF G M T ad) (XN M T) ad d U)) (qB (some (.int (sp_X4_meter d p1).1)) D G ad M T (sp_X4_meter d p1).2) 5 47 (fun q => adS (XN M T) ad q ∨ sz ≤ q) := c_X4_meter l D G M T ad d sz p1 hI
/-- what holds at the law's head: both pictures, their bounds, the relation */ -/
def LInv (s : State) (D : va_G) (G : Gc) (hx hm : Nat) (H : Heap) (locs : List Loc) : Prop := ∃ (M T : Nat) (aX aM : Nat → Nat → Nat) (d τ : Dt), XI M T d ∧ MI τ ∧ R2 d τ ∧ PIC D (XF G M T aX) (XN M T) aX d H ∧ PIC D (MF G aM) MN aM τ H ∧ aX 0 0 = hx ∧ aM 0 0 = hm ∧ (∀ q, adS (XN M T) aX q → s.heap.size ≤ q) ∧ (∀ q, adS MN aM q → s.heap.size ≤ q) ∧ (∀ q, adS (XN M T) aX q → ¬ adS MN aM q) ∧ va_S (fun q => s.heap.size ≤ q) s.heap H locs
theorem vinx {x k : Int32} {L : Nat} {z : Int} (hk : k.toInt = z) (h0 : 0 ≤ z) (h5 : z ≤ 5) (hx0 : 0 ≤ x.toInt) (hx6 : x.toInt + 6 ≤ (L : Int)) (hL : L ≤ 3072) : vp_in (x + k) L := by
  have e : (x + k).toInt = x.toInt + z := by rw [ti_add (by omega) (by omega), hk]
  exact vi (by omega) (by omega)
section LAW
variable {p : Program} {e : Env} {s : State} {m : MethodId} {below : List Frame} {meth : Method} {c : Code} {b L : Nat} {xs : Nat → Int32} {Q : State → Prop} {D : va_G} {G : Gc} {hx hm : Nat} {H : Heap} {locs : List Loc} {ls : Array Slot} {cells slots : Nat} {x : Int32}
set_option maxRecDepth 100000 in
set_option maxHeartbeats 8000000 in
theorem lc_0 (l : Launch) (S : CallFix p m c cL_law 4 s #[Value.ref b] wsL_law RL) (hY : va_X b L xs s s.heap) (hbl : b < s.heap.size) (hK : va_K D vwCl (tysG G) s) (hN : NW s) (hx0 : 0 ≤ x.toInt) (hx6 : x.toInt + 6 ≤ (L : Int)) (hL : L ≤ 3072) (hI : LInv s D G hx hm H locs) (hl : lv_has ls 4 [(3, .int x), (2, .ref hm), (1, .ref hx), (0, .ref b)]) (hc : cells + 40 ≤ 600000) (hsl : slots + 320 ≤ 7302249) (kk : ∀ (H : Heap) (locs : List Loc), LInv s D G hx hm H locs → W p l e room_1 s m #[Value.ref b] below meth c H locs (cells + 40) (slots + 320) Q (F0 m 1416 ls [])) : W p l e room_1 s m #[Value.ref b] below meth c H locs cells slots Q (F0 m 184 ls []) := by
  have hbA : ¬ (fun q : Nat => s.heap.size ≤ q) b := Nat.not_le.mpr hbl
  obtain ⟨M, T, aX, aM, d, τ, iX, iM, hR, hX, hM, h0X, h0M, hAX, hAM, hdis, hS⟩ := hI
  subst h0X
  subst h0M
  refine lv_aload_n S.1 S.2.1 dL_law_184 rfl (lv_at hl 2 rfl) ?_
  refine lv_aload_n S.1 S.2.1 dL_law_185 rfl (lv_at hl 3 rfl) ?_
  refine lv_iload_n S.1 S.2.1 dL_law_186 rfl (lv_at hl 0 rfl) ?_
  refine lv_iconst (v := 1) S.1 S.2.1 dL_law_187 (by decide) ?_
  refine lv_iadd S.1 S.2.1 dL_law_188 ?_
  refine va_sld S.1 S.2.1 hY hbl hbA hS (i := x + 1) (vinx (z := 1) rfl (by decide) (by decide) hx0 hx6 hL) dL_law_189 ?_
  refine cBV (rest := []) (A := fun q => s.heap.size ≤ q) S (c_X4_meterB l D G M T aX d H.size (xs (Int32.toNatClampNeg (x + 1))) iX) gV_RL_13 ds_X4_meter ⟨rfl, rfl⟩ ⟨Nat.le_of_ble_eq_true rfl, Nat.le_of_ble_eq_true rfl⟩ ⟨blindB, recvX hK hX (k := 0) (i := 0) Nat.zero_lt_one rfl rfl, preB hK hN hX _⟩ rfl hl.1 rfl (Nat.le_of_ble_eq_true rfl) ⟨by show cells + 5 ≤ 600000; omega, by show slots + 47 ≤ 7302249; omega⟩ dL_law_190 hS hAX (fun _ h => h) (fun H1 locs1 M1 T1 aX1 hX1 iX1 h01 hs1 hS1 k1 => ?_)
  have hM1 := hM.kept (H1 := H1) (fun q hq => k1 q (hM.sz hq) (fun z => hdis q z hq))
  have hAX1 : ∀ q, adS (XN M1 T1) aX1 q → s.heap.size ≤ q := fun q h => (hs1 q h).elim (hAX q) (fun z => Nat.le_trans hS.1 z)
  have hdis1 : ∀ q, adS (XN M1 T1) aX1 q → ¬ adS MN aM q := fun q h h2 => (hs1 q h).elim (fun z => hdis q z h2) (fun z => Nat.not_le_of_lt (hM.sz h2) z)
  have hl : lv_has ls 4 [(3, .int x), (2, .ref (aM 0 0)), (1, .ref (aX1 0 0)), (0, .ref b)] := by rw [h01]; exact hl
  refine W.widen (k := cells + 40) (n := slots + 320) (by omega) (by omega) ?_
  refine lv_pop S.1 S.2.1 dL_law_193 rfl ?_
  refine lv_aload_n S.1 S.2.1 dL_law_194 rfl (lv_at hl 1 rfl) ?_
  refine lv_aload_n S.1 S.2.1 dL_law_195 rfl (lv_at hl 3 rfl) ?_
  refine lv_iload_n S.1 S.2.1 dL_law_196 rfl (lv_at hl 0 rfl) ?_
  refine lv_iconst (v := 1) S.1 S.2.1 dL_law_197 (by decide) ?_
  refine lv_iadd S.1 S.2.1 dL_law_198 ?_
  refine va_sld S.1 S.2.1 hY hbl hbA hS1 (i := x + 1) (vinx (z := 1) rfl (by decide) (by decide) hx0 hx6 hL) dL_law_199 ?_
  refine cWV (rest := []) (A := fun q => s.heap.size ≤ q) S (c_X5_meter l D G aM τ (xs (Int32.toNatClampNeg (x + 1))) iM) gV_RL_17 ds_X5_meter ⟨rfl, rfl⟩ ⟨Nat.le_of_ble_eq_true rfl, Nat.le_of_ble_eq_true rfl⟩ ⟨blindX, recvX hK hM1 (k := 0) (i := 0) Nat.zero_lt_one rfl rfl, preX hK hN hM1 _⟩ rfl hl.1 rfl (Nat.le_of_ble_eq_true rfl) ⟨hc, hsl⟩ dL_law_200 hS1 hAM (fun H2 locs2 hM2 hS2 k2 => ?_)
  have hX2 := hX1.kept (H1 := H2) (fun q hq => k2 q (hX1.sz hq) (fun z => hdis1 q hq z))
  have iM2 := k_X5_meter iM (xs (Int32.toNatClampNeg (x + 1)))
  refine lv_pop S.1 S.2.1 dL_law_203 rfl ?_
  refine lv_goto (tgt := 1416) S.1 S.2.1 dL_law_204 (by decide) ?_
  have hR2 := r2_X4_meter hR iX iM (xs (Int32.toNatClampNeg (x + 1)))
  exact kk _ _ ⟨_, _, _, aM, _, _, iX1, iM2, hR2, hX2, hM2, h01, rfl, hAX1, hAM, hdis1, hS2⟩
set_option maxRecDepth 100000 in
set_option maxHeartbeats 8000000 in
theorem lc_1 (l : Launch) (S : CallFix p m c cL_law 4 s #[Value.ref b] wsL_law RL) (hY : va_X b L xs s s.heap) (hbl : b < s.heap.size) (hK : va_K D vwCl (tysG G) s) (hN : NW s) (hx0 : 0 ≤ x.toInt) (hx6 : x.toInt + 6 ≤ (L : Int)) (hL : L ≤ 3072) (hI : LInv s D G hx hm H locs) (hl : lv_has ls 4 [(3, .int x), (2, .ref hm), (1, .ref hx), (0, .ref b)]) (hc : cells + 40 ≤ 600000) (hsl : slots + 320 ≤ 7302249) (kk : ∀ (H : Heap) (locs : List Loc), LInv s D G hx hm H locs → W p l e room_1 s m #[Value.ref b] below meth c H locs (cells + 40) (slots + 320) Q (F0 m 1416 ls [])) : W p l e room_1 s m #[Value.ref b] below meth c H locs cells slots Q (F0 m 207 ls []) := by
  have hbA : ¬ (fun q : Nat => s.heap.size ≤ q) b := Nat.not_le.mpr hbl
  obtain ⟨M, T, aX, aM, d, τ, iX, iM, hR, hX, hM, h0X, h0M, hAX, hAM, hdis, hS⟩ := hI
  subst h0X
  subst h0M
  refine lv_aload_n S.1 S.2.1 dL_law_207 rfl (lv_at hl 2 rfl) ?_
  refine lv_aload_n S.1 S.2.1 dL_law_208 rfl (lv_at hl 3 rfl) ?_
  refine lv_iload_n S.1 S.2.1 dL_law_209 rfl (lv_at hl 0 rfl) ?_
  refine lv_iconst (v := 1) S.1 S.2.1 dL_law_210 (by decide) ?_
  refine lv_iadd S.1 S.2.1 dL_law_211 ?_
  refine va_sld S.1 S.2.1 hY hbl hbA hS (i := x + 1) (vinx (z := 1) rfl (by decide) (by decide) hx0 hx6 hL) dL_law_212 ?_
  refine lv_aload_n S.1 S.2.1 dL_law_213 rfl (lv_at hl 3 rfl) ?_
  refine lv_iload_n S.1 S.2.1 dL_law_214 rfl (lv_at hl 0 rfl) ?_
  refine lv_iconst (v := 2) S.1 S.2.1 dL_law_215 (by decide) ?_
  refine lv_iadd S.1 S.2.1 dL_law_216 ?_
  refine va_sld S.1 S.2.1 hY hbl hbA hS (i := x + 2) (vinx (z := 2) rfl (by decide) (by decide) hx0 hx6 hL) dL_law_217 ?_
  refine lv_aload_n S.1 S.2.1 dL_law_218 rfl (lv_at hl 3 rfl) ?_
  refine lv_iload_n S.1 S.2.1 dL_law_219 rfl (lv_at hl 0 rfl) ?_
  refine lv_iconst (v := 3) S.1 S.2.1 dL_law_220 (by decide) ?_
  refine lv_iadd S.1 S.2.1 dL_law_221 ?_
  refine va_sld S.1 S.2.1 hY hbl hbA hS (i := x + 3) (vinx (z := 3) rfl (by decide) (by decide) hx0 hx6 hL) dL_law_222 ?_
  refine lv_aload_n S.1 S.2.1 dL_law_223 rfl (lv_at hl 3 rfl) ?_
  refine lv_iload_n S.1 S.2.1 dL_law_224 rfl (lv_at hl 0 rfl) ?_
  refine lv_iconst (v := 4) S.1 S.2.1 dL_law_225 (by decide) ?_
  refine lv_iadd S.1 S.2.1 dL_law_226 ?_
  refine va_sld S.1 S.2.1 hY hbl hbA hS (i := x + 4) (vinx (z := 4) rfl (by decide) (by decide) hx0 hx6 hL) dL_law_227 ?_
  refine W.widen (k := cells + 40) (n := slots + 320) (by omega) (by omega) ?_
  refine cWV (rest := []) (A := fun q => s.heap.size ≤ q) S (c_X4_factor l D G M T aX d (xs (Int32.toNatClampNeg (x + 1))) (xs (Int32.toNatClampNeg (x + 2))) (xs (Int32.toNatClampNeg (x + 3))) (xs (Int32.toNatClampNeg (x + 4))) iX) gV_RL_18 ds_X4_factor ⟨rfl, rfl⟩ ⟨Nat.le_of_ble_eq_true rfl, Nat.le_of_ble_eq_true rfl⟩ ⟨blindX, recvX hK hX (k := 0) (i := 0) Nat.zero_lt_one rfl rfl, preX hK hN hX _⟩ rfl hl.1 rfl (Nat.le_of_ble_eq_true rfl) ⟨hc, hsl⟩ dL_law_228 hS hAX (fun H1 locs1 hX1 hS1 k1 => ?_)
  have hM1 := hM.kept (H1 := H1) (fun q hq => k1 q (hM.sz hq) (fun z => hdis q z hq))
  have iX1 := k_X4_factor iX (xs (Int32.toNatClampNeg (x + 1))) (xs (Int32.toNatClampNeg (x + 2))) (xs (Int32.toNatClampNeg (x + 3))) (xs (Int32.toNatClampNeg (x + 4)))
  have hAX1 := hAX
  have hdis1 := hdis
  refine lv_pop S.1 S.2.1 dL_law_231 rfl ?_
  refine lv_aload_n S.1 S.2.1 dL_law_232 rfl (lv_at hl 1 rfl) ?_
  refine lv_aload_n S.1 S.2.1 dL_law_233 rfl (lv_at hl 3 rfl) ?_
  refine lv_iload_n S.1 S.2.1 dL_law_234 rfl (lv_at hl 0 rfl) ?_
  refine lv_iconst (v := 1) S.1 S.2.1 dL_law_235 (by decide) ?_
  refine lv_iadd S.1 S.2.1 dL_law_236 ?_
  refine va_sld S.1 S.2.1 hY hbl hbA hS1 (i := x + 1) (vinx (z := 1) rfl (by decide) (by decide) hx0 hx6 hL) dL_law_237 ?_
  refine lv_aload_n S.1 S.2.1 dL_law_238 rfl (lv_at hl 3 rfl) ?_
  refine lv_iload_n S.1 S.2.1 dL_law_239 rfl (lv_at hl 0 rfl) ?_
  refine lv_iconst (v := 2) S.1 S.2.1 dL_law_240 (by decide) ?_
  refine lv_iadd S.1 S.2.1 dL_law_241 ?_
  refine va_sld S.1 S.2.1 hY hbl hbA hS1 (i := x + 2) (vinx (z := 2) rfl (by decide) (by decide) hx0 hx6 hL) dL_law_242 ?_
  refine lv_aload_n S.1 S.2.1 dL_law_243 rfl (lv_at hl 3 rfl) ?_
  refine lv_iload_n S.1 S.2.1 dL_law_244 rfl (lv_at hl 0 rfl) ?_
  refine lv_iconst (v := 3) S.1 S.2.1 dL_law_245 (by decide) ?_
  refine lv_iadd S.1 S.2.1 dL_law_246 ?_
  refine va_sld S.1 S.2.1 hY hbl hbA hS1 (i := x + 3) (vinx (z := 3) rfl (by decide) (by decide) hx0 hx6 hL) dL_law_247 ?_
  refine lv_aload_n S.1 S.2.1 dL_law_248 rfl (lv_at hl 3 rfl) ?_
  refine lv_iload_n S.1 S.2.1 dL_law_249 rfl (lv_at hl 0 rfl) ?_
  refine lv_iconst (v := 4) S.1 S.2.1 dL_law_250 (by decide) ?_
  refine lv_iadd S.1 S.2.1 dL_law_251 ?_
  refine va_sld S.1 S.2.1 hY hbl hbA hS1 (i := x + 4) (vinx (z := 4) rfl (by decide) (by decide) hx0 hx6 hL) dL_law_252 ?_
  refine cWV (rest := []) (A := fun q => s.heap.size ≤ q) S (c_X5_factor l D G aM τ (xs (Int32.toNatClampNeg (x + 1))) (xs (Int32.toNatClampNeg (x + 2))) (xs (Int32.toNatClampNeg (x + 3))) (xs (Int32.toNatClampNeg (x + 4))) iM) gV_RL_22 ds_X5_factor ⟨rfl, rfl⟩ ⟨Nat.le_of_ble_eq_true rfl, Nat.le_of_ble_eq_true rfl⟩ ⟨blindX, recvX hK hM1 (k := 0) (i := 0) Nat.zero_lt_one rfl rfl, preX hK hN hM1 _⟩ rfl hl.1 rfl (Nat.le_of_ble_eq_true rfl) ⟨hc, hsl⟩ dL_law_253 hS1 hAM (fun H2 locs2 hM2 hS2 k2 => ?_)
  have hX2 := hX1.kept (H1 := H2) (fun q hq => k2 q (hX1.sz hq) (fun z => hdis1 q hq z))
  have iM2 := k_X5_factor iM (xs (Int32.toNatClampNeg (x + 1))) (xs (Int32.toNatClampNeg (x + 2))) (xs (Int32.toNatClampNeg (x + 3))) (xs (Int32.toNatClampNeg (x + 4)))
  refine lv_pop S.1 S.2.1 dL_law_256 rfl ?_
  refine lv_goto (tgt := 1416) S.1 S.2.1 dL_law_257 (by decide) ?_
  have hR2 := r2_X4_factor hR iX iM (xs (Int32.toNatClampNeg (x + 1))) (xs (Int32.toNatClampNeg (x + 2))) (xs (Int32.toNatClampNeg (x + 3))) (xs (Int32.toNatClampNeg (x + 4)))
  exact kk _ _ ⟨_, _, _, aM, _, _, iX1, iM2, hR2, hX2, hM2, rfl, rfl, hAX1, hAM, hdis1, hS2⟩
set_option maxRecDepth 100000 in
set_option maxHeartbeats 8000000 in
theorem lc_2 (l : Launch) (S : CallFix p m c cL_law 4 s #[Value.ref b] wsL_law RL) (hY : va_X b L xs s s.heap) (hbl : b < s.heap.size) (hK : va_K D vwCl (tysG G) s) (hN : NW s) (hx0 : 0 ≤ x.toInt) (hx6 : x.toInt + 6 ≤ (L : Int)) (hL : L ≤ 3072) (hI : LInv s D G hx hm H locs) (hl : lv_has ls 4 [(3, .int x), (2, .ref hm), (1, .ref hx), (0, .ref b)]) (hc : cells + 40 ≤ 600000) (hsl : slots + 320 ≤ 7302249) (kk : ∀ (H : Heap) (locs : List Loc), LInv s D G hx hm H locs → W p l e room_1 s m #[Value.ref b] below meth c H locs (cells + 40) (slots + 320) Q (F0 m 1416 ls [])) : W p l e room_1 s m #[Value.ref b] below meth c H locs cells slots Q (F0 m 260 ls []) := by
  have hbA : ¬ (fun q : Nat => s.heap.size ≤ q) b := Nat.not_le.mpr hbl
  obtain ⟨M, T, aX, aM, d, τ, iX, iM, hR, hX, hM, h0X, h0M, hAX, hAM, hdis, hS⟩ := hI
  subst h0X
  subst h0M
  refine lv_aload_n S.1 S.2.1 dL_law_260 rfl (lv_at hl 2 rfl) ?_
  refine lv_aload_n S.1 S.2.1 dL_law_261 rfl (lv_at hl 3 rfl) ?_
  refine lv_iload_n S.1 S.2.1 dL_law_262 rfl (lv_at hl 0 rfl) ?_
  refine lv_iconst (v := 1) S.1 S.2.1 dL_law_263 (by decide) ?_
  refine lv_iadd S.1 S.2.1 dL_law_264 ?_
  refine va_sld S.1 S.2.1 hY hbl hbA hS (i := x + 1) (vinx (z := 1) rfl (by decide) (by decide) hx0 hx6 hL) dL_law_265 ?_
  refine lv_aload_n S.1 S.2.1 dL_law_266 rfl (lv_at hl 3 rfl) ?_
  refine lv_iload_n S.1 S.2.1 dL_law_267 rfl (lv_at hl 0 rfl) ?_
  refine lv_iconst (v := 2) S.1 S.2.1 dL_law_268 (by decide) ?_
  refine lv_iadd S.1 S.2.1 dL_law_269 ?_
  refine va_sld S.1 S.2.1 hY hbl hbA hS (i := x + 2) (vinx (z := 2) rfl (by decide) (by decide) hx0 hx6 hL) dL_law_270 ?_
  refine lv_aload_n S.1 S.2.1 dL_law_271 rfl (lv_at hl 3 rfl) ?_
  refine lv_iload_n S.1 S.2.1 dL_law_272 rfl (lv_at hl 0 rfl) ?_
  refine lv_iconst (v := 3) S.1 S.2.1 dL_law_273 (by decide) ?_
  refine lv_iadd S.1 S.2.1 dL_law_274 ?_
  refine va_sld S.1 S.2.1 hY hbl hbA hS (i := x + 3) (vinx (z := 3) rfl (by decide) (by decide) hx0 hx6 hL) dL_law_275 ?_
  refine W.widen (k := cells + 40) (n := slots + 320) (by omega) (by omega) ?_
  refine cPV (rest := []) S (c_X4_at l D G M T aX d (xs (Int32.toNatClampNeg (x + 1))) (xs (Int32.toNatClampNeg (x + 2))) (xs (Int32.toNatClampNeg (x + 3))) iX) gV_RL_23 ds_X4_at ⟨rfl, rfl⟩ ⟨Nat.le_of_ble_eq_true rfl, Nat.le_of_ble_eq_true rfl⟩ ⟨blindX, recvX hK hX (k := 0) (i := 0) Nat.zero_lt_one rfl rfl, preX hK hN hX _⟩ rfl hl.1 rfl (Nat.le_of_ble_eq_true rfl) ⟨hc, hsl⟩ dL_law_276 ?_
  obtain ⟨M1, eM1⟩ : ∃ z, z = M := ⟨_, rfl⟩
  subst eM1
  obtain ⟨T1, eT1⟩ : ∃ z, z = T := ⟨_, rfl⟩
  subst eT1
  obtain ⟨aX1, eaX1⟩ : ∃ z, z = aX := ⟨_, rfl⟩
  subst eaX1
  have hX1 := hX
  have hM1 := hM
  have iX1 := iX
  have hAX1 := hAX
  have hdis1 := hdis
  have hS1 := hS
  refine lv_pop S.1 S.2.1 dL_law_279 rfl ?_
  refine lv_aload_n S.1 S.2.1 dL_law_280 rfl (lv_at hl 1 rfl) ?_
  refine lv_aload_n S.1 S.2.1 dL_law_281 rfl (lv_at hl 3 rfl) ?_
  refine lv_iload_n S.1 S.2.1 dL_law_282 rfl (lv_at hl 0 rfl) ?_
  refine lv_iconst (v := 1) S.1 S.2.1 dL_law_283 (by decide) ?_
  refine lv_iadd S.1 S.2.1 dL_law_284 ?_
  refine va_sld S.1 S.2.1 hY hbl hbA hS1 (i := x + 1) (vinx (z := 1) rfl (by decide) (by decide) hx0 hx6 hL) dL_law_285 ?_
  refine lv_aload_n S.1 S.2.1 dL_law_286 rfl (lv_at hl 3 rfl) ?_
  refine lv_iload_n S.1 S.2.1 dL_law_287 rfl (lv_at hl 0 rfl) ?_
  refine lv_iconst (v := 2) S.1 S.2.1 dL_law_288 (by decide) ?_
  refine lv_iadd S.1 S.2.1 dL_law_289 ?_
  refine va_sld S.1 S.2.1 hY hbl hbA hS1 (i := x + 2) (vinx (z := 2) rfl (by decide) (by decide) hx0 hx6 hL) dL_law_290 ?_
  refine lv_aload_n S.1 S.2.1 dL_law_291 rfl (lv_at hl 3 rfl) ?_
  refine lv_iload_n S.1 S.2.1 dL_law_292 rfl (lv_at hl 0 rfl) ?_
  refine lv_iconst (v := 3) S.1 S.2.1 dL_law_293 (by decide) ?_
  refine lv_iadd S.1 S.2.1 dL_law_294 ?_
  refine va_sld S.1 S.2.1 hY hbl hbA hS1 (i := x + 3) (vinx (z := 3) rfl (by decide) (by decide) hx0 hx6 hL) dL_law_295 ?_
  refine cWV (rest := []) (A := fun q => s.heap.size ≤ q) S (c_X5_at l D G aM τ (xs (Int32.toNatClampNeg (x + 1))) (xs (Int32.toNatClampNeg (x + 2))) (xs (Int32.toNatClampNeg (x + 3))) iM) gV_RL_27 ds_X5_at ⟨rfl, rfl⟩ ⟨Nat.le_of_ble_eq_true rfl, Nat.le_of_ble_eq_true rfl⟩ ⟨blindX, recvX hK hM1 (k := 0) (i := 0) Nat.zero_lt_one rfl rfl, preX hK hN hM1 _⟩ rfl hl.1 rfl (Nat.le_of_ble_eq_true rfl) ⟨hc, hsl⟩ dL_law_296 hS1 hAM (fun H2 locs2 hM2 hS2 k2 => ?_)
  have hX2 := hX1.kept (H1 := H2) (fun q hq => k2 q (hX1.sz hq) (fun z => hdis1 q hq z))
  have iM2 := k_X5_at iM (xs (Int32.toNatClampNeg (x + 1))) (xs (Int32.toNatClampNeg (x + 2))) (xs (Int32.toNatClampNeg (x + 3)))
  refine lv_pop S.1 S.2.1 dL_law_299 rfl ?_
  refine lv_goto (tgt := 1416) S.1 S.2.1 dL_law_300 (by decide) ?_
  have hR2 := r2_X4_at hR iX iM (xs (Int32.toNatClampNeg (x + 1))) (xs (Int32.toNatClampNeg (x + 2))) (xs (Int32.toNatClampNeg (x + 3)))
  exact kk _ _ ⟨_, _, _, aM, _, _, iX1, iM2, hR2, hX2, hM2, rfl, rfl, hAX1, hAM, hdis1, hS2⟩
set_option maxRecDepth 100000 in
set_option maxHeartbeats 8000000 in
theorem lc_3 (l : Launch) (S : CallFix p m c cL_law 4 s #[Value.ref b] wsL_law RL) (hY : va_X b L xs s s.heap) (hbl : b < s.heap.size) (hK : va_K D vwCl (tysG G) s) (hN : NW s) (hx0 : 0 ≤ x.toInt) (hx6 : x.toInt + 6 ≤ (L : Int)) (hL : L ≤ 3072) (hI : LInv s D G hx hm H locs) (hl : lv_has ls 4 [(3, .int x), (2, .ref hm), (1, .ref hx), (0, .ref b)]) (hc : cells + 40 ≤ 600000) (hsl : slots + 320 ≤ 7302249) (kk : ∀ (H : Heap) (locs : List Loc), LInv s D G hx hm H locs → W p l e room_1 s m #[Value.ref b] below meth c H locs (cells + 40) (slots + 320) Q (F0 m 1416 ls [])) : W p l e room_1 s m #[Value.ref b] below meth c H locs cells slots Q (F0 m 303 ls []) := by
  have hbA : ¬ (fun q : Nat => s.heap.size ≤ q) b := Nat.not_le.mpr hbl
  obtain ⟨M, T, aX, aM, d, τ, iX, iM, hR, hX, hM, h0X, h0M, hAX, hAM, hdis, hS⟩ := hI
  subst h0X
  subst h0M
  refine lv_aload_n S.1 S.2.1 dL_law_303 rfl (lv_at hl 2 rfl) ?_
  refine lv_aload_n S.1 S.2.1 dL_law_304 rfl (lv_at hl 3 rfl) ?_
  refine lv_iload_n S.1 S.2.1 dL_law_305 rfl (lv_at hl 0 rfl) ?_
  refine lv_iconst (v := 1) S.1 S.2.1 dL_law_306 (by decide) ?_
  refine lv_iadd S.1 S.2.1 dL_law_307 ?_
  refine va_sld S.1 S.2.1 hY hbl hbA hS (i := x + 1) (vinx (z := 1) rfl (by decide) (by decide) hx0 hx6 hL) dL_law_308 ?_
  refine lv_aload_n S.1 S.2.1 dL_law_309 rfl (lv_at hl 3 rfl) ?_
  refine lv_iload_n S.1 S.2.1 dL_law_310 rfl (lv_at hl 0 rfl) ?_
  refine lv_iconst (v := 2) S.1 S.2.1 dL_law_311 (by decide) ?_
  refine lv_iadd S.1 S.2.1 dL_law_312 ?_
  refine va_sld S.1 S.2.1 hY hbl hbA hS (i := x + 2) (vinx (z := 2) rfl (by decide) (by decide) hx0 hx6 hL) dL_law_313 ?_
  refine W.widen (k := cells + 40) (n := slots + 320) (by omega) (by omega) ?_
  refine cPV (rest := []) S (c_X4_points l D G M T aX d (xs (Int32.toNatClampNeg (x + 1))) (xs (Int32.toNatClampNeg (x + 2))) iX) gV_RL_28 ds_X4_points ⟨rfl, rfl⟩ ⟨Nat.le_of_ble_eq_true rfl, Nat.le_of_ble_eq_true rfl⟩ ⟨blindX, recvX hK hX (k := 0) (i := 0) Nat.zero_lt_one rfl rfl, preX hK hN hX _⟩ rfl hl.1 rfl (Nat.le_of_ble_eq_true rfl) ⟨hc, hsl⟩ dL_law_314 ?_
  obtain ⟨M1, eM1⟩ : ∃ z, z = M := ⟨_, rfl⟩
  subst eM1
  obtain ⟨T1, eT1⟩ : ∃ z, z = T := ⟨_, rfl⟩
  subst eT1
  obtain ⟨aX1, eaX1⟩ : ∃ z, z = aX := ⟨_, rfl⟩
  subst eaX1
  have hX1 := hX
  have hM1 := hM
  have iX1 := iX
  have hAX1 := hAX
  have hdis1 := hdis
  have hS1 := hS
  refine lv_pop S.1 S.2.1 dL_law_317 rfl ?_
  refine lv_aload_n S.1 S.2.1 dL_law_318 rfl (lv_at hl 1 rfl) ?_
  refine lv_aload_n S.1 S.2.1 dL_law_319 rfl (lv_at hl 3 rfl) ?_
  refine lv_iload_n S.1 S.2.1 dL_law_320 rfl (lv_at hl 0 rfl) ?_
  refine lv_iconst (v := 1) S.1 S.2.1 dL_law_321 (by decide) ?_
  refine lv_iadd S.1 S.2.1 dL_law_322 ?_
  refine va_sld S.1 S.2.1 hY hbl hbA hS1 (i := x + 1) (vinx (z := 1) rfl (by decide) (by decide) hx0 hx6 hL) dL_law_323 ?_
  refine lv_aload_n S.1 S.2.1 dL_law_324 rfl (lv_at hl 3 rfl) ?_
  refine lv_iload_n S.1 S.2.1 dL_law_325 rfl (lv_at hl 0 rfl) ?_
  refine lv_iconst (v := 2) S.1 S.2.1 dL_law_326 (by decide) ?_
  refine lv_iadd S.1 S.2.1 dL_law_327 ?_
  refine va_sld S.1 S.2.1 hY hbl hbA hS1 (i := x + 2) (vinx (z := 2) rfl (by decide) (by decide) hx0 hx6 hL) dL_law_328 ?_
  refine cWV (rest := []) (A := fun q => s.heap.size ≤ q) S (c_X5_points l D G aM τ (xs (Int32.toNatClampNeg (x + 1))) (xs (Int32.toNatClampNeg (x + 2))) iM) gV_RL_32 ds_X5_points ⟨rfl, rfl⟩ ⟨Nat.le_of_ble_eq_true rfl, Nat.le_of_ble_eq_true rfl⟩ ⟨blindX, recvX hK hM1 (k := 0) (i := 0) Nat.zero_lt_one rfl rfl, preX hK hN hM1 _⟩ rfl hl.1 rfl (Nat.le_of_ble_eq_true rfl) ⟨hc, hsl⟩ dL_law_329 hS1 hAM (fun H2 locs2 hM2 hS2 k2 => ?_)
  have hX2 := hX1.kept (H1 := H2) (fun q hq => k2 q (hX1.sz hq) (fun z => hdis1 q hq z))
  have iM2 := k_X5_points iM (xs (Int32.toNatClampNeg (x + 1))) (xs (Int32.toNatClampNeg (x + 2)))
  refine lv_pop S.1 S.2.1 dL_law_332 rfl ?_
  refine lv_goto (tgt := 1416) S.1 S.2.1 dL_law_333 (by decide) ?_
  have hR2 := r2_X4_points hR iX iM (xs (Int32.toNatClampNeg (x + 1))) (xs (Int32.toNatClampNeg (x + 2)))
  exact kk _ _ ⟨_, _, _, aM, _, _, iX1, iM2, hR2, hX2, hM2, rfl, rfl, hAX1, hAM, hdis1, hS2⟩
set_option maxRecDepth 100000 in
set_option maxHeartbeats 8000000 in
theorem lc_4 (l : Launch) (S : CallFix p m c cL_law 4 s #[Value.ref b] wsL_law RL) (hY : va_X b L xs s s.heap) (hbl : b < s.heap.size) (hK : va_K D vwCl (tysG G) s) (hN : NW s) (hx0 : 0 ≤ x.toInt) (hx6 : x.toInt + 6 ≤ (L : Int)) (hL : L ≤ 3072) (hI : LInv s D G hx hm H locs) (hl : lv_has ls 4 [(3, .int x), (2, .ref hm), (1, .ref hx), (0, .ref b)]) (hc : cells + 40 ≤ 600000) (hsl : slots + 320 ≤ 7302249) (kk : ∀ (H : Heap) (locs : List Loc), LInv s D G hx hm H locs → W p l e room_1 s m #[Value.ref b] below meth c H locs (cells + 40) (slots + 320) Q (F0 m 1416 ls [])) : W p l e room_1 s m #[Value.ref b] below meth c H locs cells slots Q (F0 m 336 ls []) := by
  have hbA : ¬ (fun q : Nat => s.heap.size ≤ q) b := Nat.not_le.mpr hbl
  obtain ⟨M, T, aX, aM, d, τ, iX, iM, hR, hX, hM, h0X, h0M, hAX, hAM, hdis, hS⟩ := hI
  subst h0X
  subst h0M
  refine lv_aload_n S.1 S.2.1 dL_law_336 rfl (lv_at hl 2 rfl) ?_
  refine lv_aload_n S.1 S.2.1 dL_law_337 rfl (lv_at hl 3 rfl) ?_
  refine lv_iload_n S.1 S.2.1 dL_law_338 rfl (lv_at hl 0 rfl) ?_
  refine lv_iconst (v := 1) S.1 S.2.1 dL_law_339 (by decide) ?_
  refine lv_iadd S.1 S.2.1 dL_law_340 ?_
  refine va_sld S.1 S.2.1 hY hbl hbA hS (i := x + 1) (vinx (z := 1) rfl (by decide) (by decide) hx0 hx6 hL) dL_law_341 ?_
  refine lv_aload_n S.1 S.2.1 dL_law_342 rfl (lv_at hl 3 rfl) ?_
  refine lv_iload_n S.1 S.2.1 dL_law_343 rfl (lv_at hl 0 rfl) ?_
  refine lv_iconst (v := 2) S.1 S.2.1 dL_law_344 (by decide) ?_
  refine lv_iadd S.1 S.2.1 dL_law_345 ?_
  refine va_sld S.1 S.2.1 hY hbl hbA hS (i := x + 2) (vinx (z := 2) rfl (by decide) (by decide) hx0 hx6 hL) dL_law_346 ?_
  refine lv_aload_n S.1 S.2.1 dL_law_347 rfl (lv_at hl 3 rfl) ?_
  refine lv_iload_n S.1 S.2.1 dL_law_348 rfl (lv_at hl 0 rfl) ?_
  refine lv_iconst (v := 3) S.1 S.2.1 dL_law_349 (by decide) ?_
  refine lv_iadd S.1 S.2.1 dL_law_350 ?_
  refine va_sld S.1 S.2.1 hY hbl hbA hS (i := x + 3) (vinx (z := 3) rfl (by decide) (by decide) hx0 hx6 hL) dL_law_351 ?_
  refine lv_aload_n S.1 S.2.1 dL_law_352 rfl (lv_at hl 3 rfl) ?_
  refine lv_iload_n S.1 S.2.1 dL_law_353 rfl (lv_at hl 0 rfl) ?_
  refine lv_iconst (v := 4) S.1 S.2.1 dL_law_354 (by decide) ?_
  refine lv_iadd S.1 S.2.1 dL_law_355 ?_
  refine va_sld S.1 S.2.1 hY hbl hbA hS (i := x + 4) (vinx (z := 4) rfl (by decide) (by decide) hx0 hx6 hL) dL_law_356 ?_
  refine W.widen (k := cells + 40) (n := slots + 320) (by omega) (by omega) ?_
  refine cPV (rest := []) S (c_X4_point l D G M T aX d (xs (Int32.toNatClampNeg (x + 1))) (xs (Int32.toNatClampNeg (x + 2))) (xs (Int32.toNatClampNeg (x + 3))) (xs (Int32.toNatClampNeg (x + 4))) iX) gV_RL_33 ds_X4_point ⟨rfl, rfl⟩ ⟨Nat.le_of_ble_eq_true rfl, Nat.le_of_ble_eq_true rfl⟩ ⟨blindX, recvX hK hX (k := 0) (i := 0) Nat.zero_lt_one rfl rfl, preX hK hN hX _⟩ rfl hl.1 rfl (Nat.le_of_ble_eq_true rfl) ⟨hc, hsl⟩ dL_law_357 ?_
  obtain ⟨M1, eM1⟩ : ∃ z, z = M := ⟨_, rfl⟩
  subst eM1
  obtain ⟨T1, eT1⟩ : ∃ z, z = T := ⟨_, rfl⟩
  subst eT1
  obtain ⟨aX1, eaX1⟩ : ∃ z, z = aX := ⟨_, rfl⟩
  subst eaX1
  have hX1 := hX
  have hM1 := hM
  have iX1 := iX
  have hAX1 := hAX
  have hdis1 := hdis
  have hS1 := hS
  refine lv_pop S.1 S.2.1 dL_law_360 rfl ?_
  refine lv_aload_n S.1 S.2.1 dL_law_361 rfl (lv_at hl 1 rfl) ?_
  refine lv_aload_n S.1 S.2.1 dL_law_362 rfl (lv_at hl 3 rfl) ?_
  refine lv_iload_n S.1 S.2.1 dL_law_363 rfl (lv_at hl 0 rfl) ?_
  refine lv_iconst (v := 1) S.1 S.2.1 dL_law_364 (by decide) ?_
  refine lv_iadd S.1 S.2.1 dL_law_365 ?_
  refine va_sld S.1 S.2.1 hY hbl hbA hS1 (i := x + 1) (vinx (z := 1) rfl (by decide) (by decide) hx0 hx6 hL) dL_law_366 ?_
  refine lv_aload_n S.1 S.2.1 dL_law_367 rfl (lv_at hl 3 rfl) ?_
  refine lv_iload_n S.1 S.2.1 dL_law_368 rfl (lv_at hl 0 rfl) ?_
  refine lv_iconst (v := 2) S.1 S.2.1 dL_law_369 (by decide) ?_
  refine lv_iadd S.1 S.2.1 dL_law_370 ?_
  refine va_sld S.1 S.2.1 hY hbl hbA hS1 (i := x + 2) (vinx (z := 2) rfl (by decide) (by decide) hx0 hx6 hL) dL_law_371 ?_
  refine lv_aload_n S.1 S.2.1 dL_law_372 rfl (lv_at hl 3 rfl) ?_
  refine lv_iload_n S.1 S.2.1 dL_law_373 rfl (lv_at hl 0 rfl) ?_
  refine lv_iconst (v := 3) S.1 S.2.1 dL_law_374 (by decide) ?_
  refine lv_iadd S.1 S.2.1 dL_law_375 ?_
  refine va_sld S.1 S.2.1 hY hbl hbA hS1 (i := x + 3) (vinx (z := 3) rfl (by decide) (by decide) hx0 hx6 hL) dL_law_376 ?_
  refine lv_aload_n S.1 S.2.1 dL_law_377 rfl (lv_at hl 3 rfl) ?_
  refine lv_iload_n S.1 S.2.1 dL_law_378 rfl (lv_at hl 0 rfl) ?_
  refine lv_iconst (v := 4) S.1 S.2.1 dL_law_379 (by decide) ?_
  refine lv_iadd S.1 S.2.1 dL_law_380 ?_
  refine va_sld S.1 S.2.1 hY hbl hbA hS1 (i := x + 4) (vinx (z := 4) rfl (by decide) (by decide) hx0 hx6 hL) dL_law_381 ?_
  refine cWV (rest := []) (A := fun q => s.heap.size ≤ q) S (c_X5_point l D G aM τ (xs (Int32.toNatClampNeg (x + 1))) (xs (Int32.toNatClampNeg (x + 2))) (xs (Int32.toNatClampNeg (x + 3))) (xs (Int32.toNatClampNeg (x + 4))) iM) gV_RL_36 ds_X5_point ⟨rfl, rfl⟩ ⟨Nat.le_of_ble_eq_true rfl, Nat.le_of_ble_eq_true rfl⟩ ⟨blindX, recvX hK hM1 (k := 0) (i := 0) Nat.zero_lt_one rfl rfl, preX hK hN hM1 _⟩ rfl hl.1 rfl (Nat.le_of_ble_eq_true rfl) ⟨hc, hsl⟩ dL_law_382 hS1 hAM (fun H2 locs2 hM2 hS2 k2 => ?_)
  have hX2 := hX1.kept (H1 := H2) (fun q hq => k2 q (hX1.sz hq) (fun z => hdis1 q hq z))
  have iM2 := k_X5_point iM (xs (Int32.toNatClampNeg (x + 1))) (xs (Int32.toNatClampNeg (x + 2))) (xs (Int32.toNatClampNeg (x + 3))) (xs (Int32.toNatClampNeg (x + 4)))
  refine lv_pop S.1 S.2.1 dL_law_385 rfl ?_
  refine lv_goto (tgt := 1416) S.1 S.2.1 dL_law_386 (by decide) ?_
  have hR2 := r2_X4_point hR iX iM (xs (Int32.toNatClampNeg (x + 1))) (xs (Int32.toNatClampNeg (x + 2))) (xs (Int32.toNatClampNeg (x + 3))) (xs (Int32.toNatClampNeg (x + 4)))
  exact kk _ _ ⟨_, _, _, aM, _, _, iX1, iM2, hR2, hX2, hM2, rfl, rfl, hAX1, hAM, hdis1, hS2⟩
set_option maxRecDepth 100000 in
set_option maxHeartbeats 8000000 in
theorem lc_5 (l : Launch) (S : CallFix p m c cL_law 4 s #[Value.ref b] wsL_law RL) (hY : va_X b L xs s s.heap) (hbl : b < s.heap.size) (hK : va_K D vwCl (tysG G) s) (hN : NW s) (hx0 : 0 ≤ x.toInt) (hx6 : x.toInt + 6 ≤ (L : Int)) (hL : L ≤ 3072) (hI : LInv s D G hx hm H locs) (hl : lv_has ls 4 [(3, .int x), (2, .ref hm), (1, .ref hx), (0, .ref b)]) (hc : cells + 40 ≤ 600000) (hsl : slots + 320 ≤ 7302249) (kk : ∀ (H : Heap) (locs : List Loc), LInv s D G hx hm H locs → W p l e room_1 s m #[Value.ref b] below meth c H locs (cells + 40) (slots + 320) Q (F0 m 1416 ls [])) : W p l e room_1 s m #[Value.ref b] below meth c H locs cells slots Q (F0 m 389 ls []) := by
  have hbA : ¬ (fun q : Nat => s.heap.size ≤ q) b := Nat.not_le.mpr hbl
  obtain ⟨M, T, aX, aM, d, τ, iX, iM, hR, hX, hM, h0X, h0M, hAX, hAM, hdis, hS⟩ := hI
  subst h0X
  subst h0M
  refine lv_aload_n S.1 S.2.1 dL_law_389 rfl (lv_at hl 2 rfl) ?_
  refine lv_aload_n S.1 S.2.1 dL_law_390 rfl (lv_at hl 3 rfl) ?_
  refine lv_iload_n S.1 S.2.1 dL_law_391 rfl (lv_at hl 0 rfl) ?_
  refine lv_iconst (v := 1) S.1 S.2.1 dL_law_392 (by decide) ?_
  refine lv_iadd S.1 S.2.1 dL_law_393 ?_
  refine va_sld S.1 S.2.1 hY hbl hbA hS (i := x + 1) (vinx (z := 1) rfl (by decide) (by decide) hx0 hx6 hL) dL_law_394 ?_
  refine lv_aload_n S.1 S.2.1 dL_law_395 rfl (lv_at hl 3 rfl) ?_
  refine lv_iload_n S.1 S.2.1 dL_law_396 rfl (lv_at hl 0 rfl) ?_
  refine lv_iconst (v := 2) S.1 S.2.1 dL_law_397 (by decide) ?_
  refine lv_iadd S.1 S.2.1 dL_law_398 ?_
  refine va_sld S.1 S.2.1 hY hbl hbA hS (i := x + 2) (vinx (z := 2) rfl (by decide) (by decide) hx0 hx6 hL) dL_law_399 ?_
  refine lv_aload_n S.1 S.2.1 dL_law_400 rfl (lv_at hl 3 rfl) ?_
  refine lv_iload_n S.1 S.2.1 dL_law_401 rfl (lv_at hl 0 rfl) ?_
  refine lv_iconst (v := 3) S.1 S.2.1 dL_law_402 (by decide) ?_
  refine lv_iadd S.1 S.2.1 dL_law_403 ?_
  refine va_sld S.1 S.2.1 hY hbl hbA hS (i := x + 3) (vinx (z := 3) rfl (by decide) (by decide) hx0 hx6 hL) dL_law_404 ?_
  refine W.widen (k := cells + 40) (n := slots + 320) (by omega) (by omega) ?_
  refine cWV (rest := []) (A := fun q => s.heap.size ≤ q) S (c_X4_proof l D G M T aX d (xs (Int32.toNatClampNeg (x + 1))) (xs (Int32.toNatClampNeg (x + 2))) (xs (Int32.toNatClampNeg (x + 3))) iX) gV_RL_37 ds_X4_proof ⟨rfl, rfl⟩ ⟨Nat.le_of_ble_eq_true rfl, Nat.le_of_ble_eq_true rfl⟩ ⟨blindX, recvX hK hX (k := 0) (i := 0) Nat.zero_lt_one rfl rfl, preX hK hN hX _⟩ rfl hl.1 rfl (Nat.le_of_ble_eq_true rfl) ⟨hc, hsl⟩ dL_law_405 hS hAX (fun H1 locs1 hX1 hS1 k1 => ?_)
  have hM1 := hM.kept (H1 := H1) (fun q hq => k1 q (hM.sz hq) (fun z => hdis q z hq))
  have iX1 := k_X4_proof iX (xs (Int32.toNatClampNeg (x + 1))) (xs (Int32.toNatClampNeg (x + 2))) (xs (Int32.toNatClampNeg (x + 3)))
  have hAX1 := hAX
  have hdis1 := hdis
  refine lv_pop S.1 S.2.1 dL_law_408 rfl ?_
  refine lv_aload_n S.1 S.2.1 dL_law_409 rfl (lv_at hl 1 rfl) ?_
  refine lv_aload_n S.1 S.2.1 dL_law_410 rfl (lv_at hl 3 rfl) ?_
  refine lv_iload_n S.1 S.2.1 dL_law_411 rfl (lv_at hl 0 rfl) ?_
  refine lv_iconst (v := 1) S.1 S.2.1 dL_law_412 (by decide) ?_
  refine lv_iadd S.1 S.2.1 dL_law_413 ?_
  refine va_sld S.1 S.2.1 hY hbl hbA hS1 (i := x + 1) (vinx (z := 1) rfl (by decide) (by decide) hx0 hx6 hL) dL_law_414 ?_
  refine lv_aload_n S.1 S.2.1 dL_law_415 rfl (lv_at hl 3 rfl) ?_
  refine lv_iload_n S.1 S.2.1 dL_law_416 rfl (lv_at hl 0 rfl) ?_
  refine lv_iconst (v := 2) S.1 S.2.1 dL_law_417 (by decide) ?_
  refine lv_iadd S.1 S.2.1 dL_law_418 ?_
  refine va_sld S.1 S.2.1 hY hbl hbA hS1 (i := x + 2) (vinx (z := 2) rfl (by decide) (by decide) hx0 hx6 hL) dL_law_419 ?_
  refine lv_aload_n S.1 S.2.1 dL_law_420 rfl (lv_at hl 3 rfl) ?_
  refine lv_iload_n S.1 S.2.1 dL_law_421 rfl (lv_at hl 0 rfl) ?_
  refine lv_iconst (v := 3) S.1 S.2.1 dL_law_422 (by decide) ?_
  refine lv_iadd S.1 S.2.1 dL_law_423 ?_
  refine va_sld S.1 S.2.1 hY hbl hbA hS1 (i := x + 3) (vinx (z := 3) rfl (by decide) (by decide) hx0 hx6 hL) dL_law_424 ?_
  refine cWV (rest := []) (A := fun q => s.heap.size ≤ q) S (c_X5_proof l D G aM τ (xs (Int32.toNatClampNeg (x + 1))) (xs (Int32.toNatClampNeg (x + 2))) (xs (Int32.toNatClampNeg (x + 3))) iM) gV_RL_40 ds_X5_proof ⟨rfl, rfl⟩ ⟨Nat.le_of_ble_eq_true rfl, Nat.le_of_ble_eq_true rfl⟩ ⟨blindX, recvX hK hM1 (k := 0) (i := 0) Nat.zero_lt_one rfl rfl, preX hK hN hM1 _⟩ rfl hl.1 rfl (Nat.le_of_ble_eq_true rfl) ⟨hc, hsl⟩ dL_law_425 hS1 hAM (fun H2 locs2 hM2 hS2 k2 => ?_)
  have hX2 := hX1.kept (H1 := H2) (fun q hq => k2 q (hX1.sz hq) (fun z => hdis1 q hq z))
  have iM2 := k_X5_proof iM (xs (Int32.toNatClampNeg (x + 1))) (xs (Int32.toNatClampNeg (x + 2))) (xs (Int32.toNatClampNeg (x + 3)))
  refine lv_pop S.1 S.2.1 dL_law_428 rfl ?_
  refine lv_goto (tgt := 1416) S.1 S.2.1 dL_law_429 (by decide) ?_
  have hR2 := r2_X4_proof hR iX iM (xs (Int32.toNatClampNeg (x + 1))) (xs (Int32.toNatClampNeg (x + 2))) (xs (Int32.toNatClampNeg (x + 3)))
  exact kk _ _ ⟨_, _, _, aM, _, _, iX1, iM2, hR2, hX2, hM2, rfl, rfl, hAX1, hAM, hdis1, hS2⟩
set_option maxRecDepth 100000 in
set_option maxHeartbeats 8000000 in
theorem lc_6 (l : Launch) (S : CallFix p m c cL_law 4 s #[Value.ref b] wsL_law RL) (hY : va_X b L xs s s.heap) (hbl : b < s.heap.size) (hK : va_K D vwCl (tysG G) s) (hN : NW s) (hx0 : 0 ≤ x.toInt) (hx6 : x.toInt + 6 ≤ (L : Int)) (hL : L ≤ 3072) (hI : LInv s D G hx hm H locs) (hl : lv_has ls 4 [(3, .int x), (2, .ref hm), (1, .ref hx), (0, .ref b)]) (hc : cells + 40 ≤ 600000) (hsl : slots + 320 ≤ 7302249) (kk : ∀ (H : Heap) (locs : List Loc), LInv s D G hx hm H locs → W p l e room_1 s m #[Value.ref b] below meth c H locs (cells + 40) (slots + 320) Q (F0 m 1416 ls [])) : W p l e room_1 s m #[Value.ref b] below meth c H locs cells slots Q (F0 m 432 ls []) := by
  have hbA : ¬ (fun q : Nat => s.heap.size ≤ q) b := Nat.not_le.mpr hbl
  obtain ⟨M, T, aX, aM, d, τ, iX, iM, hR, hX, hM, h0X, h0M, hAX, hAM, hdis, hS⟩ := hI
  subst h0X
  subst h0M
  refine lv_aload_n S.1 S.2.1 dL_law_432 rfl (lv_at hl 2 rfl) ?_
  refine lv_aload_n S.1 S.2.1 dL_law_433 rfl (lv_at hl 3 rfl) ?_
  refine lv_iload_n S.1 S.2.1 dL_law_434 rfl (lv_at hl 0 rfl) ?_
  refine lv_iconst (v := 1) S.1 S.2.1 dL_law_435 (by decide) ?_
  refine lv_iadd S.1 S.2.1 dL_law_436 ?_
  refine va_sld S.1 S.2.1 hY hbl hbA hS (i := x + 1) (vinx (z := 1) rfl (by decide) (by decide) hx0 hx6 hL) dL_law_437 ?_
  refine lv_aload_n S.1 S.2.1 dL_law_438 rfl (lv_at hl 3 rfl) ?_
  refine lv_iload_n S.1 S.2.1 dL_law_439 rfl (lv_at hl 0 rfl) ?_
  refine lv_iconst (v := 2) S.1 S.2.1 dL_law_440 (by decide) ?_
  refine lv_iadd S.1 S.2.1 dL_law_441 ?_
  refine va_sld S.1 S.2.1 hY hbl hbA hS (i := x + 2) (vinx (z := 2) rfl (by decide) (by decide) hx0 hx6 hL) dL_law_442 ?_
  refine lv_aload_n S.1 S.2.1 dL_law_443 rfl (lv_at hl 3 rfl) ?_
  refine lv_iload_n S.1 S.2.1 dL_law_444 rfl (lv_at hl 0 rfl) ?_
  refine lv_iconst (v := 3) S.1 S.2.1 dL_law_445 (by decide) ?_
  refine lv_iadd S.1 S.2.1 dL_law_446 ?_
  refine va_sld S.1 S.2.1 hY hbl hbA hS (i := x + 3) (vinx (z := 3) rfl (by decide) (by decide) hx0 hx6 hL) dL_law_447 ?_
  refine W.widen (k := cells + 40) (n := slots + 320) (by omega) (by omega) ?_
  refine cWV (rest := []) (A := fun q => s.heap.size ≤ q) S (c_X4_run l D G M T aX d (xs (Int32.toNatClampNeg (x + 1))) (xs (Int32.toNatClampNeg (x + 2))) (xs (Int32.toNatClampNeg (x + 3))) iX) gV_RL_41 ds_X4_run ⟨rfl, rfl⟩ ⟨Nat.le_of_ble_eq_true rfl, Nat.le_of_ble_eq_true rfl⟩ ⟨blindX, recvX hK hX (k := 0) (i := 0) Nat.zero_lt_one rfl rfl, preX hK hN hX _⟩ rfl hl.1 rfl (Nat.le_of_ble_eq_true rfl) ⟨hc, hsl⟩ dL_law_448 hS hAX (fun H1 locs1 hX1 hS1 k1 => ?_)
  have hM1 := hM.kept (H1 := H1) (fun q hq => k1 q (hM.sz hq) (fun z => hdis q z hq))
  have iX1 := k_X4_run iX (xs (Int32.toNatClampNeg (x + 1))) (xs (Int32.toNatClampNeg (x + 2))) (xs (Int32.toNatClampNeg (x + 3)))
  have hAX1 := hAX
  have hdis1 := hdis
  refine lv_pop2_2 S.1 S.2.1 dL_law_451 rfl ?_
  refine lv_aload_n S.1 S.2.1 dL_law_452 rfl (lv_at hl 1 rfl) ?_
  refine lv_aload_n S.1 S.2.1 dL_law_453 rfl (lv_at hl 3 rfl) ?_
  refine lv_iload_n S.1 S.2.1 dL_law_454 rfl (lv_at hl 0 rfl) ?_
  refine lv_iconst (v := 1) S.1 S.2.1 dL_law_455 (by decide) ?_
  refine lv_iadd S.1 S.2.1 dL_law_456 ?_
  refine va_sld S.1 S.2.1 hY hbl hbA hS1 (i := x + 1) (vinx (z := 1) rfl (by decide) (by decide) hx0 hx6 hL) dL_law_457 ?_
  refine lv_aload_n S.1 S.2.1 dL_law_458 rfl (lv_at hl 3 rfl) ?_
  refine lv_iload_n S.1 S.2.1 dL_law_459 rfl (lv_at hl 0 rfl) ?_
  refine lv_iconst (v := 2) S.1 S.2.1 dL_law_460 (by decide) ?_
  refine lv_iadd S.1 S.2.1 dL_law_461 ?_
  refine va_sld S.1 S.2.1 hY hbl hbA hS1 (i := x + 2) (vinx (z := 2) rfl (by decide) (by decide) hx0 hx6 hL) dL_law_462 ?_
  refine lv_aload_n S.1 S.2.1 dL_law_463 rfl (lv_at hl 3 rfl) ?_
  refine lv_iload_n S.1 S.2.1 dL_law_464 rfl (lv_at hl 0 rfl) ?_
  refine lv_iconst (v := 3) S.1 S.2.1 dL_law_465 (by decide) ?_
  refine lv_iadd S.1 S.2.1 dL_law_466 ?_
  refine va_sld S.1 S.2.1 hY hbl hbA hS1 (i := x + 3) (vinx (z := 3) rfl (by decide) (by decide) hx0 hx6 hL) dL_law_467 ?_
  refine cWV (rest := []) (A := fun q => s.heap.size ≤ q) S (c_X5_run l D G aM τ (xs (Int32.toNatClampNeg (x + 1))) (xs (Int32.toNatClampNeg (x + 2))) (xs (Int32.toNatClampNeg (x + 3))) iM) gV_RL_45 ds_X5_run ⟨rfl, rfl⟩ ⟨Nat.le_of_ble_eq_true rfl, Nat.le_of_ble_eq_true rfl⟩ ⟨blindX, recvX hK hM1 (k := 0) (i := 0) Nat.zero_lt_one rfl rfl, preX hK hN hM1 _⟩ rfl hl.1 rfl (Nat.le_of_ble_eq_true rfl) ⟨hc, hsl⟩ dL_law_468 hS1 hAM (fun H2 locs2 hM2 hS2 k2 => ?_)
  have hX2 := hX1.kept (H1 := H2) (fun q hq => k2 q (hX1.sz hq) (fun z => hdis1 q hq z))
  have iM2 := k_X5_run iM (xs (Int32.toNatClampNeg (x + 1))) (xs (Int32.toNatClampNeg (x + 2))) (xs (Int32.toNatClampNeg (x + 3)))
  refine lv_pop2_2 S.1 S.2.1 dL_law_471 rfl ?_
  refine lv_goto (tgt := 1416) S.1 S.2.1 dL_law_472 (by decide) ?_
  have hR2 := r2_X4_run hR iX iM (xs (Int32.toNatClampNeg (x + 1))) (xs (Int32.toNatClampNeg (x + 2))) (xs (Int32.toNatClampNeg (x + 3)))
  exact kk _ _ ⟨_, _, _, aM, _, _, iX1, iM2, hR2, hX2, hM2, rfl, rfl, hAX1, hAM, hdis1, hS2⟩
set_option maxRecDepth 100000 in
set_option maxHeartbeats 8000000 in
theorem lc_7 (l : Launch) (S : CallFix p m c cL_law 4 s #[Value.ref b] wsL_law RL) (hY : va_X b L xs s s.heap) (hbl : b < s.heap.size) (hK : va_K D vwCl (tysG G) s) (hN : NW s) (hx0 : 0 ≤ x.toInt) (hx6 : x.toInt + 6 ≤ (L : Int)) (hL : L ≤ 3072) (hI : LInv s D G hx hm H locs) (hl : lv_has ls 4 [(3, .int x), (2, .ref hm), (1, .ref hx), (0, .ref b)]) (hc : cells + 40 ≤ 600000) (hsl : slots + 320 ≤ 7302249) (kk : ∀ (H : Heap) (locs : List Loc), LInv s D G hx hm H locs → W p l e room_1 s m #[Value.ref b] below meth c H locs (cells + 40) (slots + 320) Q (F0 m 1416 ls [])) : W p l e room_1 s m #[Value.ref b] below meth c H locs cells slots Q (F0 m 475 ls []) := by
  have hbA : ¬ (fun q : Nat => s.heap.size ≤ q) b := Nat.not_le.mpr hbl
  obtain ⟨M, T, aX, aM, d, τ, iX, iM, hR, hX, hM, h0X, h0M, hAX, hAM, hdis, hS⟩ := hI
  subst h0X
  subst h0M
  refine lv_aload_n S.1 S.2.1 dL_law_475 rfl (lv_at hl 2 rfl) ?_
  refine lv_aload_n S.1 S.2.1 dL_law_476 rfl (lv_at hl 3 rfl) ?_
  refine lv_iload_n S.1 S.2.1 dL_law_477 rfl (lv_at hl 0 rfl) ?_
  refine lv_iconst (v := 1) S.1 S.2.1 dL_law_478 (by decide) ?_
  refine lv_iadd S.1 S.2.1 dL_law_479 ?_
  refine va_sld S.1 S.2.1 hY hbl hbA hS (i := x + 1) (vinx (z := 1) rfl (by decide) (by decide) hx0 hx6 hL) dL_law_480 ?_
  refine W.widen (k := cells + 40) (n := slots + 320) (by omega) (by omega) ?_
  refine cPV (rest := []) S (c_X4_proving l D G M T aX d (xs (Int32.toNatClampNeg (x + 1))) iX) gV_RL_46 ds_X4_proving ⟨rfl, rfl⟩ ⟨Nat.le_of_ble_eq_true rfl, Nat.le_of_ble_eq_true rfl⟩ ⟨blindX, recvX hK hX (k := 0) (i := 0) Nat.zero_lt_one rfl rfl, preX hK hN hX _⟩ rfl hl.1 rfl (Nat.le_of_ble_eq_true rfl) ⟨hc, hsl⟩ dL_law_481 ?_
  obtain ⟨M1, eM1⟩ : ∃ z, z = M := ⟨_, rfl⟩
  subst eM1
  obtain ⟨T1, eT1⟩ : ∃ z, z = T := ⟨_, rfl⟩
  subst eT1
  obtain ⟨aX1, eaX1⟩ : ∃ z, z = aX := ⟨_, rfl⟩
  subst eaX1
  have hX1 := hX
  have hM1 := hM
  have iX1 := iX
  have hAX1 := hAX
  have hdis1 := hdis
  have hS1 := hS
  refine lv_pop S.1 S.2.1 dL_law_484 rfl ?_
  refine lv_aload_n S.1 S.2.1 dL_law_485 rfl (lv_at hl 1 rfl) ?_
  refine lv_aload_n S.1 S.2.1 dL_law_486 rfl (lv_at hl 3 rfl) ?_
  refine lv_iload_n S.1 S.2.1 dL_law_487 rfl (lv_at hl 0 rfl) ?_
  refine lv_iconst (v := 1) S.1 S.2.1 dL_law_488 (by decide) ?_
  refine lv_iadd S.1 S.2.1 dL_law_489 ?_
  refine va_sld S.1 S.2.1 hY hbl hbA hS1 (i := x + 1) (vinx (z := 1) rfl (by decide) (by decide) hx0 hx6 hL) dL_law_490 ?_
  refine cPV (rest := []) S (c_X5_proving l D G aM τ (xs (Int32.toNatClampNeg (x + 1))) iM) gV_RL_49 ds_X5_proving ⟨rfl, rfl⟩ ⟨Nat.le_of_ble_eq_true rfl, Nat.le_of_ble_eq_true rfl⟩ ⟨blindX, recvX hK hM1 (k := 0) (i := 0) Nat.zero_lt_one rfl rfl, preX hK hN hM1 _⟩ rfl hl.1 rfl (Nat.le_of_ble_eq_true rfl) ⟨hc, hsl⟩ dL_law_491 ?_
  have hX2 := hX1
  have hM2 := hM1
  have iM2 := iM
  have hS2 := hS1
  refine lv_pop S.1 S.2.1 dL_law_494 rfl ?_
  refine lv_goto (tgt := 1416) S.1 S.2.1 dL_law_495 (by decide) ?_
  have hR2 := hR
  exact kk _ _ ⟨_, _, _, aM, _, _, iX1, iM2, hR2, hX2, hM2, rfl, rfl, hAX1, hAM, hdis1, hS2⟩
set_option maxRecDepth 100000 in
set_option maxHeartbeats 8000000 in
theorem lc_8 (l : Launch) (S : CallFix p m c cL_law 4 s #[Value.ref b] wsL_law RL) (hY : va_X b L xs s s.heap) (hbl : b < s.heap.size) (hK : va_K D vwCl (tysG G) s) (hN : NW s) (hx0 : 0 ≤ x.toInt) (hx6 : x.toInt + 6 ≤ (L : Int)) (hL : L ≤ 3072) (hI : LInv s D G hx hm H locs) (hl : lv_has ls 4 [(3, .int x), (2, .ref hm), (1, .ref hx), (0, .ref b)]) (hc : cells + 40 ≤ 600000) (hsl : slots + 320 ≤ 7302249) (kk : ∀ (H : Heap) (locs : List Loc), LInv s D G hx hm H locs → W p l e room_1 s m #[Value.ref b] below meth c H locs (cells + 40) (slots + 320) Q (F0 m 1416 ls [])) : W p l e room_1 s m #[Value.ref b] below meth c H locs cells slots Q (F0 m 498 ls []) := by
  have hbA : ¬ (fun q : Nat => s.heap.size ≤ q) b := Nat.not_le.mpr hbl
  obtain ⟨M, T, aX, aM, d, τ, iX, iM, hR, hX, hM, h0X, h0M, hAX, hAM, hdis, hS⟩ := hI
  subst h0X
  subst h0M
  refine lv_aload_n S.1 S.2.1 dL_law_498 rfl (lv_at hl 2 rfl) ?_
  refine lv_aload_n S.1 S.2.1 dL_law_499 rfl (lv_at hl 3 rfl) ?_
  refine lv_iload_n S.1 S.2.1 dL_law_500 rfl (lv_at hl 0 rfl) ?_
  refine lv_iconst (v := 1) S.1 S.2.1 dL_law_501 (by decide) ?_
  refine lv_iadd S.1 S.2.1 dL_law_502 ?_
  refine va_sld S.1 S.2.1 hY hbl hbA hS (i := x + 1) (vinx (z := 1) rfl (by decide) (by decide) hx0 hx6 hL) dL_law_503 ?_
  refine W.widen (k := cells + 40) (n := slots + 320) (by omega) (by omega) ?_
  refine cWV (rest := []) (A := fun q => s.heap.size ≤ q) S (c_X4_accept l D G M T aX d (xs (Int32.toNatClampNeg (x + 1))) iX) gV_RL_50 ds_X4_accept ⟨rfl, rfl⟩ ⟨Nat.le_of_ble_eq_true rfl, Nat.le_of_ble_eq_true rfl⟩ ⟨blindX, recvX hK hX (k := 0) (i := 0) Nat.zero_lt_one rfl rfl, preX hK hN hX _⟩ rfl hl.1 rfl (Nat.le_of_ble_eq_true rfl) ⟨hc, hsl⟩ dL_law_504 hS hAX (fun H1 locs1 hX1 hS1 k1 => ?_)
  have hM1 := hM.kept (H1 := H1) (fun q hq => k1 q (hM.sz hq) (fun z => hdis q z hq))
  have iX1 := k_X4_accept iX (xs (Int32.toNatClampNeg (x + 1)))
  have hAX1 := hAX
  have hdis1 := hdis
  refine lv_pop S.1 S.2.1 dL_law_507 rfl ?_
  refine lv_aload_n S.1 S.2.1 dL_law_508 rfl (lv_at hl 1 rfl) ?_
  refine lv_aload_n S.1 S.2.1 dL_law_509 rfl (lv_at hl 3 rfl) ?_
  refine lv_iload_n S.1 S.2.1 dL_law_510 rfl (lv_at hl 0 rfl) ?_
  refine lv_iconst (v := 1) S.1 S.2.1 dL_law_511 (by decide) ?_
  refine lv_iadd S.1 S.2.1 dL_law_512 ?_
  refine va_sld S.1 S.2.1 hY hbl hbA hS1 (i := x + 1) (vinx (z := 1) rfl (by decide) (by decide) hx0 hx6 hL) dL_law_513 ?_
  refine cWV (rest := []) (A := fun q => s.heap.size ≤ q) S (c_X5_accept l D G aM τ (xs (Int32.toNatClampNeg (x + 1))) iM) gV_RL_53 ds_X5_accept ⟨rfl, rfl⟩ ⟨Nat.le_of_ble_eq_true rfl, Nat.le_of_ble_eq_true rfl⟩ ⟨blindX, recvX hK hM1 (k := 0) (i := 0) Nat.zero_lt_one rfl rfl, preX hK hN hM1 _⟩ rfl hl.1 rfl (Nat.le_of_ble_eq_true rfl) ⟨hc, hsl⟩ dL_law_514 hS1 hAM (fun H2 locs2 hM2 hS2 k2 => ?_)
  have hX2 := hX1.kept (H1 := H2) (fun q hq => k2 q (hX1.sz hq) (fun z => hdis1 q hq z))
  have iM2 := k_X5_accept iM (xs (Int32.toNatClampNeg (x + 1)))
  refine lv_pop S.1 S.2.1 dL_law_517 rfl ?_
  refine lv_goto (tgt := 1416) S.1 S.2.1 dL_law_518 (by decide) ?_
  have hR2 := r2_X4_accept hR iX iM (xs (Int32.toNatClampNeg (x + 1)))
  exact kk _ _ ⟨_, _, _, aM, _, _, iX1, iM2, hR2, hX2, hM2, rfl, rfl, hAX1, hAM, hdis1, hS2⟩
set_option maxRecDepth 100000 in
set_option maxHeartbeats 8000000 in
theorem lc_9 (l : Launch) (S : CallFix p m c cL_law 4 s #[Value.ref b] wsL_law RL) (hY : va_X b L xs s s.heap) (hbl : b < s.heap.size) (hK : va_K D vwCl (tysG G) s) (hN : NW s) (hx0 : 0 ≤ x.toInt) (hx6 : x.toInt + 6 ≤ (L : Int)) (hL : L ≤ 3072) (hI : LInv s D G hx hm H locs) (hl : lv_has ls 4 [(3, .int x), (2, .ref hm), (1, .ref hx), (0, .ref b)]) (hc : cells + 40 ≤ 600000) (hsl : slots + 320 ≤ 7302249) (kk : ∀ (H : Heap) (locs : List Loc), LInv s D G hx hm H locs → W p l e room_1 s m #[Value.ref b] below meth c H locs (cells + 40) (slots + 320) Q (F0 m 1416 ls [])) : W p l e room_1 s m #[Value.ref b] below meth c H locs cells slots Q (F0 m 521 ls []) := by
  have hbA : ¬ (fun q : Nat => s.heap.size ≤ q) b := Nat.not_le.mpr hbl
  obtain ⟨M, T, aX, aM, d, τ, iX, iM, hR, hX, hM, h0X, h0M, hAX, hAM, hdis, hS⟩ := hI
  subst h0X
  subst h0M
  refine lv_aload_n S.1 S.2.1 dL_law_521 rfl (lv_at hl 2 rfl) ?_
  refine lv_aload_n S.1 S.2.1 dL_law_522 rfl (lv_at hl 3 rfl) ?_
  refine lv_iload_n S.1 S.2.1 dL_law_523 rfl (lv_at hl 0 rfl) ?_
  refine lv_iconst (v := 1) S.1 S.2.1 dL_law_524 (by decide) ?_
  refine lv_iadd S.1 S.2.1 dL_law_525 ?_
  refine va_sld S.1 S.2.1 hY hbl hbA hS (i := x + 1) (vinx (z := 1) rfl (by decide) (by decide) hx0 hx6 hL) dL_law_526 ?_
  refine lv_aload_n S.1 S.2.1 dL_law_527 rfl (lv_at hl 3 rfl) ?_
  refine lv_iload_n S.1 S.2.1 dL_law_528 rfl (lv_at hl 0 rfl) ?_
  refine lv_iconst (v := 2) S.1 S.2.1 dL_law_529 (by decide) ?_
  refine lv_iadd S.1 S.2.1 dL_law_530 ?_
  refine va_sld S.1 S.2.1 hY hbl hbA hS (i := x + 2) (vinx (z := 2) rfl (by decide) (by decide) hx0 hx6 hL) dL_law_531 ?_
  refine lv_aload_n S.1 S.2.1 dL_law_532 rfl (lv_at hl 3 rfl) ?_
  refine lv_iload_n S.1 S.2.1 dL_law_533 rfl (lv_at hl 0 rfl) ?_
  refine lv_iconst (v := 3) S.1 S.2.1 dL_law_534 (by decide) ?_
  refine lv_iadd S.1 S.2.1 dL_law_535 ?_
  refine va_sld S.1 S.2.1 hY hbl hbA hS (i := x + 3) (vinx (z := 3) rfl (by decide) (by decide) hx0 hx6 hL) dL_law_536 ?_
  refine lv_aload_n S.1 S.2.1 dL_law_537 rfl (lv_at hl 3 rfl) ?_
  refine lv_iload_n S.1 S.2.1 dL_law_538 rfl (lv_at hl 0 rfl) ?_
  refine lv_iconst (v := 4) S.1 S.2.1 dL_law_539 (by decide) ?_
  refine lv_iadd S.1 S.2.1 dL_law_540 ?_
  refine va_sld S.1 S.2.1 hY hbl hbA hS (i := x + 4) (vinx (z := 4) rfl (by decide) (by decide) hx0 hx6 hL) dL_law_541 ?_
  refine cBV (rest := []) (A := fun q => s.heap.size ≤ q) S (c_X4_ticket l D G M T aX d H.size (xs (Int32.toNatClampNeg (x + 1))) (xs (Int32.toNatClampNeg (x + 2))) (xs (Int32.toNatClampNeg (x + 3))) (xs (Int32.toNatClampNeg (x + 4))) iX) gV_RL_54 ds_X4_ticket ⟨rfl, rfl⟩ ⟨Nat.le_of_ble_eq_true rfl, Nat.le_of_ble_eq_true rfl⟩ ⟨blindB, recvX hK hX (k := 0) (i := 0) Nat.zero_lt_one rfl rfl, preB hK hN hX _⟩ rfl hl.1 rfl (Nat.le_of_ble_eq_true rfl) ⟨by show cells + 1 ≤ 600000; omega, by show slots + 8 ≤ 7302249; omega⟩ dL_law_542 hS hAX (fun _ h => h) (fun H1 locs1 M1 T1 aX1 hX1 iX1 h01 hs1 hS1 k1 => ?_)
  have hM1 := hM.kept (H1 := H1) (fun q hq => k1 q (hM.sz hq) (fun z => hdis q z hq))
  have hAX1 : ∀ q, adS (XN M1 T1) aX1 q → s.heap.size ≤ q := fun q h => (hs1 q h).elim (hAX q) (fun z => Nat.le_trans hS.1 z)
  have hdis1 : ∀ q, adS (XN M1 T1) aX1 q → ¬ adS MN aM q := fun q h h2 => (hs1 q h).elim (fun z => hdis q z h2) (fun z => Nat.not_le_of_lt (hM.sz h2) z)
  have hl : lv_has ls 4 [(3, .int x), (2, .ref (aM 0 0)), (1, .ref (aX1 0 0)), (0, .ref b)] := by rw [h01]; exact hl
  refine W.widen (k := cells + 40) (n := slots + 320) (by omega) (by omega) ?_
  refine lv_pop S.1 S.2.1 dL_law_545 rfl ?_
  refine lv_aload_n S.1 S.2.1 dL_law_546 rfl (lv_at hl 1 rfl) ?_
  refine lv_aload_n S.1 S.2.1 dL_law_547 rfl (lv_at hl 3 rfl) ?_
  refine lv_iload_n S.1 S.2.1 dL_law_548 rfl (lv_at hl 0 rfl) ?_
  refine lv_iconst (v := 1) S.1 S.2.1 dL_law_549 (by decide) ?_
  refine lv_iadd S.1 S.2.1 dL_law_550 ?_
  refine va_sld S.1 S.2.1 hY hbl hbA hS1 (i := x + 1) (vinx (z := 1) rfl (by decide) (by decide) hx0 hx6 hL) dL_law_551 ?_
  refine lv_aload_n S.1 S.2.1 dL_law_552 rfl (lv_at hl 3 rfl) ?_
  refine lv_iload_n S.1 S.2.1 dL_law_553 rfl (lv_at hl 0 rfl) ?_
  refine lv_iconst (v := 2) S.1 S.2.1 dL_law_554 (by decide) ?_
  refine lv_iadd S.1 S.2.1 dL_law_555 ?_
  refine va_sld S.1 S.2.1 hY hbl hbA hS1 (i := x + 2) (vinx (z := 2) rfl (by decide) (by decide) hx0 hx6 hL) dL_law_556 ?_
  refine lv_aload_n S.1 S.2.1 dL_law_557 rfl (lv_at hl 3 rfl) ?_
  refine lv_iload_n S.1 S.2.1 dL_law_558 rfl (lv_at hl 0 rfl) ?_
  refine lv_iconst (v := 3) S.1 S.2.1 dL_law_559 (by decide) ?_
  refine lv_iadd S.1 S.2.1 dL_law_560 ?_
  refine va_sld S.1 S.2.1 hY hbl hbA hS1 (i := x + 3) (vinx (z := 3) rfl (by decide) (by decide) hx0 hx6 hL) dL_law_561 ?_
  refine lv_aload_n S.1 S.2.1 dL_law_562 rfl (lv_at hl 3 rfl) ?_
  refine lv_iload_n S.1 S.2.1 dL_law_563 rfl (lv_at hl 0 rfl) ?_
  refine lv_iconst (v := 4) S.1 S.2.1 dL_law_564 (by decide) ?_
  refine lv_iadd S.1 S.2.1 dL_law_565 ?_
  refine va_sld S.1 S.2.1 hY hbl hbA hS1 (i := x + 4) (vinx (z := 4) rfl (by decide) (by decide) hx0 hx6 hL) dL_law_566 ?_
  refine cWV (rest := []) (A := fun q => s.heap.size ≤ q) S (c_X5_ticket l D G aM τ (xs (Int32.toNatClampNeg (x + 1))) (xs (Int32.toNatClampNeg (x + 2))) (xs (Int32.toNatClampNeg (x + 3))) (xs (Int32.toNatClampNeg (x + 4))) iM) gV_RL_57 ds_X5_ticket ⟨rfl, rfl⟩ ⟨Nat.le_of_ble_eq_true rfl, Nat.le_of_ble_eq_true rfl⟩ ⟨blindX, recvX hK hM1 (k := 0) (i := 0) Nat.zero_lt_one rfl rfl, preX hK hN hM1 _⟩ rfl hl.1 rfl (Nat.le_of_ble_eq_true rfl) ⟨hc, hsl⟩ dL_law_567 hS1 hAM (fun H2 locs2 hM2 hS2 k2 => ?_)
  have hX2 := hX1.kept (H1 := H2) (fun q hq => k2 q (hX1.sz hq) (fun z => hdis1 q hq z))
  have iM2 := k_X5_ticket iM (xs (Int32.toNatClampNeg (x + 1))) (xs (Int32.toNatClampNeg (x + 2))) (xs (Int32.toNatClampNeg (x + 3))) (xs (Int32.toNatClampNeg (x + 4)))
  refine lv_pop S.1 S.2.1 dL_law_570 rfl ?_
  refine lv_goto (tgt := 1416) S.1 S.2.1 dL_law_571 (by decide) ?_
  have hR2 := (j2_ticket hR iX (xs (Int32.toNatClampNeg (x + 1))) (xs (Int32.toNatClampNeg (x + 2))) (xs (Int32.toNatClampNeg (x + 3))) (xs (Int32.toNatClampNeg (x + 4)))).2
  exact kk _ _ ⟨_, _, _, aM, _, _, iX1, iM2, hR2, hX2, hM2, h01, rfl, hAX1, hAM, hdis1, hS2⟩
set_option maxRecDepth 100000 in
set_option maxHeartbeats 8000000 in
theorem lc_10 (l : Launch) (S : CallFix p m c cL_law 4 s #[Value.ref b] wsL_law RL) (hY : va_X b L xs s s.heap) (hbl : b < s.heap.size) (hK : va_K D vwCl (tysG G) s) (hN : NW s) (hx0 : 0 ≤ x.toInt) (hx6 : x.toInt + 6 ≤ (L : Int)) (hL : L ≤ 3072) (hI : LInv s D G hx hm H locs) (hl : lv_has ls 4 [(3, .int x), (2, .ref hm), (1, .ref hx), (0, .ref b)]) (hc : cells + 40 ≤ 600000) (hsl : slots + 320 ≤ 7302249) (kk : ∀ (H : Heap) (locs : List Loc), LInv s D G hx hm H locs → W p l e room_1 s m #[Value.ref b] below meth c H locs (cells + 40) (slots + 320) Q (F0 m 1416 ls [])) : W p l e room_1 s m #[Value.ref b] below meth c H locs cells slots Q (F0 m 574 ls []) := by
  have hbA : ¬ (fun q : Nat => s.heap.size ≤ q) b := Nat.not_le.mpr hbl
  obtain ⟨M, T, aX, aM, d, τ, iX, iM, hR, hX, hM, h0X, h0M, hAX, hAM, hdis, hS⟩ := hI
  subst h0X
  subst h0M
  refine lv_aload_n S.1 S.2.1 dL_law_574 rfl (lv_at hl 2 rfl) ?_
  refine lv_aload_n S.1 S.2.1 dL_law_575 rfl (lv_at hl 3 rfl) ?_
  refine lv_iload_n S.1 S.2.1 dL_law_576 rfl (lv_at hl 0 rfl) ?_
  refine lv_iconst (v := 1) S.1 S.2.1 dL_law_577 (by decide) ?_
  refine lv_iadd S.1 S.2.1 dL_law_578 ?_
  refine va_sld S.1 S.2.1 hY hbl hbA hS (i := x + 1) (vinx (z := 1) rfl (by decide) (by decide) hx0 hx6 hL) dL_law_579 ?_
  refine lv_aload_n S.1 S.2.1 dL_law_580 rfl (lv_at hl 3 rfl) ?_
  refine lv_iload_n S.1 S.2.1 dL_law_581 rfl (lv_at hl 0 rfl) ?_
  refine lv_iconst (v := 2) S.1 S.2.1 dL_law_582 (by decide) ?_
  refine lv_iadd S.1 S.2.1 dL_law_583 ?_
  refine va_sld S.1 S.2.1 hY hbl hbA hS (i := x + 2) (vinx (z := 2) rfl (by decide) (by decide) hx0 hx6 hL) dL_law_584 ?_
  refine cBV (rest := []) (A := fun q => s.heap.size ≤ q) S (c_X4_right l D G M T aX d H.size (xs (Int32.toNatClampNeg (x + 1))) (xs (Int32.toNatClampNeg (x + 2))) iX) gV_RL_58 ds_X4_right ⟨rfl, rfl⟩ ⟨Nat.le_of_ble_eq_true rfl, Nat.le_of_ble_eq_true rfl⟩ ⟨blindB, recvX hK hX (k := 0) (i := 0) Nat.zero_lt_one rfl rfl, preB hK hN hX _⟩ rfl hl.1 rfl (Nat.le_of_ble_eq_true rfl) ⟨by show cells + 1 ≤ 600000; omega, by show slots + 8 ≤ 7302249; omega⟩ dL_law_585 hS hAX (fun _ h => h) (fun H1 locs1 M1 T1 aX1 hX1 iX1 h01 hs1 hS1 k1 => ?_)
  have hM1 := hM.kept (H1 := H1) (fun q hq => k1 q (hM.sz hq) (fun z => hdis q z hq))
  have hAX1 : ∀ q, adS (XN M1 T1) aX1 q → s.heap.size ≤ q := fun q h => (hs1 q h).elim (hAX q) (fun z => Nat.le_trans hS.1 z)
  have hdis1 : ∀ q, adS (XN M1 T1) aX1 q → ¬ adS MN aM q := fun q h h2 => (hs1 q h).elim (fun z => hdis q z h2) (fun z => Nat.not_le_of_lt (hM.sz h2) z)
  have hl : lv_has ls 4 [(3, .int x), (2, .ref (aM 0 0)), (1, .ref (aX1 0 0)), (0, .ref b)] := by rw [h01]; exact hl
  refine W.widen (k := cells + 40) (n := slots + 320) (by omega) (by omega) ?_
  refine lv_pop S.1 S.2.1 dL_law_588 rfl ?_
  refine lv_aload_n S.1 S.2.1 dL_law_589 rfl (lv_at hl 1 rfl) ?_
  refine lv_aload_n S.1 S.2.1 dL_law_590 rfl (lv_at hl 3 rfl) ?_
  refine lv_iload_n S.1 S.2.1 dL_law_591 rfl (lv_at hl 0 rfl) ?_
  refine lv_iconst (v := 1) S.1 S.2.1 dL_law_592 (by decide) ?_
  refine lv_iadd S.1 S.2.1 dL_law_593 ?_
  refine va_sld S.1 S.2.1 hY hbl hbA hS1 (i := x + 1) (vinx (z := 1) rfl (by decide) (by decide) hx0 hx6 hL) dL_law_594 ?_
  refine lv_aload_n S.1 S.2.1 dL_law_595 rfl (lv_at hl 3 rfl) ?_
  refine lv_iload_n S.1 S.2.1 dL_law_596 rfl (lv_at hl 0 rfl) ?_
  refine lv_iconst (v := 2) S.1 S.2.1 dL_law_597 (by decide) ?_
  refine lv_iadd S.1 S.2.1 dL_law_598 ?_
  refine va_sld S.1 S.2.1 hY hbl hbA hS1 (i := x + 2) (vinx (z := 2) rfl (by decide) (by decide) hx0 hx6 hL) dL_law_599 ?_
  refine cWV (rest := []) (A := fun q => s.heap.size ≤ q) S (c_X5_right l D G aM τ (xs (Int32.toNatClampNeg (x + 1))) (xs (Int32.toNatClampNeg (x + 2))) iM) gV_RL_61 ds_X5_right ⟨rfl, rfl⟩ ⟨Nat.le_of_ble_eq_true rfl, Nat.le_of_ble_eq_true rfl⟩ ⟨blindX, recvX hK hM1 (k := 0) (i := 0) Nat.zero_lt_one rfl rfl, preX hK hN hM1 _⟩ rfl hl.1 rfl (Nat.le_of_ble_eq_true rfl) ⟨hc, hsl⟩ dL_law_600 hS1 hAM (fun H2 locs2 hM2 hS2 k2 => ?_)
  have hX2 := hX1.kept (H1 := H2) (fun q hq => k2 q (hX1.sz hq) (fun z => hdis1 q hq z))
  have iM2 := k_X5_right iM (xs (Int32.toNatClampNeg (x + 1))) (xs (Int32.toNatClampNeg (x + 2)))
  refine lv_pop S.1 S.2.1 dL_law_603 rfl ?_
  refine lv_goto (tgt := 1416) S.1 S.2.1 dL_law_604 (by decide) ?_
  have hR2 := (j2_right hR (xs (Int32.toNatClampNeg (x + 1))) (xs (Int32.toNatClampNeg (x + 2)))).2
  exact kk _ _ ⟨_, _, _, aM, _, _, iX1, iM2, hR2, hX2, hM2, h01, rfl, hAX1, hAM, hdis1, hS2⟩
set_option maxRecDepth 100000 in
set_option maxHeartbeats 8000000 in
theorem lc_11 (l : Launch) (S : CallFix p m c cL_law 4 s #[Value.ref b] wsL_law RL) (hY : va_X b L xs s s.heap) (hbl : b < s.heap.size) (hK : va_K D vwCl (tysG G) s) (hN : NW s) (hx0 : 0 ≤ x.toInt) (hx6 : x.toInt + 6 ≤ (L : Int)) (hL : L ≤ 3072) (hI : LInv s D G hx hm H locs) (hl : lv_has ls 4 [(3, .int x), (2, .ref hm), (1, .ref hx), (0, .ref b)]) (hc : cells + 40 ≤ 600000) (hsl : slots + 320 ≤ 7302249) (kk : ∀ (H : Heap) (locs : List Loc), LInv s D G hx hm H locs → W p l e room_1 s m #[Value.ref b] below meth c H locs (cells + 40) (slots + 320) Q (F0 m 1416 ls [])) : W p l e room_1 s m #[Value.ref b] below meth c H locs cells slots Q (F0 m 607 ls []) := by
  have hbA : ¬ (fun q : Nat => s.heap.size ≤ q) b := Nat.not_le.mpr hbl
  obtain ⟨M, T, aX, aM, d, τ, iX, iM, hR, hX, hM, h0X, h0M, hAX, hAM, hdis, hS⟩ := hI
  subst h0X
  subst h0M
  refine lv_aload_n S.1 S.2.1 dL_law_607 rfl (lv_at hl 2 rfl) ?_
  refine lv_aload_n S.1 S.2.1 dL_law_608 rfl (lv_at hl 3 rfl) ?_
  refine lv_iload_n S.1 S.2.1 dL_law_609 rfl (lv_at hl 0 rfl) ?_
  refine lv_iconst (v := 1) S.1 S.2.1 dL_law_610 (by decide) ?_
  refine lv_iadd S.1 S.2.1 dL_law_611 ?_
  refine va_sld S.1 S.2.1 hY hbl hbA hS (i := x + 1) (vinx (z := 1) rfl (by decide) (by decide) hx0 hx6 hL) dL_law_612 ?_
  refine lv_aload_n S.1 S.2.1 dL_law_613 rfl (lv_at hl 3 rfl) ?_
  refine lv_iload_n S.1 S.2.1 dL_law_614 rfl (lv_at hl 0 rfl) ?_
  refine lv_iconst (v := 2) S.1 S.2.1 dL_law_615 (by decide) ?_
  refine lv_iadd S.1 S.2.1 dL_law_616 ?_
  refine va_sld S.1 S.2.1 hY hbl hbA hS (i := x + 2) (vinx (z := 2) rfl (by decide) (by decide) hx0 hx6 hL) dL_law_617 ?_
  refine lv_aload_n S.1 S.2.1 dL_law_618 rfl (lv_at hl 3 rfl) ?_
  refine lv_iload_n S.1 S.2.1 dL_law_619 rfl (lv_at hl 0 rfl) ?_
  refine lv_iconst (v := 3) S.1 S.2.1 dL_law_620 (by decide) ?_
  refine lv_iadd S.1 S.2.1 dL_law_621 ?_
  refine va_sld S.1 S.2.1 hY hbl hbA hS (i := x + 3) (vinx (z := 3) rfl (by decide) (by decide) hx0 hx6 hL) dL_law_622 ?_
  refine cBV (rest := []) (A := fun q => s.heap.size ≤ q) S (c_X4_remake l D G M T aX d H.size (xs (Int32.toNatClampNeg (x + 1))) (xs (Int32.toNatClampNeg (x + 2))) (xs (Int32.toNatClampNeg (x + 3))) iX) gV_RL_62 ds_X4_remake ⟨rfl, rfl⟩ ⟨Nat.le_of_ble_eq_true rfl, Nat.le_of_ble_eq_true rfl⟩ ⟨blindB, recvX hK hX (k := 0) (i := 0) Nat.zero_lt_one rfl rfl, preB hK hN hX _⟩ rfl hl.1 rfl (Nat.le_of_ble_eq_true rfl) ⟨by show cells + 40 ≤ 600000; omega, by show slots + 320 ≤ 7302249; omega⟩ dL_law_623 hS hAX (fun _ h => h) (fun H1 locs1 M1 T1 aX1 hX1 iX1 h01 hs1 hS1 k1 => ?_)
  have hM1 := hM.kept (H1 := H1) (fun q hq => k1 q (hM.sz hq) (fun z => hdis q z hq))
  have hAX1 : ∀ q, adS (XN M1 T1) aX1 q → s.heap.size ≤ q := fun q h => (hs1 q h).elim (hAX q) (fun z => Nat.le_trans hS.1 z)
  have hdis1 : ∀ q, adS (XN M1 T1) aX1 q → ¬ adS MN aM q := fun q h h2 => (hs1 q h).elim (fun z => hdis q z h2) (fun z => Nat.not_le_of_lt (hM.sz h2) z)
  have hl : lv_has ls 4 [(3, .int x), (2, .ref (aM 0 0)), (1, .ref (aX1 0 0)), (0, .ref b)] := by rw [h01]; exact hl
  refine W.widen (k := cells + 40) (n := slots + 320) (by omega) (by omega) ?_
  refine lv_pop S.1 S.2.1 dL_law_626 rfl ?_
  refine lv_aload_n S.1 S.2.1 dL_law_627 rfl (lv_at hl 1 rfl) ?_
  refine lv_aload_n S.1 S.2.1 dL_law_628 rfl (lv_at hl 3 rfl) ?_
  refine lv_iload_n S.1 S.2.1 dL_law_629 rfl (lv_at hl 0 rfl) ?_
  refine lv_iconst (v := 1) S.1 S.2.1 dL_law_630 (by decide) ?_
  refine lv_iadd S.1 S.2.1 dL_law_631 ?_
  refine va_sld S.1 S.2.1 hY hbl hbA hS1 (i := x + 1) (vinx (z := 1) rfl (by decide) (by decide) hx0 hx6 hL) dL_law_632 ?_
  refine lv_aload_n S.1 S.2.1 dL_law_633 rfl (lv_at hl 3 rfl) ?_
  refine lv_iload_n S.1 S.2.1 dL_law_634 rfl (lv_at hl 0 rfl) ?_
  refine lv_iconst (v := 2) S.1 S.2.1 dL_law_635 (by decide) ?_
  refine lv_iadd S.1 S.2.1 dL_law_636 ?_
  refine va_sld S.1 S.2.1 hY hbl hbA hS1 (i := x + 2) (vinx (z := 2) rfl (by decide) (by decide) hx0 hx6 hL) dL_law_637 ?_
  refine lv_aload_n S.1 S.2.1 dL_law_638 rfl (lv_at hl 3 rfl) ?_
  refine lv_iload_n S.1 S.2.1 dL_law_639 rfl (lv_at hl 0 rfl) ?_
  refine lv_iconst (v := 3) S.1 S.2.1 dL_law_640 (by decide) ?_
  refine lv_iadd S.1 S.2.1 dL_law_641 ?_
  refine va_sld S.1 S.2.1 hY hbl hbA hS1 (i := x + 3) (vinx (z := 3) rfl (by decide) (by decide) hx0 hx6 hL) dL_law_642 ?_
  refine cWV (rest := []) (A := fun q => s.heap.size ≤ q) S (c_X5_remake l D G aM τ (xs (Int32.toNatClampNeg (x + 1))) (xs (Int32.toNatClampNeg (x + 2))) (xs (Int32.toNatClampNeg (x + 3))) iM) gV_RL_65 ds_X5_remake ⟨rfl, rfl⟩ ⟨Nat.le_of_ble_eq_true rfl, Nat.le_of_ble_eq_true rfl⟩ ⟨blindX, recvX hK hM1 (k := 0) (i := 0) Nat.zero_lt_one rfl rfl, preX hK hN hM1 _⟩ rfl hl.1 rfl (Nat.le_of_ble_eq_true rfl) ⟨hc, hsl⟩ dL_law_643 hS1 hAM (fun H2 locs2 hM2 hS2 k2 => ?_)
  have hX2 := hX1.kept (H1 := H2) (fun q hq => k2 q (hX1.sz hq) (fun z => hdis1 q hq z))
  have iM2 := k_X5_remake iM (xs (Int32.toNatClampNeg (x + 1))) (xs (Int32.toNatClampNeg (x + 2))) (xs (Int32.toNatClampNeg (x + 3)))
  refine lv_pop S.1 S.2.1 dL_law_646 rfl ?_
  refine lv_goto (tgt := 1416) S.1 S.2.1 dL_law_647 (by decide) ?_
  have hR2 := (j2_remake hR iX (xs (Int32.toNatClampNeg (x + 1))) (xs (Int32.toNatClampNeg (x + 2))) (xs (Int32.toNatClampNeg (x + 3)))).2
  exact kk _ _ ⟨_, _, _, aM, _, _, iX1, iM2, hR2, hX2, hM2, h01, rfl, hAX1, hAM, hdis1, hS2⟩
set_option maxRecDepth 100000 in
set_option maxHeartbeats 8000000 in
theorem lc_12 (l : Launch) (S : CallFix p m c cL_law 4 s #[Value.ref b] wsL_law RL) (hY : va_X b L xs s s.heap) (hbl : b < s.heap.size) (hK : va_K D vwCl (tysG G) s) (hN : NW s) (hx0 : 0 ≤ x.toInt) (hx6 : x.toInt + 6 ≤ (L : Int)) (hL : L ≤ 3072) (hI : LInv s D G hx hm H locs) (hl : lv_has ls 4 [(3, .int x), (2, .ref hm), (1, .ref hx), (0, .ref b)]) (hc : cells + 40 ≤ 600000) (hsl : slots + 320 ≤ 7302249) (kk : ∀ (H : Heap) (locs : List Loc), LInv s D G hx hm H locs → W p l e room_1 s m #[Value.ref b] below meth c H locs (cells + 40) (slots + 320) Q (F0 m 1416 ls [])) : W p l e room_1 s m #[Value.ref b] below meth c H locs cells slots Q (F0 m 650 ls []) := by
  have hbA : ¬ (fun q : Nat => s.heap.size ≤ q) b := Nat.not_le.mpr hbl
  obtain ⟨M, T, aX, aM, d, τ, iX, iM, hR, hX, hM, h0X, h0M, hAX, hAM, hdis, hS⟩ := hI
  subst h0X
  subst h0M
  refine lv_aload_n S.1 S.2.1 dL_law_650 rfl (lv_at hl 2 rfl) ?_
  refine lv_aload_n S.1 S.2.1 dL_law_651 rfl (lv_at hl 3 rfl) ?_
  refine lv_iload_n S.1 S.2.1 dL_law_652 rfl (lv_at hl 0 rfl) ?_
  refine lv_iconst (v := 1) S.1 S.2.1 dL_law_653 (by decide) ?_
  refine lv_iadd S.1 S.2.1 dL_law_654 ?_
  refine va_sld S.1 S.2.1 hY hbl hbA hS (i := x + 1) (vinx (z := 1) rfl (by decide) (by decide) hx0 hx6 hL) dL_law_655 ?_
  refine lv_aload_n S.1 S.2.1 dL_law_656 rfl (lv_at hl 3 rfl) ?_
  refine lv_iload_n S.1 S.2.1 dL_law_657 rfl (lv_at hl 0 rfl) ?_
  refine lv_iconst (v := 2) S.1 S.2.1 dL_law_658 (by decide) ?_
  refine lv_iadd S.1 S.2.1 dL_law_659 ?_
  refine va_sld S.1 S.2.1 hY hbl hbA hS (i := x + 2) (vinx (z := 2) rfl (by decide) (by decide) hx0 hx6 hL) dL_law_660 ?_
  refine W.widen (k := cells + 40) (n := slots + 320) (by omega) (by omega) ?_
  refine cPV (rest := []) S (c_X4_ticketed l D G M T aX d (xs (Int32.toNatClampNeg (x + 1))) (xs (Int32.toNatClampNeg (x + 2))) iX) gV_RL_66 ds_X4_ticketed ⟨rfl, rfl⟩ ⟨Nat.le_of_ble_eq_true rfl, Nat.le_of_ble_eq_true rfl⟩ ⟨blindX, recvX hK hX (k := 0) (i := 0) Nat.zero_lt_one rfl rfl, preX hK hN hX _⟩ rfl hl.1 rfl (Nat.le_of_ble_eq_true rfl) ⟨hc, hsl⟩ dL_law_661 ?_
  obtain ⟨M1, eM1⟩ : ∃ z, z = M := ⟨_, rfl⟩
  subst eM1
  obtain ⟨T1, eT1⟩ : ∃ z, z = T := ⟨_, rfl⟩
  subst eT1
  obtain ⟨aX1, eaX1⟩ : ∃ z, z = aX := ⟨_, rfl⟩
  subst eaX1
  have hX1 := hX
  have hM1 := hM
  have iX1 := iX
  have hAX1 := hAX
  have hdis1 := hdis
  have hS1 := hS
  refine lv_pop S.1 S.2.1 dL_law_664 rfl ?_
  refine lv_aload_n S.1 S.2.1 dL_law_665 rfl (lv_at hl 1 rfl) ?_
  refine lv_aload_n S.1 S.2.1 dL_law_666 rfl (lv_at hl 3 rfl) ?_
  refine lv_iload_n S.1 S.2.1 dL_law_667 rfl (lv_at hl 0 rfl) ?_
  refine lv_iconst (v := 1) S.1 S.2.1 dL_law_668 (by decide) ?_
  refine lv_iadd S.1 S.2.1 dL_law_669 ?_
  refine va_sld S.1 S.2.1 hY hbl hbA hS1 (i := x + 1) (vinx (z := 1) rfl (by decide) (by decide) hx0 hx6 hL) dL_law_670 ?_
  refine lv_aload_n S.1 S.2.1 dL_law_671 rfl (lv_at hl 3 rfl) ?_
  refine lv_iload_n S.1 S.2.1 dL_law_672 rfl (lv_at hl 0 rfl) ?_
  refine lv_iconst (v := 2) S.1 S.2.1 dL_law_673 (by decide) ?_
  refine lv_iadd S.1 S.2.1 dL_law_674 ?_
  refine va_sld S.1 S.2.1 hY hbl hbA hS1 (i := x + 2) (vinx (z := 2) rfl (by decide) (by decide) hx0 hx6 hL) dL_law_675 ?_
  refine cPV (rest := []) S (c_X5_ticketed l D G aM τ (xs (Int32.toNatClampNeg (x + 1))) (xs (Int32.toNatClampNeg (x + 2))) iM) gV_RL_69 ds_X5_ticketed ⟨rfl, rfl⟩ ⟨Nat.le_of_ble_eq_true rfl, Nat.le_of_ble_eq_true rfl⟩ ⟨blindX, recvX hK hM1 (k := 0) (i := 0) Nat.zero_lt_one rfl rfl, preX hK hN hM1 _⟩ rfl hl.1 rfl (Nat.le_of_ble_eq_true rfl) ⟨hc, hsl⟩ dL_law_676 ?_
  have hX2 := hX1
  have hM2 := hM1
  have iM2 := iM
  have hS2 := hS1
  refine lv_pop S.1 S.2.1 dL_law_679 rfl ?_
  refine lv_goto (tgt := 1416) S.1 S.2.1 dL_law_680 (by decide) ?_
  have hR2 := hR
  exact kk _ _ ⟨_, _, _, aM, _, _, iX1, iM2, hR2, hX2, hM2, rfl, rfl, hAX1, hAM, hdis1, hS2⟩
set_option maxRecDepth 100000 in
set_option maxHeartbeats 8000000 in
theorem lc_13 (l : Launch) (S : CallFix p m c cL_law 4 s #[Value.ref b] wsL_law RL) (hY : va_X b L xs s s.heap) (hbl : b < s.heap.size) (hK : va_K D vwCl (tysG G) s) (hN : NW s) (hx0 : 0 ≤ x.toInt) (hx6 : x.toInt + 6 ≤ (L : Int)) (hL : L ≤ 3072) (hI : LInv s D G hx hm H locs) (hl : lv_has ls 4 [(3, .int x), (2, .ref hm), (1, .ref hx), (0, .ref b)]) (hc : cells + 40 ≤ 600000) (hsl : slots + 320 ≤ 7302249) (kk : ∀ (H : Heap) (locs : List Loc), LInv s D G hx hm H locs → W p l e room_1 s m #[Value.ref b] below meth c H locs (cells + 40) (slots + 320) Q (F0 m 1416 ls [])) : W p l e room_1 s m #[Value.ref b] below meth c H locs cells slots Q (F0 m 683 ls []) := by
  have hbA : ¬ (fun q : Nat => s.heap.size ≤ q) b := Nat.not_le.mpr hbl
  obtain ⟨M, T, aX, aM, d, τ, iX, iM, hR, hX, hM, h0X, h0M, hAX, hAM, hdis, hS⟩ := hI
  subst h0X
  subst h0M
  refine lv_aload_n S.1 S.2.1 dL_law_683 rfl (lv_at hl 2 rfl) ?_
  refine lv_aload_n S.1 S.2.1 dL_law_684 rfl (lv_at hl 3 rfl) ?_
  refine lv_iload_n S.1 S.2.1 dL_law_685 rfl (lv_at hl 0 rfl) ?_
  refine lv_iconst (v := 1) S.1 S.2.1 dL_law_686 (by decide) ?_
  refine lv_iadd S.1 S.2.1 dL_law_687 ?_
  refine va_sld S.1 S.2.1 hY hbl hbA hS (i := x + 1) (vinx (z := 1) rfl (by decide) (by decide) hx0 hx6 hL) dL_law_688 ?_
  refine W.widen (k := cells + 40) (n := slots + 320) (by omega) (by omega) ?_
  refine cPV (rest := []) S (c_X4_volume l D G M T aX d (xs (Int32.toNatClampNeg (x + 1))) iX) gV_RL_70 ds_X4_volume ⟨rfl, rfl⟩ ⟨Nat.le_of_ble_eq_true rfl, Nat.le_of_ble_eq_true rfl⟩ ⟨blindX, recvX hK hX (k := 0) (i := 0) Nat.zero_lt_one rfl rfl, preX hK hN hX _⟩ rfl hl.1 rfl (Nat.le_of_ble_eq_true rfl) ⟨hc, hsl⟩ dL_law_689 ?_
  obtain ⟨M1, eM1⟩ : ∃ z, z = M := ⟨_, rfl⟩
  subst eM1
  obtain ⟨T1, eT1⟩ : ∃ z, z = T := ⟨_, rfl⟩
  subst eT1
  obtain ⟨aX1, eaX1⟩ : ∃ z, z = aX := ⟨_, rfl⟩
  subst eaX1
  have hX1 := hX
  have hM1 := hM
  have iX1 := iX
  have hAX1 := hAX
  have hdis1 := hdis
  have hS1 := hS
  refine lv_pop2_2 S.1 S.2.1 dL_law_692 rfl ?_
  refine lv_aload_n S.1 S.2.1 dL_law_693 rfl (lv_at hl 1 rfl) ?_
  refine lv_aload_n S.1 S.2.1 dL_law_694 rfl (lv_at hl 3 rfl) ?_
  refine lv_iload_n S.1 S.2.1 dL_law_695 rfl (lv_at hl 0 rfl) ?_
  refine lv_iconst (v := 1) S.1 S.2.1 dL_law_696 (by decide) ?_
  refine lv_iadd S.1 S.2.1 dL_law_697 ?_
  refine va_sld S.1 S.2.1 hY hbl hbA hS1 (i := x + 1) (vinx (z := 1) rfl (by decide) (by decide) hx0 hx6 hL) dL_law_698 ?_
  refine cPV (rest := []) S (c_X5_volume l D G aM τ (xs (Int32.toNatClampNeg (x + 1))) iM) gV_RL_74 ds_X5_volume ⟨rfl, rfl⟩ ⟨Nat.le_of_ble_eq_true rfl, Nat.le_of_ble_eq_true rfl⟩ ⟨blindX, recvX hK hM1 (k := 0) (i := 0) Nat.zero_lt_one rfl rfl, preX hK hN hM1 _⟩ rfl hl.1 rfl (Nat.le_of_ble_eq_true rfl) ⟨hc, hsl⟩ dL_law_699 ?_
  have hX2 := hX1
  have hM2 := hM1
  have iM2 := iM
  have hS2 := hS1
  refine lv_pop2_2 S.1 S.2.1 dL_law_702 rfl ?_
  refine lv_goto (tgt := 1416) S.1 S.2.1 dL_law_703 (by decide) ?_
  have hR2 := hR
  exact kk _ _ ⟨_, _, _, aM, _, _, iX1, iM2, hR2, hX2, hM2, rfl, rfl, hAX1, hAM, hdis1, hS2⟩
set_option maxRecDepth 100000 in
set_option maxHeartbeats 8000000 in
theorem lc_14 (l : Launch) (S : CallFix p m c cL_law 4 s #[Value.ref b] wsL_law RL) (hY : va_X b L xs s s.heap) (hbl : b < s.heap.size) (hK : va_K D vwCl (tysG G) s) (hN : NW s) (hx0 : 0 ≤ x.toInt) (hx6 : x.toInt + 6 ≤ (L : Int)) (hL : L ≤ 3072) (hI : LInv s D G hx hm H locs) (hl : lv_has ls 4 [(3, .int x), (2, .ref hm), (1, .ref hx), (0, .ref b)]) (hc : cells + 40 ≤ 600000) (hsl : slots + 320 ≤ 7302249) (kk : ∀ (H : Heap) (locs : List Loc), LInv s D G hx hm H locs → W p l e room_1 s m #[Value.ref b] below meth c H locs (cells + 40) (slots + 320) Q (F0 m 1416 ls [])) : W p l e room_1 s m #[Value.ref b] below meth c H locs cells slots Q (F0 m 706 ls []) := by
  have hbA : ¬ (fun q : Nat => s.heap.size ≤ q) b := Nat.not_le.mpr hbl
  obtain ⟨M, T, aX, aM, d, τ, iX, iM, hR, hX, hM, h0X, h0M, hAX, hAM, hdis, hS⟩ := hI
  subst h0X
  subst h0M
  refine lv_aload_n S.1 S.2.1 dL_law_706 rfl (lv_at hl 2 rfl) ?_
  refine lv_aload_n S.1 S.2.1 dL_law_707 rfl (lv_at hl 3 rfl) ?_
  refine lv_iload_n S.1 S.2.1 dL_law_708 rfl (lv_at hl 0 rfl) ?_
  refine lv_iconst (v := 1) S.1 S.2.1 dL_law_709 (by decide) ?_
  refine lv_iadd S.1 S.2.1 dL_law_710 ?_
  refine va_sld S.1 S.2.1 hY hbl hbA hS (i := x + 1) (vinx (z := 1) rfl (by decide) (by decide) hx0 hx6 hL) dL_law_711 ?_
  refine lv_aload_n S.1 S.2.1 dL_law_712 rfl (lv_at hl 3 rfl) ?_
  refine lv_iload_n S.1 S.2.1 dL_law_713 rfl (lv_at hl 0 rfl) ?_
  refine lv_iconst (v := 2) S.1 S.2.1 dL_law_714 (by decide) ?_
  refine lv_iadd S.1 S.2.1 dL_law_715 ?_
  refine va_sld S.1 S.2.1 hY hbl hbA hS (i := x + 2) (vinx (z := 2) rfl (by decide) (by decide) hx0 hx6 hL) dL_law_716 ?_
  refine lv_aload_n S.1 S.2.1 dL_law_717 rfl (lv_at hl 3 rfl) ?_
  refine lv_iload_n S.1 S.2.1 dL_law_718 rfl (lv_at hl 0 rfl) ?_
  refine lv_iconst (v := 3) S.1 S.2.1 dL_law_719 (by decide) ?_
  refine lv_iadd S.1 S.2.1 dL_law_720 ?_
  refine va_sld S.1 S.2.1 hY hbl hbA hS (i := x + 3) (vinx (z := 3) rfl (by decide) (by decide) hx0 hx6 hL) dL_law_721 ?_
  refine W.widen (k := cells + 40) (n := slots + 320) (by omega) (by omega) ?_
  refine cPV (rest := []) S (c_X4_sum l D G M T aX d (xs (Int32.toNatClampNeg (x + 1))) (xs (Int32.toNatClampNeg (x + 2))) (xs (Int32.toNatClampNeg (x + 3))) iX) gV_RL_75 ds_X4_sum ⟨rfl, rfl⟩ ⟨Nat.le_of_ble_eq_true rfl, Nat.le_of_ble_eq_true rfl⟩ ⟨blindX, recvX hK hX (k := 0) (i := 0) Nat.zero_lt_one rfl rfl, preX hK hN hX _⟩ rfl hl.1 rfl (Nat.le_of_ble_eq_true rfl) ⟨hc, hsl⟩ dL_law_722 ?_
  obtain ⟨M1, eM1⟩ : ∃ z, z = M := ⟨_, rfl⟩
  subst eM1
  obtain ⟨T1, eT1⟩ : ∃ z, z = T := ⟨_, rfl⟩
  subst eT1
  obtain ⟨aX1, eaX1⟩ : ∃ z, z = aX := ⟨_, rfl⟩
  subst eaX1
  have hX1 := hX
  have hM1 := hM
  have iX1 := iX
  have hAX1 := hAX
  have hdis1 := hdis
  have hS1 := hS
  refine lv_pop2_2 S.1 S.2.1 dL_law_725 rfl ?_
  refine lv_aload_n S.1 S.2.1 dL_law_726 rfl (lv_at hl 1 rfl) ?_
  refine lv_aload_n S.1 S.2.1 dL_law_727 rfl (lv_at hl 3 rfl) ?_
  refine lv_iload_n S.1 S.2.1 dL_law_728 rfl (lv_at hl 0 rfl) ?_
  refine lv_iconst (v := 1) S.1 S.2.1 dL_law_729 (by decide) ?_
  refine lv_iadd S.1 S.2.1 dL_law_730 ?_
  refine va_sld S.1 S.2.1 hY hbl hbA hS1 (i := x + 1) (vinx (z := 1) rfl (by decide) (by decide) hx0 hx6 hL) dL_law_731 ?_
  refine lv_aload_n S.1 S.2.1 dL_law_732 rfl (lv_at hl 3 rfl) ?_
  refine lv_iload_n S.1 S.2.1 dL_law_733 rfl (lv_at hl 0 rfl) ?_
  refine lv_iconst (v := 2) S.1 S.2.1 dL_law_734 (by decide) ?_
  refine lv_iadd S.1 S.2.1 dL_law_735 ?_
  refine va_sld S.1 S.2.1 hY hbl hbA hS1 (i := x + 2) (vinx (z := 2) rfl (by decide) (by decide) hx0 hx6 hL) dL_law_736 ?_
  refine lv_aload_n S.1 S.2.1 dL_law_737 rfl (lv_at hl 3 rfl) ?_
  refine lv_iload_n S.1 S.2.1 dL_law_738 rfl (lv_at hl 0 rfl) ?_
  refine lv_iconst (v := 3) S.1 S.2.1 dL_law_739 (by decide) ?_
  refine lv_iadd S.1 S.2.1 dL_law_740 ?_
  refine va_sld S.1 S.2.1 hY hbl hbA hS1 (i := x + 3) (vinx (z := 3) rfl (by decide) (by decide) hx0 hx6 hL) dL_law_741 ?_
  refine cPV (rest := []) S (c_X5_sum l D G aM τ (xs (Int32.toNatClampNeg (x + 1))) (xs (Int32.toNatClampNeg (x + 2))) (xs (Int32.toNatClampNeg (x + 3))) iM) gV_RL_78 ds_X5_sum ⟨rfl, rfl⟩ ⟨Nat.le_of_ble_eq_true rfl, Nat.le_of_ble_eq_true rfl⟩ ⟨blindX, recvX hK hM1 (k := 0) (i := 0) Nat.zero_lt_one rfl rfl, preX hK hN hM1 _⟩ rfl hl.1 rfl (Nat.le_of_ble_eq_true rfl) ⟨hc, hsl⟩ dL_law_742 ?_
  have hX2 := hX1
  have hM2 := hM1
  have iM2 := iM
  have hS2 := hS1
  refine lv_pop2_2 S.1 S.2.1 dL_law_745 rfl ?_
  refine lv_goto (tgt := 1416) S.1 S.2.1 dL_law_746 (by decide) ?_
  have hR2 := hR
  exact kk _ _ ⟨_, _, _, aM, _, _, iX1, iM2, hR2, hX2, hM2, rfl, rfl, hAX1, hAM, hdis1, hS2⟩
set_option maxRecDepth 100000 in
set_option maxHeartbeats 8000000 in
theorem lc_15 (l : Launch) (S : CallFix p m c cL_law 4 s #[Value.ref b] wsL_law RL) (hY : va_X b L xs s s.heap) (hbl : b < s.heap.size) (hK : va_K D vwCl (tysG G) s) (hN : NW s) (hx0 : 0 ≤ x.toInt) (hx6 : x.toInt + 6 ≤ (L : Int)) (hL : L ≤ 3072) (hI : LInv s D G hx hm H locs) (hl : lv_has ls 4 [(3, .int x), (2, .ref hm), (1, .ref hx), (0, .ref b)]) (hc : cells + 40 ≤ 600000) (hsl : slots + 320 ≤ 7302249) (kk : ∀ (H : Heap) (locs : List Loc), LInv s D G hx hm H locs → W p l e room_1 s m #[Value.ref b] below meth c H locs (cells + 40) (slots + 320) Q (F0 m 1416 ls [])) : W p l e room_1 s m #[Value.ref b] below meth c H locs cells slots Q (F0 m 749 ls []) := by
  have hbA : ¬ (fun q : Nat => s.heap.size ≤ q) b := Nat.not_le.mpr hbl
  obtain ⟨M, T, aX, aM, d, τ, iX, iM, hR, hX, hM, h0X, h0M, hAX, hAM, hdis, hS⟩ := hI
  subst h0X
  subst h0M
  refine lv_aload_n S.1 S.2.1 dL_law_749 rfl (lv_at hl 2 rfl) ?_
  refine lv_aload_n S.1 S.2.1 dL_law_750 rfl (lv_at hl 3 rfl) ?_
  refine lv_iload_n S.1 S.2.1 dL_law_751 rfl (lv_at hl 0 rfl) ?_
  refine lv_iconst (v := 1) S.1 S.2.1 dL_law_752 (by decide) ?_
  refine lv_iadd S.1 S.2.1 dL_law_753 ?_
  refine va_sld S.1 S.2.1 hY hbl hbA hS (i := x + 1) (vinx (z := 1) rfl (by decide) (by decide) hx0 hx6 hL) dL_law_754 ?_
  refine W.widen (k := cells + 40) (n := slots + 320) (by omega) (by omega) ?_
  refine cWV (rest := []) (A := fun q => s.heap.size ≤ q) S (c_X4_shut l D G M T aX d (xs (Int32.toNatClampNeg (x + 1))) iX) gV_RL_79 ds_X4_shut ⟨rfl, rfl⟩ ⟨Nat.le_of_ble_eq_true rfl, Nat.le_of_ble_eq_true rfl⟩ ⟨blindX, recvX hK hX (k := 0) (i := 0) Nat.zero_lt_one rfl rfl, preX hK hN hX _⟩ rfl hl.1 rfl (Nat.le_of_ble_eq_true rfl) ⟨hc, hsl⟩ dL_law_755 hS hAX (fun H1 locs1 hX1 hS1 k1 => ?_)
  have hM1 := hM.kept (H1 := H1) (fun q hq => k1 q (hM.sz hq) (fun z => hdis q z hq))
  have iX1 := k_X4_shut iX (xs (Int32.toNatClampNeg (x + 1)))
  have hAX1 := hAX
  have hdis1 := hdis
  refine lv_pop S.1 S.2.1 dL_law_758 rfl ?_
  refine lv_aload_n S.1 S.2.1 dL_law_759 rfl (lv_at hl 1 rfl) ?_
  refine lv_aload_n S.1 S.2.1 dL_law_760 rfl (lv_at hl 3 rfl) ?_
  refine lv_iload_n S.1 S.2.1 dL_law_761 rfl (lv_at hl 0 rfl) ?_
  refine lv_iconst (v := 1) S.1 S.2.1 dL_law_762 (by decide) ?_
  refine lv_iadd S.1 S.2.1 dL_law_763 ?_
  refine va_sld S.1 S.2.1 hY hbl hbA hS1 (i := x + 1) (vinx (z := 1) rfl (by decide) (by decide) hx0 hx6 hL) dL_law_764 ?_
  refine cWV (rest := []) (A := fun q => s.heap.size ≤ q) S (c_X5_shut l D G aM τ (xs (Int32.toNatClampNeg (x + 1))) iM) gV_RL_82 ds_X5_shut ⟨rfl, rfl⟩ ⟨Nat.le_of_ble_eq_true rfl, Nat.le_of_ble_eq_true rfl⟩ ⟨blindX, recvX hK hM1 (k := 0) (i := 0) Nat.zero_lt_one rfl rfl, preX hK hN hM1 _⟩ rfl hl.1 rfl (Nat.le_of_ble_eq_true rfl) ⟨hc, hsl⟩ dL_law_765 hS1 hAM (fun H2 locs2 hM2 hS2 k2 => ?_)
  have hX2 := hX1.kept (H1 := H2) (fun q hq => k2 q (hX1.sz hq) (fun z => hdis1 q hq z))
  have iM2 := k_X5_shut iM (xs (Int32.toNatClampNeg (x + 1)))
  refine lv_pop S.1 S.2.1 dL_law_768 rfl ?_
  refine lv_goto (tgt := 1416) S.1 S.2.1 dL_law_769 (by decide) ?_
  have hR2 := r2_X4_shut hR iX iM (xs (Int32.toNatClampNeg (x + 1)))
  exact kk _ _ ⟨_, _, _, aM, _, _, iX1, iM2, hR2, hX2, hM2, rfl, rfl, hAX1, hAM, hdis1, hS2⟩
set_option maxRecDepth 100000 in
set_option maxHeartbeats 8000000 in
theorem lc_16 (l : Launch) (S : CallFix p m c cL_law 4 s #[Value.ref b] wsL_law RL) (hY : va_X b L xs s s.heap) (hbl : b < s.heap.size) (hK : va_K D vwCl (tysG G) s) (hN : NW s) (hx0 : 0 ≤ x.toInt) (hx6 : x.toInt + 6 ≤ (L : Int)) (hL : L ≤ 3072) (hI : LInv s D G hx hm H locs) (hl : lv_has ls 4 [(3, .int x), (2, .ref hm), (1, .ref hx), (0, .ref b)]) (hc : cells + 40 ≤ 600000) (hsl : slots + 320 ≤ 7302249) (kk : ∀ (H : Heap) (locs : List Loc), LInv s D G hx hm H locs → W p l e room_1 s m #[Value.ref b] below meth c H locs (cells + 40) (slots + 320) Q (F0 m 1416 ls [])) : W p l e room_1 s m #[Value.ref b] below meth c H locs cells slots Q (F0 m 772 ls []) := by
  have hbA : ¬ (fun q : Nat => s.heap.size ≤ q) b := Nat.not_le.mpr hbl
  obtain ⟨M, T, aX, aM, d, τ, iX, iM, hR, hX, hM, h0X, h0M, hAX, hAM, hdis, hS⟩ := hI
  subst h0X
  subst h0M
  refine lv_aload_n S.1 S.2.1 dL_law_772 rfl (lv_at hl 2 rfl) ?_
  refine lv_aload_n S.1 S.2.1 dL_law_773 rfl (lv_at hl 3 rfl) ?_
  refine lv_iload_n S.1 S.2.1 dL_law_774 rfl (lv_at hl 0 rfl) ?_
  refine lv_iconst (v := 1) S.1 S.2.1 dL_law_775 (by decide) ?_
  refine lv_iadd S.1 S.2.1 dL_law_776 ?_
  refine va_sld S.1 S.2.1 hY hbl hbA hS (i := x + 1) (vinx (z := 1) rfl (by decide) (by decide) hx0 hx6 hL) dL_law_777 ?_
  refine lv_aload_n S.1 S.2.1 dL_law_778 rfl (lv_at hl 3 rfl) ?_
  refine lv_iload_n S.1 S.2.1 dL_law_779 rfl (lv_at hl 0 rfl) ?_
  refine lv_iconst (v := 2) S.1 S.2.1 dL_law_780 (by decide) ?_
  refine lv_iadd S.1 S.2.1 dL_law_781 ?_
  refine va_sld S.1 S.2.1 hY hbl hbA hS (i := x + 2) (vinx (z := 2) rfl (by decide) (by decide) hx0 hx6 hL) dL_law_782 ?_
  refine lv_aload_n S.1 S.2.1 dL_law_783 rfl (lv_at hl 3 rfl) ?_
  refine lv_iload_n S.1 S.2.1 dL_law_784 rfl (lv_at hl 0 rfl) ?_
  refine lv_iconst (v := 3) S.1 S.2.1 dL_law_785 (by decide) ?_
  refine lv_iadd S.1 S.2.1 dL_law_786 ?_
  refine va_sld S.1 S.2.1 hY hbl hbA hS (i := x + 3) (vinx (z := 3) rfl (by decide) (by decide) hx0 hx6 hL) dL_law_787 ?_
  refine W.widen (k := cells + 40) (n := slots + 320) (by omega) (by omega) ?_
  refine cWV (rest := []) (A := fun q => s.heap.size ≤ q) S (c_X4_line l D G M T aX d (xs (Int32.toNatClampNeg (x + 1))) (xs (Int32.toNatClampNeg (x + 2))) (xs (Int32.toNatClampNeg (x + 3))) iX) gV_RL_83 ds_X4_line ⟨rfl, rfl⟩ ⟨Nat.le_of_ble_eq_true rfl, Nat.le_of_ble_eq_true rfl⟩ ⟨blindX, recvX hK hX (k := 0) (i := 0) Nat.zero_lt_one rfl rfl, preX hK hN hX _⟩ rfl hl.1 rfl (Nat.le_of_ble_eq_true rfl) ⟨hc, hsl⟩ dL_law_788 hS hAX (fun H1 locs1 hX1 hS1 k1 => ?_)
  have hM1 := hM.kept (H1 := H1) (fun q hq => k1 q (hM.sz hq) (fun z => hdis q z hq))
  have iX1 := k_X4_line iX (xs (Int32.toNatClampNeg (x + 1))) (xs (Int32.toNatClampNeg (x + 2))) (xs (Int32.toNatClampNeg (x + 3)))
  have hAX1 := hAX
  have hdis1 := hdis
  refine lv_pop S.1 S.2.1 dL_law_791 rfl ?_
  refine lv_aload_n S.1 S.2.1 dL_law_792 rfl (lv_at hl 1 rfl) ?_
  refine lv_aload_n S.1 S.2.1 dL_law_793 rfl (lv_at hl 3 rfl) ?_
  refine lv_iload_n S.1 S.2.1 dL_law_794 rfl (lv_at hl 0 rfl) ?_
  refine lv_iconst (v := 1) S.1 S.2.1 dL_law_795 (by decide) ?_
  refine lv_iadd S.1 S.2.1 dL_law_796 ?_
  refine va_sld S.1 S.2.1 hY hbl hbA hS1 (i := x + 1) (vinx (z := 1) rfl (by decide) (by decide) hx0 hx6 hL) dL_law_797 ?_
  refine lv_aload_n S.1 S.2.1 dL_law_798 rfl (lv_at hl 3 rfl) ?_
  refine lv_iload_n S.1 S.2.1 dL_law_799 rfl (lv_at hl 0 rfl) ?_
  refine lv_iconst (v := 2) S.1 S.2.1 dL_law_800 (by decide) ?_
  refine lv_iadd S.1 S.2.1 dL_law_801 ?_
  refine va_sld S.1 S.2.1 hY hbl hbA hS1 (i := x + 2) (vinx (z := 2) rfl (by decide) (by decide) hx0 hx6 hL) dL_law_802 ?_
  refine lv_aload_n S.1 S.2.1 dL_law_803 rfl (lv_at hl 3 rfl) ?_
  refine lv_iload_n S.1 S.2.1 dL_law_804 rfl (lv_at hl 0 rfl) ?_
  refine lv_iconst (v := 3) S.1 S.2.1 dL_law_805 (by decide) ?_
  refine lv_iadd S.1 S.2.1 dL_law_806 ?_
  refine va_sld S.1 S.2.1 hY hbl hbA hS1 (i := x + 3) (vinx (z := 3) rfl (by decide) (by decide) hx0 hx6 hL) dL_law_807 ?_
  refine cWV (rest := []) (A := fun q => s.heap.size ≤ q) S (c_X5_line l D G aM τ (xs (Int32.toNatClampNeg (x + 1))) (xs (Int32.toNatClampNeg (x + 2))) (xs (Int32.toNatClampNeg (x + 3))) iM) gV_RL_86 ds_X5_line ⟨rfl, rfl⟩ ⟨Nat.le_of_ble_eq_true rfl, Nat.le_of_ble_eq_true rfl⟩ ⟨blindX, recvX hK hM1 (k := 0) (i := 0) Nat.zero_lt_one rfl rfl, preX hK hN hM1 _⟩ rfl hl.1 rfl (Nat.le_of_ble_eq_true rfl) ⟨hc, hsl⟩ dL_law_808 hS1 hAM (fun H2 locs2 hM2 hS2 k2 => ?_)
  have hX2 := hX1.kept (H1 := H2) (fun q hq => k2 q (hX1.sz hq) (fun z => hdis1 q hq z))
  have iM2 := k_X5_line iM (xs (Int32.toNatClampNeg (x + 1))) (xs (Int32.toNatClampNeg (x + 2))) (xs (Int32.toNatClampNeg (x + 3)))
  refine lv_pop S.1 S.2.1 dL_law_811 rfl ?_
  refine lv_goto (tgt := 1416) S.1 S.2.1 dL_law_812 (by decide) ?_
  have hR2 := r2_X4_line hR iX iM (xs (Int32.toNatClampNeg (x + 1))) (xs (Int32.toNatClampNeg (x + 2))) (xs (Int32.toNatClampNeg (x + 3)))
  exact kk _ _ ⟨_, _, _, aM, _, _, iX1, iM2, hR2, hX2, hM2, rfl, rfl, hAX1, hAM, hdis1, hS2⟩
set_option maxRecDepth 100000 in
set_option maxHeartbeats 8000000 in
theorem lc_17 (l : Launch) (S : CallFix p m c cL_law 4 s #[Value.ref b] wsL_law RL) (hY : va_X b L xs s s.heap) (hbl : b < s.heap.size) (hK : va_K D vwCl (tysG G) s) (hN : NW s) (hx0 : 0 ≤ x.toInt) (hx6 : x.toInt + 6 ≤ (L : Int)) (hL : L ≤ 3072) (hI : LInv s D G hx hm H locs) (hl : lv_has ls 4 [(3, .int x), (2, .ref hm), (1, .ref hx), (0, .ref b)]) (hc : cells + 40 ≤ 600000) (hsl : slots + 320 ≤ 7302249) (kk : ∀ (H : Heap) (locs : List Loc), LInv s D G hx hm H locs → W p l e room_1 s m #[Value.ref b] below meth c H locs (cells + 40) (slots + 320) Q (F0 m 1416 ls [])) : W p l e room_1 s m #[Value.ref b] below meth c H locs cells slots Q (F0 m 815 ls []) := by
  have hbA : ¬ (fun q : Nat => s.heap.size ≤ q) b := Nat.not_le.mpr hbl
  obtain ⟨M, T, aX, aM, d, τ, iX, iM, hR, hX, hM, h0X, h0M, hAX, hAM, hdis, hS⟩ := hI
  subst h0X
  subst h0M
  refine lv_aload_n S.1 S.2.1 dL_law_815 rfl (lv_at hl 2 rfl) ?_
  refine lv_aload_n S.1 S.2.1 dL_law_816 rfl (lv_at hl 3 rfl) ?_
  refine lv_iload_n S.1 S.2.1 dL_law_817 rfl (lv_at hl 0 rfl) ?_
  refine lv_iconst (v := 1) S.1 S.2.1 dL_law_818 (by decide) ?_
  refine lv_iadd S.1 S.2.1 dL_law_819 ?_
  refine va_sld S.1 S.2.1 hY hbl hbA hS (i := x + 1) (vinx (z := 1) rfl (by decide) (by decide) hx0 hx6 hL) dL_law_820 ?_
  refine lv_aload_n S.1 S.2.1 dL_law_821 rfl (lv_at hl 3 rfl) ?_
  refine lv_iload_n S.1 S.2.1 dL_law_822 rfl (lv_at hl 0 rfl) ?_
  refine lv_iconst (v := 2) S.1 S.2.1 dL_law_823 (by decide) ?_
  refine lv_iadd S.1 S.2.1 dL_law_824 ?_
  refine va_sld S.1 S.2.1 hY hbl hbA hS (i := x + 2) (vinx (z := 2) rfl (by decide) (by decide) hx0 hx6 hL) dL_law_825 ?_
  refine W.widen (k := cells + 40) (n := slots + 320) (by omega) (by omega) ?_
  refine cPV (rest := []) S (c_X4_lined l D G M T aX d (xs (Int32.toNatClampNeg (x + 1))) (xs (Int32.toNatClampNeg (x + 2))) iX) gV_RL_87 ds_X4_lined ⟨rfl, rfl⟩ ⟨Nat.le_of_ble_eq_true rfl, Nat.le_of_ble_eq_true rfl⟩ ⟨blindX, recvX hK hX (k := 0) (i := 0) Nat.zero_lt_one rfl rfl, preX hK hN hX _⟩ rfl hl.1 rfl (Nat.le_of_ble_eq_true rfl) ⟨hc, hsl⟩ dL_law_826 ?_
  obtain ⟨M1, eM1⟩ : ∃ z, z = M := ⟨_, rfl⟩
  subst eM1
  obtain ⟨T1, eT1⟩ : ∃ z, z = T := ⟨_, rfl⟩
  subst eT1
  obtain ⟨aX1, eaX1⟩ : ∃ z, z = aX := ⟨_, rfl⟩
  subst eaX1
  have hX1 := hX
  have hM1 := hM
  have iX1 := iX
  have hAX1 := hAX
  have hdis1 := hdis
  have hS1 := hS
  refine lv_pop S.1 S.2.1 dL_law_829 rfl ?_
  refine lv_aload_n S.1 S.2.1 dL_law_830 rfl (lv_at hl 1 rfl) ?_
  refine lv_aload_n S.1 S.2.1 dL_law_831 rfl (lv_at hl 3 rfl) ?_
  refine lv_iload_n S.1 S.2.1 dL_law_832 rfl (lv_at hl 0 rfl) ?_
  refine lv_iconst (v := 1) S.1 S.2.1 dL_law_833 (by decide) ?_
  refine lv_iadd S.1 S.2.1 dL_law_834 ?_
  refine va_sld S.1 S.2.1 hY hbl hbA hS1 (i := x + 1) (vinx (z := 1) rfl (by decide) (by decide) hx0 hx6 hL) dL_law_835 ?_
  refine lv_aload_n S.1 S.2.1 dL_law_836 rfl (lv_at hl 3 rfl) ?_
  refine lv_iload_n S.1 S.2.1 dL_law_837 rfl (lv_at hl 0 rfl) ?_
  refine lv_iconst (v := 2) S.1 S.2.1 dL_law_838 (by decide) ?_
  refine lv_iadd S.1 S.2.1 dL_law_839 ?_
  refine va_sld S.1 S.2.1 hY hbl hbA hS1 (i := x + 2) (vinx (z := 2) rfl (by decide) (by decide) hx0 hx6 hL) dL_law_840 ?_
  refine cPV (rest := []) S (c_X5_lined l D G aM τ (xs (Int32.toNatClampNeg (x + 1))) (xs (Int32.toNatClampNeg (x + 2))) iM) gV_RL_90 ds_X5_lined ⟨rfl, rfl⟩ ⟨Nat.le_of_ble_eq_true rfl, Nat.le_of_ble_eq_true rfl⟩ ⟨blindX, recvX hK hM1 (k := 0) (i := 0) Nat.zero_lt_one rfl rfl, preX hK hN hM1 _⟩ rfl hl.1 rfl (Nat.le_of_ble_eq_true rfl) ⟨hc, hsl⟩ dL_law_841 ?_
  have hX2 := hX1
  have hM2 := hM1
  have iM2 := iM
  have hS2 := hS1
  refine lv_pop S.1 S.2.1 dL_law_844 rfl ?_
  refine lv_goto (tgt := 1416) S.1 S.2.1 dL_law_845 (by decide) ?_
  have hR2 := hR
  exact kk _ _ ⟨_, _, _, aM, _, _, iX1, iM2, hR2, hX2, hM2, rfl, rfl, hAX1, hAM, hdis1, hS2⟩
set_option maxRecDepth 100000 in
set_option maxHeartbeats 8000000 in
theorem lc_18 (l : Launch) (S : CallFix p m c cL_law 4 s #[Value.ref b] wsL_law RL) (hY : va_X b L xs s s.heap) (hbl : b < s.heap.size) (hK : va_K D vwCl (tysG G) s) (hN : NW s) (hx0 : 0 ≤ x.toInt) (hx6 : x.toInt + 6 ≤ (L : Int)) (hL : L ≤ 3072) (hI : LInv s D G hx hm H locs) (hl : lv_has ls 4 [(3, .int x), (2, .ref hm), (1, .ref hx), (0, .ref b)]) (hc : cells + 40 ≤ 600000) (hsl : slots + 320 ≤ 7302249) (kk : ∀ (H : Heap) (locs : List Loc), LInv s D G hx hm H locs → W p l e room_1 s m #[Value.ref b] below meth c H locs (cells + 40) (slots + 320) Q (F0 m 1416 ls [])) : W p l e room_1 s m #[Value.ref b] below meth c H locs cells slots Q (F0 m 848 ls []) := by
  have hbA : ¬ (fun q : Nat => s.heap.size ≤ q) b := Nat.not_le.mpr hbl
  obtain ⟨M, T, aX, aM, d, τ, iX, iM, hR, hX, hM, h0X, h0M, hAX, hAM, hdis, hS⟩ := hI
  subst h0X
  subst h0M
  refine lv_aload_n S.1 S.2.1 dL_law_848 rfl (lv_at hl 2 rfl) ?_
  refine lv_aload_n S.1 S.2.1 dL_law_849 rfl (lv_at hl 3 rfl) ?_
  refine lv_iload_n S.1 S.2.1 dL_law_850 rfl (lv_at hl 0 rfl) ?_
  refine lv_iconst (v := 1) S.1 S.2.1 dL_law_851 (by decide) ?_
  refine lv_iadd S.1 S.2.1 dL_law_852 ?_
  refine va_sld S.1 S.2.1 hY hbl hbA hS (i := x + 1) (vinx (z := 1) rfl (by decide) (by decide) hx0 hx6 hL) dL_law_853 ?_
  refine lv_aload_n S.1 S.2.1 dL_law_854 rfl (lv_at hl 3 rfl) ?_
  refine lv_iload_n S.1 S.2.1 dL_law_855 rfl (lv_at hl 0 rfl) ?_
  refine lv_iconst (v := 2) S.1 S.2.1 dL_law_856 (by decide) ?_
  refine lv_iadd S.1 S.2.1 dL_law_857 ?_
  refine va_sld S.1 S.2.1 hY hbl hbA hS (i := x + 2) (vinx (z := 2) rfl (by decide) (by decide) hx0 hx6 hL) dL_law_858 ?_
  refine W.widen (k := cells + 40) (n := slots + 320) (by omega) (by omega) ?_
  refine cWV (rest := []) (A := fun q => s.heap.size ≤ q) S (c_X4_end l D G M T aX d (xs (Int32.toNatClampNeg (x + 1))) (xs (Int32.toNatClampNeg (x + 2))) iX) gV_RL_91 ds_X4_end ⟨rfl, rfl⟩ ⟨Nat.le_of_ble_eq_true rfl, Nat.le_of_ble_eq_true rfl⟩ ⟨blindX, recvX hK hX (k := 0) (i := 0) Nat.zero_lt_one rfl rfl, preX hK hN hX _⟩ rfl hl.1 rfl (Nat.le_of_ble_eq_true rfl) ⟨hc, hsl⟩ dL_law_859 hS hAX (fun H1 locs1 hX1 hS1 k1 => ?_)
  have hM1 := hM.kept (H1 := H1) (fun q hq => k1 q (hM.sz hq) (fun z => hdis q z hq))
  have iX1 := k_X4_end iX (xs (Int32.toNatClampNeg (x + 1))) (xs (Int32.toNatClampNeg (x + 2)))
  have hAX1 := hAX
  have hdis1 := hdis
  refine lv_pop S.1 S.2.1 dL_law_862 rfl ?_
  refine lv_aload_n S.1 S.2.1 dL_law_863 rfl (lv_at hl 1 rfl) ?_
  refine lv_aload_n S.1 S.2.1 dL_law_864 rfl (lv_at hl 3 rfl) ?_
  refine lv_iload_n S.1 S.2.1 dL_law_865 rfl (lv_at hl 0 rfl) ?_
  refine lv_iconst (v := 1) S.1 S.2.1 dL_law_866 (by decide) ?_
  refine lv_iadd S.1 S.2.1 dL_law_867 ?_
  refine va_sld S.1 S.2.1 hY hbl hbA hS1 (i := x + 1) (vinx (z := 1) rfl (by decide) (by decide) hx0 hx6 hL) dL_law_868 ?_
  refine lv_aload_n S.1 S.2.1 dL_law_869 rfl (lv_at hl 3 rfl) ?_
  refine lv_iload_n S.1 S.2.1 dL_law_870 rfl (lv_at hl 0 rfl) ?_
  refine lv_iconst (v := 2) S.1 S.2.1 dL_law_871 (by decide) ?_
  refine lv_iadd S.1 S.2.1 dL_law_872 ?_
  refine va_sld S.1 S.2.1 hY hbl hbA hS1 (i := x + 2) (vinx (z := 2) rfl (by decide) (by decide) hx0 hx6 hL) dL_law_873 ?_
  refine cWV (rest := []) (A := fun q => s.heap.size ≤ q) S (c_X5_end l D G aM τ (xs (Int32.toNatClampNeg (x + 1))) (xs (Int32.toNatClampNeg (x + 2))) iM) gV_RL_94 ds_X5_end ⟨rfl, rfl⟩ ⟨Nat.le_of_ble_eq_true rfl, Nat.le_of_ble_eq_true rfl⟩ ⟨blindX, recvX hK hM1 (k := 0) (i := 0) Nat.zero_lt_one rfl rfl, preX hK hN hM1 _⟩ rfl hl.1 rfl (Nat.le_of_ble_eq_true rfl) ⟨hc, hsl⟩ dL_law_874 hS1 hAM (fun H2 locs2 hM2 hS2 k2 => ?_)
  have hX2 := hX1.kept (H1 := H2) (fun q hq => k2 q (hX1.sz hq) (fun z => hdis1 q hq z))
  have iM2 := k_X5_end iM (xs (Int32.toNatClampNeg (x + 1))) (xs (Int32.toNatClampNeg (x + 2)))
  refine lv_pop S.1 S.2.1 dL_law_877 rfl ?_
  refine lv_goto (tgt := 1416) S.1 S.2.1 dL_law_878 (by decide) ?_
  have hR2 := r2_X4_end hR iX iM (xs (Int32.toNatClampNeg (x + 1))) (xs (Int32.toNatClampNeg (x + 2)))
  exact kk _ _ ⟨_, _, _, aM, _, _, iX1, iM2, hR2, hX2, hM2, rfl, rfl, hAX1, hAM, hdis1, hS2⟩
set_option maxRecDepth 100000 in
set_option maxHeartbeats 8000000 in
theorem lc_19 (l : Launch) (S : CallFix p m c cL_law 4 s #[Value.ref b] wsL_law RL) (hY : va_X b L xs s s.heap) (hbl : b < s.heap.size) (hK : va_K D vwCl (tysG G) s) (hN : NW s) (hx0 : 0 ≤ x.toInt) (hx6 : x.toInt + 6 ≤ (L : Int)) (hL : L ≤ 3072) (hI : LInv s D G hx hm H locs) (hl : lv_has ls 4 [(3, .int x), (2, .ref hm), (1, .ref hx), (0, .ref b)]) (hc : cells + 40 ≤ 600000) (hsl : slots + 320 ≤ 7302249) (kk : ∀ (H : Heap) (locs : List Loc), LInv s D G hx hm H locs → W p l e room_1 s m #[Value.ref b] below meth c H locs (cells + 40) (slots + 320) Q (F0 m 1416 ls [])) : W p l e room_1 s m #[Value.ref b] below meth c H locs cells slots Q (F0 m 881 ls []) := by
  have hbA : ¬ (fun q : Nat => s.heap.size ≤ q) b := Nat.not_le.mpr hbl
  obtain ⟨M, T, aX, aM, d, τ, iX, iM, hR, hX, hM, h0X, h0M, hAX, hAM, hdis, hS⟩ := hI
  subst h0X
  subst h0M
  refine lv_aload_n S.1 S.2.1 dL_law_881 rfl (lv_at hl 2 rfl) ?_
  refine lv_aload_n S.1 S.2.1 dL_law_882 rfl (lv_at hl 3 rfl) ?_
  refine lv_iload_n S.1 S.2.1 dL_law_883 rfl (lv_at hl 0 rfl) ?_
  refine lv_iconst (v := 1) S.1 S.2.1 dL_law_884 (by decide) ?_
  refine lv_iadd S.1 S.2.1 dL_law_885 ?_
  refine va_sld S.1 S.2.1 hY hbl hbA hS (i := x + 1) (vinx (z := 1) rfl (by decide) (by decide) hx0 hx6 hL) dL_law_886 ?_
  refine lv_aload_n S.1 S.2.1 dL_law_887 rfl (lv_at hl 3 rfl) ?_
  refine lv_iload_n S.1 S.2.1 dL_law_888 rfl (lv_at hl 0 rfl) ?_
  refine lv_iconst (v := 2) S.1 S.2.1 dL_law_889 (by decide) ?_
  refine lv_iadd S.1 S.2.1 dL_law_890 ?_
  refine va_sld S.1 S.2.1 hY hbl hbA hS (i := x + 2) (vinx (z := 2) rfl (by decide) (by decide) hx0 hx6 hL) dL_law_891 ?_
  refine lv_aload_n S.1 S.2.1 dL_law_892 rfl (lv_at hl 3 rfl) ?_
  refine lv_iload_n S.1 S.2.1 dL_law_893 rfl (lv_at hl 0 rfl) ?_
  refine lv_iconst (v := 3) S.1 S.2.1 dL_law_894 (by decide) ?_
  refine lv_iadd S.1 S.2.1 dL_law_895 ?_
  refine va_sld S.1 S.2.1 hY hbl hbA hS (i := x + 3) (vinx (z := 3) rfl (by decide) (by decide) hx0 hx6 hL) dL_law_896 ?_
  refine lv_aload_n S.1 S.2.1 dL_law_897 rfl (lv_at hl 3 rfl) ?_
  refine lv_iload_n S.1 S.2.1 dL_law_898 rfl (lv_at hl 0 rfl) ?_
  refine lv_iconst (v := 4) S.1 S.2.1 dL_law_899 (by decide) ?_
  refine lv_iadd S.1 S.2.1 dL_law_900 ?_
  refine va_sld S.1 S.2.1 hY hbl hbA hS (i := x + 4) (vinx (z := 4) rfl (by decide) (by decide) hx0 hx6 hL) dL_law_901 ?_
  refine W.widen (k := cells + 40) (n := slots + 320) (by omega) (by omega) ?_
  refine cPV (rest := []) S (c_X4_balance l D G M T aX d (xs (Int32.toNatClampNeg (x + 1))) (xs (Int32.toNatClampNeg (x + 2))) (xs (Int32.toNatClampNeg (x + 3))) (xs (Int32.toNatClampNeg (x + 4))) iX) gV_RL_95 ds_X4_balance ⟨rfl, rfl⟩ ⟨Nat.le_of_ble_eq_true rfl, Nat.le_of_ble_eq_true rfl⟩ ⟨blindX, recvX hK hX (k := 0) (i := 0) Nat.zero_lt_one rfl rfl, preX hK hN hX _⟩ rfl hl.1 rfl (Nat.le_of_ble_eq_true rfl) ⟨hc, hsl⟩ dL_law_902 ?_
  obtain ⟨M1, eM1⟩ : ∃ z, z = M := ⟨_, rfl⟩
  subst eM1
  obtain ⟨T1, eT1⟩ : ∃ z, z = T := ⟨_, rfl⟩
  subst eT1
  obtain ⟨aX1, eaX1⟩ : ∃ z, z = aX := ⟨_, rfl⟩
  subst eaX1
  have hX1 := hX
  have hM1 := hM
  have iX1 := iX
  have hAX1 := hAX
  have hdis1 := hdis
  have hS1 := hS
  refine lv_pop2_2 S.1 S.2.1 dL_law_905 rfl ?_
  refine lv_aload_n S.1 S.2.1 dL_law_906 rfl (lv_at hl 1 rfl) ?_
  refine lv_aload_n S.1 S.2.1 dL_law_907 rfl (lv_at hl 3 rfl) ?_
  refine lv_iload_n S.1 S.2.1 dL_law_908 rfl (lv_at hl 0 rfl) ?_
  refine lv_iconst (v := 1) S.1 S.2.1 dL_law_909 (by decide) ?_
  refine lv_iadd S.1 S.2.1 dL_law_910 ?_
  refine va_sld S.1 S.2.1 hY hbl hbA hS1 (i := x + 1) (vinx (z := 1) rfl (by decide) (by decide) hx0 hx6 hL) dL_law_911 ?_
  refine lv_aload_n S.1 S.2.1 dL_law_912 rfl (lv_at hl 3 rfl) ?_
  refine lv_iload_n S.1 S.2.1 dL_law_913 rfl (lv_at hl 0 rfl) ?_
  refine lv_iconst (v := 2) S.1 S.2.1 dL_law_914 (by decide) ?_
  refine lv_iadd S.1 S.2.1 dL_law_915 ?_
  refine va_sld S.1 S.2.1 hY hbl hbA hS1 (i := x + 2) (vinx (z := 2) rfl (by decide) (by decide) hx0 hx6 hL) dL_law_916 ?_
  refine lv_aload_n S.1 S.2.1 dL_law_917 rfl (lv_at hl 3 rfl) ?_
  refine lv_iload_n S.1 S.2.1 dL_law_918 rfl (lv_at hl 0 rfl) ?_
  refine lv_iconst (v := 3) S.1 S.2.1 dL_law_919 (by decide) ?_
  refine lv_iadd S.1 S.2.1 dL_law_920 ?_
  refine va_sld S.1 S.2.1 hY hbl hbA hS1 (i := x + 3) (vinx (z := 3) rfl (by decide) (by decide) hx0 hx6 hL) dL_law_921 ?_
  refine lv_aload_n S.1 S.2.1 dL_law_922 rfl (lv_at hl 3 rfl) ?_
  refine lv_iload_n S.1 S.2.1 dL_law_923 rfl (lv_at hl 0 rfl) ?_
  refine lv_iconst (v := 4) S.1 S.2.1 dL_law_924 (by decide) ?_
  refine lv_iadd S.1 S.2.1 dL_law_925 ?_
  refine va_sld S.1 S.2.1 hY hbl hbA hS1 (i := x + 4) (vinx (z := 4) rfl (by decide) (by decide) hx0 hx6 hL) dL_law_926 ?_
  refine cPV (rest := []) S (c_X5_balance l D G aM τ (xs (Int32.toNatClampNeg (x + 1))) (xs (Int32.toNatClampNeg (x + 2))) (xs (Int32.toNatClampNeg (x + 3))) (xs (Int32.toNatClampNeg (x + 4))) iM) gV_RL_99 ds_X5_balance ⟨rfl, rfl⟩ ⟨Nat.le_of_ble_eq_true rfl, Nat.le_of_ble_eq_true rfl⟩ ⟨blindX, recvX hK hM1 (k := 0) (i := 0) Nat.zero_lt_one rfl rfl, preX hK hN hM1 _⟩ rfl hl.1 rfl (Nat.le_of_ble_eq_true rfl) ⟨hc, hsl⟩ dL_law_927 ?_
  have hX2 := hX1
  have hM2 := hM1
  have iM2 := iM
  have hS2 := hS1
  refine lv_pop2_2 S.1 S.2.1 dL_law_930 rfl ?_
  refine lv_goto (tgt := 1416) S.1 S.2.1 dL_law_931 (by decide) ?_
  have hR2 := hR
  exact kk _ _ ⟨_, _, _, aM, _, _, iX1, iM2, hR2, hX2, hM2, rfl, rfl, hAX1, hAM, hdis1, hS2⟩
set_option maxRecDepth 100000 in
set_option maxHeartbeats 8000000 in
theorem lc_20 (l : Launch) (S : CallFix p m c cL_law 4 s #[Value.ref b] wsL_law RL) (hY : va_X b L xs s s.heap) (hbl : b < s.heap.size) (hK : va_K D vwCl (tysG G) s) (hN : NW s) (hx0 : 0 ≤ x.toInt) (hx6 : x.toInt + 6 ≤ (L : Int)) (hL : L ≤ 3072) (hI : LInv s D G hx hm H locs) (hl : lv_has ls 4 [(3, .int x), (2, .ref hm), (1, .ref hx), (0, .ref b)]) (hc : cells + 40 ≤ 600000) (hsl : slots + 320 ≤ 7302249) (kk : ∀ (H : Heap) (locs : List Loc), LInv s D G hx hm H locs → W p l e room_1 s m #[Value.ref b] below meth c H locs (cells + 40) (slots + 320) Q (F0 m 1416 ls [])) : W p l e room_1 s m #[Value.ref b] below meth c H locs cells slots Q (F0 m 934 ls []) := by
  have hbA : ¬ (fun q : Nat => s.heap.size ≤ q) b := Nat.not_le.mpr hbl
  obtain ⟨M, T, aX, aM, d, τ, iX, iM, hR, hX, hM, h0X, h0M, hAX, hAM, hdis, hS⟩ := hI
  subst h0X
  subst h0M
  refine lv_aload_n S.1 S.2.1 dL_law_934 rfl (lv_at hl 2 rfl) ?_
  refine lv_aload_n S.1 S.2.1 dL_law_935 rfl (lv_at hl 3 rfl) ?_
  refine lv_iload_n S.1 S.2.1 dL_law_936 rfl (lv_at hl 0 rfl) ?_
  refine lv_iconst (v := 1) S.1 S.2.1 dL_law_937 (by decide) ?_
  refine lv_iadd S.1 S.2.1 dL_law_938 ?_
  refine va_sld S.1 S.2.1 hY hbl hbA hS (i := x + 1) (vinx (z := 1) rfl (by decide) (by decide) hx0 hx6 hL) dL_law_939 ?_
  refine lv_aload_n S.1 S.2.1 dL_law_940 rfl (lv_at hl 3 rfl) ?_
  refine lv_iload_n S.1 S.2.1 dL_law_941 rfl (lv_at hl 0 rfl) ?_
  refine lv_iconst (v := 2) S.1 S.2.1 dL_law_942 (by decide) ?_
  refine lv_iadd S.1 S.2.1 dL_law_943 ?_
  refine va_sld S.1 S.2.1 hY hbl hbA hS (i := x + 2) (vinx (z := 2) rfl (by decide) (by decide) hx0 hx6 hL) dL_law_944 ?_
  refine W.widen (k := cells + 40) (n := slots + 320) (by omega) (by omega) ?_
  refine cPV (rest := []) S (c_X4_beyond l D G M T aX d (xs (Int32.toNatClampNeg (x + 1))) (xs (Int32.toNatClampNeg (x + 2))) iX) gV_RL_100 ds_X4_beyond ⟨rfl, rfl⟩ ⟨Nat.le_of_ble_eq_true rfl, Nat.le_of_ble_eq_true rfl⟩ ⟨blindX, recvX hK hX (k := 0) (i := 0) Nat.zero_lt_one rfl rfl, preX hK hN hX _⟩ rfl hl.1 rfl (Nat.le_of_ble_eq_true rfl) ⟨hc, hsl⟩ dL_law_945 ?_
  obtain ⟨M1, eM1⟩ : ∃ z, z = M := ⟨_, rfl⟩
  subst eM1
  obtain ⟨T1, eT1⟩ : ∃ z, z = T := ⟨_, rfl⟩
  subst eT1
  obtain ⟨aX1, eaX1⟩ : ∃ z, z = aX := ⟨_, rfl⟩
  subst eaX1
  have hX1 := hX
  have hM1 := hM
  have iX1 := iX
  have hAX1 := hAX
  have hdis1 := hdis
  have hS1 := hS
  refine lv_pop S.1 S.2.1 dL_law_948 rfl ?_
  refine lv_aload_n S.1 S.2.1 dL_law_949 rfl (lv_at hl 1 rfl) ?_
  refine lv_aload_n S.1 S.2.1 dL_law_950 rfl (lv_at hl 3 rfl) ?_
  refine lv_iload_n S.1 S.2.1 dL_law_951 rfl (lv_at hl 0 rfl) ?_
  refine lv_iconst (v := 1) S.1 S.2.1 dL_law_952 (by decide) ?_
  refine lv_iadd S.1 S.2.1 dL_law_953 ?_
  refine va_sld S.1 S.2.1 hY hbl hbA hS1 (i := x + 1) (vinx (z := 1) rfl (by decide) (by decide) hx0 hx6 hL) dL_law_954 ?_
  refine lv_aload_n S.1 S.2.1 dL_law_955 rfl (lv_at hl 3 rfl) ?_
  refine lv_iload_n S.1 S.2.1 dL_law_956 rfl (lv_at hl 0 rfl) ?_
  refine lv_iconst (v := 2) S.1 S.2.1 dL_law_957 (by decide) ?_
  refine lv_iadd S.1 S.2.1 dL_law_958 ?_
  refine va_sld S.1 S.2.1 hY hbl hbA hS1 (i := x + 2) (vinx (z := 2) rfl (by decide) (by decide) hx0 hx6 hL) dL_law_959 ?_
  refine cPV (rest := []) S (c_X5_beyond l D G aM τ (xs (Int32.toNatClampNeg (x + 1))) (xs (Int32.toNatClampNeg (x + 2))) iM) gV_RL_103 ds_X5_beyond ⟨rfl, rfl⟩ ⟨Nat.le_of_ble_eq_true rfl, Nat.le_of_ble_eq_true rfl⟩ ⟨blindX, recvX hK hM1 (k := 0) (i := 0) Nat.zero_lt_one rfl rfl, preX hK hN hM1 _⟩ rfl hl.1 rfl (Nat.le_of_ble_eq_true rfl) ⟨hc, hsl⟩ dL_law_960 ?_
  have hX2 := hX1
  have hM2 := hM1
  have iM2 := iM
  have hS2 := hS1
  refine lv_pop S.1 S.2.1 dL_law_963 rfl ?_
  refine lv_goto (tgt := 1416) S.1 S.2.1 dL_law_964 (by decide) ?_
  have hR2 := hR
  exact kk _ _ ⟨_, _, _, aM, _, _, iX1, iM2, hR2, hX2, hM2, rfl, rfl, hAX1, hAM, hdis1, hS2⟩
set_option maxRecDepth 100000 in
set_option maxHeartbeats 8000000 in
theorem lc_21 (l : Launch) (S : CallFix p m c cL_law 4 s #[Value.ref b] wsL_law RL) (hY : va_X b L xs s s.heap) (hbl : b < s.heap.size) (hK : va_K D vwCl (tysG G) s) (hN : NW s) (hx0 : 0 ≤ x.toInt) (hx6 : x.toInt + 6 ≤ (L : Int)) (hL : L ≤ 3072) (hI : LInv s D G hx hm H locs) (hl : lv_has ls 4 [(3, .int x), (2, .ref hm), (1, .ref hx), (0, .ref b)]) (hc : cells + 40 ≤ 600000) (hsl : slots + 320 ≤ 7302249) (kk : ∀ (H : Heap) (locs : List Loc), LInv s D G hx hm H locs → W p l e room_1 s m #[Value.ref b] below meth c H locs (cells + 40) (slots + 320) Q (F0 m 1416 ls [])) : W p l e room_1 s m #[Value.ref b] below meth c H locs cells slots Q (F0 m 967 ls []) := by
  have hbA : ¬ (fun q : Nat => s.heap.size ≤ q) b := Nat.not_le.mpr hbl
  obtain ⟨M, T, aX, aM, d, τ, iX, iM, hR, hX, hM, h0X, h0M, hAX, hAM, hdis, hS⟩ := hI
  subst h0X
  subst h0M
  refine lv_aload_n S.1 S.2.1 dL_law_967 rfl (lv_at hl 2 rfl) ?_
  refine lv_aload_n S.1 S.2.1 dL_law_968 rfl (lv_at hl 3 rfl) ?_
  refine lv_iload_n S.1 S.2.1 dL_law_969 rfl (lv_at hl 0 rfl) ?_
  refine lv_iconst (v := 1) S.1 S.2.1 dL_law_970 (by decide) ?_
  refine lv_iadd S.1 S.2.1 dL_law_971 ?_
  refine va_sld S.1 S.2.1 hY hbl hbA hS (i := x + 1) (vinx (z := 1) rfl (by decide) (by decide) hx0 hx6 hL) dL_law_972 ?_
  refine lv_aload_n S.1 S.2.1 dL_law_973 rfl (lv_at hl 3 rfl) ?_
  refine lv_iload_n S.1 S.2.1 dL_law_974 rfl (lv_at hl 0 rfl) ?_
  refine lv_iconst (v := 2) S.1 S.2.1 dL_law_975 (by decide) ?_
  refine lv_iadd S.1 S.2.1 dL_law_976 ?_
  refine va_sld S.1 S.2.1 hY hbl hbA hS (i := x + 2) (vinx (z := 2) rfl (by decide) (by decide) hx0 hx6 hL) dL_law_977 ?_
  refine lv_aload_n S.1 S.2.1 dL_law_978 rfl (lv_at hl 3 rfl) ?_
  refine lv_iload_n S.1 S.2.1 dL_law_979 rfl (lv_at hl 0 rfl) ?_
  refine lv_iconst (v := 3) S.1 S.2.1 dL_law_980 (by decide) ?_
  refine lv_iadd S.1 S.2.1 dL_law_981 ?_
  refine va_sld S.1 S.2.1 hY hbl hbA hS (i := x + 3) (vinx (z := 3) rfl (by decide) (by decide) hx0 hx6 hL) dL_law_982 ?_
  refine W.widen (k := cells + 40) (n := slots + 320) (by omega) (by omega) ?_
  refine cPV (rest := []) S (c_X4_explains l D G M T aX d (xs (Int32.toNatClampNeg (x + 1))) (xs (Int32.toNatClampNeg (x + 2))) (xs (Int32.toNatClampNeg (x + 3))) iX) gV_RL_104 ds_X4_explains ⟨rfl, rfl⟩ ⟨Nat.le_of_ble_eq_true rfl, Nat.le_of_ble_eq_true rfl⟩ ⟨blindX, recvX hK hX (k := 0) (i := 0) Nat.zero_lt_one rfl rfl, preX hK hN hX _⟩ rfl hl.1 rfl (Nat.le_of_ble_eq_true rfl) ⟨hc, hsl⟩ dL_law_983 ?_
  obtain ⟨M1, eM1⟩ : ∃ z, z = M := ⟨_, rfl⟩
  subst eM1
  obtain ⟨T1, eT1⟩ : ∃ z, z = T := ⟨_, rfl⟩
  subst eT1
  obtain ⟨aX1, eaX1⟩ : ∃ z, z = aX := ⟨_, rfl⟩
  subst eaX1
  have hX1 := hX
  have hM1 := hM
  have iX1 := iX
  have hAX1 := hAX
  have hdis1 := hdis
  have hS1 := hS
  refine lv_pop2_2 S.1 S.2.1 dL_law_986 rfl ?_
  refine lv_aload_n S.1 S.2.1 dL_law_987 rfl (lv_at hl 1 rfl) ?_
  refine lv_aload_n S.1 S.2.1 dL_law_988 rfl (lv_at hl 3 rfl) ?_
  refine lv_iload_n S.1 S.2.1 dL_law_989 rfl (lv_at hl 0 rfl) ?_
  refine lv_iconst (v := 1) S.1 S.2.1 dL_law_990 (by decide) ?_
  refine lv_iadd S.1 S.2.1 dL_law_991 ?_
  refine va_sld S.1 S.2.1 hY hbl hbA hS1 (i := x + 1) (vinx (z := 1) rfl (by decide) (by decide) hx0 hx6 hL) dL_law_992 ?_
  refine lv_aload_n S.1 S.2.1 dL_law_993 rfl (lv_at hl 3 rfl) ?_
  refine lv_iload_n S.1 S.2.1 dL_law_994 rfl (lv_at hl 0 rfl) ?_
  refine lv_iconst (v := 2) S.1 S.2.1 dL_law_995 (by decide) ?_
  refine lv_iadd S.1 S.2.1 dL_law_996 ?_
  refine va_sld S.1 S.2.1 hY hbl hbA hS1 (i := x + 2) (vinx (z := 2) rfl (by decide) (by decide) hx0 hx6 hL) dL_law_997 ?_
  refine lv_aload_n S.1 S.2.1 dL_law_998 rfl (lv_at hl 3 rfl) ?_
  refine lv_iload_n S.1 S.2.1 dL_law_999 rfl (lv_at hl 0 rfl) ?_
  refine lv_iconst (v := 3) S.1 S.2.1 dL_law_1000 (by decide) ?_
  refine lv_iadd S.1 S.2.1 dL_law_1001 ?_
  refine va_sld S.1 S.2.1 hY hbl hbA hS1 (i := x + 3) (vinx (z := 3) rfl (by decide) (by decide) hx0 hx6 hL) dL_law_1002 ?_
  refine cPV (rest := []) S (c_X5_explains l D G aM τ (xs (Int32.toNatClampNeg (x + 1))) (xs (Int32.toNatClampNeg (x + 2))) (xs (Int32.toNatClampNeg (x + 3))) iM) gV_RL_107 ds_X5_explains ⟨rfl, rfl⟩ ⟨Nat.le_of_ble_eq_true rfl, Nat.le_of_ble_eq_true rfl⟩ ⟨blindX, recvX hK hM1 (k := 0) (i := 0) Nat.zero_lt_one rfl rfl, preX hK hN hM1 _⟩ rfl hl.1 rfl (Nat.le_of_ble_eq_true rfl) ⟨hc, hsl⟩ dL_law_1003 ?_
  have hX2 := hX1
  have hM2 := hM1
  have iM2 := iM
  have hS2 := hS1
  refine lv_pop2_2 S.1 S.2.1 dL_law_1006 rfl ?_
  refine lv_goto (tgt := 1416) S.1 S.2.1 dL_law_1007 (by decide) ?_
  have hR2 := hR
  exact kk _ _ ⟨_, _, _, aM, _, _, iX1, iM2, hR2, hX2, hM2, rfl, rfl, hAX1, hAM, hdis1, hS2⟩
set_option maxRecDepth 100000 in
set_option maxHeartbeats 8000000 in
theorem lc_22 (l : Launch) (S : CallFix p m c cL_law 4 s #[Value.ref b] wsL_law RL) (hY : va_X b L xs s s.heap) (hbl : b < s.heap.size) (hK : va_K D vwCl (tysG G) s) (hN : NW s) (hx0 : 0 ≤ x.toInt) (hx6 : x.toInt + 6 ≤ (L : Int)) (hL : L ≤ 3072) (hI : LInv s D G hx hm H locs) (hl : lv_has ls 4 [(3, .int x), (2, .ref hm), (1, .ref hx), (0, .ref b)]) (hc : cells + 40 ≤ 600000) (hsl : slots + 320 ≤ 7302249) (kk : ∀ (H : Heap) (locs : List Loc), LInv s D G hx hm H locs → W p l e room_1 s m #[Value.ref b] below meth c H locs (cells + 40) (slots + 320) Q (F0 m 1416 ls [])) : W p l e room_1 s m #[Value.ref b] below meth c H locs cells slots Q (F0 m 1010 ls []) := by
  have hbA : ¬ (fun q : Nat => s.heap.size ≤ q) b := Nat.not_le.mpr hbl
  obtain ⟨M, T, aX, aM, d, τ, iX, iM, hR, hX, hM, h0X, h0M, hAX, hAM, hdis, hS⟩ := hI
  subst h0X
  subst h0M
  refine lv_aload_n S.1 S.2.1 dL_law_1010 rfl (lv_at hl 2 rfl) ?_
  refine lv_aload_n S.1 S.2.1 dL_law_1011 rfl (lv_at hl 3 rfl) ?_
  refine lv_iload_n S.1 S.2.1 dL_law_1012 rfl (lv_at hl 0 rfl) ?_
  refine lv_iconst (v := 1) S.1 S.2.1 dL_law_1013 (by decide) ?_
  refine lv_iadd S.1 S.2.1 dL_law_1014 ?_
  refine va_sld S.1 S.2.1 hY hbl hbA hS (i := x + 1) (vinx (z := 1) rfl (by decide) (by decide) hx0 hx6 hL) dL_law_1015 ?_
  refine lv_aload_n S.1 S.2.1 dL_law_1016 rfl (lv_at hl 3 rfl) ?_
  refine lv_iload_n S.1 S.2.1 dL_law_1017 rfl (lv_at hl 0 rfl) ?_
  refine lv_iconst (v := 2) S.1 S.2.1 dL_law_1018 (by decide) ?_
  refine lv_iadd S.1 S.2.1 dL_law_1019 ?_
  refine va_sld S.1 S.2.1 hY hbl hbA hS (i := x + 2) (vinx (z := 2) rfl (by decide) (by decide) hx0 hx6 hL) dL_law_1020 ?_
  refine lv_aload_n S.1 S.2.1 dL_law_1021 rfl (lv_at hl 3 rfl) ?_
  refine lv_iload_n S.1 S.2.1 dL_law_1022 rfl (lv_at hl 0 rfl) ?_
  refine lv_iconst (v := 3) S.1 S.2.1 dL_law_1023 (by decide) ?_
  refine lv_iadd S.1 S.2.1 dL_law_1024 ?_
  refine va_sld S.1 S.2.1 hY hbl hbA hS (i := x + 3) (vinx (z := 3) rfl (by decide) (by decide) hx0 hx6 hL) dL_law_1025 ?_
  refine W.widen (k := cells + 40) (n := slots + 320) (by omega) (by omega) ?_
  refine cWV (rest := []) (A := fun q => s.heap.size ≤ q) S (c_X4_sheet l D G M T aX d (xs (Int32.toNatClampNeg (x + 1))) (xs (Int32.toNatClampNeg (x + 2))) (xs (Int32.toNatClampNeg (x + 3))) iX) gV_RL_108 ds_X4_sheet ⟨rfl, rfl⟩ ⟨Nat.le_of_ble_eq_true rfl, Nat.le_of_ble_eq_true rfl⟩ ⟨blindX, recvX hK hX (k := 0) (i := 0) Nat.zero_lt_one rfl rfl, preX hK hN hX _⟩ rfl hl.1 rfl (Nat.le_of_ble_eq_true rfl) ⟨hc, hsl⟩ dL_law_1026 hS hAX (fun H1 locs1 hX1 hS1 k1 => ?_)
  have hM1 := hM.kept (H1 := H1) (fun q hq => k1 q (hM.sz hq) (fun z => hdis q z hq))
  have iX1 := k_X4_sheet iX (xs (Int32.toNatClampNeg (x + 1))) (xs (Int32.toNatClampNeg (x + 2))) (xs (Int32.toNatClampNeg (x + 3)))
  have hAX1 := hAX
  have hdis1 := hdis
  refine lv_pop S.1 S.2.1 dL_law_1029 rfl ?_
  refine lv_aload_n S.1 S.2.1 dL_law_1030 rfl (lv_at hl 1 rfl) ?_
  refine lv_aload_n S.1 S.2.1 dL_law_1031 rfl (lv_at hl 3 rfl) ?_
  refine lv_iload_n S.1 S.2.1 dL_law_1032 rfl (lv_at hl 0 rfl) ?_
  refine lv_iconst (v := 1) S.1 S.2.1 dL_law_1033 (by decide) ?_
  refine lv_iadd S.1 S.2.1 dL_law_1034 ?_
  refine va_sld S.1 S.2.1 hY hbl hbA hS1 (i := x + 1) (vinx (z := 1) rfl (by decide) (by decide) hx0 hx6 hL) dL_law_1035 ?_
  refine lv_aload_n S.1 S.2.1 dL_law_1036 rfl (lv_at hl 3 rfl) ?_
  refine lv_iload_n S.1 S.2.1 dL_law_1037 rfl (lv_at hl 0 rfl) ?_
  refine lv_iconst (v := 2) S.1 S.2.1 dL_law_1038 (by decide) ?_
  refine lv_iadd S.1 S.2.1 dL_law_1039 ?_
  refine va_sld S.1 S.2.1 hY hbl hbA hS1 (i := x + 2) (vinx (z := 2) rfl (by decide) (by decide) hx0 hx6 hL) dL_law_1040 ?_
  refine lv_aload_n S.1 S.2.1 dL_law_1041 rfl (lv_at hl 3 rfl) ?_
  refine lv_iload_n S.1 S.2.1 dL_law_1042 rfl (lv_at hl 0 rfl) ?_
  refine lv_iconst (v := 3) S.1 S.2.1 dL_law_1043 (by decide) ?_
  refine lv_iadd S.1 S.2.1 dL_law_1044 ?_
  refine va_sld S.1 S.2.1 hY hbl hbA hS1 (i := x + 3) (vinx (z := 3) rfl (by decide) (by decide) hx0 hx6 hL) dL_law_1045 ?_
  refine cWV (rest := []) (A := fun q => s.heap.size ≤ q) S (c_X5_sheet l D G aM τ (xs (Int32.toNatClampNeg (x + 1))) (xs (Int32.toNatClampNeg (x + 2))) (xs (Int32.toNatClampNeg (x + 3))) iM) gV_RL_111 ds_X5_sheet ⟨rfl, rfl⟩ ⟨Nat.le_of_ble_eq_true rfl, Nat.le_of_ble_eq_true rfl⟩ ⟨blindX, recvX hK hM1 (k := 0) (i := 0) Nat.zero_lt_one rfl rfl, preX hK hN hM1 _⟩ rfl hl.1 rfl (Nat.le_of_ble_eq_true rfl) ⟨hc, hsl⟩ dL_law_1046 hS1 hAM (fun H2 locs2 hM2 hS2 k2 => ?_)
  have hX2 := hX1.kept (H1 := H2) (fun q hq => k2 q (hX1.sz hq) (fun z => hdis1 q hq z))
  have iM2 := k_X5_sheet iM (xs (Int32.toNatClampNeg (x + 1))) (xs (Int32.toNatClampNeg (x + 2))) (xs (Int32.toNatClampNeg (x + 3)))
  refine lv_pop S.1 S.2.1 dL_law_1049 rfl ?_
  refine lv_goto (tgt := 1416) S.1 S.2.1 dL_law_1050 (by decide) ?_
  have hR2 := r2_X4_sheet hR iX iM (xs (Int32.toNatClampNeg (x + 1))) (xs (Int32.toNatClampNeg (x + 2))) (xs (Int32.toNatClampNeg (x + 3)))
  exact kk _ _ ⟨_, _, _, aM, _, _, iX1, iM2, hR2, hX2, hM2, rfl, rfl, hAX1, hAM, hdis1, hS2⟩
set_option maxRecDepth 100000 in
set_option maxHeartbeats 8000000 in
theorem lc_23 (l : Launch) (S : CallFix p m c cL_law 4 s #[Value.ref b] wsL_law RL) (hY : va_X b L xs s s.heap) (hbl : b < s.heap.size) (hK : va_K D vwCl (tysG G) s) (hN : NW s) (hx0 : 0 ≤ x.toInt) (hx6 : x.toInt + 6 ≤ (L : Int)) (hL : L ≤ 3072) (hI : LInv s D G hx hm H locs) (hl : lv_has ls 4 [(3, .int x), (2, .ref hm), (1, .ref hx), (0, .ref b)]) (hc : cells + 40 ≤ 600000) (hsl : slots + 320 ≤ 7302249) (kk : ∀ (H : Heap) (locs : List Loc), LInv s D G hx hm H locs → W p l e room_1 s m #[Value.ref b] below meth c H locs (cells + 40) (slots + 320) Q (F0 m 1416 ls [])) : W p l e room_1 s m #[Value.ref b] below meth c H locs cells slots Q (F0 m 1053 ls []) := by
  have hbA : ¬ (fun q : Nat => s.heap.size ≤ q) b := Nat.not_le.mpr hbl
  obtain ⟨M, T, aX, aM, d, τ, iX, iM, hR, hX, hM, h0X, h0M, hAX, hAM, hdis, hS⟩ := hI
  subst h0X
  subst h0M
  refine lv_aload_n S.1 S.2.1 dL_law_1053 rfl (lv_at hl 2 rfl) ?_
  refine lv_aload_n S.1 S.2.1 dL_law_1054 rfl (lv_at hl 3 rfl) ?_
  refine lv_iload_n S.1 S.2.1 dL_law_1055 rfl (lv_at hl 0 rfl) ?_
  refine lv_iconst (v := 1) S.1 S.2.1 dL_law_1056 (by decide) ?_
  refine lv_iadd S.1 S.2.1 dL_law_1057 ?_
  refine va_sld S.1 S.2.1 hY hbl hbA hS (i := x + 1) (vinx (z := 1) rfl (by decide) (by decide) hx0 hx6 hL) dL_law_1058 ?_
  refine W.widen (k := cells + 40) (n := slots + 320) (by omega) (by omega) ?_
  refine cWV (rest := []) (A := fun q => s.heap.size ≤ q) S (c_X4_lose l D G M T aX d (xs (Int32.toNatClampNeg (x + 1))) iX) gV_RL_112 ds_X4_lose ⟨rfl, rfl⟩ ⟨Nat.le_of_ble_eq_true rfl, Nat.le_of_ble_eq_true rfl⟩ ⟨blindX, recvX hK hX (k := 0) (i := 0) Nat.zero_lt_one rfl rfl, preX hK hN hX _⟩ rfl hl.1 rfl (Nat.le_of_ble_eq_true rfl) ⟨hc, hsl⟩ dL_law_1059 hS hAX (fun H1 locs1 hX1 hS1 k1 => ?_)
  have hM1 := hM.kept (H1 := H1) (fun q hq => k1 q (hM.sz hq) (fun z => hdis q z hq))
  have iX1 := k_X4_lose iX (xs (Int32.toNatClampNeg (x + 1)))
  have hAX1 := hAX
  have hdis1 := hdis
  refine lv_pop S.1 S.2.1 dL_law_1062 rfl ?_
  refine lv_aload_n S.1 S.2.1 dL_law_1063 rfl (lv_at hl 1 rfl) ?_
  refine lv_aload_n S.1 S.2.1 dL_law_1064 rfl (lv_at hl 3 rfl) ?_
  refine lv_iload_n S.1 S.2.1 dL_law_1065 rfl (lv_at hl 0 rfl) ?_
  refine lv_iconst (v := 1) S.1 S.2.1 dL_law_1066 (by decide) ?_
  refine lv_iadd S.1 S.2.1 dL_law_1067 ?_
  refine va_sld S.1 S.2.1 hY hbl hbA hS1 (i := x + 1) (vinx (z := 1) rfl (by decide) (by decide) hx0 hx6 hL) dL_law_1068 ?_
  refine cWV (rest := []) (A := fun q => s.heap.size ≤ q) S (c_X5_lose l D G aM τ (xs (Int32.toNatClampNeg (x + 1))) iM) gV_RL_115 ds_X5_lose ⟨rfl, rfl⟩ ⟨Nat.le_of_ble_eq_true rfl, Nat.le_of_ble_eq_true rfl⟩ ⟨blindX, recvX hK hM1 (k := 0) (i := 0) Nat.zero_lt_one rfl rfl, preX hK hN hM1 _⟩ rfl hl.1 rfl (Nat.le_of_ble_eq_true rfl) ⟨hc, hsl⟩ dL_law_1069 hS1 hAM (fun H2 locs2 hM2 hS2 k2 => ?_)
  have hX2 := hX1.kept (H1 := H2) (fun q hq => k2 q (hX1.sz hq) (fun z => hdis1 q hq z))
  have iM2 := k_X5_lose iM (xs (Int32.toNatClampNeg (x + 1)))
  refine lv_pop S.1 S.2.1 dL_law_1072 rfl ?_
  refine lv_goto (tgt := 1416) S.1 S.2.1 dL_law_1073 (by decide) ?_
  have hR2 := r2_X4_lose hR iX iM (xs (Int32.toNatClampNeg (x + 1)))
  exact kk _ _ ⟨_, _, _, aM, _, _, iX1, iM2, hR2, hX2, hM2, rfl, rfl, hAX1, hAM, hdis1, hS2⟩
set_option maxRecDepth 100000 in
set_option maxHeartbeats 8000000 in
theorem lc_24 (l : Launch) (S : CallFix p m c cL_law 4 s #[Value.ref b] wsL_law RL) (hY : va_X b L xs s s.heap) (hbl : b < s.heap.size) (hK : va_K D vwCl (tysG G) s) (hN : NW s) (hx0 : 0 ≤ x.toInt) (hx6 : x.toInt + 6 ≤ (L : Int)) (hL : L ≤ 3072) (hI : LInv s D G hx hm H locs) (hl : lv_has ls 4 [(3, .int x), (2, .ref hm), (1, .ref hx), (0, .ref b)]) (hc : cells + 40 ≤ 600000) (hsl : slots + 320 ≤ 7302249) (kk : ∀ (H : Heap) (locs : List Loc), LInv s D G hx hm H locs → W p l e room_1 s m #[Value.ref b] below meth c H locs (cells + 40) (slots + 320) Q (F0 m 1416 ls [])) : W p l e room_1 s m #[Value.ref b] below meth c H locs cells slots Q (F0 m 1076 ls []) := by
  have hbA : ¬ (fun q : Nat => s.heap.size ≤ q) b := Nat.not_le.mpr hbl
  obtain ⟨M, T, aX, aM, d, τ, iX, iM, hR, hX, hM, h0X, h0M, hAX, hAM, hdis, hS⟩ := hI
  subst h0X
  subst h0M
  refine lv_aload_n S.1 S.2.1 dL_law_1076 rfl (lv_at hl 2 rfl) ?_
  refine lv_aload_n S.1 S.2.1 dL_law_1077 rfl (lv_at hl 3 rfl) ?_
  refine lv_iload_n S.1 S.2.1 dL_law_1078 rfl (lv_at hl 0 rfl) ?_
  refine lv_iconst (v := 1) S.1 S.2.1 dL_law_1079 (by decide) ?_
  refine lv_iadd S.1 S.2.1 dL_law_1080 ?_
  refine va_sld S.1 S.2.1 hY hbl hbA hS (i := x + 1) (vinx (z := 1) rfl (by decide) (by decide) hx0 hx6 hL) dL_law_1081 ?_
  refine lv_aload_n S.1 S.2.1 dL_law_1082 rfl (lv_at hl 3 rfl) ?_
  refine lv_iload_n S.1 S.2.1 dL_law_1083 rfl (lv_at hl 0 rfl) ?_
  refine lv_iconst (v := 2) S.1 S.2.1 dL_law_1084 (by decide) ?_
  refine lv_iadd S.1 S.2.1 dL_law_1085 ?_
  refine va_sld S.1 S.2.1 hY hbl hbA hS (i := x + 2) (vinx (z := 2) rfl (by decide) (by decide) hx0 hx6 hL) dL_law_1086 ?_
  refine lv_aload_n S.1 S.2.1 dL_law_1087 rfl (lv_at hl 3 rfl) ?_
  refine lv_iload_n S.1 S.2.1 dL_law_1088 rfl (lv_at hl 0 rfl) ?_
  refine lv_iconst (v := 3) S.1 S.2.1 dL_law_1089 (by decide) ?_
  refine lv_iadd S.1 S.2.1 dL_law_1090 ?_
  refine va_sld S.1 S.2.1 hY hbl hbA hS (i := x + 3) (vinx (z := 3) rfl (by decide) (by decide) hx0 hx6 hL) dL_law_1091 ?_
  refine W.widen (k := cells + 40) (n := slots + 320) (by omega) (by omega) ?_
  refine cWV (rest := []) (A := fun q => s.heap.size ≤ q) S (c_X4_put l D G M T aX d (xs (Int32.toNatClampNeg (x + 1))) (xs (Int32.toNatClampNeg (x + 2))) (xs (Int32.toNatClampNeg (x + 3))) iX) gV_RL_116 ds_X4_put ⟨rfl, rfl⟩ ⟨Nat.le_of_ble_eq_true rfl, Nat.le_of_ble_eq_true rfl⟩ ⟨blindX, recvX hK hX (k := 0) (i := 0) Nat.zero_lt_one rfl rfl, preX hK hN hX _⟩ rfl hl.1 rfl (Nat.le_of_ble_eq_true rfl) ⟨hc, hsl⟩ dL_law_1092 hS hAX (fun H1 locs1 hX1 hS1 k1 => ?_)
  have hM1 := hM.kept (H1 := H1) (fun q hq => k1 q (hM.sz hq) (fun z => hdis q z hq))
  have iX1 := k_X4_put iX (xs (Int32.toNatClampNeg (x + 1))) (xs (Int32.toNatClampNeg (x + 2))) (xs (Int32.toNatClampNeg (x + 3)))
  have hAX1 := hAX
  have hdis1 := hdis
  refine lv_pop S.1 S.2.1 dL_law_1095 rfl ?_
  refine lv_aload_n S.1 S.2.1 dL_law_1096 rfl (lv_at hl 1 rfl) ?_
  refine lv_aload_n S.1 S.2.1 dL_law_1097 rfl (lv_at hl 3 rfl) ?_
  refine lv_iload_n S.1 S.2.1 dL_law_1098 rfl (lv_at hl 0 rfl) ?_
  refine lv_iconst (v := 1) S.1 S.2.1 dL_law_1099 (by decide) ?_
  refine lv_iadd S.1 S.2.1 dL_law_1100 ?_
  refine va_sld S.1 S.2.1 hY hbl hbA hS1 (i := x + 1) (vinx (z := 1) rfl (by decide) (by decide) hx0 hx6 hL) dL_law_1101 ?_
  refine lv_aload_n S.1 S.2.1 dL_law_1102 rfl (lv_at hl 3 rfl) ?_
  refine lv_iload_n S.1 S.2.1 dL_law_1103 rfl (lv_at hl 0 rfl) ?_
  refine lv_iconst (v := 2) S.1 S.2.1 dL_law_1104 (by decide) ?_
  refine lv_iadd S.1 S.2.1 dL_law_1105 ?_
  refine va_sld S.1 S.2.1 hY hbl hbA hS1 (i := x + 2) (vinx (z := 2) rfl (by decide) (by decide) hx0 hx6 hL) dL_law_1106 ?_
  refine lv_aload_n S.1 S.2.1 dL_law_1107 rfl (lv_at hl 3 rfl) ?_
  refine lv_iload_n S.1 S.2.1 dL_law_1108 rfl (lv_at hl 0 rfl) ?_
  refine lv_iconst (v := 3) S.1 S.2.1 dL_law_1109 (by decide) ?_
  refine lv_iadd S.1 S.2.1 dL_law_1110 ?_
  refine va_sld S.1 S.2.1 hY hbl hbA hS1 (i := x + 3) (vinx (z := 3) rfl (by decide) (by decide) hx0 hx6 hL) dL_law_1111 ?_
  refine cWV (rest := []) (A := fun q => s.heap.size ≤ q) S (c_X5_put l D G aM τ (xs (Int32.toNatClampNeg (x + 1))) (xs (Int32.toNatClampNeg (x + 2))) (xs (Int32.toNatClampNeg (x + 3))) iM) gV_RL_119 ds_X5_put ⟨rfl, rfl⟩ ⟨Nat.le_of_ble_eq_true rfl, Nat.le_of_ble_eq_true rfl⟩ ⟨blindX, recvX hK hM1 (k := 0) (i := 0) Nat.zero_lt_one rfl rfl, preX hK hN hM1 _⟩ rfl hl.1 rfl (Nat.le_of_ble_eq_true rfl) ⟨hc, hsl⟩ dL_law_1112 hS1 hAM (fun H2 locs2 hM2 hS2 k2 => ?_)
  have hX2 := hX1.kept (H1 := H2) (fun q hq => k2 q (hX1.sz hq) (fun z => hdis1 q hq z))
  have iM2 := k_X5_put iM (xs (Int32.toNatClampNeg (x + 1))) (xs (Int32.toNatClampNeg (x + 2))) (xs (Int32.toNatClampNeg (x + 3)))
  refine lv_pop S.1 S.2.1 dL_law_1115 rfl ?_
  refine lv_goto (tgt := 1416) S.1 S.2.1 dL_law_1116 (by decide) ?_
  have hR2 := r2_X4_put hR iX iM (xs (Int32.toNatClampNeg (x + 1))) (xs (Int32.toNatClampNeg (x + 2))) (xs (Int32.toNatClampNeg (x + 3)))
  exact kk _ _ ⟨_, _, _, aM, _, _, iX1, iM2, hR2, hX2, hM2, rfl, rfl, hAX1, hAM, hdis1, hS2⟩
set_option maxRecDepth 100000 in
set_option maxHeartbeats 8000000 in
theorem lc_25 (l : Launch) (S : CallFix p m c cL_law 4 s #[Value.ref b] wsL_law RL) (hY : va_X b L xs s s.heap) (hbl : b < s.heap.size) (hK : va_K D vwCl (tysG G) s) (hN : NW s) (hx0 : 0 ≤ x.toInt) (hx6 : x.toInt + 6 ≤ (L : Int)) (hL : L ≤ 3072) (hI : LInv s D G hx hm H locs) (hl : lv_has ls 4 [(3, .int x), (2, .ref hm), (1, .ref hx), (0, .ref b)]) (hc : cells + 40 ≤ 600000) (hsl : slots + 320 ≤ 7302249) (kk : ∀ (H : Heap) (locs : List Loc), LInv s D G hx hm H locs → W p l e room_1 s m #[Value.ref b] below meth c H locs (cells + 40) (slots + 320) Q (F0 m 1416 ls [])) : W p l e room_1 s m #[Value.ref b] below meth c H locs cells slots Q (F0 m 1119 ls []) := by
  have hbA : ¬ (fun q : Nat => s.heap.size ≤ q) b := Nat.not_le.mpr hbl
  obtain ⟨M, T, aX, aM, d, τ, iX, iM, hR, hX, hM, h0X, h0M, hAX, hAM, hdis, hS⟩ := hI
  subst h0X
  subst h0M
  refine lv_aload_n S.1 S.2.1 dL_law_1119 rfl (lv_at hl 2 rfl) ?_
  refine lv_aload_n S.1 S.2.1 dL_law_1120 rfl (lv_at hl 3 rfl) ?_
  refine lv_iload_n S.1 S.2.1 dL_law_1121 rfl (lv_at hl 0 rfl) ?_
  refine lv_iconst (v := 1) S.1 S.2.1 dL_law_1122 (by decide) ?_
  refine lv_iadd S.1 S.2.1 dL_law_1123 ?_
  refine va_sld S.1 S.2.1 hY hbl hbA hS (i := x + 1) (vinx (z := 1) rfl (by decide) (by decide) hx0 hx6 hL) dL_law_1124 ?_
  refine lv_aload_n S.1 S.2.1 dL_law_1125 rfl (lv_at hl 3 rfl) ?_
  refine lv_iload_n S.1 S.2.1 dL_law_1126 rfl (lv_at hl 0 rfl) ?_
  refine lv_iconst (v := 2) S.1 S.2.1 dL_law_1127 (by decide) ?_
  refine lv_iadd S.1 S.2.1 dL_law_1128 ?_
  refine va_sld S.1 S.2.1 hY hbl hbA hS (i := x + 2) (vinx (z := 2) rfl (by decide) (by decide) hx0 hx6 hL) dL_law_1129 ?_
  refine lv_aload_n S.1 S.2.1 dL_law_1130 rfl (lv_at hl 3 rfl) ?_
  refine lv_iload_n S.1 S.2.1 dL_law_1131 rfl (lv_at hl 0 rfl) ?_
  refine lv_iconst (v := 3) S.1 S.2.1 dL_law_1132 (by decide) ?_
  refine lv_iadd S.1 S.2.1 dL_law_1133 ?_
  refine va_sld S.1 S.2.1 hY hbl hbA hS (i := x + 3) (vinx (z := 3) rfl (by decide) (by decide) hx0 hx6 hL) dL_law_1134 ?_
  refine W.widen (k := cells + 40) (n := slots + 320) (by omega) (by omega) ?_
  refine cWV (rest := []) (A := fun q => s.heap.size ≤ q) S (c_X4_cell l D G M T aX d (xs (Int32.toNatClampNeg (x + 1))) (xs (Int32.toNatClampNeg (x + 2))) (xs (Int32.toNatClampNeg (x + 3))) iX) gV_RL_120 ds_X4_cell ⟨rfl, rfl⟩ ⟨Nat.le_of_ble_eq_true rfl, Nat.le_of_ble_eq_true rfl⟩ ⟨blindX, recvX hK hX (k := 0) (i := 0) Nat.zero_lt_one rfl rfl, preX hK hN hX _⟩ rfl hl.1 rfl (Nat.le_of_ble_eq_true rfl) ⟨hc, hsl⟩ dL_law_1135 hS hAX (fun H1 locs1 hX1 hS1 k1 => ?_)
  have hM1 := hM.kept (H1 := H1) (fun q hq => k1 q (hM.sz hq) (fun z => hdis q z hq))
  have iX1 := k_X4_cell iX (xs (Int32.toNatClampNeg (x + 1))) (xs (Int32.toNatClampNeg (x + 2))) (xs (Int32.toNatClampNeg (x + 3)))
  have hAX1 := hAX
  have hdis1 := hdis
  refine lv_pop2_2 S.1 S.2.1 dL_law_1138 rfl ?_
  refine lv_aload_n S.1 S.2.1 dL_law_1139 rfl (lv_at hl 1 rfl) ?_
  refine lv_aload_n S.1 S.2.1 dL_law_1140 rfl (lv_at hl 3 rfl) ?_
  refine lv_iload_n S.1 S.2.1 dL_law_1141 rfl (lv_at hl 0 rfl) ?_
  refine lv_iconst (v := 1) S.1 S.2.1 dL_law_1142 (by decide) ?_
  refine lv_iadd S.1 S.2.1 dL_law_1143 ?_
  refine va_sld S.1 S.2.1 hY hbl hbA hS1 (i := x + 1) (vinx (z := 1) rfl (by decide) (by decide) hx0 hx6 hL) dL_law_1144 ?_
  refine lv_aload_n S.1 S.2.1 dL_law_1145 rfl (lv_at hl 3 rfl) ?_
  refine lv_iload_n S.1 S.2.1 dL_law_1146 rfl (lv_at hl 0 rfl) ?_
  refine lv_iconst (v := 2) S.1 S.2.1 dL_law_1147 (by decide) ?_
  refine lv_iadd S.1 S.2.1 dL_law_1148 ?_
  refine va_sld S.1 S.2.1 hY hbl hbA hS1 (i := x + 2) (vinx (z := 2) rfl (by decide) (by decide) hx0 hx6 hL) dL_law_1149 ?_
  refine lv_aload_n S.1 S.2.1 dL_law_1150 rfl (lv_at hl 3 rfl) ?_
  refine lv_iload_n S.1 S.2.1 dL_law_1151 rfl (lv_at hl 0 rfl) ?_
  refine lv_iconst (v := 3) S.1 S.2.1 dL_law_1152 (by decide) ?_
  refine lv_iadd S.1 S.2.1 dL_law_1153 ?_
  refine va_sld S.1 S.2.1 hY hbl hbA hS1 (i := x + 3) (vinx (z := 3) rfl (by decide) (by decide) hx0 hx6 hL) dL_law_1154 ?_
  refine cWV (rest := []) (A := fun q => s.heap.size ≤ q) S (c_X5_cell l D G aM τ (xs (Int32.toNatClampNeg (x + 1))) (xs (Int32.toNatClampNeg (x + 2))) (xs (Int32.toNatClampNeg (x + 3))) iM) gV_RL_123 ds_X5_cell ⟨rfl, rfl⟩ ⟨Nat.le_of_ble_eq_true rfl, Nat.le_of_ble_eq_true rfl⟩ ⟨blindX, recvX hK hM1 (k := 0) (i := 0) Nat.zero_lt_one rfl rfl, preX hK hN hM1 _⟩ rfl hl.1 rfl (Nat.le_of_ble_eq_true rfl) ⟨hc, hsl⟩ dL_law_1155 hS1 hAM (fun H2 locs2 hM2 hS2 k2 => ?_)
  have hX2 := hX1.kept (H1 := H2) (fun q hq => k2 q (hX1.sz hq) (fun z => hdis1 q hq z))
  have iM2 := k_X5_cell iM (xs (Int32.toNatClampNeg (x + 1))) (xs (Int32.toNatClampNeg (x + 2))) (xs (Int32.toNatClampNeg (x + 3)))
  refine lv_pop2_2 S.1 S.2.1 dL_law_1158 rfl ?_
  refine lv_goto (tgt := 1416) S.1 S.2.1 dL_law_1159 (by decide) ?_
  have hR2 := r2_X4_cell hR iX iM (xs (Int32.toNatClampNeg (x + 1))) (xs (Int32.toNatClampNeg (x + 2))) (xs (Int32.toNatClampNeg (x + 3)))
  exact kk _ _ ⟨_, _, _, aM, _, _, iX1, iM2, hR2, hX2, hM2, rfl, rfl, hAX1, hAM, hdis1, hS2⟩
set_option maxRecDepth 100000 in
set_option maxHeartbeats 8000000 in
theorem lc_26 (l : Launch) (S : CallFix p m c cL_law 4 s #[Value.ref b] wsL_law RL) (hY : va_X b L xs s s.heap) (hbl : b < s.heap.size) (hK : va_K D vwCl (tysG G) s) (hN : NW s) (hx0 : 0 ≤ x.toInt) (hx6 : x.toInt + 6 ≤ (L : Int)) (hL : L ≤ 3072) (hI : LInv s D G hx hm H locs) (hl : lv_has ls 4 [(3, .int x), (2, .ref hm), (1, .ref hx), (0, .ref b)]) (hc : cells + 40 ≤ 600000) (hsl : slots + 320 ≤ 7302249) (kk : ∀ (H : Heap) (locs : List Loc), LInv s D G hx hm H locs → W p l e room_1 s m #[Value.ref b] below meth c H locs (cells + 40) (slots + 320) Q (F0 m 1416 ls [])) : W p l e room_1 s m #[Value.ref b] below meth c H locs cells slots Q (F0 m 1162 ls []) := by
  have hbA : ¬ (fun q : Nat => s.heap.size ≤ q) b := Nat.not_le.mpr hbl
  obtain ⟨M, T, aX, aM, d, τ, iX, iM, hR, hX, hM, h0X, h0M, hAX, hAM, hdis, hS⟩ := hI
  subst h0X
  subst h0M
  refine lv_aload_n S.1 S.2.1 dL_law_1162 rfl (lv_at hl 2 rfl) ?_
  refine lv_aload_n S.1 S.2.1 dL_law_1163 rfl (lv_at hl 3 rfl) ?_
  refine lv_iload_n S.1 S.2.1 dL_law_1164 rfl (lv_at hl 0 rfl) ?_
  refine lv_iconst (v := 1) S.1 S.2.1 dL_law_1165 (by decide) ?_
  refine lv_iadd S.1 S.2.1 dL_law_1166 ?_
  refine va_sld S.1 S.2.1 hY hbl hbA hS (i := x + 1) (vinx (z := 1) rfl (by decide) (by decide) hx0 hx6 hL) dL_law_1167 ?_
  refine lv_aload_n S.1 S.2.1 dL_law_1168 rfl (lv_at hl 3 rfl) ?_
  refine lv_iload_n S.1 S.2.1 dL_law_1169 rfl (lv_at hl 0 rfl) ?_
  refine lv_iconst (v := 2) S.1 S.2.1 dL_law_1170 (by decide) ?_
  refine lv_iadd S.1 S.2.1 dL_law_1171 ?_
  refine va_sld S.1 S.2.1 hY hbl hbA hS (i := x + 2) (vinx (z := 2) rfl (by decide) (by decide) hx0 hx6 hL) dL_law_1172 ?_
  refine lv_aload_n S.1 S.2.1 dL_law_1173 rfl (lv_at hl 3 rfl) ?_
  refine lv_iload_n S.1 S.2.1 dL_law_1174 rfl (lv_at hl 0 rfl) ?_
  refine lv_iconst (v := 3) S.1 S.2.1 dL_law_1175 (by decide) ?_
  refine lv_iadd S.1 S.2.1 dL_law_1176 ?_
  refine va_sld S.1 S.2.1 hY hbl hbA hS (i := x + 3) (vinx (z := 3) rfl (by decide) (by decide) hx0 hx6 hL) dL_law_1177 ?_
  refine lv_aload_n S.1 S.2.1 dL_law_1178 rfl (lv_at hl 3 rfl) ?_
  refine lv_iload_n S.1 S.2.1 dL_law_1179 rfl (lv_at hl 0 rfl) ?_
  refine lv_iconst (v := 4) S.1 S.2.1 dL_law_1180 (by decide) ?_
  refine lv_iadd S.1 S.2.1 dL_law_1181 ?_
  refine va_sld S.1 S.2.1 hY hbl hbA hS (i := x + 4) (vinx (z := 4) rfl (by decide) (by decide) hx0 hx6 hL) dL_law_1182 ?_
  refine lv_aload_n S.1 S.2.1 dL_law_1183 rfl (lv_at hl 3 rfl) ?_
  refine lv_iload_n S.1 S.2.1 dL_law_1184 rfl (lv_at hl 0 rfl) ?_
  refine lv_iconst (v := 5) S.1 S.2.1 dL_law_1185 (by decide) ?_
  refine lv_iadd S.1 S.2.1 dL_law_1186 ?_
  refine va_sld S.1 S.2.1 hY hbl hbA hS (i := x + 5) (vinx (z := 5) rfl (by decide) (by decide) hx0 hx6 hL) dL_law_1187 ?_
  refine W.widen (k := cells + 40) (n := slots + 320) (by omega) (by omega) ?_
  refine cWV (rest := []) (A := fun q => s.heap.size ≤ q) S (c_X4_copy l D G M T aX d (xs (Int32.toNatClampNeg (x + 1))) (xs (Int32.toNatClampNeg (x + 2))) (xs (Int32.toNatClampNeg (x + 3))) (xs (Int32.toNatClampNeg (x + 4))) (xs (Int32.toNatClampNeg (x + 5))) iX) gV_RL_124 ds_X4_copy ⟨rfl, rfl⟩ ⟨Nat.le_of_ble_eq_true rfl, Nat.le_of_ble_eq_true rfl⟩ ⟨blindX, recvX hK hX (k := 0) (i := 0) Nat.zero_lt_one rfl rfl, preX hK hN hX _⟩ rfl hl.1 rfl (Nat.le_of_ble_eq_true rfl) ⟨hc, hsl⟩ dL_law_1188 hS hAX (fun H1 locs1 hX1 hS1 k1 => ?_)
  have hM1 := hM.kept (H1 := H1) (fun q hq => k1 q (hM.sz hq) (fun z => hdis q z hq))
  have iX1 := k_X4_copy iX (xs (Int32.toNatClampNeg (x + 1))) (xs (Int32.toNatClampNeg (x + 2))) (xs (Int32.toNatClampNeg (x + 3))) (xs (Int32.toNatClampNeg (x + 4))) (xs (Int32.toNatClampNeg (x + 5)))
  have hAX1 := hAX
  have hdis1 := hdis
  refine lv_pop S.1 S.2.1 dL_law_1191 rfl ?_
  refine lv_aload_n S.1 S.2.1 dL_law_1192 rfl (lv_at hl 1 rfl) ?_
  refine lv_aload_n S.1 S.2.1 dL_law_1193 rfl (lv_at hl 3 rfl) ?_
  refine lv_iload_n S.1 S.2.1 dL_law_1194 rfl (lv_at hl 0 rfl) ?_
  refine lv_iconst (v := 1) S.1 S.2.1 dL_law_1195 (by decide) ?_
  refine lv_iadd S.1 S.2.1 dL_law_1196 ?_
  refine va_sld S.1 S.2.1 hY hbl hbA hS1 (i := x + 1) (vinx (z := 1) rfl (by decide) (by decide) hx0 hx6 hL) dL_law_1197 ?_
  refine lv_aload_n S.1 S.2.1 dL_law_1198 rfl (lv_at hl 3 rfl) ?_
  refine lv_iload_n S.1 S.2.1 dL_law_1199 rfl (lv_at hl 0 rfl) ?_
  refine lv_iconst (v := 2) S.1 S.2.1 dL_law_1200 (by decide) ?_
  refine lv_iadd S.1 S.2.1 dL_law_1201 ?_
  refine va_sld S.1 S.2.1 hY hbl hbA hS1 (i := x + 2) (vinx (z := 2) rfl (by decide) (by decide) hx0 hx6 hL) dL_law_1202 ?_
  refine lv_aload_n S.1 S.2.1 dL_law_1203 rfl (lv_at hl 3 rfl) ?_
  refine lv_iload_n S.1 S.2.1 dL_law_1204 rfl (lv_at hl 0 rfl) ?_
  refine lv_iconst (v := 3) S.1 S.2.1 dL_law_1205 (by decide) ?_
  refine lv_iadd S.1 S.2.1 dL_law_1206 ?_
  refine va_sld S.1 S.2.1 hY hbl hbA hS1 (i := x + 3) (vinx (z := 3) rfl (by decide) (by decide) hx0 hx6 hL) dL_law_1207 ?_
  refine lv_aload_n S.1 S.2.1 dL_law_1208 rfl (lv_at hl 3 rfl) ?_
  refine lv_iload_n S.1 S.2.1 dL_law_1209 rfl (lv_at hl 0 rfl) ?_
  refine lv_iconst (v := 4) S.1 S.2.1 dL_law_1210 (by decide) ?_
  refine lv_iadd S.1 S.2.1 dL_law_1211 ?_
  refine va_sld S.1 S.2.1 hY hbl hbA hS1 (i := x + 4) (vinx (z := 4) rfl (by decide) (by decide) hx0 hx6 hL) dL_law_1212 ?_
  refine lv_aload_n S.1 S.2.1 dL_law_1213 rfl (lv_at hl 3 rfl) ?_
  refine lv_iload_n S.1 S.2.1 dL_law_1214 rfl (lv_at hl 0 rfl) ?_
  refine lv_iconst (v := 5) S.1 S.2.1 dL_law_1215 (by decide) ?_
  refine lv_iadd S.1 S.2.1 dL_law_1216 ?_
  refine va_sld S.1 S.2.1 hY hbl hbA hS1 (i := x + 5) (vinx (z := 5) rfl (by decide) (by decide) hx0 hx6 hL) dL_law_1217 ?_
  refine cWV (rest := []) (A := fun q => s.heap.size ≤ q) S (c_X5_copy l D G aM τ (xs (Int32.toNatClampNeg (x + 1))) (xs (Int32.toNatClampNeg (x + 2))) (xs (Int32.toNatClampNeg (x + 3))) (xs (Int32.toNatClampNeg (x + 4))) (xs (Int32.toNatClampNeg (x + 5))) iM) gV_RL_128 ds_X5_copy ⟨rfl, rfl⟩ ⟨Nat.le_of_ble_eq_true rfl, Nat.le_of_ble_eq_true rfl⟩ ⟨blindX, recvX hK hM1 (k := 0) (i := 0) Nat.zero_lt_one rfl rfl, preX hK hN hM1 _⟩ rfl hl.1 rfl (Nat.le_of_ble_eq_true rfl) ⟨hc, hsl⟩ dL_law_1218 hS1 hAM (fun H2 locs2 hM2 hS2 k2 => ?_)
  have hX2 := hX1.kept (H1 := H2) (fun q hq => k2 q (hX1.sz hq) (fun z => hdis1 q hq z))
  have iM2 := k_X5_copy iM (xs (Int32.toNatClampNeg (x + 1))) (xs (Int32.toNatClampNeg (x + 2))) (xs (Int32.toNatClampNeg (x + 3))) (xs (Int32.toNatClampNeg (x + 4))) (xs (Int32.toNatClampNeg (x + 5)))
  refine lv_pop S.1 S.2.1 dL_law_1221 rfl ?_
  refine lv_goto (tgt := 1416) S.1 S.2.1 dL_law_1222 (by decide) ?_
  have hR2 := r2_X4_copy hR iX iM (xs (Int32.toNatClampNeg (x + 1))) (xs (Int32.toNatClampNeg (x + 2))) (xs (Int32.toNatClampNeg (x + 3))) (xs (Int32.toNatClampNeg (x + 4))) (xs (Int32.toNatClampNeg (x + 5)))
  exact kk _ _ ⟨_, _, _, aM, _, _, iX1, iM2, hR2, hX2, hM2, rfl, rfl, hAX1, hAM, hdis1, hS2⟩
set_option maxRecDepth 100000 in
set_option maxHeartbeats 8000000 in
theorem lc_27 (l : Launch) (S : CallFix p m c cL_law 4 s #[Value.ref b] wsL_law RL) (hY : va_X b L xs s s.heap) (hbl : b < s.heap.size) (hK : va_K D vwCl (tysG G) s) (hN : NW s) (hx0 : 0 ≤ x.toInt) (hx6 : x.toInt + 6 ≤ (L : Int)) (hL : L ≤ 3072) (hI : LInv s D G hx hm H locs) (hl : lv_has ls 4 [(3, .int x), (2, .ref hm), (1, .ref hx), (0, .ref b)]) (hc : cells + 40 ≤ 600000) (hsl : slots + 320 ≤ 7302249) (kk : ∀ (H : Heap) (locs : List Loc), LInv s D G hx hm H locs → W p l e room_1 s m #[Value.ref b] below meth c H locs (cells + 40) (slots + 320) Q (F0 m 1416 ls [])) : W p l e room_1 s m #[Value.ref b] below meth c H locs cells slots Q (F0 m 1225 ls []) := by
  have hbA : ¬ (fun q : Nat => s.heap.size ≤ q) b := Nat.not_le.mpr hbl
  obtain ⟨M, T, aX, aM, d, τ, iX, iM, hR, hX, hM, h0X, h0M, hAX, hAM, hdis, hS⟩ := hI
  subst h0X
  subst h0M
  refine lv_aload_n S.1 S.2.1 dL_law_1225 rfl (lv_at hl 2 rfl) ?_
  refine lv_aload_n S.1 S.2.1 dL_law_1226 rfl (lv_at hl 3 rfl) ?_
  refine lv_iload_n S.1 S.2.1 dL_law_1227 rfl (lv_at hl 0 rfl) ?_
  refine lv_iconst (v := 1) S.1 S.2.1 dL_law_1228 (by decide) ?_
  refine lv_iadd S.1 S.2.1 dL_law_1229 ?_
  refine va_sld S.1 S.2.1 hY hbl hbA hS (i := x + 1) (vinx (z := 1) rfl (by decide) (by decide) hx0 hx6 hL) dL_law_1230 ?_
  refine lv_aload_n S.1 S.2.1 dL_law_1231 rfl (lv_at hl 3 rfl) ?_
  refine lv_iload_n S.1 S.2.1 dL_law_1232 rfl (lv_at hl 0 rfl) ?_
  refine lv_iconst (v := 2) S.1 S.2.1 dL_law_1233 (by decide) ?_
  refine lv_iadd S.1 S.2.1 dL_law_1234 ?_
  refine va_sld S.1 S.2.1 hY hbl hbA hS (i := x + 2) (vinx (z := 2) rfl (by decide) (by decide) hx0 hx6 hL) dL_law_1235 ?_
  refine lv_aload_n S.1 S.2.1 dL_law_1236 rfl (lv_at hl 3 rfl) ?_
  refine lv_iload_n S.1 S.2.1 dL_law_1237 rfl (lv_at hl 0 rfl) ?_
  refine lv_iconst (v := 3) S.1 S.2.1 dL_law_1238 (by decide) ?_
  refine lv_iadd S.1 S.2.1 dL_law_1239 ?_
  refine va_sld S.1 S.2.1 hY hbl hbA hS (i := x + 3) (vinx (z := 3) rfl (by decide) (by decide) hx0 hx6 hL) dL_law_1240 ?_
  refine lv_aload_n S.1 S.2.1 dL_law_1241 rfl (lv_at hl 3 rfl) ?_
  refine lv_iload_n S.1 S.2.1 dL_law_1242 rfl (lv_at hl 0 rfl) ?_
  refine lv_iconst (v := 4) S.1 S.2.1 dL_law_1243 (by decide) ?_
  refine lv_iadd S.1 S.2.1 dL_law_1244 ?_
  refine va_sld S.1 S.2.1 hY hbl hbA hS (i := x + 4) (vinx (z := 4) rfl (by decide) (by decide) hx0 hx6 hL) dL_law_1245 ?_
  refine lv_aload_n S.1 S.2.1 dL_law_1246 rfl (lv_at hl 3 rfl) ?_
  refine lv_iload_n S.1 S.2.1 dL_law_1247 rfl (lv_at hl 0 rfl) ?_
  refine lv_iconst (v := 5) S.1 S.2.1 dL_law_1248 (by decide) ?_
  refine lv_iadd S.1 S.2.1 dL_law_1249 ?_
  refine va_sld S.1 S.2.1 hY hbl hbA hS (i := x + 5) (vinx (z := 5) rfl (by decide) (by decide) hx0 hx6 hL) dL_law_1250 ?_
  refine W.widen (k := cells + 40) (n := slots + 320) (by omega) (by omega) ?_
  refine cWV (rest := []) (A := fun q => s.heap.size ≤ q) S (c_X4_watch l D G M T aX d (xs (Int32.toNatClampNeg (x + 1))) (xs (Int32.toNatClampNeg (x + 2))) (xs (Int32.toNatClampNeg (x + 3))) (xs (Int32.toNatClampNeg (x + 4))) (xs (Int32.toNatClampNeg (x + 5))) iX) gV_RL_129 ds_X4_watch ⟨rfl, rfl⟩ ⟨Nat.le_of_ble_eq_true rfl, Nat.le_of_ble_eq_true rfl⟩ ⟨blindX, recvX hK hX (k := 0) (i := 0) Nat.zero_lt_one rfl rfl, preX hK hN hX _⟩ rfl hl.1 rfl (Nat.le_of_ble_eq_true rfl) ⟨hc, hsl⟩ dL_law_1251 hS hAX (fun H1 locs1 hX1 hS1 k1 => ?_)
  have hM1 := hM.kept (H1 := H1) (fun q hq => k1 q (hM.sz hq) (fun z => hdis q z hq))
  have iX1 := k_X4_watch iX (xs (Int32.toNatClampNeg (x + 1))) (xs (Int32.toNatClampNeg (x + 2))) (xs (Int32.toNatClampNeg (x + 3))) (xs (Int32.toNatClampNeg (x + 4))) (xs (Int32.toNatClampNeg (x + 5)))
  have hAX1 := hAX
  have hdis1 := hdis
  refine lv_pop S.1 S.2.1 dL_law_1254 rfl ?_
  refine lv_aload_n S.1 S.2.1 dL_law_1255 rfl (lv_at hl 1 rfl) ?_
  refine lv_aload_n S.1 S.2.1 dL_law_1256 rfl (lv_at hl 3 rfl) ?_
  refine lv_iload_n S.1 S.2.1 dL_law_1257 rfl (lv_at hl 0 rfl) ?_
  refine lv_iconst (v := 1) S.1 S.2.1 dL_law_1258 (by decide) ?_
  refine lv_iadd S.1 S.2.1 dL_law_1259 ?_
  refine va_sld S.1 S.2.1 hY hbl hbA hS1 (i := x + 1) (vinx (z := 1) rfl (by decide) (by decide) hx0 hx6 hL) dL_law_1260 ?_
  refine lv_aload_n S.1 S.2.1 dL_law_1261 rfl (lv_at hl 3 rfl) ?_
  refine lv_iload_n S.1 S.2.1 dL_law_1262 rfl (lv_at hl 0 rfl) ?_
  refine lv_iconst (v := 2) S.1 S.2.1 dL_law_1263 (by decide) ?_
  refine lv_iadd S.1 S.2.1 dL_law_1264 ?_
  refine va_sld S.1 S.2.1 hY hbl hbA hS1 (i := x + 2) (vinx (z := 2) rfl (by decide) (by decide) hx0 hx6 hL) dL_law_1265 ?_
  refine lv_aload_n S.1 S.2.1 dL_law_1266 rfl (lv_at hl 3 rfl) ?_
  refine lv_iload_n S.1 S.2.1 dL_law_1267 rfl (lv_at hl 0 rfl) ?_
  refine lv_iconst (v := 3) S.1 S.2.1 dL_law_1268 (by decide) ?_
  refine lv_iadd S.1 S.2.1 dL_law_1269 ?_
  refine va_sld S.1 S.2.1 hY hbl hbA hS1 (i := x + 3) (vinx (z := 3) rfl (by decide) (by decide) hx0 hx6 hL) dL_law_1270 ?_
  refine lv_aload_n S.1 S.2.1 dL_law_1271 rfl (lv_at hl 3 rfl) ?_
  refine lv_iload_n S.1 S.2.1 dL_law_1272 rfl (lv_at hl 0 rfl) ?_
  refine lv_iconst (v := 4) S.1 S.2.1 dL_law_1273 (by decide) ?_
  refine lv_iadd S.1 S.2.1 dL_law_1274 ?_
  refine va_sld S.1 S.2.1 hY hbl hbA hS1 (i := x + 4) (vinx (z := 4) rfl (by decide) (by decide) hx0 hx6 hL) dL_law_1275 ?_
  refine lv_aload_n S.1 S.2.1 dL_law_1276 rfl (lv_at hl 3 rfl) ?_
  refine lv_iload_n S.1 S.2.1 dL_law_1277 rfl (lv_at hl 0 rfl) ?_
  refine lv_iconst (v := 5) S.1 S.2.1 dL_law_1278 (by decide) ?_
  refine lv_iadd S.1 S.2.1 dL_law_1279 ?_
  refine va_sld S.1 S.2.1 hY hbl hbA hS1 (i := x + 5) (vinx (z := 5) rfl (by decide) (by decide) hx0 hx6 hL) dL_law_1280 ?_
  refine cWV (rest := []) (A := fun q => s.heap.size ≤ q) S (c_X5_watch l D G aM τ (xs (Int32.toNatClampNeg (x + 1))) (xs (Int32.toNatClampNeg (x + 2))) (xs (Int32.toNatClampNeg (x + 3))) (xs (Int32.toNatClampNeg (x + 4))) (xs (Int32.toNatClampNeg (x + 5))) iM) gV_RL_132 ds_X5_watch ⟨rfl, rfl⟩ ⟨Nat.le_of_ble_eq_true rfl, Nat.le_of_ble_eq_true rfl⟩ ⟨blindX, recvX hK hM1 (k := 0) (i := 0) Nat.zero_lt_one rfl rfl, preX hK hN hM1 _⟩ rfl hl.1 rfl (Nat.le_of_ble_eq_true rfl) ⟨hc, hsl⟩ dL_law_1281 hS1 hAM (fun H2 locs2 hM2 hS2 k2 => ?_)
  have hX2 := hX1.kept (H1 := H2) (fun q hq => k2 q (hX1.sz hq) (fun z => hdis1 q hq z))
  have iM2 := k_X5_watch iM (xs (Int32.toNatClampNeg (x + 1))) (xs (Int32.toNatClampNeg (x + 2))) (xs (Int32.toNatClampNeg (x + 3))) (xs (Int32.toNatClampNeg (x + 4))) (xs (Int32.toNatClampNeg (x + 5)))
  refine lv_pop S.1 S.2.1 dL_law_1284 rfl ?_
  refine lv_goto (tgt := 1416) S.1 S.2.1 dL_law_1285 (by decide) ?_
  have hR2 := r2_X4_watch hR iX iM (xs (Int32.toNatClampNeg (x + 1))) (xs (Int32.toNatClampNeg (x + 2))) (xs (Int32.toNatClampNeg (x + 3))) (xs (Int32.toNatClampNeg (x + 4))) (xs (Int32.toNatClampNeg (x + 5)))
  exact kk _ _ ⟨_, _, _, aM, _, _, iX1, iM2, hR2, hX2, hM2, rfl, rfl, hAX1, hAM, hdis1, hS2⟩
set_option maxRecDepth 100000 in
set_option maxHeartbeats 8000000 in
theorem lc_28 (l : Launch) (S : CallFix p m c cL_law 4 s #[Value.ref b] wsL_law RL) (hY : va_X b L xs s s.heap) (hbl : b < s.heap.size) (hK : va_K D vwCl (tysG G) s) (hN : NW s) (hx0 : 0 ≤ x.toInt) (hx6 : x.toInt + 6 ≤ (L : Int)) (hL : L ≤ 3072) (hI : LInv s D G hx hm H locs) (hl : lv_has ls 4 [(3, .int x), (2, .ref hm), (1, .ref hx), (0, .ref b)]) (hc : cells + 40 ≤ 600000) (hsl : slots + 320 ≤ 7302249) (kk : ∀ (H : Heap) (locs : List Loc), LInv s D G hx hm H locs → W p l e room_1 s m #[Value.ref b] below meth c H locs (cells + 40) (slots + 320) Q (F0 m 1416 ls [])) : W p l e room_1 s m #[Value.ref b] below meth c H locs cells slots Q (F0 m 1288 ls []) := by
  have hbA : ¬ (fun q : Nat => s.heap.size ≤ q) b := Nat.not_le.mpr hbl
  obtain ⟨M, T, aX, aM, d, τ, iX, iM, hR, hX, hM, h0X, h0M, hAX, hAM, hdis, hS⟩ := hI
  subst h0X
  subst h0M
  refine lv_aload_n S.1 S.2.1 dL_law_1288 rfl (lv_at hl 2 rfl) ?_
  refine lv_aload_n S.1 S.2.1 dL_law_1289 rfl (lv_at hl 3 rfl) ?_
  refine lv_iload_n S.1 S.2.1 dL_law_1290 rfl (lv_at hl 0 rfl) ?_
  refine lv_iconst (v := 1) S.1 S.2.1 dL_law_1291 (by decide) ?_
  refine lv_iadd S.1 S.2.1 dL_law_1292 ?_
  refine va_sld S.1 S.2.1 hY hbl hbA hS (i := x + 1) (vinx (z := 1) rfl (by decide) (by decide) hx0 hx6 hL) dL_law_1293 ?_
  refine W.widen (k := cells + 40) (n := slots + 320) (by omega) (by omega) ?_
  refine cWV (rest := []) (A := fun q => s.heap.size ≤ q) S (c_X4_tell l D G M T aX d (xs (Int32.toNatClampNeg (x + 1))) iX) gV_RL_133 ds_X4_tell ⟨rfl, rfl⟩ ⟨Nat.le_of_ble_eq_true rfl, Nat.le_of_ble_eq_true rfl⟩ ⟨blindX, recvX hK hX (k := 0) (i := 0) Nat.zero_lt_one rfl rfl, preX hK hN hX _⟩ rfl hl.1 rfl (Nat.le_of_ble_eq_true rfl) ⟨hc, hsl⟩ dL_law_1294 hS hAX (fun H1 locs1 hX1 hS1 k1 => ?_)
  have hM1 := hM.kept (H1 := H1) (fun q hq => k1 q (hM.sz hq) (fun z => hdis q z hq))
  have iX1 := k_X4_tell iX (xs (Int32.toNatClampNeg (x + 1)))
  have hAX1 := hAX
  have hdis1 := hdis
  refine lv_pop S.1 S.2.1 dL_law_1297 rfl ?_
  refine lv_aload_n S.1 S.2.1 dL_law_1298 rfl (lv_at hl 1 rfl) ?_
  refine lv_aload_n S.1 S.2.1 dL_law_1299 rfl (lv_at hl 3 rfl) ?_
  refine lv_iload_n S.1 S.2.1 dL_law_1300 rfl (lv_at hl 0 rfl) ?_
  refine lv_iconst (v := 1) S.1 S.2.1 dL_law_1301 (by decide) ?_
  refine lv_iadd S.1 S.2.1 dL_law_1302 ?_
  refine va_sld S.1 S.2.1 hY hbl hbA hS1 (i := x + 1) (vinx (z := 1) rfl (by decide) (by decide) hx0 hx6 hL) dL_law_1303 ?_
  refine cWV (rest := []) (A := fun q => s.heap.size ≤ q) S (c_X5_tell l D G aM τ (xs (Int32.toNatClampNeg (x + 1))) iM) gV_RL_136 ds_X5_tell ⟨rfl, rfl⟩ ⟨Nat.le_of_ble_eq_true rfl, Nat.le_of_ble_eq_true rfl⟩ ⟨blindX, recvX hK hM1 (k := 0) (i := 0) Nat.zero_lt_one rfl rfl, preX hK hN hM1 _⟩ rfl hl.1 rfl (Nat.le_of_ble_eq_true rfl) ⟨hc, hsl⟩ dL_law_1304 hS1 hAM (fun H2 locs2 hM2 hS2 k2 => ?_)
  have hX2 := hX1.kept (H1 := H2) (fun q hq => k2 q (hX1.sz hq) (fun z => hdis1 q hq z))
  have iM2 := k_X5_tell iM (xs (Int32.toNatClampNeg (x + 1)))
  refine lv_pop S.1 S.2.1 dL_law_1307 rfl ?_
  refine lv_goto (tgt := 1416) S.1 S.2.1 dL_law_1308 (by decide) ?_
  have hR2 := (j2_tell hR (xs (Int32.toNatClampNeg (x + 1)))).2
  exact kk _ _ ⟨_, _, _, aM, _, _, iX1, iM2, hR2, hX2, hM2, rfl, rfl, hAX1, hAM, hdis1, hS2⟩
set_option maxRecDepth 100000 in
set_option maxHeartbeats 8000000 in
theorem lc_29 (l : Launch) (S : CallFix p m c cL_law 4 s #[Value.ref b] wsL_law RL) (hY : va_X b L xs s s.heap) (hbl : b < s.heap.size) (hK : va_K D vwCl (tysG G) s) (hN : NW s) (hx0 : 0 ≤ x.toInt) (hx6 : x.toInt + 6 ≤ (L : Int)) (hL : L ≤ 3072) (hI : LInv s D G hx hm H locs) (hl : lv_has ls 4 [(3, .int x), (2, .ref hm), (1, .ref hx), (0, .ref b)]) (hc : cells + 40 ≤ 600000) (hsl : slots + 320 ≤ 7302249) (kk : ∀ (H : Heap) (locs : List Loc), LInv s D G hx hm H locs → W p l e room_1 s m #[Value.ref b] below meth c H locs (cells + 40) (slots + 320) Q (F0 m 1416 ls [])) : W p l e room_1 s m #[Value.ref b] below meth c H locs cells slots Q (F0 m 1311 ls []) := by
  have hbA : ¬ (fun q : Nat => s.heap.size ≤ q) b := Nat.not_le.mpr hbl
  obtain ⟨M, T, aX, aM, d, τ, iX, iM, hR, hX, hM, h0X, h0M, hAX, hAM, hdis, hS⟩ := hI
  subst h0X
  subst h0M
  refine lv_aload_n S.1 S.2.1 dL_law_1311 rfl (lv_at hl 2 rfl) ?_
  refine lv_aload_n S.1 S.2.1 dL_law_1312 rfl (lv_at hl 3 rfl) ?_
  refine lv_iload_n S.1 S.2.1 dL_law_1313 rfl (lv_at hl 0 rfl) ?_
  refine lv_iconst (v := 1) S.1 S.2.1 dL_law_1314 (by decide) ?_
  refine lv_iadd S.1 S.2.1 dL_law_1315 ?_
  refine va_sld S.1 S.2.1 hY hbl hbA hS (i := x + 1) (vinx (z := 1) rfl (by decide) (by decide) hx0 hx6 hL) dL_law_1316 ?_
  refine W.widen (k := cells + 40) (n := slots + 320) (by omega) (by omega) ?_
  refine cWV (rest := []) (A := fun q => s.heap.size ≤ q) S (c_X4_worth l D G M T aX d (xs (Int32.toNatClampNeg (x + 1))) iX) gV_RL_137 ds_X4_worth ⟨rfl, rfl⟩ ⟨Nat.le_of_ble_eq_true rfl, Nat.le_of_ble_eq_true rfl⟩ ⟨blindX, recvX hK hX (k := 0) (i := 0) Nat.zero_lt_one rfl rfl, preX hK hN hX _⟩ rfl hl.1 rfl (Nat.le_of_ble_eq_true rfl) ⟨hc, hsl⟩ dL_law_1317 hS hAX (fun H1 locs1 hX1 hS1 k1 => ?_)
  have hM1 := hM.kept (H1 := H1) (fun q hq => k1 q (hM.sz hq) (fun z => hdis q z hq))
  have iX1 := k_X4_worth iX (xs (Int32.toNatClampNeg (x + 1)))
  have hAX1 := hAX
  have hdis1 := hdis
  refine lv_pop S.1 S.2.1 dL_law_1320 rfl ?_
  refine lv_aload_n S.1 S.2.1 dL_law_1321 rfl (lv_at hl 1 rfl) ?_
  refine lv_aload_n S.1 S.2.1 dL_law_1322 rfl (lv_at hl 3 rfl) ?_
  refine lv_iload_n S.1 S.2.1 dL_law_1323 rfl (lv_at hl 0 rfl) ?_
  refine lv_iconst (v := 1) S.1 S.2.1 dL_law_1324 (by decide) ?_
  refine lv_iadd S.1 S.2.1 dL_law_1325 ?_
  refine va_sld S.1 S.2.1 hY hbl hbA hS1 (i := x + 1) (vinx (z := 1) rfl (by decide) (by decide) hx0 hx6 hL) dL_law_1326 ?_
  refine cWV (rest := []) (A := fun q => s.heap.size ≤ q) S (c_X5_worth l D G aM τ (xs (Int32.toNatClampNeg (x + 1))) iM) gV_RL_140 ds_X5_worth ⟨rfl, rfl⟩ ⟨Nat.le_of_ble_eq_true rfl, Nat.le_of_ble_eq_true rfl⟩ ⟨blindX, recvX hK hM1 (k := 0) (i := 0) Nat.zero_lt_one rfl rfl, preX hK hN hM1 _⟩ rfl hl.1 rfl (Nat.le_of_ble_eq_true rfl) ⟨hc, hsl⟩ dL_law_1327 hS1 hAM (fun H2 locs2 hM2 hS2 k2 => ?_)
  have hX2 := hX1.kept (H1 := H2) (fun q hq => k2 q (hX1.sz hq) (fun z => hdis1 q hq z))
  have iM2 := k_X5_worth iM (xs (Int32.toNatClampNeg (x + 1)))
  refine lv_pop S.1 S.2.1 dL_law_1330 rfl ?_
  refine lv_goto (tgt := 1416) S.1 S.2.1 dL_law_1331 (by decide) ?_
  have hR2 := (j2_worth hR (xs (Int32.toNatClampNeg (x + 1)))).2
  exact kk _ _ ⟨_, _, _, aM, _, _, iX1, iM2, hR2, hX2, hM2, rfl, rfl, hAX1, hAM, hdis1, hS2⟩
set_option maxRecDepth 100000 in
set_option maxHeartbeats 8000000 in
theorem lc_30 (l : Launch) (S : CallFix p m c cL_law 4 s #[Value.ref b] wsL_law RL) (hY : va_X b L xs s s.heap) (hbl : b < s.heap.size) (hK : va_K D vwCl (tysG G) s) (hN : NW s) (hx0 : 0 ≤ x.toInt) (hx6 : x.toInt + 6 ≤ (L : Int)) (hL : L ≤ 3072) (hI : LInv s D G hx hm H locs) (hl : lv_has ls 4 [(3, .int x), (2, .ref hm), (1, .ref hx), (0, .ref b)]) (hc : cells + 40 ≤ 600000) (hsl : slots + 320 ≤ 7302249) (kk : ∀ (H : Heap) (locs : List Loc), LInv s D G hx hm H locs → W p l e room_1 s m #[Value.ref b] below meth c H locs (cells + 40) (slots + 320) Q (F0 m 1416 ls [])) : W p l e room_1 s m #[Value.ref b] below meth c H locs cells slots Q (F0 m 1334 ls []) := by
  have hbA : ¬ (fun q : Nat => s.heap.size ≤ q) b := Nat.not_le.mpr hbl
  obtain ⟨M, T, aX, aM, d, τ, iX, iM, hR, hX, hM, h0X, h0M, hAX, hAM, hdis, hS⟩ := hI
  subst h0X
  subst h0M
  refine lv_aload_n S.1 S.2.1 dL_law_1334 rfl (lv_at hl 2 rfl) ?_
  refine lv_aload_n S.1 S.2.1 dL_law_1335 rfl (lv_at hl 3 rfl) ?_
  refine lv_iload_n S.1 S.2.1 dL_law_1336 rfl (lv_at hl 0 rfl) ?_
  refine lv_iconst (v := 1) S.1 S.2.1 dL_law_1337 (by decide) ?_
  refine lv_iadd S.1 S.2.1 dL_law_1338 ?_
  refine va_sld S.1 S.2.1 hY hbl hbA hS (i := x + 1) (vinx (z := 1) rfl (by decide) (by decide) hx0 hx6 hL) dL_law_1339 ?_
  refine lv_aload_n S.1 S.2.1 dL_law_1340 rfl (lv_at hl 3 rfl) ?_
  refine lv_iload_n S.1 S.2.1 dL_law_1341 rfl (lv_at hl 0 rfl) ?_
  refine lv_iconst (v := 2) S.1 S.2.1 dL_law_1342 (by decide) ?_
  refine lv_iadd S.1 S.2.1 dL_law_1343 ?_
  refine va_sld S.1 S.2.1 hY hbl hbA hS (i := x + 2) (vinx (z := 2) rfl (by decide) (by decide) hx0 hx6 hL) dL_law_1344 ?_
  refine W.widen (k := cells + 40) (n := slots + 320) (by omega) (by omega) ?_
  refine cWV (rest := []) (A := fun q => s.heap.size ≤ q) S (c_X4_as l D G M T aX d (xs (Int32.toNatClampNeg (x + 1))) (xs (Int32.toNatClampNeg (x + 2))) iX) gV_RL_141 ds_X4_as ⟨rfl, rfl⟩ ⟨Nat.le_of_ble_eq_true rfl, Nat.le_of_ble_eq_true rfl⟩ ⟨blindX, recvX hK hX (k := 0) (i := 0) Nat.zero_lt_one rfl rfl, preX hK hN hX _⟩ rfl hl.1 rfl (Nat.le_of_ble_eq_true rfl) ⟨hc, hsl⟩ dL_law_1345 hS hAX (fun H1 locs1 hX1 hS1 k1 => ?_)
  have hM1 := hM.kept (H1 := H1) (fun q hq => k1 q (hM.sz hq) (fun z => hdis q z hq))
  have iX1 := k_X4_as iX (xs (Int32.toNatClampNeg (x + 1))) (xs (Int32.toNatClampNeg (x + 2)))
  have hAX1 := hAX
  have hdis1 := hdis
  refine lv_pop S.1 S.2.1 dL_law_1348 rfl ?_
  refine lv_aload_n S.1 S.2.1 dL_law_1349 rfl (lv_at hl 1 rfl) ?_
  refine lv_aload_n S.1 S.2.1 dL_law_1350 rfl (lv_at hl 3 rfl) ?_
  refine lv_iload_n S.1 S.2.1 dL_law_1351 rfl (lv_at hl 0 rfl) ?_
  refine lv_iconst (v := 1) S.1 S.2.1 dL_law_1352 (by decide) ?_
  refine lv_iadd S.1 S.2.1 dL_law_1353 ?_
  refine va_sld S.1 S.2.1 hY hbl hbA hS1 (i := x + 1) (vinx (z := 1) rfl (by decide) (by decide) hx0 hx6 hL) dL_law_1354 ?_
  refine lv_aload_n S.1 S.2.1 dL_law_1355 rfl (lv_at hl 3 rfl) ?_
  refine lv_iload_n S.1 S.2.1 dL_law_1356 rfl (lv_at hl 0 rfl) ?_
  refine lv_iconst (v := 2) S.1 S.2.1 dL_law_1357 (by decide) ?_
  refine lv_iadd S.1 S.2.1 dL_law_1358 ?_
  refine va_sld S.1 S.2.1 hY hbl hbA hS1 (i := x + 2) (vinx (z := 2) rfl (by decide) (by decide) hx0 hx6 hL) dL_law_1359 ?_
  refine cWV (rest := []) (A := fun q => s.heap.size ≤ q) S (c_X5_as l D G aM τ (xs (Int32.toNatClampNeg (x + 1))) (xs (Int32.toNatClampNeg (x + 2))) iM) gV_RL_144 ds_X5_as ⟨rfl, rfl⟩ ⟨Nat.le_of_ble_eq_true rfl, Nat.le_of_ble_eq_true rfl⟩ ⟨blindX, recvX hK hM1 (k := 0) (i := 0) Nat.zero_lt_one rfl rfl, preX hK hN hM1 _⟩ rfl hl.1 rfl (Nat.le_of_ble_eq_true rfl) ⟨hc, hsl⟩ dL_law_1360 hS1 hAM (fun H2 locs2 hM2 hS2 k2 => ?_)
  have hX2 := hX1.kept (H1 := H2) (fun q hq => k2 q (hX1.sz hq) (fun z => hdis1 q hq z))
  have iM2 := k_X5_as iM (xs (Int32.toNatClampNeg (x + 1))) (xs (Int32.toNatClampNeg (x + 2)))
  refine lv_pop S.1 S.2.1 dL_law_1363 rfl ?_
  refine lv_goto (tgt := 1416) S.1 S.2.1 dL_law_1364 (by decide) ?_
  have hR2 := (j2_as hR iX iM (xs (Int32.toNatClampNeg (x + 1))) (xs (Int32.toNatClampNeg (x + 2)))).2
  exact kk _ _ ⟨_, _, _, aM, _, _, iX1, iM2, hR2, hX2, hM2, rfl, rfl, hAX1, hAM, hdis1, hS2⟩
set_option maxRecDepth 100000 in
set_option maxHeartbeats 8000000 in
theorem lc_31 (l : Launch) (S : CallFix p m c cL_law 4 s #[Value.ref b] wsL_law RL) (hY : va_X b L xs s s.heap) (hbl : b < s.heap.size) (hK : va_K D vwCl (tysG G) s) (hN : NW s) (hx0 : 0 ≤ x.toInt) (hx6 : x.toInt + 6 ≤ (L : Int)) (hL : L ≤ 3072) (hI : LInv s D G hx hm H locs) (hl : lv_has ls 4 [(3, .int x), (2, .ref hm), (1, .ref hx), (0, .ref b)]) (hc : cells + 40 ≤ 600000) (hsl : slots + 320 ≤ 7302249) (kk : ∀ (H : Heap) (locs : List Loc), LInv s D G hx hm H locs → W p l e room_1 s m #[Value.ref b] below meth c H locs (cells + 40) (slots + 320) Q (F0 m 1416 ls [])) : W p l e room_1 s m #[Value.ref b] below meth c H locs cells slots Q (F0 m 1367 ls []) := by
  have hbA : ¬ (fun q : Nat => s.heap.size ≤ q) b := Nat.not_le.mpr hbl
  obtain ⟨M, T, aX, aM, d, τ, iX, iM, hR, hX, hM, h0X, h0M, hAX, hAM, hdis, hS⟩ := hI
  subst h0X
  subst h0M
  refine lv_aload_n S.1 S.2.1 dL_law_1367 rfl (lv_at hl 2 rfl) ?_
  refine W.widen (k := cells + 40) (n := slots + 320) (by omega) (by omega) ?_
  refine cPV (rest := []) S (c_X4_trace l D G M T aX d) gV_RL_145 ds_X4_trace ⟨rfl, rfl⟩ ⟨Nat.le_of_ble_eq_true rfl, Nat.le_of_ble_eq_true rfl⟩ ⟨blindX, recvX hK hX (k := 0) (i := 0) Nat.zero_lt_one rfl rfl, preX hK hN hX _⟩ rfl hl.1 rfl (Nat.le_of_ble_eq_true rfl) ⟨hc, hsl⟩ dL_law_1368 ?_
  obtain ⟨M1, eM1⟩ : ∃ z, z = M := ⟨_, rfl⟩
  subst eM1
  obtain ⟨T1, eT1⟩ : ∃ z, z = T := ⟨_, rfl⟩
  subst eT1
  obtain ⟨aX1, eaX1⟩ : ∃ z, z = aX := ⟨_, rfl⟩
  subst eaX1
  have hX1 := hX
  have hM1 := hM
  have iX1 := iX
  have hAX1 := hAX
  have hdis1 := hdis
  have hS1 := hS
  refine lv_pop S.1 S.2.1 dL_law_1371 rfl ?_
  refine lv_aload_n S.1 S.2.1 dL_law_1372 rfl (lv_at hl 1 rfl) ?_
  refine cPV (rest := []) S (c_X5_trace l D G aM τ) gV_RL_149 ds_X5_trace ⟨rfl, rfl⟩ ⟨Nat.le_of_ble_eq_true rfl, Nat.le_of_ble_eq_true rfl⟩ ⟨blindX, recvX hK hM1 (k := 0) (i := 0) Nat.zero_lt_one rfl rfl, preX hK hN hM1 _⟩ rfl hl.1 rfl (Nat.le_of_ble_eq_true rfl) ⟨hc, hsl⟩ dL_law_1373 ?_
  have hX2 := hX1
  have hM2 := hM1
  have iM2 := iM
  have hS2 := hS1
  refine lv_pop S.1 S.2.1 dL_law_1376 rfl ?_
  refine lv_goto (tgt := 1416) S.1 S.2.1 dL_law_1377 (by decide) ?_
  have hR2 := hR
  exact kk _ _ ⟨_, _, _, aM, _, _, iX1, iM2, hR2, hX2, hM2, rfl, rfl, hAX1, hAM, hdis1, hS2⟩
set_option maxRecDepth 100000 in
set_option maxHeartbeats 8000000 in
theorem lc_32 (l : Launch) (S : CallFix p m c cL_law 4 s #[Value.ref b] wsL_law RL) (hY : va_X b L xs s s.heap) (hbl : b < s.heap.size) (hK : va_K D vwCl (tysG G) s) (hN : NW s) (hx0 : 0 ≤ x.toInt) (hx6 : x.toInt + 6 ≤ (L : Int)) (hL : L ≤ 3072) (hI : LInv s D G hx hm H locs) (hl : lv_has ls 4 [(3, .int x), (2, .ref hm), (1, .ref hx), (0, .ref b)]) (hc : cells + 40 ≤ 600000) (hsl : slots + 320 ≤ 7302249) (kk : ∀ (H : Heap) (locs : List Loc), LInv s D G hx hm H locs → W p l e room_1 s m #[Value.ref b] below meth c H locs (cells + 40) (slots + 320) Q (F0 m 1416 ls [])) : W p l e room_1 s m #[Value.ref b] below meth c H locs cells slots Q (F0 m 1380 ls []) := by
  have hbA : ¬ (fun q : Nat => s.heap.size ≤ q) b := Nat.not_le.mpr hbl
  obtain ⟨M, T, aX, aM, d, τ, iX, iM, hR, hX, hM, h0X, h0M, hAX, hAM, hdis, hS⟩ := hI
  subst h0X
  subst h0M
  refine lv_aload_n S.1 S.2.1 dL_law_1380 rfl (lv_at hl 2 rfl) ?_
  refine W.widen (k := cells + 40) (n := slots + 320) (by omega) (by omega) ?_
  refine cPV (rest := []) S (c_X4_fault l D G M T aX d) gV_RL_150 ds_X4_fault ⟨rfl, rfl⟩ ⟨Nat.le_of_ble_eq_true rfl, Nat.le_of_ble_eq_true rfl⟩ ⟨blindX, recvX hK hX (k := 0) (i := 0) Nat.zero_lt_one rfl rfl, preX hK hN hX _⟩ rfl hl.1 rfl (Nat.le_of_ble_eq_true rfl) ⟨hc, hsl⟩ dL_law_1381 ?_
  obtain ⟨M1, eM1⟩ : ∃ z, z = M := ⟨_, rfl⟩
  subst eM1
  obtain ⟨T1, eT1⟩ : ∃ z, z = T := ⟨_, rfl⟩
  subst eT1
  obtain ⟨aX1, eaX1⟩ : ∃ z, z = aX := ⟨_, rfl⟩
  subst eaX1
  have hX1 := hX
  have hM1 := hM
  have iX1 := iX
  have hAX1 := hAX
  have hdis1 := hdis
  have hS1 := hS
  refine lv_pop S.1 S.2.1 dL_law_1384 rfl ?_
  refine lv_aload_n S.1 S.2.1 dL_law_1385 rfl (lv_at hl 1 rfl) ?_
  refine cPV (rest := []) S (c_X5_fault l D G aM τ) gV_RL_153 ds_X5_fault ⟨rfl, rfl⟩ ⟨Nat.le_of_ble_eq_true rfl, Nat.le_of_ble_eq_true rfl⟩ ⟨blindX, recvX hK hM1 (k := 0) (i := 0) Nat.zero_lt_one rfl rfl, preX hK hN hM1 _⟩ rfl hl.1 rfl (Nat.le_of_ble_eq_true rfl) ⟨hc, hsl⟩ dL_law_1386 ?_
  have hX2 := hX1
  have hM2 := hM1
  have iM2 := iM
  have hS2 := hS1
  refine lv_pop S.1 S.2.1 dL_law_1389 rfl ?_
  refine lv_goto (tgt := 1416) S.1 S.2.1 dL_law_1390 (by decide) ?_
  have hR2 := hR
  exact kk _ _ ⟨_, _, _, aM, _, _, iX1, iM2, hR2, hX2, hM2, rfl, rfl, hAX1, hAM, hdis1, hS2⟩
set_option maxRecDepth 100000 in
set_option maxHeartbeats 8000000 in
theorem lc_33 (l : Launch) (S : CallFix p m c cL_law 4 s #[Value.ref b] wsL_law RL) (hY : va_X b L xs s s.heap) (hbl : b < s.heap.size) (hK : va_K D vwCl (tysG G) s) (hN : NW s) (hx0 : 0 ≤ x.toInt) (hx6 : x.toInt + 6 ≤ (L : Int)) (hL : L ≤ 3072) (hI : LInv s D G hx hm H locs) (hl : lv_has ls 4 [(3, .int x), (2, .ref hm), (1, .ref hx), (0, .ref b)]) (hc : cells + 40 ≤ 600000) (hsl : slots + 320 ≤ 7302249) (kk : ∀ (H : Heap) (locs : List Loc), LInv s D G hx hm H locs → W p l e room_1 s m #[Value.ref b] below meth c H locs (cells + 40) (slots + 320) Q (F0 m 1416 ls [])) : W p l e room_1 s m #[Value.ref b] below meth c H locs cells slots Q (F0 m 1393 ls []) := by
  have hbA : ¬ (fun q : Nat => s.heap.size ≤ q) b := Nat.not_le.mpr hbl
  obtain ⟨M, T, aX, aM, d, τ, iX, iM, hR, hX, hM, h0X, h0M, hAX, hAM, hdis, hS⟩ := hI
  subst h0X
  subst h0M
  refine lv_aload_n S.1 S.2.1 dL_law_1393 rfl (lv_at hl 2 rfl) ?_
  refine lv_aload_n S.1 S.2.1 dL_law_1394 rfl (lv_at hl 3 rfl) ?_
  refine lv_iload_n S.1 S.2.1 dL_law_1395 rfl (lv_at hl 0 rfl) ?_
  refine lv_iconst (v := 1) S.1 S.2.1 dL_law_1396 (by decide) ?_
  refine lv_iadd S.1 S.2.1 dL_law_1397 ?_
  refine va_sld S.1 S.2.1 hY hbl hbA hS (i := x + 1) (vinx (z := 1) rfl (by decide) (by decide) hx0 hx6 hL) dL_law_1398 ?_
  refine W.widen (k := cells + 40) (n := slots + 320) (by omega) (by omega) ?_
  refine cPV (rest := []) S (c_X4_told l D G M T aX d (xs (Int32.toNatClampNeg (x + 1))) iX) gV_RL_154 ds_X4_told ⟨rfl, rfl⟩ ⟨Nat.le_of_ble_eq_true rfl, Nat.le_of_ble_eq_true rfl⟩ ⟨blindX, recvX hK hX (k := 0) (i := 0) Nat.zero_lt_one rfl rfl, preX hK hN hX _⟩ rfl hl.1 rfl (Nat.le_of_ble_eq_true rfl) ⟨hc, hsl⟩ dL_law_1399 ?_
  obtain ⟨M1, eM1⟩ : ∃ z, z = M := ⟨_, rfl⟩
  subst eM1
  obtain ⟨T1, eT1⟩ : ∃ z, z = T := ⟨_, rfl⟩
  subst eT1
  obtain ⟨aX1, eaX1⟩ : ∃ z, z = aX := ⟨_, rfl⟩
  subst eaX1
  have hX1 := hX
  have hM1 := hM
  have iX1 := iX
  have hAX1 := hAX
  have hdis1 := hdis
  have hS1 := hS
  refine lv_aload_n S.1 S.2.1 dL_law_1402 rfl (lv_at hl 1 rfl) ?_
  refine lv_aload_n S.1 S.2.1 dL_law_1403 rfl (lv_at hl 3 rfl) ?_
  refine lv_iload_n S.1 S.2.1 dL_law_1404 rfl (lv_at hl 0 rfl) ?_
  refine lv_iconst (v := 1) S.1 S.2.1 dL_law_1405 (by decide) ?_
  refine lv_iadd S.1 S.2.1 dL_law_1406 ?_
  refine va_sld S.1 S.2.1 hY hbl hbA hS1 (i := x + 1) (vinx (z := 1) rfl (by decide) (by decide) hx0 hx6 hL) dL_law_1407 ?_
  refine cPV (rest := [.int (sp_X4_told d (xs (Int32.toNatClampNeg (x + 1))))]) S (c_X5_told l D G aM τ (xs (Int32.toNatClampNeg (x + 1))) iM) gV_RL_157 ds_X5_told ⟨rfl, rfl⟩ ⟨Nat.le_of_ble_eq_true rfl, Nat.le_of_ble_eq_true rfl⟩ ⟨blindX, recvX hK hM1 (k := 0) (i := 0) Nat.zero_lt_one rfl rfl, preX hK hN hM1 _⟩ rfl hl.1 rfl (Nat.le_of_ble_eq_true rfl) ⟨hc, hsl⟩ dL_law_1408 ?_
  have hX2 := hX1
  have hM2 := hM1
  have iM2 := iM
  have hS2 := hS1
  refine lv_icmp_eq (tgt := 1416) S.1 S.2.1 dL_law_1411 (by decide) (fun _ => ?_) (fun z => absurd (a2_told hR iX (xs (Int32.toNatClampNeg (x + 1)))) z)
  have hR2 := hR
  exact kk _ _ ⟨_, _, _, aM, _, _, iX1, iM2, hR2, hX2, hM2, rfl, rfl, hAX1, hAM, hdis1, hS2⟩
set_option maxRecDepth 100000 in
set_option maxHeartbeats 8000000 in
theorem law_switch (l : Launch) (S : CallFix p m c cL_law 4 s #[Value.ref b] wsL_law RL) (hY : va_X b L xs s s.heap) (hbl : b < s.heap.size) (hK : va_K D vwCl (tysG G) s) (hN : NW s) (hx0 : 0 ≤ x.toInt) (hx6 : x.toInt + 6 ≤ (L : Int)) (hL : L ≤ 3072) (hI : LInv s D G hx hm H locs) (hl : lv_has ls 4 [(3, .int x), (2, .ref hm), (1, .ref hx), (0, .ref b)]) (hc : cells + 40 ≤ 600000) (hsl : slots + 320 ≤ 7302249) (kk : ∀ (H : Heap) (locs : List Loc), LInv s D G hx hm H locs → W p l e room_1 s m #[Value.ref b] below meth c H locs (cells + 40) (slots + 320) Q (F0 m 1416 ls [])) (v : Int32) : W p l e room_1 s m #[Value.ref b] below meth c H locs cells slots Q (F0 m 33 ls [.int v]) := by
  by_cases h1 : v.toInt < 0 ∨ 33 < v.toInt
  · refine lv_tableOut (tgt := 1416) S.1 S.2.1 dL_law_33 h1 (by decide) ?_
    exact W.widen (by omega) (by omega) (kk _ _ hI)
  · obtain ⟨k, hk, e1⟩ : ∃ k : Nat, k < 34 ∧ v.toInt = (k : Int) := ⟨v.toInt.toNat, by omega, by omega⟩
    match k, hk, e1 with
    | 0, _, e1 => exact lv_tableIn (tgt := 184) (off := 151) S.1 S.2.1 dL_law_33 (by rw [e1]; decide) (by rw [e1]; decide) (by rw [e1]; rfl) (by decide) (lc_0 l S hY hbl hK hN hx0 hx6 hL hI hl hc hsl kk)
    | 1, _, e1 => exact lv_tableIn (tgt := 207) (off := 174) S.1 S.2.1 dL_law_33 (by rw [e1]; decide) (by rw [e1]; decide) (by rw [e1]; rfl) (by decide) (lc_1 l S hY hbl hK hN hx0 hx6 hL hI hl hc hsl kk)
    | 2, _, e1 => exact lv_tableIn (tgt := 260) (off := 227) S.1 S.2.1 dL_law_33 (by rw [e1]; decide) (by rw [e1]; decide) (by rw [e1]; rfl) (by decide) (lc_2 l S hY hbl hK hN hx0 hx6 hL hI hl hc hsl kk)
    | 3, _, e1 => exact lv_tableIn (tgt := 303) (off := 270) S.1 S.2.1 dL_law_33 (by rw [e1]; decide) (by rw [e1]; decide) (by rw [e1]; rfl) (by decide) (lc_3 l S hY hbl hK hN hx0 hx6 hL hI hl hc hsl kk)
    | 4, _, e1 => exact lv_tableIn (tgt := 336) (off := 303) S.1 S.2.1 dL_law_33 (by rw [e1]; decide) (by rw [e1]; decide) (by rw [e1]; rfl) (by decide) (lc_4 l S hY hbl hK hN hx0 hx6 hL hI hl hc hsl kk)
    | 5, _, e1 => exact lv_tableIn (tgt := 389) (off := 356) S.1 S.2.1 dL_law_33 (by rw [e1]; decide) (by rw [e1]; decide) (by rw [e1]; rfl) (by decide) (lc_5 l S hY hbl hK hN hx0 hx6 hL hI hl hc hsl kk)
    | 6, _, e1 => exact lv_tableIn (tgt := 432) (off := 399) S.1 S.2.1 dL_law_33 (by rw [e1]; decide) (by rw [e1]; decide) (by rw [e1]; rfl) (by decide) (lc_6 l S hY hbl hK hN hx0 hx6 hL hI hl hc hsl kk)
    | 7, _, e1 => exact lv_tableIn (tgt := 475) (off := 442) S.1 S.2.1 dL_law_33 (by rw [e1]; decide) (by rw [e1]; decide) (by rw [e1]; rfl) (by decide) (lc_7 l S hY hbl hK hN hx0 hx6 hL hI hl hc hsl kk)
    | 8, _, e1 => exact lv_tableIn (tgt := 498) (off := 465) S.1 S.2.1 dL_law_33 (by rw [e1]; decide) (by rw [e1]; decide) (by rw [e1]; rfl) (by decide) (lc_8 l S hY hbl hK hN hx0 hx6 hL hI hl hc hsl kk)
    | 9, _, e1 => exact lv_tableIn (tgt := 521) (off := 488) S.1 S.2.1 dL_law_33 (by rw [e1]; decide) (by rw [e1]; decide) (by rw [e1]; rfl) (by decide) (lc_9 l S hY hbl hK hN hx0 hx6 hL hI hl hc hsl kk)
    | 10, _, e1 => exact lv_tableIn (tgt := 574) (off := 541) S.1 S.2.1 dL_law_33 (by rw [e1]; decide) (by rw [e1]; decide) (by rw [e1]; rfl) (by decide) (lc_10 l S hY hbl hK hN hx0 hx6 hL hI hl hc hsl kk)
    | 11, _, e1 => exact lv_tableIn (tgt := 607) (off := 574) S.1 S.2.1 dL_law_33 (by rw [e1]; decide) (by rw [e1]; decide) (by rw [e1]; rfl) (by decide) (lc_11 l S hY hbl hK hN hx0 hx6 hL hI hl hc hsl kk)
    | 12, _, e1 => exact lv_tableIn (tgt := 650) (off := 617) S.1 S.2.1 dL_law_33 (by rw [e1]; decide) (by rw [e1]; decide) (by rw [e1]; rfl) (by decide) (lc_12 l S hY hbl hK hN hx0 hx6 hL hI hl hc hsl kk)
    | 13, _, e1 => exact lv_tableIn (tgt := 683) (off := 650) S.1 S.2.1 dL_law_33 (by rw [e1]; decide) (by rw [e1]; decide) (by rw [e1]; rfl) (by decide) (lc_13 l S hY hbl hK hN hx0 hx6 hL hI hl hc hsl kk)
    | 14, _, e1 => exact lv_tableIn (tgt := 706) (off := 673) S.1 S.2.1 dL_law_33 (by rw [e1]; decide) (by rw [e1]; decide) (by rw [e1]; rfl) (by decide) (lc_14 l S hY hbl hK hN hx0 hx6 hL hI hl hc hsl kk)
    | 15, _, e1 => exact lv_tableIn (tgt := 749) (off := 716) S.1 S.2.1 dL_law_33 (by rw [e1]; decide) (by rw [e1]; decide) (by rw [e1]; rfl) (by decide) (lc_15 l S hY hbl hK hN hx0 hx6 hL hI hl hc hsl kk)
    | 16, _, e1 => exact lv_tableIn (tgt := 772) (off := 739) S.1 S.2.1 dL_law_33 (by rw [e1]; decide) (by rw [e1]; decide) (by rw [e1]; rfl) (by decide) (lc_16 l S hY hbl hK hN hx0 hx6 hL hI hl hc hsl kk)
    | 17, _, e1 => exact lv_tableIn (tgt := 815) (off := 782) S.1 S.2.1 dL_law_33 (by rw [e1]; decide) (by rw [e1]; decide) (by rw [e1]; rfl) (by decide) (lc_17 l S hY hbl hK hN hx0 hx6 hL hI hl hc hsl kk)
    | 18, _, e1 => exact lv_tableIn (tgt := 848) (off := 815) S.1 S.2.1 dL_law_33 (by rw [e1]; decide) (by rw [e1]; decide) (by rw [e1]; rfl) (by decide) (lc_18 l S hY hbl hK hN hx0 hx6 hL hI hl hc hsl kk)
    | 19, _, e1 => exact lv_tableIn (tgt := 881) (off := 848) S.1 S.2.1 dL_law_33 (by rw [e1]; decide) (by rw [e1]; decide) (by rw [e1]; rfl) (by decide) (lc_19 l S hY hbl hK hN hx0 hx6 hL hI hl hc hsl kk)
    | 20, _, e1 => exact lv_tableIn (tgt := 934) (off := 901) S.1 S.2.1 dL_law_33 (by rw [e1]; decide) (by rw [e1]; decide) (by rw [e1]; rfl) (by decide) (lc_20 l S hY hbl hK hN hx0 hx6 hL hI hl hc hsl kk)
    | 21, _, e1 => exact lv_tableIn (tgt := 967) (off := 934) S.1 S.2.1 dL_law_33 (by rw [e1]; decide) (by rw [e1]; decide) (by rw [e1]; rfl) (by decide) (lc_21 l S hY hbl hK hN hx0 hx6 hL hI hl hc hsl kk)
    | 22, _, e1 => exact lv_tableIn (tgt := 1010) (off := 977) S.1 S.2.1 dL_law_33 (by rw [e1]; decide) (by rw [e1]; decide) (by rw [e1]; rfl) (by decide) (lc_22 l S hY hbl hK hN hx0 hx6 hL hI hl hc hsl kk)
    | 23, _, e1 => exact lv_tableIn (tgt := 1053) (off := 1020) S.1 S.2.1 dL_law_33 (by rw [e1]; decide) (by rw [e1]; decide) (by rw [e1]; rfl) (by decide) (lc_23 l S hY hbl hK hN hx0 hx6 hL hI hl hc hsl kk)
    | 24, _, e1 => exact lv_tableIn (tgt := 1076) (off := 1043) S.1 S.2.1 dL_law_33 (by rw [e1]; decide) (by rw [e1]; decide) (by rw [e1]; rfl) (by decide) (lc_24 l S hY hbl hK hN hx0 hx6 hL hI hl hc hsl kk)
    | 25, _, e1 => exact lv_tableIn (tgt := 1119) (off := 1086) S.1 S.2.1 dL_law_33 (by rw [e1]; decide) (by rw [e1]; decide) (by rw [e1]; rfl) (by decide) (lc_25 l S hY hbl hK hN hx0 hx6 hL hI hl hc hsl kk)
    | 26, _, e1 => exact lv_tableIn (tgt := 1162) (off := 1129) S.1 S.2.1 dL_law_33 (by rw [e1]; decide) (by rw [e1]; decide) (by rw [e1]; rfl) (by decide) (lc_26 l S hY hbl hK hN hx0 hx6 hL hI hl hc hsl kk)
    | 27, _, e1 => exact lv_tableIn (tgt := 1225) (off := 1192) S.1 S.2.1 dL_law_33 (by rw [e1]; decide) (by rw [e1]; decide) (by rw [e1]; rfl) (by decide) (lc_27 l S hY hbl hK hN hx0 hx6 hL hI hl hc hsl kk)
    | 28, _, e1 => exact lv_tableIn (tgt := 1288) (off := 1255) S.1 S.2.1 dL_law_33 (by rw [e1]; decide) (by rw [e1]; decide) (by rw [e1]; rfl) (by decide) (lc_28 l S hY hbl hK hN hx0 hx6 hL hI hl hc hsl kk)
    | 29, _, e1 => exact lv_tableIn (tgt := 1311) (off := 1278) S.1 S.2.1 dL_law_33 (by rw [e1]; decide) (by rw [e1]; decide) (by rw [e1]; rfl) (by decide) (lc_29 l S hY hbl hK hN hx0 hx6 hL hI hl hc hsl kk)
    | 30, _, e1 => exact lv_tableIn (tgt := 1334) (off := 1301) S.1 S.2.1 dL_law_33 (by rw [e1]; decide) (by rw [e1]; decide) (by rw [e1]; rfl) (by decide) (lc_30 l S hY hbl hK hN hx0 hx6 hL hI hl hc hsl kk)
    | 31, _, e1 => exact lv_tableIn (tgt := 1367) (off := 1334) S.1 S.2.1 dL_law_33 (by rw [e1]; decide) (by rw [e1]; decide) (by rw [e1]; rfl) (by decide) (lc_31 l S hY hbl hK hN hx0 hx6 hL hI hl hc hsl kk)
    | 32, _, e1 => exact lv_tableIn (tgt := 1380) (off := 1347) S.1 S.2.1 dL_law_33 (by rw [e1]; decide) (by rw [e1]; decide) (by rw [e1]; rfl) (by decide) (lc_32 l S hY hbl hK hN hx0 hx6 hL hI hl hc hsl kk)
    | 33, _, e1 => exact lv_tableIn (tgt := 1393) (off := 1360) S.1 S.2.1 dL_law_33 (by rw [e1]; decide) (by rw [e1]; decide) (by rw [e1]; rfl) (by decide) (lc_33 l S hY hbl hK hN hx0 hx6 hL hI hl hc hsl kk)
    | n + 34, hk, _ => exact absurd hk (by omega)
set_option maxRecDepth 100000 in
set_option maxHeartbeats 8000000 in
theorem law_loop (l : Launch) (S : CallFix p m c cL_law 4 s #[Value.ref b] wsL_law RL) (hr : meth.sig.returnType = ret) (hlk : meth.locks = false) (hY : va_X b L xs s s.heap) (hbl : b < s.heap.size) (hK : va_K D vwCl (tysG G) s) (hN : NW s) (hL : L ≤ 3072) : ∀ (n j : Nat) (x : Int32) (H : Heap) (locs : List Loc) (ls : Array Slot), x.toInt = (6 * j : Nat) → 6 * j ≤ L → L < 6 * (j + n) → LInv s D G hx hm H locs → lv_has ls 4 [(3, .int x), (2, .ref hm), (1, .ref hx), (0, .ref b)] → W p l e room_1 s m #[Value.ref b] below meth c H locs (38 + 40 * j) (1303 + 320 * j) (lw_Z below #[Value.ref b] s) (F0 m 18 ls []) := by
  have hbA : ¬ (fun q : Nat => s.heap.size ≤ q) b := Nat.not_le.mpr hbl
  have e1 : (Int32.ofNat L).toInt = (L : Int) := nI_toInt (n := L) (by omega)
  have e6 : (6 : Int32).toInt = 6 := rfl
  have e2 : (Int32.ofNat L - 6).toInt = (L : Int) - 6 := by rw [ti_sub (by omega) (by omega), e1, e6]
  intro n
  induction n with
  | zero => intro j x H locs ls _ h1 h2; omega
  | succ n ih =>
    intro j x H locs ls hxj h1 h2 hI hl
    have hS : va_S (fun q => s.heap.size ≤ q) s.heap H locs := by
      obtain ⟨_, _, _, _, _, _, _, _, _, _, _, _, _, _, _, _, h⟩ := hI
      exact h
    refine lv_iload_n S.1 S.2.1 dL_law_18 rfl (lv_at hl 0 rfl) ?_
    refine lv_aload_n S.1 S.2.1 dL_law_19 rfl (lv_at hl 3 rfl) ?_
    refine va_slen S.1 S.2.1 hY hbl hbA hS dL_law_20 ?_
    refine lv_bipush (v := 6) S.1 S.2.1 dL_law_21 (by decide) ?_
    refine lv_isub S.1 S.2.1 dL_law_23 ?_
    refine q_icmp_gt (tgt := 1422) (xi := x.toInt) (yi := (L : Int) - 6) S rfl e2 dL_law_24 (by decide) (fun _ => ?_) (fun c6 => ?_)
    · refine lv_iconst (v := 1) S.1 S.2.1 dL_law_1422 (by decide) ?_
      refine va_forget (fun q hq => hS.2.2 q hq) ?_
      refine W.widen (k := 600000) (n := 7302249) (by omega) (by omega) ?_
      exact lw_ret S.1 S.2.1 hr hlk dL_law_1423
    · refine lv_aload_n S.1 S.2.1 dL_law_27 rfl (lv_at hl 3 rfl) ?_
      refine lv_iload_n S.1 S.2.1 dL_law_28 rfl (lv_at hl 0 rfl) ?_
      refine va_sld S.1 S.2.1 hY hbl hbA hS (i := x) (vi (by omega) (by omega)) dL_law_29 ?_
      refine lv_bipush (v := 63) S.1 S.2.1 dL_law_30 (by decide) ?_
      refine lv_iand S.1 S.2.1 dL_law_32 ?_
      refine law_switch l S hY hbl hK hN (x := x) (by omega) (by omega) hL hI hl (by omega) (by omega) (fun H locs hI => ?_) _
      have ex : (x + 6).toInt = (6 * (j + 1) : Nat) := by rw [ti_add (by omega) (by omega), e6]; omega
      refine lv_iinc (v := x + 6) (lv' := [(3, .int (x + 6)), (2, .ref hm), (1, .ref hx), (0, .ref b)]) S.1 S.2.1 dL_law_1416 hl (k := 0) rfl (by rfl) (by decide) rfl (fun ls hl => ?_)
      refine lv_goto (tgt := 18) S.1 S.2.1 dL_law_1419 (by decide) ?_
      exact ih (j + 1) (x + 6) H locs ls ex (by omega) (by omega) hI hl
end LAW
set_option maxRecDepth 100000 in
set_option maxHeartbeats 8000000 in
theorem whole_start {p : Program} {e : Env} {s : State} {m : MethodId} {below : List Frame} {meth : Method} {c : Code} (l : Launch) (hflags : l.flags = flags0) {b L : Nat} {xs : Nat → Int32} (hL : L ≤ 3072) (C0 : lw_At p s m meth c b L xs) : W p l e room_1 s m #[Value.ref b] below meth c s.heap [] 0 0 (lw_Z below #[Value.ref b] s) (entryFrame m ([Value.ref b] : List Value).toArray 4) := by
  obtain ⟨hx, hb, hr, hml, hown, hts, hY, hbl, hlk, hgv⟩ := C0
  have S : CallFix p m c cL_law 4 s #[Value.ref b] wsL_law RL := ⟨hx, hb, hml, hown, fun w hw => hts w (wsL_law_in w hw)⟩
  refine law_start l S hts (fun D G aX aM H locs ls hK hN hX hM hAX hAM hdis hS hl => ?_)
  exact law_loop l S hr hlk hY hbl hK hN hL (L / 6 + 1) 0 0 H locs ls rfl (by omega) (by omega) ⟨0, 0, aX, aM, d0X, d0M, xi0, mi0, r2_0, hX, hM, rfl, rfl, hAX, hAM, hdis, hS⟩ hl
