theorem vin6_0 : vp_in 0 6 := vi (by decide) (by decide)
theorem vin6_1 : vp_in 1 6 := vi (by decide) (by decide)
theorem vin6_2 : vp_in 2 6 := vi (by decide) (by decide)
theorem vin6_3 : vp_in 3 6 := vi (by decide) (by decide)
theorem vin6_4 : vp_in 4 6 := vi (by decide) (by decide)
theorem vin6_5 : vp_in 5 6 := vi (by decide) (by decide)
set_option maxRecDepth 100000 in
set_option maxHeartbeats 8000000 in
theorem lc_0 {p : Program} {e : Env} {s : State} {m : MethodId} {below : List Frame} {meth : Method} {c : Code} (l : Launch) {b : Nat} {xs : Nat → Int32} (S : CallFix p m c cL_law 4 s #[Value.ref b] wsL_law RL) (hY : va_X b 6 xs s s.heap) (hbl : b < s.heap.size) {Q : State → Prop} {D : va_G} {G : Gc} {aX aM : Nat → Nat → Nat} {H : Heap} {locs : List Loc} {ls : Array Slot} (hK : va_K D vwCl (tysG G) s) (hN : NW s) (hX : PIC D (XF G 0 0 aX) (XN 0 0) aX d0X H) (hM : PIC D (MF G aM) MN aM d0M H) (hAX : ∀ q, adS (XN 0 0) aX q → s.heap.size ≤ q) (hAM : ∀ q, adS MN aM q → s.heap.size ≤ q) (hdis : ∀ q, adS (XN 0 0) aX q → ¬ adS MN aM q) (hS : va_S (fun q => s.heap.size ≤ q) s.heap H locs) (hl : lv_has ls 4 [(3, .int 0), (2, .ref (aM 0 0)), (1, .ref (aX 0 0)), (0, .ref b)]) (kk : ∀ (H : Heap) (locs : List Loc), va_S (fun q => s.heap.size ≤ q) s.heap H locs → W p l e room_1 s m #[Value.ref b] below meth c H locs 43 1350 Q (F0 m 1422 ls [])) : W p l e room_1 s m #[Value.ref b] below meth c H locs 38 1303 Q (F0 m 184 ls []) := by
  have hbA : ¬ (fun q : Nat => s.heap.size ≤ q) b := Nat.not_le.mpr hbl
  refine lv_aload_n S.1 S.2.1 dL_law_184 rfl (lv_at hl 2 rfl) ?_
  refine lv_aload_n S.1 S.2.1 dL_law_185 rfl (lv_at hl 3 rfl) ?_
  refine lv_iload_n S.1 S.2.1 dL_law_186 rfl (lv_at hl 0 rfl) ?_
  refine lv_iconst (v := 1) S.1 S.2.1 dL_law_187 (by decide) ?_
  refine lv_iadd S.1 S.2.1 dL_law_188 (q_to (by decide : ((0 : Int32) + 1) = 1) ?_)
  refine va_sld S.1 S.2.1 hY hbl hbA hS (i := 1) vin6_1 dL_law_189 ?_
  refine cAV (rest := []) (A := fun q => s.heap.size ≤ q) S (c_X4_meter l D G 0 0 aX d0X H.size (xs (Int32.toNatClampNeg 1)) xi0) gV_RL_13 ds_X4_meter ⟨rfl, rfl⟩ ⟨Nat.le_of_ble_eq_true rfl, Nat.le_of_ble_eq_true rfl⟩ ⟨blindA, recvX hK hX (k := 0) (i := 0) Nat.zero_lt_one rfl rfl, preA hK hN hX _⟩ rfl hl.1 rfl (Nat.le_of_ble_eq_true rfl) ⟨Nat.le_of_ble_eq_true rfl, Nat.le_of_ble_eq_true rfl⟩ dL_law_190 hS hAX (fun _ h => h) (fun H1 locs1 M1 T1 a1 hX1 hI1 e1 s1 hS1 k1 => ?_)
  have hM1 := hM.kept (H1 := H1) (fun q hq => k1 q (hM.sz hq) (fun z => hdis q z hq))
  replace hM := hM1
  replace hS := hS1
  refine W.widen (k := 43) (n := 1350) (Nat.le_of_ble_eq_true rfl) (Nat.le_of_ble_eq_true rfl) ?_
  refine lv_aload_n S.1 S.2.1 dL_law_193 rfl (lv_at hl 1 rfl) ?_
  refine lv_aload_n S.1 S.2.1 dL_law_194 rfl (lv_at hl 3 rfl) ?_
  refine lv_iload_n S.1 S.2.1 dL_law_195 rfl (lv_at hl 0 rfl) ?_
  refine lv_iconst (v := 1) S.1 S.2.1 dL_law_196 (by decide) ?_
  refine lv_iadd S.1 S.2.1 dL_law_197 (q_to (by decide : ((0 : Int32) + 1) = 1) ?_)
  refine va_sld S.1 S.2.1 hY hbl hbA hS (i := 1) vin6_1 dL_law_198 ?_
  refine cWV (rest := [.int (sp_X4_meter d0X (xs (Int32.toNatClampNeg 1))).1]) (A := fun q => s.heap.size ≤ q) S (c_X5_meter l D G aM d0M (xs (Int32.toNatClampNeg 1)) mi0) gV_RL_17 ds_X5_meter ⟨rfl, rfl⟩ ⟨Nat.le_of_ble_eq_true rfl, Nat.le_of_ble_eq_true rfl⟩ ⟨blindX, recvX hK hM (k := 0) (i := 0) Nat.zero_lt_one rfl rfl, preX hK hN hM _⟩ rfl hl.1 rfl (Nat.le_of_ble_eq_true rfl) ⟨Nat.le_of_ble_eq_true rfl, Nat.le_of_ble_eq_true rfl⟩ dL_law_199 hS hAM (fun H1 locs1 hX1 hS1 k1 => ?_)
  replace hS := hS1
  refine lv_icmp_eq (tgt := 1422) S.1 S.2.1 dL_law_202 (by decide) (fun _ => ?_) (fun z => absurd (fe_meter (xs (Int32.toNatClampNeg 1))) z)
  refine W.widen (k := 43) (n := 1350) (Nat.le_of_ble_eq_true rfl) (Nat.le_of_ble_eq_true rfl) ?_
  exact kk _ _ hS
set_option maxRecDepth 100000 in
set_option maxHeartbeats 8000000 in
theorem lc_1 {p : Program} {e : Env} {s : State} {m : MethodId} {below : List Frame} {meth : Method} {c : Code} (l : Launch) {b : Nat} {xs : Nat → Int32} (S : CallFix p m c cL_law 4 s #[Value.ref b] wsL_law RL) (hY : va_X b 6 xs s s.heap) (hbl : b < s.heap.size) {Q : State → Prop} {D : va_G} {G : Gc} {aX aM : Nat → Nat → Nat} {H : Heap} {locs : List Loc} {ls : Array Slot} (hK : va_K D vwCl (tysG G) s) (hN : NW s) (hX : PIC D (XF G 0 0 aX) (XN 0 0) aX d0X H) (hM : PIC D (MF G aM) MN aM d0M H) (hAX : ∀ q, adS (XN 0 0) aX q → s.heap.size ≤ q) (hAM : ∀ q, adS MN aM q → s.heap.size ≤ q) (hdis : ∀ q, adS (XN 0 0) aX q → ¬ adS MN aM q) (hS : va_S (fun q => s.heap.size ≤ q) s.heap H locs) (hl : lv_has ls 4 [(3, .int 0), (2, .ref (aM 0 0)), (1, .ref (aX 0 0)), (0, .ref b)]) (kk : ∀ (H : Heap) (locs : List Loc), va_S (fun q => s.heap.size ≤ q) s.heap H locs → W p l e room_1 s m #[Value.ref b] below meth c H locs 43 1350 Q (F0 m 1422 ls [])) : W p l e room_1 s m #[Value.ref b] below meth c H locs 38 1303 Q (F0 m 207 ls []) := by
  have hbA : ¬ (fun q : Nat => s.heap.size ≤ q) b := Nat.not_le.mpr hbl
  refine lv_aload_n S.1 S.2.1 dL_law_207 rfl (lv_at hl 2 rfl) ?_
  refine lv_aload_n S.1 S.2.1 dL_law_208 rfl (lv_at hl 3 rfl) ?_
  refine lv_iload_n S.1 S.2.1 dL_law_209 rfl (lv_at hl 0 rfl) ?_
  refine lv_iconst (v := 1) S.1 S.2.1 dL_law_210 (by decide) ?_
  refine lv_iadd S.1 S.2.1 dL_law_211 (q_to (by decide : ((0 : Int32) + 1) = 1) ?_)
  refine va_sld S.1 S.2.1 hY hbl hbA hS (i := 1) vin6_1 dL_law_212 ?_
  refine lv_aload_n S.1 S.2.1 dL_law_213 rfl (lv_at hl 3 rfl) ?_
  refine lv_iload_n S.1 S.2.1 dL_law_214 rfl (lv_at hl 0 rfl) ?_
  refine lv_iconst (v := 2) S.1 S.2.1 dL_law_215 (by decide) ?_
  refine lv_iadd S.1 S.2.1 dL_law_216 (q_to (by decide : ((0 : Int32) + 2) = 2) ?_)
  refine va_sld S.1 S.2.1 hY hbl hbA hS (i := 2) vin6_2 dL_law_217 ?_
  refine lv_aload_n S.1 S.2.1 dL_law_218 rfl (lv_at hl 3 rfl) ?_
  refine lv_iload_n S.1 S.2.1 dL_law_219 rfl (lv_at hl 0 rfl) ?_
  refine lv_iconst (v := 3) S.1 S.2.1 dL_law_220 (by decide) ?_
  refine lv_iadd S.1 S.2.1 dL_law_221 (q_to (by decide : ((0 : Int32) + 3) = 3) ?_)
  refine va_sld S.1 S.2.1 hY hbl hbA hS (i := 3) vin6_3 dL_law_222 ?_
  refine lv_aload_n S.1 S.2.1 dL_law_223 rfl (lv_at hl 3 rfl) ?_
  refine lv_iload_n S.1 S.2.1 dL_law_224 rfl (lv_at hl 0 rfl) ?_
  refine lv_iconst (v := 4) S.1 S.2.1 dL_law_225 (by decide) ?_
  refine lv_iadd S.1 S.2.1 dL_law_226 (q_to (by decide : ((0 : Int32) + 4) = 4) ?_)
  refine va_sld S.1 S.2.1 hY hbl hbA hS (i := 4) vin6_4 dL_law_227 ?_
  refine cWV (rest := []) (A := fun q => s.heap.size ≤ q) S (c_X4_factor l D G 0 0 aX d0X (xs (Int32.toNatClampNeg 1)) (xs (Int32.toNatClampNeg 2)) (xs (Int32.toNatClampNeg 3)) (xs (Int32.toNatClampNeg 4)) xi0) gV_RL_18 ds_X4_factor ⟨rfl, rfl⟩ ⟨Nat.le_of_ble_eq_true rfl, Nat.le_of_ble_eq_true rfl⟩ ⟨blindX, recvX hK hX (k := 0) (i := 0) Nat.zero_lt_one rfl rfl, preX hK hN hX _⟩ rfl hl.1 rfl (Nat.le_of_ble_eq_true rfl) ⟨Nat.le_of_ble_eq_true rfl, Nat.le_of_ble_eq_true rfl⟩ dL_law_228 hS hAX (fun H1 locs1 hX1 hS1 k1 => ?_)
  have hM1 := hM.kept (H1 := H1) (fun q hq => k1 q (hM.sz hq) (fun z => hdis q z hq))
  replace hM := hM1
  replace hS := hS1
  refine lv_aload_n S.1 S.2.1 dL_law_231 rfl (lv_at hl 1 rfl) ?_
  refine lv_aload_n S.1 S.2.1 dL_law_232 rfl (lv_at hl 3 rfl) ?_
  refine lv_iload_n S.1 S.2.1 dL_law_233 rfl (lv_at hl 0 rfl) ?_
  refine lv_iconst (v := 1) S.1 S.2.1 dL_law_234 (by decide) ?_
  refine lv_iadd S.1 S.2.1 dL_law_235 (q_to (by decide : ((0 : Int32) + 1) = 1) ?_)
  refine va_sld S.1 S.2.1 hY hbl hbA hS (i := 1) vin6_1 dL_law_236 ?_
  refine lv_aload_n S.1 S.2.1 dL_law_237 rfl (lv_at hl 3 rfl) ?_
  refine lv_iload_n S.1 S.2.1 dL_law_238 rfl (lv_at hl 0 rfl) ?_
  refine lv_iconst (v := 2) S.1 S.2.1 dL_law_239 (by decide) ?_
  refine lv_iadd S.1 S.2.1 dL_law_240 (q_to (by decide : ((0 : Int32) + 2) = 2) ?_)
  refine va_sld S.1 S.2.1 hY hbl hbA hS (i := 2) vin6_2 dL_law_241 ?_
  refine lv_aload_n S.1 S.2.1 dL_law_242 rfl (lv_at hl 3 rfl) ?_
  refine lv_iload_n S.1 S.2.1 dL_law_243 rfl (lv_at hl 0 rfl) ?_
  refine lv_iconst (v := 3) S.1 S.2.1 dL_law_244 (by decide) ?_
  refine lv_iadd S.1 S.2.1 dL_law_245 (q_to (by decide : ((0 : Int32) + 3) = 3) ?_)
  refine va_sld S.1 S.2.1 hY hbl hbA hS (i := 3) vin6_3 dL_law_246 ?_
  refine lv_aload_n S.1 S.2.1 dL_law_247 rfl (lv_at hl 3 rfl) ?_
  refine lv_iload_n S.1 S.2.1 dL_law_248 rfl (lv_at hl 0 rfl) ?_
  refine lv_iconst (v := 4) S.1 S.2.1 dL_law_249 (by decide) ?_
  refine lv_iadd S.1 S.2.1 dL_law_250 (q_to (by decide : ((0 : Int32) + 4) = 4) ?_)
  refine va_sld S.1 S.2.1 hY hbl hbA hS (i := 4) vin6_4 dL_law_251 ?_
  refine cWV (rest := [.int (sp_X4_factor d0X (xs (Int32.toNatClampNeg 1)) (xs (Int32.toNatClampNeg 2)) (xs (Int32.toNatClampNeg 3)) (xs (Int32.toNatClampNeg 4))).1]) (A := fun q => s.heap.size ≤ q) S (c_X5_factor l D G aM d0M (xs (Int32.toNatClampNeg 1)) (xs (Int32.toNatClampNeg 2)) (xs (Int32.toNatClampNeg 3)) (xs (Int32.toNatClampNeg 4)) mi0) gV_RL_22 ds_X5_factor ⟨rfl, rfl⟩ ⟨Nat.le_of_ble_eq_true rfl, Nat.le_of_ble_eq_true rfl⟩ ⟨blindX, recvX hK hM (k := 0) (i := 0) Nat.zero_lt_one rfl rfl, preX hK hN hM _⟩ rfl hl.1 rfl (Nat.le_of_ble_eq_true rfl) ⟨Nat.le_of_ble_eq_true rfl, Nat.le_of_ble_eq_true rfl⟩ dL_law_252 hS hAM (fun H1 locs1 hX1 hS1 k1 => ?_)
  replace hS := hS1
  refine lv_icmp_eq (tgt := 1422) S.1 S.2.1 dL_law_255 (by decide) (fun _ => ?_) (fun z => absurd (fe_factor (xs (Int32.toNatClampNeg 1)) (xs (Int32.toNatClampNeg 2)) (xs (Int32.toNatClampNeg 3)) (xs (Int32.toNatClampNeg 4))) z)
  refine W.widen (k := 43) (n := 1350) (Nat.le_of_ble_eq_true rfl) (Nat.le_of_ble_eq_true rfl) ?_
  exact kk _ _ hS
set_option maxRecDepth 100000 in
set_option maxHeartbeats 8000000 in
theorem lc_2 {p : Program} {e : Env} {s : State} {m : MethodId} {below : List Frame} {meth : Method} {c : Code} (l : Launch) {b : Nat} {xs : Nat → Int32} (S : CallFix p m c cL_law 4 s #[Value.ref b] wsL_law RL) (hY : va_X b 6 xs s s.heap) (hbl : b < s.heap.size) {Q : State → Prop} {D : va_G} {G : Gc} {aX aM : Nat → Nat → Nat} {H : Heap} {locs : List Loc} {ls : Array Slot} (hK : va_K D vwCl (tysG G) s) (hN : NW s) (hX : PIC D (XF G 0 0 aX) (XN 0 0) aX d0X H) (hM : PIC D (MF G aM) MN aM d0M H) (hAX : ∀ q, adS (XN 0 0) aX q → s.heap.size ≤ q) (hAM : ∀ q, adS MN aM q → s.heap.size ≤ q) (hdis : ∀ q, adS (XN 0 0) aX q → ¬ adS MN aM q) (hS : va_S (fun q => s.heap.size ≤ q) s.heap H locs) (hl : lv_has ls 4 [(3, .int 0), (2, .ref (aM 0 0)), (1, .ref (aX 0 0)), (0, .ref b)]) (kk : ∀ (H : Heap) (locs : List Loc), va_S (fun q => s.heap.size ≤ q) s.heap H locs → W p l e room_1 s m #[Value.ref b] below meth c H locs 43 1350 Q (F0 m 1422 ls [])) : W p l e room_1 s m #[Value.ref b] below meth c H locs 38 1303 Q (F0 m 260 ls []) := by
  have hbA : ¬ (fun q : Nat => s.heap.size ≤ q) b := Nat.not_le.mpr hbl
  refine lv_aload_n S.1 S.2.1 dL_law_260 rfl (lv_at hl 2 rfl) ?_
  refine lv_aload_n S.1 S.2.1 dL_law_261 rfl (lv_at hl 3 rfl) ?_
  refine lv_iload_n S.1 S.2.1 dL_law_262 rfl (lv_at hl 0 rfl) ?_
  refine lv_iconst (v := 1) S.1 S.2.1 dL_law_263 (by decide) ?_
  refine lv_iadd S.1 S.2.1 dL_law_264 (q_to (by decide : ((0 : Int32) + 1) = 1) ?_)
  refine va_sld S.1 S.2.1 hY hbl hbA hS (i := 1) vin6_1 dL_law_265 ?_
  refine lv_aload_n S.1 S.2.1 dL_law_266 rfl (lv_at hl 3 rfl) ?_
  refine lv_iload_n S.1 S.2.1 dL_law_267 rfl (lv_at hl 0 rfl) ?_
  refine lv_iconst (v := 2) S.1 S.2.1 dL_law_268 (by decide) ?_
  refine lv_iadd S.1 S.2.1 dL_law_269 (q_to (by decide : ((0 : Int32) + 2) = 2) ?_)
  refine va_sld S.1 S.2.1 hY hbl hbA hS (i := 2) vin6_2 dL_law_270 ?_
  refine lv_aload_n S.1 S.2.1 dL_law_271 rfl (lv_at hl 3 rfl) ?_
  refine lv_iload_n S.1 S.2.1 dL_law_272 rfl (lv_at hl 0 rfl) ?_
  refine lv_iconst (v := 3) S.1 S.2.1 dL_law_273 (by decide) ?_
  refine lv_iadd S.1 S.2.1 dL_law_274 (q_to (by decide : ((0 : Int32) + 3) = 3) ?_)
  refine va_sld S.1 S.2.1 hY hbl hbA hS (i := 3) vin6_3 dL_law_275 ?_
  refine cPV (rest := []) S (c_X4_at l D G 0 0 aX d0X (xs (Int32.toNatClampNeg 1)) (xs (Int32.toNatClampNeg 2)) (xs (Int32.toNatClampNeg 3)) xi0) gV_RL_23 ds_X4_at ⟨rfl, rfl⟩ ⟨Nat.le_of_ble_eq_true rfl, Nat.le_of_ble_eq_true rfl⟩ ⟨blindX, recvX hK hX (k := 0) (i := 0) Nat.zero_lt_one rfl rfl, preX hK hN hX _⟩ rfl hl.1 rfl (Nat.le_of_ble_eq_true rfl) ⟨Nat.le_of_ble_eq_true rfl, Nat.le_of_ble_eq_true rfl⟩ dL_law_276 ?_
  refine lv_aload_n S.1 S.2.1 dL_law_279 rfl (lv_at hl 1 rfl) ?_
  refine lv_aload_n S.1 S.2.1 dL_law_280 rfl (lv_at hl 3 rfl) ?_
  refine lv_iload_n S.1 S.2.1 dL_law_281 rfl (lv_at hl 0 rfl) ?_
  refine lv_iconst (v := 1) S.1 S.2.1 dL_law_282 (by decide) ?_
  refine lv_iadd S.1 S.2.1 dL_law_283 (q_to (by decide : ((0 : Int32) + 1) = 1) ?_)
  refine va_sld S.1 S.2.1 hY hbl hbA hS (i := 1) vin6_1 dL_law_284 ?_
  refine lv_aload_n S.1 S.2.1 dL_law_285 rfl (lv_at hl 3 rfl) ?_
  refine lv_iload_n S.1 S.2.1 dL_law_286 rfl (lv_at hl 0 rfl) ?_
  refine lv_iconst (v := 2) S.1 S.2.1 dL_law_287 (by decide) ?_
  refine lv_iadd S.1 S.2.1 dL_law_288 (q_to (by decide : ((0 : Int32) + 2) = 2) ?_)
  refine va_sld S.1 S.2.1 hY hbl hbA hS (i := 2) vin6_2 dL_law_289 ?_
  refine lv_aload_n S.1 S.2.1 dL_law_290 rfl (lv_at hl 3 rfl) ?_
  refine lv_iload_n S.1 S.2.1 dL_law_291 rfl (lv_at hl 0 rfl) ?_
  refine lv_iconst (v := 3) S.1 S.2.1 dL_law_292 (by decide) ?_
  refine lv_iadd S.1 S.2.1 dL_law_293 (q_to (by decide : ((0 : Int32) + 3) = 3) ?_)
  refine va_sld S.1 S.2.1 hY hbl hbA hS (i := 3) vin6_3 dL_law_294 ?_
  refine cWV (rest := [.int (sp_X4_at d0X (xs (Int32.toNatClampNeg 1)) (xs (Int32.toNatClampNeg 2)) (xs (Int32.toNatClampNeg 3)))]) (A := fun q => s.heap.size ≤ q) S (c_X5_at l D G aM d0M (xs (Int32.toNatClampNeg 1)) (xs (Int32.toNatClampNeg 2)) (xs (Int32.toNatClampNeg 3)) mi0) gV_RL_27 ds_X5_at ⟨rfl, rfl⟩ ⟨Nat.le_of_ble_eq_true rfl, Nat.le_of_ble_eq_true rfl⟩ ⟨blindX, recvX hK hM (k := 0) (i := 0) Nat.zero_lt_one rfl rfl, preX hK hN hM _⟩ rfl hl.1 rfl (Nat.le_of_ble_eq_true rfl) ⟨Nat.le_of_ble_eq_true rfl, Nat.le_of_ble_eq_true rfl⟩ dL_law_295 hS hAM (fun H1 locs1 hX1 hS1 k1 => ?_)
  replace hS := hS1
  refine lv_icmp_eq (tgt := 1422) S.1 S.2.1 dL_law_298 (by decide) (fun _ => ?_) (fun z => absurd (fe_at (xs (Int32.toNatClampNeg 1)) (xs (Int32.toNatClampNeg 2)) (xs (Int32.toNatClampNeg 3))) z)
  refine W.widen (k := 43) (n := 1350) (Nat.le_of_ble_eq_true rfl) (Nat.le_of_ble_eq_true rfl) ?_
  exact kk _ _ hS
set_option maxRecDepth 100000 in
set_option maxHeartbeats 8000000 in
theorem lc_3 {p : Program} {e : Env} {s : State} {m : MethodId} {below : List Frame} {meth : Method} {c : Code} (l : Launch) {b : Nat} {xs : Nat → Int32} (S : CallFix p m c cL_law 4 s #[Value.ref b] wsL_law RL) (hY : va_X b 6 xs s s.heap) (hbl : b < s.heap.size) {Q : State → Prop} {D : va_G} {G : Gc} {aX aM : Nat → Nat → Nat} {H : Heap} {locs : List Loc} {ls : Array Slot} (hK : va_K D vwCl (tysG G) s) (hN : NW s) (hX : PIC D (XF G 0 0 aX) (XN 0 0) aX d0X H) (hM : PIC D (MF G aM) MN aM d0M H) (hAX : ∀ q, adS (XN 0 0) aX q → s.heap.size ≤ q) (hAM : ∀ q, adS MN aM q → s.heap.size ≤ q) (hdis : ∀ q, adS (XN 0 0) aX q → ¬ adS MN aM q) (hS : va_S (fun q => s.heap.size ≤ q) s.heap H locs) (hl : lv_has ls 4 [(3, .int 0), (2, .ref (aM 0 0)), (1, .ref (aX 0 0)), (0, .ref b)]) (kk : ∀ (H : Heap) (locs : List Loc), va_S (fun q => s.heap.size ≤ q) s.heap H locs → W p l e room_1 s m #[Value.ref b] below meth c H locs 43 1350 Q (F0 m 1422 ls [])) : W p l e room_1 s m #[Value.ref b] below meth c H locs 38 1303 Q (F0 m 303 ls []) := by
  have hbA : ¬ (fun q : Nat => s.heap.size ≤ q) b := Nat.not_le.mpr hbl
  refine lv_aload_n S.1 S.2.1 dL_law_303 rfl (lv_at hl 2 rfl) ?_
  refine lv_aload_n S.1 S.2.1 dL_law_304 rfl (lv_at hl 3 rfl) ?_
  refine lv_iload_n S.1 S.2.1 dL_law_305 rfl (lv_at hl 0 rfl) ?_
  refine lv_iconst (v := 1) S.1 S.2.1 dL_law_306 (by decide) ?_
  refine lv_iadd S.1 S.2.1 dL_law_307 (q_to (by decide : ((0 : Int32) + 1) = 1) ?_)
  refine va_sld S.1 S.2.1 hY hbl hbA hS (i := 1) vin6_1 dL_law_308 ?_
  refine lv_aload_n S.1 S.2.1 dL_law_309 rfl (lv_at hl 3 rfl) ?_
  refine lv_iload_n S.1 S.2.1 dL_law_310 rfl (lv_at hl 0 rfl) ?_
  refine lv_iconst (v := 2) S.1 S.2.1 dL_law_311 (by decide) ?_
  refine lv_iadd S.1 S.2.1 dL_law_312 (q_to (by decide : ((0 : Int32) + 2) = 2) ?_)
  refine va_sld S.1 S.2.1 hY hbl hbA hS (i := 2) vin6_2 dL_law_313 ?_
  refine cPV (rest := []) S (c_X4_points l D G 0 0 aX d0X (xs (Int32.toNatClampNeg 1)) (xs (Int32.toNatClampNeg 2)) xi0) gV_RL_28 ds_X4_points ⟨rfl, rfl⟩ ⟨Nat.le_of_ble_eq_true rfl, Nat.le_of_ble_eq_true rfl⟩ ⟨blindX, recvX hK hX (k := 0) (i := 0) Nat.zero_lt_one rfl rfl, preX hK hN hX _⟩ rfl hl.1 rfl (Nat.le_of_ble_eq_true rfl) ⟨Nat.le_of_ble_eq_true rfl, Nat.le_of_ble_eq_true rfl⟩ dL_law_314 ?_
  refine lv_aload_n S.1 S.2.1 dL_law_317 rfl (lv_at hl 1 rfl) ?_
  refine lv_aload_n S.1 S.2.1 dL_law_318 rfl (lv_at hl 3 rfl) ?_
  refine lv_iload_n S.1 S.2.1 dL_law_319 rfl (lv_at hl 0 rfl) ?_
  refine lv_iconst (v := 1) S.1 S.2.1 dL_law_320 (by decide) ?_
  refine lv_iadd S.1 S.2.1 dL_law_321 (q_to (by decide : ((0 : Int32) + 1) = 1) ?_)
  refine va_sld S.1 S.2.1 hY hbl hbA hS (i := 1) vin6_1 dL_law_322 ?_
  refine lv_aload_n S.1 S.2.1 dL_law_323 rfl (lv_at hl 3 rfl) ?_
  refine lv_iload_n S.1 S.2.1 dL_law_324 rfl (lv_at hl 0 rfl) ?_
  refine lv_iconst (v := 2) S.1 S.2.1 dL_law_325 (by decide) ?_
  refine lv_iadd S.1 S.2.1 dL_law_326 (q_to (by decide : ((0 : Int32) + 2) = 2) ?_)
  refine va_sld S.1 S.2.1 hY hbl hbA hS (i := 2) vin6_2 dL_law_327 ?_
  refine cWV (rest := [.int (sp_X4_points d0X (xs (Int32.toNatClampNeg 1)) (xs (Int32.toNatClampNeg 2)))]) (A := fun q => s.heap.size ≤ q) S (c_X5_points l D G aM d0M (xs (Int32.toNatClampNeg 1)) (xs (Int32.toNatClampNeg 2)) mi0) gV_RL_32 ds_X5_points ⟨rfl, rfl⟩ ⟨Nat.le_of_ble_eq_true rfl, Nat.le_of_ble_eq_true rfl⟩ ⟨blindX, recvX hK hM (k := 0) (i := 0) Nat.zero_lt_one rfl rfl, preX hK hN hM _⟩ rfl hl.1 rfl (Nat.le_of_ble_eq_true rfl) ⟨Nat.le_of_ble_eq_true rfl, Nat.le_of_ble_eq_true rfl⟩ dL_law_328 hS hAM (fun H1 locs1 hX1 hS1 k1 => ?_)
  replace hS := hS1
  refine lv_icmp_eq (tgt := 1422) S.1 S.2.1 dL_law_331 (by decide) (fun _ => ?_) (fun z => absurd (fe_points (xs (Int32.toNatClampNeg 1)) (xs (Int32.toNatClampNeg 2))) z)
  refine W.widen (k := 43) (n := 1350) (Nat.le_of_ble_eq_true rfl) (Nat.le_of_ble_eq_true rfl) ?_
  exact kk _ _ hS
set_option maxRecDepth 100000 in
set_option maxHeartbeats 8000000 in
theorem lc_4 {p : Program} {e : Env} {s : State} {m : MethodId} {below : List Frame} {meth : Method} {c : Code} (l : Launch) {b : Nat} {xs : Nat → Int32} (S : CallFix p m c cL_law 4 s #[Value.ref b] wsL_law RL) (hY : va_X b 6 xs s s.heap) (hbl : b < s.heap.size) {Q : State → Prop} {D : va_G} {G : Gc} {aX aM : Nat → Nat → Nat} {H : Heap} {locs : List Loc} {ls : Array Slot} (hK : va_K D vwCl (tysG G) s) (hN : NW s) (hX : PIC D (XF G 0 0 aX) (XN 0 0) aX d0X H) (hM : PIC D (MF G aM) MN aM d0M H) (hAX : ∀ q, adS (XN 0 0) aX q → s.heap.size ≤ q) (hAM : ∀ q, adS MN aM q → s.heap.size ≤ q) (hdis : ∀ q, adS (XN 0 0) aX q → ¬ adS MN aM q) (hS : va_S (fun q => s.heap.size ≤ q) s.heap H locs) (hl : lv_has ls 4 [(3, .int 0), (2, .ref (aM 0 0)), (1, .ref (aX 0 0)), (0, .ref b)]) (kk : ∀ (H : Heap) (locs : List Loc), va_S (fun q => s.heap.size ≤ q) s.heap H locs → W p l e room_1 s m #[Value.ref b] below meth c H locs 43 1350 Q (F0 m 1422 ls [])) : W p l e room_1 s m #[Value.ref b] below meth c H locs 38 1303 Q (F0 m 336 ls []) := by
  have hbA : ¬ (fun q : Nat => s.heap.size ≤ q) b := Nat.not_le.mpr hbl
  refine lv_aload_n S.1 S.2.1 dL_law_336 rfl (lv_at hl 2 rfl) ?_
  refine lv_aload_n S.1 S.2.1 dL_law_337 rfl (lv_at hl 3 rfl) ?_
  refine lv_iload_n S.1 S.2.1 dL_law_338 rfl (lv_at hl 0 rfl) ?_
  refine lv_iconst (v := 1) S.1 S.2.1 dL_law_339 (by decide) ?_
  refine lv_iadd S.1 S.2.1 dL_law_340 (q_to (by decide : ((0 : Int32) + 1) = 1) ?_)
  refine va_sld S.1 S.2.1 hY hbl hbA hS (i := 1) vin6_1 dL_law_341 ?_
  refine lv_aload_n S.1 S.2.1 dL_law_342 rfl (lv_at hl 3 rfl) ?_
  refine lv_iload_n S.1 S.2.1 dL_law_343 rfl (lv_at hl 0 rfl) ?_
  refine lv_iconst (v := 2) S.1 S.2.1 dL_law_344 (by decide) ?_
  refine lv_iadd S.1 S.2.1 dL_law_345 (q_to (by decide : ((0 : Int32) + 2) = 2) ?_)
  refine va_sld S.1 S.2.1 hY hbl hbA hS (i := 2) vin6_2 dL_law_346 ?_
  refine lv_aload_n S.1 S.2.1 dL_law_347 rfl (lv_at hl 3 rfl) ?_
  refine lv_iload_n S.1 S.2.1 dL_law_348 rfl (lv_at hl 0 rfl) ?_
  refine lv_iconst (v := 3) S.1 S.2.1 dL_law_349 (by decide) ?_
  refine lv_iadd S.1 S.2.1 dL_law_350 (q_to (by decide : ((0 : Int32) + 3) = 3) ?_)
  refine va_sld S.1 S.2.1 hY hbl hbA hS (i := 3) vin6_3 dL_law_351 ?_
  refine lv_aload_n S.1 S.2.1 dL_law_352 rfl (lv_at hl 3 rfl) ?_
  refine lv_iload_n S.1 S.2.1 dL_law_353 rfl (lv_at hl 0 rfl) ?_
  refine lv_iconst (v := 4) S.1 S.2.1 dL_law_354 (by decide) ?_
  refine lv_iadd S.1 S.2.1 dL_law_355 (q_to (by decide : ((0 : Int32) + 4) = 4) ?_)
  refine va_sld S.1 S.2.1 hY hbl hbA hS (i := 4) vin6_4 dL_law_356 ?_
  refine cPV (rest := []) S (c_X4_point l D G 0 0 aX d0X (xs (Int32.toNatClampNeg 1)) (xs (Int32.toNatClampNeg 2)) (xs (Int32.toNatClampNeg 3)) (xs (Int32.toNatClampNeg 4)) xi0) gV_RL_33 ds_X4_point ⟨rfl, rfl⟩ ⟨Nat.le_of_ble_eq_true rfl, Nat.le_of_ble_eq_true rfl⟩ ⟨blindX, recvX hK hX (k := 0) (i := 0) Nat.zero_lt_one rfl rfl, preX hK hN hX _⟩ rfl hl.1 rfl (Nat.le_of_ble_eq_true rfl) ⟨Nat.le_of_ble_eq_true rfl, Nat.le_of_ble_eq_true rfl⟩ dL_law_357 ?_
  refine lv_aload_n S.1 S.2.1 dL_law_360 rfl (lv_at hl 1 rfl) ?_
  refine lv_aload_n S.1 S.2.1 dL_law_361 rfl (lv_at hl 3 rfl) ?_
  refine lv_iload_n S.1 S.2.1 dL_law_362 rfl (lv_at hl 0 rfl) ?_
  refine lv_iconst (v := 1) S.1 S.2.1 dL_law_363 (by decide) ?_
  refine lv_iadd S.1 S.2.1 dL_law_364 (q_to (by decide : ((0 : Int32) + 1) = 1) ?_)
  refine va_sld S.1 S.2.1 hY hbl hbA hS (i := 1) vin6_1 dL_law_365 ?_
  refine lv_aload_n S.1 S.2.1 dL_law_366 rfl (lv_at hl 3 rfl) ?_
  refine lv_iload_n S.1 S.2.1 dL_law_367 rfl (lv_at hl 0 rfl) ?_
  refine lv_iconst (v := 2) S.1 S.2.1 dL_law_368 (by decide) ?_
  refine lv_iadd S.1 S.2.1 dL_law_369 (q_to (by decide : ((0 : Int32) + 2) = 2) ?_)
  refine va_sld S.1 S.2.1 hY hbl hbA hS (i := 2) vin6_2 dL_law_370 ?_
  refine lv_aload_n S.1 S.2.1 dL_law_371 rfl (lv_at hl 3 rfl) ?_
  refine lv_iload_n S.1 S.2.1 dL_law_372 rfl (lv_at hl 0 rfl) ?_
  refine lv_iconst (v := 3) S.1 S.2.1 dL_law_373 (by decide) ?_
  refine lv_iadd S.1 S.2.1 dL_law_374 (q_to (by decide : ((0 : Int32) + 3) = 3) ?_)
  refine va_sld S.1 S.2.1 hY hbl hbA hS (i := 3) vin6_3 dL_law_375 ?_
  refine lv_aload_n S.1 S.2.1 dL_law_376 rfl (lv_at hl 3 rfl) ?_
  refine lv_iload_n S.1 S.2.1 dL_law_377 rfl (lv_at hl 0 rfl) ?_
  refine lv_iconst (v := 4) S.1 S.2.1 dL_law_378 (by decide) ?_
  refine lv_iadd S.1 S.2.1 dL_law_379 (q_to (by decide : ((0 : Int32) + 4) = 4) ?_)
  refine va_sld S.1 S.2.1 hY hbl hbA hS (i := 4) vin6_4 dL_law_380 ?_
  refine cWV (rest := [.int (sp_X4_point d0X (xs (Int32.toNatClampNeg 1)) (xs (Int32.toNatClampNeg 2)) (xs (Int32.toNatClampNeg 3)) (xs (Int32.toNatClampNeg 4)))]) (A := fun q => s.heap.size ≤ q) S (c_X5_point l D G aM d0M (xs (Int32.toNatClampNeg 1)) (xs (Int32.toNatClampNeg 2)) (xs (Int32.toNatClampNeg 3)) (xs (Int32.toNatClampNeg 4)) mi0) gV_RL_36 ds_X5_point ⟨rfl, rfl⟩ ⟨Nat.le_of_ble_eq_true rfl, Nat.le_of_ble_eq_true rfl⟩ ⟨blindX, recvX hK hM (k := 0) (i := 0) Nat.zero_lt_one rfl rfl, preX hK hN hM _⟩ rfl hl.1 rfl (Nat.le_of_ble_eq_true rfl) ⟨Nat.le_of_ble_eq_true rfl, Nat.le_of_ble_eq_true rfl⟩ dL_law_381 hS hAM (fun H1 locs1 hX1 hS1 k1 => ?_)
  replace hS := hS1
  refine lv_icmp_eq (tgt := 1422) S.1 S.2.1 dL_law_384 (by decide) (fun _ => ?_) (fun z => absurd (fe_point (xs (Int32.toNatClampNeg 1)) (xs (Int32.toNatClampNeg 2)) (xs (Int32.toNatClampNeg 3)) (xs (Int32.toNatClampNeg 4))) z)
  refine W.widen (k := 43) (n := 1350) (Nat.le_of_ble_eq_true rfl) (Nat.le_of_ble_eq_true rfl) ?_
  exact kk _ _ hS
set_option maxRecDepth 100000 in
set_option maxHeartbeats 8000000 in
theorem lc_5 {p : Program} {e : Env} {s : State} {m : MethodId} {below : List Frame} {meth : Method} {c : Code} (l : Launch) {b : Nat} {xs : Nat → Int32} (S : CallFix p m c cL_law 4 s #[Value.ref b] wsL_law RL) (hY : va_X b 6 xs s s.heap) (hbl : b < s.heap.size) {Q : State → Prop} {D : va_G} {G : Gc} {aX aM : Nat → Nat → Nat} {H : Heap} {locs : List Loc} {ls : Array Slot} (hK : va_K D vwCl (tysG G) s) (hN : NW s) (hX : PIC D (XF G 0 0 aX) (XN 0 0) aX d0X H) (hM : PIC D (MF G aM) MN aM d0M H) (hAX : ∀ q, adS (XN 0 0) aX q → s.heap.size ≤ q) (hAM : ∀ q, adS MN aM q → s.heap.size ≤ q) (hdis : ∀ q, adS (XN 0 0) aX q → ¬ adS MN aM q) (hS : va_S (fun q => s.heap.size ≤ q) s.heap H locs) (hl : lv_has ls 4 [(3, .int 0), (2, .ref (aM 0 0)), (1, .ref (aX 0 0)), (0, .ref b)]) (kk : ∀ (H : Heap) (locs : List Loc), va_S (fun q => s.heap.size ≤ q) s.heap H locs → W p l e room_1 s m #[Value.ref b] below meth c H locs 43 1350 Q (F0 m 1422 ls [])) : W p l e room_1 s m #[Value.ref b] below meth c H locs 38 1303 Q (F0 m 389 ls []) := by
  have hbA : ¬ (fun q : Nat => s.heap.size ≤ q) b := Nat.not_le.mpr hbl
  refine lv_aload_n S.1 S.2.1 dL_law_389 rfl (lv_at hl 2 rfl) ?_
  refine lv_aload_n S.1 S.2.1 dL_law_390 rfl (lv_at hl 3 rfl) ?_
  refine lv_iload_n S.1 S.2.1 dL_law_391 rfl (lv_at hl 0 rfl) ?_
  refine lv_iconst (v := 1) S.1 S.2.1 dL_law_392 (by decide) ?_
  refine lv_iadd S.1 S.2.1 dL_law_393 (q_to (by decide : ((0 : Int32) + 1) = 1) ?_)
  refine va_sld S.1 S.2.1 hY hbl hbA hS (i := 1) vin6_1 dL_law_394 ?_
  refine lv_aload_n S.1 S.2.1 dL_law_395 rfl (lv_at hl 3 rfl) ?_
  refine lv_iload_n S.1 S.2.1 dL_law_396 rfl (lv_at hl 0 rfl) ?_
  refine lv_iconst (v := 2) S.1 S.2.1 dL_law_397 (by decide) ?_
  refine lv_iadd S.1 S.2.1 dL_law_398 (q_to (by decide : ((0 : Int32) + 2) = 2) ?_)
  refine va_sld S.1 S.2.1 hY hbl hbA hS (i := 2) vin6_2 dL_law_399 ?_
  refine lv_aload_n S.1 S.2.1 dL_law_400 rfl (lv_at hl 3 rfl) ?_
  refine lv_iload_n S.1 S.2.1 dL_law_401 rfl (lv_at hl 0 rfl) ?_
  refine lv_iconst (v := 3) S.1 S.2.1 dL_law_402 (by decide) ?_
  refine lv_iadd S.1 S.2.1 dL_law_403 (q_to (by decide : ((0 : Int32) + 3) = 3) ?_)
  refine va_sld S.1 S.2.1 hY hbl hbA hS (i := 3) vin6_3 dL_law_404 ?_
  refine cWV (rest := []) (A := fun q => s.heap.size ≤ q) S (c_X4_proof l D G 0 0 aX d0X (xs (Int32.toNatClampNeg 1)) (xs (Int32.toNatClampNeg 2)) (xs (Int32.toNatClampNeg 3)) xi0) gV_RL_37 ds_X4_proof ⟨rfl, rfl⟩ ⟨Nat.le_of_ble_eq_true rfl, Nat.le_of_ble_eq_true rfl⟩ ⟨blindX, recvX hK hX (k := 0) (i := 0) Nat.zero_lt_one rfl rfl, preX hK hN hX _⟩ rfl hl.1 rfl (Nat.le_of_ble_eq_true rfl) ⟨Nat.le_of_ble_eq_true rfl, Nat.le_of_ble_eq_true rfl⟩ dL_law_405 hS hAX (fun H1 locs1 hX1 hS1 k1 => ?_)
  have hM1 := hM.kept (H1 := H1) (fun q hq => k1 q (hM.sz hq) (fun z => hdis q z hq))
  replace hM := hM1
  replace hS := hS1
  refine lv_aload_n S.1 S.2.1 dL_law_408 rfl (lv_at hl 1 rfl) ?_
  refine lv_aload_n S.1 S.2.1 dL_law_409 rfl (lv_at hl 3 rfl) ?_
  refine lv_iload_n S.1 S.2.1 dL_law_410 rfl (lv_at hl 0 rfl) ?_
  refine lv_iconst (v := 1) S.1 S.2.1 dL_law_411 (by decide) ?_
  refine lv_iadd S.1 S.2.1 dL_law_412 (q_to (by decide : ((0 : Int32) + 1) = 1) ?_)
  refine va_sld S.1 S.2.1 hY hbl hbA hS (i := 1) vin6_1 dL_law_413 ?_
  refine lv_aload_n S.1 S.2.1 dL_law_414 rfl (lv_at hl 3 rfl) ?_
  refine lv_iload_n S.1 S.2.1 dL_law_415 rfl (lv_at hl 0 rfl) ?_
  refine lv_iconst (v := 2) S.1 S.2.1 dL_law_416 (by decide) ?_
  refine lv_iadd S.1 S.2.1 dL_law_417 (q_to (by decide : ((0 : Int32) + 2) = 2) ?_)
  refine va_sld S.1 S.2.1 hY hbl hbA hS (i := 2) vin6_2 dL_law_418 ?_
  refine lv_aload_n S.1 S.2.1 dL_law_419 rfl (lv_at hl 3 rfl) ?_
  refine lv_iload_n S.1 S.2.1 dL_law_420 rfl (lv_at hl 0 rfl) ?_
  refine lv_iconst (v := 3) S.1 S.2.1 dL_law_421 (by decide) ?_
  refine lv_iadd S.1 S.2.1 dL_law_422 (q_to (by decide : ((0 : Int32) + 3) = 3) ?_)
  refine va_sld S.1 S.2.1 hY hbl hbA hS (i := 3) vin6_3 dL_law_423 ?_
  refine cWV (rest := [.int (sp_X4_proof d0X (xs (Int32.toNatClampNeg 1)) (xs (Int32.toNatClampNeg 2)) (xs (Int32.toNatClampNeg 3))).1]) (A := fun q => s.heap.size ≤ q) S (c_X5_proof l D G aM d0M (xs (Int32.toNatClampNeg 1)) (xs (Int32.toNatClampNeg 2)) (xs (Int32.toNatClampNeg 3)) mi0) gV_RL_40 ds_X5_proof ⟨rfl, rfl⟩ ⟨Nat.le_of_ble_eq_true rfl, Nat.le_of_ble_eq_true rfl⟩ ⟨blindX, recvX hK hM (k := 0) (i := 0) Nat.zero_lt_one rfl rfl, preX hK hN hM _⟩ rfl hl.1 rfl (Nat.le_of_ble_eq_true rfl) ⟨Nat.le_of_ble_eq_true rfl, Nat.le_of_ble_eq_true rfl⟩ dL_law_424 hS hAM (fun H1 locs1 hX1 hS1 k1 => ?_)
  replace hS := hS1
  refine lv_icmp_eq (tgt := 1422) S.1 S.2.1 dL_law_427 (by decide) (fun _ => ?_) (fun z => absurd (fe_proof (xs (Int32.toNatClampNeg 1)) (xs (Int32.toNatClampNeg 2)) (xs (Int32.toNatClampNeg 3))) z)
  refine W.widen (k := 43) (n := 1350) (Nat.le_of_ble_eq_true rfl) (Nat.le_of_ble_eq_true rfl) ?_
  exact kk _ _ hS
set_option maxRecDepth 100000 in
set_option maxHeartbeats 8000000 in
theorem lc_6 {p : Program} {e : Env} {s : State} {m : MethodId} {below : List Frame} {meth : Method} {c : Code} (l : Launch) {b : Nat} {xs : Nat → Int32} (S : CallFix p m c cL_law 4 s #[Value.ref b] wsL_law RL) (hY : va_X b 6 xs s s.heap) (hbl : b < s.heap.size) {Q : State → Prop} {D : va_G} {G : Gc} {aX aM : Nat → Nat → Nat} {H : Heap} {locs : List Loc} {ls : Array Slot} (hK : va_K D vwCl (tysG G) s) (hN : NW s) (hX : PIC D (XF G 0 0 aX) (XN 0 0) aX d0X H) (hM : PIC D (MF G aM) MN aM d0M H) (hAX : ∀ q, adS (XN 0 0) aX q → s.heap.size ≤ q) (hAM : ∀ q, adS MN aM q → s.heap.size ≤ q) (hdis : ∀ q, adS (XN 0 0) aX q → ¬ adS MN aM q) (hS : va_S (fun q => s.heap.size ≤ q) s.heap H locs) (hl : lv_has ls 4 [(3, .int 0), (2, .ref (aM 0 0)), (1, .ref (aX 0 0)), (0, .ref b)]) (kk : ∀ (H : Heap) (locs : List Loc), va_S (fun q => s.heap.size ≤ q) s.heap H locs → W p l e room_1 s m #[Value.ref b] below meth c H locs 43 1350 Q (F0 m 1422 ls [])) : W p l e room_1 s m #[Value.ref b] below meth c H locs 38 1303 Q (F0 m 432 ls []) := by
  have hbA : ¬ (fun q : Nat => s.heap.size ≤ q) b := Nat.not_le.mpr hbl
  refine lv_aload_n S.1 S.2.1 dL_law_432 rfl (lv_at hl 2 rfl) ?_
  refine lv_aload_n S.1 S.2.1 dL_law_433 rfl (lv_at hl 3 rfl) ?_
  refine lv_iload_n S.1 S.2.1 dL_law_434 rfl (lv_at hl 0 rfl) ?_
  refine lv_iconst (v := 1) S.1 S.2.1 dL_law_435 (by decide) ?_
  refine lv_iadd S.1 S.2.1 dL_law_436 (q_to (by decide : ((0 : Int32) + 1) = 1) ?_)
  refine va_sld S.1 S.2.1 hY hbl hbA hS (i := 1) vin6_1 dL_law_437 ?_
  refine lv_aload_n S.1 S.2.1 dL_law_438 rfl (lv_at hl 3 rfl) ?_
  refine lv_iload_n S.1 S.2.1 dL_law_439 rfl (lv_at hl 0 rfl) ?_
  refine lv_iconst (v := 2) S.1 S.2.1 dL_law_440 (by decide) ?_
  refine lv_iadd S.1 S.2.1 dL_law_441 (q_to (by decide : ((0 : Int32) + 2) = 2) ?_)
  refine va_sld S.1 S.2.1 hY hbl hbA hS (i := 2) vin6_2 dL_law_442 ?_
  refine lv_aload_n S.1 S.2.1 dL_law_443 rfl (lv_at hl 3 rfl) ?_
  refine lv_iload_n S.1 S.2.1 dL_law_444 rfl (lv_at hl 0 rfl) ?_
  refine lv_iconst (v := 3) S.1 S.2.1 dL_law_445 (by decide) ?_
  refine lv_iadd S.1 S.2.1 dL_law_446 (q_to (by decide : ((0 : Int32) + 3) = 3) ?_)
  refine va_sld S.1 S.2.1 hY hbl hbA hS (i := 3) vin6_3 dL_law_447 ?_
  refine cWV (rest := []) (A := fun q => s.heap.size ≤ q) S (c_X4_run l D G 0 0 aX d0X (xs (Int32.toNatClampNeg 1)) (xs (Int32.toNatClampNeg 2)) (xs (Int32.toNatClampNeg 3)) xi0) gV_RL_41 ds_X4_run ⟨rfl, rfl⟩ ⟨Nat.le_of_ble_eq_true rfl, Nat.le_of_ble_eq_true rfl⟩ ⟨blindX, recvX hK hX (k := 0) (i := 0) Nat.zero_lt_one rfl rfl, preX hK hN hX _⟩ rfl hl.1 rfl (Nat.le_of_ble_eq_true rfl) ⟨Nat.le_of_ble_eq_true rfl, Nat.le_of_ble_eq_true rfl⟩ dL_law_448 hS hAX (fun H1 locs1 hX1 hS1 k1 => ?_)
  have hM1 := hM.kept (H1 := H1) (fun q hq => k1 q (hM.sz hq) (fun z => hdis q z hq))
  replace hM := hM1
  replace hS := hS1
  refine lv_aload_n S.1 S.2.1 dL_law_451 rfl (lv_at hl 1 rfl) ?_
  refine lv_aload_n S.1 S.2.1 dL_law_452 rfl (lv_at hl 3 rfl) ?_
  refine lv_iload_n S.1 S.2.1 dL_law_453 rfl (lv_at hl 0 rfl) ?_
  refine lv_iconst (v := 1) S.1 S.2.1 dL_law_454 (by decide) ?_
  refine lv_iadd S.1 S.2.1 dL_law_455 (q_to (by decide : ((0 : Int32) + 1) = 1) ?_)
  refine va_sld S.1 S.2.1 hY hbl hbA hS (i := 1) vin6_1 dL_law_456 ?_
  refine lv_aload_n S.1 S.2.1 dL_law_457 rfl (lv_at hl 3 rfl) ?_
  refine lv_iload_n S.1 S.2.1 dL_law_458 rfl (lv_at hl 0 rfl) ?_
  refine lv_iconst (v := 2) S.1 S.2.1 dL_law_459 (by decide) ?_
  refine lv_iadd S.1 S.2.1 dL_law_460 (q_to (by decide : ((0 : Int32) + 2) = 2) ?_)
  refine va_sld S.1 S.2.1 hY hbl hbA hS (i := 2) vin6_2 dL_law_461 ?_
  refine lv_aload_n S.1 S.2.1 dL_law_462 rfl (lv_at hl 3 rfl) ?_
  refine lv_iload_n S.1 S.2.1 dL_law_463 rfl (lv_at hl 0 rfl) ?_
  refine lv_iconst (v := 3) S.1 S.2.1 dL_law_464 (by decide) ?_
  refine lv_iadd S.1 S.2.1 dL_law_465 (q_to (by decide : ((0 : Int32) + 3) = 3) ?_)
  refine va_sld S.1 S.2.1 hY hbl hbA hS (i := 3) vin6_3 dL_law_466 ?_
  refine cWV (rest := [.long (sp_X4_run d0X (xs (Int32.toNatClampNeg 1)) (xs (Int32.toNatClampNeg 2)) (xs (Int32.toNatClampNeg 3))).1]) (A := fun q => s.heap.size ≤ q) S (c_X5_run l D G aM d0M (xs (Int32.toNatClampNeg 1)) (xs (Int32.toNatClampNeg 2)) (xs (Int32.toNatClampNeg 3)) mi0) gV_RL_45 ds_X5_run ⟨rfl, rfl⟩ ⟨Nat.le_of_ble_eq_true rfl, Nat.le_of_ble_eq_true rfl⟩ ⟨blindX, recvX hK hM (k := 0) (i := 0) Nat.zero_lt_one rfl rfl, preX hK hN hM _⟩ rfl hl.1 rfl (Nat.le_of_ble_eq_true rfl) ⟨Nat.le_of_ble_eq_true rfl, Nat.le_of_ble_eq_true rfl⟩ dL_law_467 hS hAM (fun H1 locs1 hX1 hS1 k1 => ?_)
  replace hS := hS1
  refine q_lcmp_eq (tgt := 1422) S rfl rfl dL_law_470 dL_law_471 (by decide) (fun _ => ?_) (fun z => absurd (congrArg Int64.toInt (fe_run (xs (Int32.toNatClampNeg 1)) (xs (Int32.toNatClampNeg 2)) (xs (Int32.toNatClampNeg 3)))) z)
  refine W.widen (k := 43) (n := 1350) (Nat.le_of_ble_eq_true rfl) (Nat.le_of_ble_eq_true rfl) ?_
  exact kk _ _ hS
set_option maxRecDepth 100000 in
set_option maxHeartbeats 8000000 in
theorem lc_7 {p : Program} {e : Env} {s : State} {m : MethodId} {below : List Frame} {meth : Method} {c : Code} (l : Launch) {b : Nat} {xs : Nat → Int32} (S : CallFix p m c cL_law 4 s #[Value.ref b] wsL_law RL) (hY : va_X b 6 xs s s.heap) (hbl : b < s.heap.size) {Q : State → Prop} {D : va_G} {G : Gc} {aX aM : Nat → Nat → Nat} {H : Heap} {locs : List Loc} {ls : Array Slot} (hK : va_K D vwCl (tysG G) s) (hN : NW s) (hX : PIC D (XF G 0 0 aX) (XN 0 0) aX d0X H) (hM : PIC D (MF G aM) MN aM d0M H) (hAX : ∀ q, adS (XN 0 0) aX q → s.heap.size ≤ q) (hAM : ∀ q, adS MN aM q → s.heap.size ≤ q) (hdis : ∀ q, adS (XN 0 0) aX q → ¬ adS MN aM q) (hS : va_S (fun q => s.heap.size ≤ q) s.heap H locs) (hl : lv_has ls 4 [(3, .int 0), (2, .ref (aM 0 0)), (1, .ref (aX 0 0)), (0, .ref b)]) (kk : ∀ (H : Heap) (locs : List Loc), va_S (fun q => s.heap.size ≤ q) s.heap H locs → W p l e room_1 s m #[Value.ref b] below meth c H locs 43 1350 Q (F0 m 1422 ls [])) : W p l e room_1 s m #[Value.ref b] below meth c H locs 38 1303 Q (F0 m 476 ls []) := by
  have hbA : ¬ (fun q : Nat => s.heap.size ≤ q) b := Nat.not_le.mpr hbl
  refine lv_aload_n S.1 S.2.1 dL_law_476 rfl (lv_at hl 2 rfl) ?_
  refine lv_aload_n S.1 S.2.1 dL_law_477 rfl (lv_at hl 3 rfl) ?_
  refine lv_iload_n S.1 S.2.1 dL_law_478 rfl (lv_at hl 0 rfl) ?_
  refine lv_iconst (v := 1) S.1 S.2.1 dL_law_479 (by decide) ?_
  refine lv_iadd S.1 S.2.1 dL_law_480 (q_to (by decide : ((0 : Int32) + 1) = 1) ?_)
  refine va_sld S.1 S.2.1 hY hbl hbA hS (i := 1) vin6_1 dL_law_481 ?_
  refine cPV (rest := []) S (c_X4_proving l D G 0 0 aX d0X (xs (Int32.toNatClampNeg 1)) xi0) gV_RL_46 ds_X4_proving ⟨rfl, rfl⟩ ⟨Nat.le_of_ble_eq_true rfl, Nat.le_of_ble_eq_true rfl⟩ ⟨blindX, recvX hK hX (k := 0) (i := 0) Nat.zero_lt_one rfl rfl, preX hK hN hX _⟩ rfl hl.1 rfl (Nat.le_of_ble_eq_true rfl) ⟨Nat.le_of_ble_eq_true rfl, Nat.le_of_ble_eq_true rfl⟩ dL_law_482 ?_
  refine lv_aload_n S.1 S.2.1 dL_law_485 rfl (lv_at hl 1 rfl) ?_
  refine lv_aload_n S.1 S.2.1 dL_law_486 rfl (lv_at hl 3 rfl) ?_
  refine lv_iload_n S.1 S.2.1 dL_law_487 rfl (lv_at hl 0 rfl) ?_
  refine lv_iconst (v := 1) S.1 S.2.1 dL_law_488 (by decide) ?_
  refine lv_iadd S.1 S.2.1 dL_law_489 (q_to (by decide : ((0 : Int32) + 1) = 1) ?_)
  refine va_sld S.1 S.2.1 hY hbl hbA hS (i := 1) vin6_1 dL_law_490 ?_
  refine cPV (rest := [.int (sp_X4_proving d0X (xs (Int32.toNatClampNeg 1)))]) S (c_X5_proving l D G aM d0M (xs (Int32.toNatClampNeg 1)) mi0) gV_RL_49 ds_X5_proving ⟨rfl, rfl⟩ ⟨Nat.le_of_ble_eq_true rfl, Nat.le_of_ble_eq_true rfl⟩ ⟨blindX, recvX hK hM (k := 0) (i := 0) Nat.zero_lt_one rfl rfl, preX hK hN hM _⟩ rfl hl.1 rfl (Nat.le_of_ble_eq_true rfl) ⟨Nat.le_of_ble_eq_true rfl, Nat.le_of_ble_eq_true rfl⟩ dL_law_491 ?_
  refine lv_icmp_eq (tgt := 1422) S.1 S.2.1 dL_law_494 (by decide) (fun _ => ?_) (fun z => absurd (fe_proving (xs (Int32.toNatClampNeg 1))) z)
  refine W.widen (k := 43) (n := 1350) (Nat.le_of_ble_eq_true rfl) (Nat.le_of_ble_eq_true rfl) ?_
  exact kk _ _ hS
set_option maxRecDepth 100000 in
set_option maxHeartbeats 8000000 in
theorem lc_8 {p : Program} {e : Env} {s : State} {m : MethodId} {below : List Frame} {meth : Method} {c : Code} (l : Launch) {b : Nat} {xs : Nat → Int32} (S : CallFix p m c cL_law 4 s #[Value.ref b] wsL_law RL) (hY : va_X b 6 xs s s.heap) (hbl : b < s.heap.size) {Q : State → Prop} {D : va_G} {G : Gc} {aX aM : Nat → Nat → Nat} {H : Heap} {locs : List Loc} {ls : Array Slot} (hK : va_K D vwCl (tysG G) s) (hN : NW s) (hX : PIC D (XF G 0 0 aX) (XN 0 0) aX d0X H) (hM : PIC D (MF G aM) MN aM d0M H) (hAX : ∀ q, adS (XN 0 0) aX q → s.heap.size ≤ q) (hAM : ∀ q, adS MN aM q → s.heap.size ≤ q) (hdis : ∀ q, adS (XN 0 0) aX q → ¬ adS MN aM q) (hS : va_S (fun q => s.heap.size ≤ q) s.heap H locs) (hl : lv_has ls 4 [(3, .int 0), (2, .ref (aM 0 0)), (1, .ref (aX 0 0)), (0, .ref b)]) (kk : ∀ (H : Heap) (locs : List Loc), va_S (fun q => s.heap.size ≤ q) s.heap H locs → W p l e room_1 s m #[Value.ref b] below meth c H locs 43 1350 Q (F0 m 1422 ls [])) : W p l e room_1 s m #[Value.ref b] below meth c H locs 38 1303 Q (F0 m 499 ls []) := by
  have hbA : ¬ (fun q : Nat => s.heap.size ≤ q) b := Nat.not_le.mpr hbl
  refine lv_aload_n S.1 S.2.1 dL_law_499 rfl (lv_at hl 2 rfl) ?_
  refine lv_aload_n S.1 S.2.1 dL_law_500 rfl (lv_at hl 3 rfl) ?_
  refine lv_iload_n S.1 S.2.1 dL_law_501 rfl (lv_at hl 0 rfl) ?_
  refine lv_iconst (v := 1) S.1 S.2.1 dL_law_502 (by decide) ?_
  refine lv_iadd S.1 S.2.1 dL_law_503 (q_to (by decide : ((0 : Int32) + 1) = 1) ?_)
  refine va_sld S.1 S.2.1 hY hbl hbA hS (i := 1) vin6_1 dL_law_504 ?_
  refine cWV (rest := []) (A := fun q => s.heap.size ≤ q) S (c_X4_accept l D G 0 0 aX d0X (xs (Int32.toNatClampNeg 1)) xi0) gV_RL_50 ds_X4_accept ⟨rfl, rfl⟩ ⟨Nat.le_of_ble_eq_true rfl, Nat.le_of_ble_eq_true rfl⟩ ⟨blindX, recvX hK hX (k := 0) (i := 0) Nat.zero_lt_one rfl rfl, preX hK hN hX _⟩ rfl hl.1 rfl (Nat.le_of_ble_eq_true rfl) ⟨Nat.le_of_ble_eq_true rfl, Nat.le_of_ble_eq_true rfl⟩ dL_law_505 hS hAX (fun H1 locs1 hX1 hS1 k1 => ?_)
  have hM1 := hM.kept (H1 := H1) (fun q hq => k1 q (hM.sz hq) (fun z => hdis q z hq))
  replace hM := hM1
  replace hS := hS1
  refine lv_aload_n S.1 S.2.1 dL_law_508 rfl (lv_at hl 1 rfl) ?_
  refine lv_aload_n S.1 S.2.1 dL_law_509 rfl (lv_at hl 3 rfl) ?_
  refine lv_iload_n S.1 S.2.1 dL_law_510 rfl (lv_at hl 0 rfl) ?_
  refine lv_iconst (v := 1) S.1 S.2.1 dL_law_511 (by decide) ?_
  refine lv_iadd S.1 S.2.1 dL_law_512 (q_to (by decide : ((0 : Int32) + 1) = 1) ?_)
  refine va_sld S.1 S.2.1 hY hbl hbA hS (i := 1) vin6_1 dL_law_513 ?_
  refine cWV (rest := [.int (sp_X4_accept d0X (xs (Int32.toNatClampNeg 1))).1]) (A := fun q => s.heap.size ≤ q) S (c_X5_accept l D G aM d0M (xs (Int32.toNatClampNeg 1)) mi0) gV_RL_53 ds_X5_accept ⟨rfl, rfl⟩ ⟨Nat.le_of_ble_eq_true rfl, Nat.le_of_ble_eq_true rfl⟩ ⟨blindX, recvX hK hM (k := 0) (i := 0) Nat.zero_lt_one rfl rfl, preX hK hN hM _⟩ rfl hl.1 rfl (Nat.le_of_ble_eq_true rfl) ⟨Nat.le_of_ble_eq_true rfl, Nat.le_of_ble_eq_true rfl⟩ dL_law_514 hS hAM (fun H1 locs1 hX1 hS1 k1 => ?_)
  replace hS := hS1
  refine lv_icmp_eq (tgt := 1422) S.1 S.2.1 dL_law_517 (by decide) (fun _ => ?_) (fun z => absurd (fe_accept (xs (Int32.toNatClampNeg 1))) z)
  refine W.widen (k := 43) (n := 1350) (Nat.le_of_ble_eq_true rfl) (Nat.le_of_ble_eq_true rfl) ?_
  exact kk _ _ hS
set_option maxRecDepth 100000 in
set_option maxHeartbeats 8000000 in
theorem lc_9 {p : Program} {e : Env} {s : State} {m : MethodId} {below : List Frame} {meth : Method} {c : Code} (l : Launch) {b : Nat} {xs : Nat → Int32} (S : CallFix p m c cL_law 4 s #[Value.ref b] wsL_law RL) (hY : va_X b 6 xs s s.heap) (hbl : b < s.heap.size) {Q : State → Prop} {D : va_G} {G : Gc} {aX aM : Nat → Nat → Nat} {H : Heap} {locs : List Loc} {ls : Array Slot} (hK : va_K D vwCl (tysG G) s) (hN : NW s) (hX : PIC D (XF G 0 0 aX) (XN 0 0) aX d0X H) (hM : PIC D (MF G aM) MN aM d0M H) (hAX : ∀ q, adS (XN 0 0) aX q → s.heap.size ≤ q) (hAM : ∀ q, adS MN aM q → s.heap.size ≤ q) (hdis : ∀ q, adS (XN 0 0) aX q → ¬ adS MN aM q) (hS : va_S (fun q => s.heap.size ≤ q) s.heap H locs) (hl : lv_has ls 4 [(3, .int 0), (2, .ref (aM 0 0)), (1, .ref (aX 0 0)), (0, .ref b)]) (kk : ∀ (H : Heap) (locs : List Loc), va_S (fun q => s.heap.size ≤ q) s.heap H locs → W p l e room_1 s m #[Value.ref b] below meth c H locs 43 1350 Q (F0 m 1422 ls [])) : W p l e room_1 s m #[Value.ref b] below meth c H locs 38 1303 Q (F0 m 522 ls []) := by
  have hbA : ¬ (fun q : Nat => s.heap.size ≤ q) b := Nat.not_le.mpr hbl
  refine lv_aload_n S.1 S.2.1 dL_law_522 rfl (lv_at hl 2 rfl) ?_
  refine lv_aload_n S.1 S.2.1 dL_law_523 rfl (lv_at hl 3 rfl) ?_
  refine lv_iload_n S.1 S.2.1 dL_law_524 rfl (lv_at hl 0 rfl) ?_
  refine lv_iconst (v := 1) S.1 S.2.1 dL_law_525 (by decide) ?_
  refine lv_iadd S.1 S.2.1 dL_law_526 (q_to (by decide : ((0 : Int32) + 1) = 1) ?_)
  refine va_sld S.1 S.2.1 hY hbl hbA hS (i := 1) vin6_1 dL_law_527 ?_
  refine lv_aload_n S.1 S.2.1 dL_law_528 rfl (lv_at hl 3 rfl) ?_
  refine lv_iload_n S.1 S.2.1 dL_law_529 rfl (lv_at hl 0 rfl) ?_
  refine lv_iconst (v := 2) S.1 S.2.1 dL_law_530 (by decide) ?_
  refine lv_iadd S.1 S.2.1 dL_law_531 (q_to (by decide : ((0 : Int32) + 2) = 2) ?_)
  refine va_sld S.1 S.2.1 hY hbl hbA hS (i := 2) vin6_2 dL_law_532 ?_
  refine lv_aload_n S.1 S.2.1 dL_law_533 rfl (lv_at hl 3 rfl) ?_
  refine lv_iload_n S.1 S.2.1 dL_law_534 rfl (lv_at hl 0 rfl) ?_
  refine lv_iconst (v := 3) S.1 S.2.1 dL_law_535 (by decide) ?_
  refine lv_iadd S.1 S.2.1 dL_law_536 (q_to (by decide : ((0 : Int32) + 3) = 3) ?_)
  refine va_sld S.1 S.2.1 hY hbl hbA hS (i := 3) vin6_3 dL_law_537 ?_
  refine lv_aload_n S.1 S.2.1 dL_law_538 rfl (lv_at hl 3 rfl) ?_
  refine lv_iload_n S.1 S.2.1 dL_law_539 rfl (lv_at hl 0 rfl) ?_
  refine lv_iconst (v := 4) S.1 S.2.1 dL_law_540 (by decide) ?_
  refine lv_iadd S.1 S.2.1 dL_law_541 (q_to (by decide : ((0 : Int32) + 4) = 4) ?_)
  refine va_sld S.1 S.2.1 hY hbl hbA hS (i := 4) vin6_4 dL_law_542 ?_
  refine cPV (rest := []) S (c0_X4_ticket l D G aX (xs (Int32.toNatClampNeg 1)) (xs (Int32.toNatClampNeg 2)) (xs (Int32.toNatClampNeg 3)) (xs (Int32.toNatClampNeg 4))) gV_RL_54 ds_X4_ticket ⟨rfl, rfl⟩ ⟨Nat.le_of_ble_eq_true rfl, Nat.le_of_ble_eq_true rfl⟩ ⟨blindX, recvX hK hX (k := 0) (i := 0) Nat.zero_lt_one rfl rfl, preX hK hN hX _⟩ rfl hl.1 rfl (Nat.le_of_ble_eq_true rfl) ⟨Nat.le_of_ble_eq_true rfl, Nat.le_of_ble_eq_true rfl⟩ dL_law_543 ?_
  refine lv_aload_n S.1 S.2.1 dL_law_546 rfl (lv_at hl 1 rfl) ?_
  refine lv_aload_n S.1 S.2.1 dL_law_547 rfl (lv_at hl 3 rfl) ?_
  refine lv_iload_n S.1 S.2.1 dL_law_548 rfl (lv_at hl 0 rfl) ?_
  refine lv_iconst (v := 1) S.1 S.2.1 dL_law_549 (by decide) ?_
  refine lv_iadd S.1 S.2.1 dL_law_550 (q_to (by decide : ((0 : Int32) + 1) = 1) ?_)
  refine va_sld S.1 S.2.1 hY hbl hbA hS (i := 1) vin6_1 dL_law_551 ?_
  refine lv_aload_n S.1 S.2.1 dL_law_552 rfl (lv_at hl 3 rfl) ?_
  refine lv_iload_n S.1 S.2.1 dL_law_553 rfl (lv_at hl 0 rfl) ?_
  refine lv_iconst (v := 2) S.1 S.2.1 dL_law_554 (by decide) ?_
  refine lv_iadd S.1 S.2.1 dL_law_555 (q_to (by decide : ((0 : Int32) + 2) = 2) ?_)
  refine va_sld S.1 S.2.1 hY hbl hbA hS (i := 2) vin6_2 dL_law_556 ?_
  refine lv_aload_n S.1 S.2.1 dL_law_557 rfl (lv_at hl 3 rfl) ?_
  refine lv_iload_n S.1 S.2.1 dL_law_558 rfl (lv_at hl 0 rfl) ?_
  refine lv_iconst (v := 3) S.1 S.2.1 dL_law_559 (by decide) ?_
  refine lv_iadd S.1 S.2.1 dL_law_560 (q_to (by decide : ((0 : Int32) + 3) = 3) ?_)
  refine va_sld S.1 S.2.1 hY hbl hbA hS (i := 3) vin6_3 dL_law_561 ?_
  refine lv_aload_n S.1 S.2.1 dL_law_562 rfl (lv_at hl 3 rfl) ?_
  refine lv_iload_n S.1 S.2.1 dL_law_563 rfl (lv_at hl 0 rfl) ?_
  refine lv_iconst (v := 4) S.1 S.2.1 dL_law_564 (by decide) ?_
  refine lv_iadd S.1 S.2.1 dL_law_565 (q_to (by decide : ((0 : Int32) + 4) = 4) ?_)
  refine va_sld S.1 S.2.1 hY hbl hbA hS (i := 4) vin6_4 dL_law_566 ?_
  refine cWV (rest := [.int (-1)]) (A := fun q => s.heap.size ≤ q) S (c_X5_ticket l D G aM d0M (xs (Int32.toNatClampNeg 1)) (xs (Int32.toNatClampNeg 2)) (xs (Int32.toNatClampNeg 3)) (xs (Int32.toNatClampNeg 4)) mi0) gV_RL_57 ds_X5_ticket ⟨rfl, rfl⟩ ⟨Nat.le_of_ble_eq_true rfl, Nat.le_of_ble_eq_true rfl⟩ ⟨blindX, recvX hK hM (k := 0) (i := 0) Nat.zero_lt_one rfl rfl, preX hK hN hM _⟩ rfl hl.1 rfl (Nat.le_of_ble_eq_true rfl) ⟨Nat.le_of_ble_eq_true rfl, Nat.le_of_ble_eq_true rfl⟩ dL_law_567 hS hAM (fun H1 locs1 hX1 hS1 k1 => ?_)
  replace hS := hS1
  refine lv_icmp_eq (tgt := 1422) S.1 S.2.1 dL_law_570 (by decide) (fun _ => ?_) (fun z => absurd (fe_ticket (xs (Int32.toNatClampNeg 1)) (xs (Int32.toNatClampNeg 2)) (xs (Int32.toNatClampNeg 3)) (xs (Int32.toNatClampNeg 4))) z)
  refine W.widen (k := 43) (n := 1350) (Nat.le_of_ble_eq_true rfl) (Nat.le_of_ble_eq_true rfl) ?_
  exact kk _ _ hS
set_option maxRecDepth 100000 in
set_option maxHeartbeats 8000000 in
theorem lc_10 {p : Program} {e : Env} {s : State} {m : MethodId} {below : List Frame} {meth : Method} {c : Code} (l : Launch) {b : Nat} {xs : Nat → Int32} (S : CallFix p m c cL_law 4 s #[Value.ref b] wsL_law RL) (hY : va_X b 6 xs s s.heap) (hbl : b < s.heap.size) {Q : State → Prop} {D : va_G} {G : Gc} {aX aM : Nat → Nat → Nat} {H : Heap} {locs : List Loc} {ls : Array Slot} (hK : va_K D vwCl (tysG G) s) (hN : NW s) (hX : PIC D (XF G 0 0 aX) (XN 0 0) aX d0X H) (hM : PIC D (MF G aM) MN aM d0M H) (hAX : ∀ q, adS (XN 0 0) aX q → s.heap.size ≤ q) (hAM : ∀ q, adS MN aM q → s.heap.size ≤ q) (hdis : ∀ q, adS (XN 0 0) aX q → ¬ adS MN aM q) (hS : va_S (fun q => s.heap.size ≤ q) s.heap H locs) (hl : lv_has ls 4 [(3, .int 0), (2, .ref (aM 0 0)), (1, .ref (aX 0 0)), (0, .ref b)]) (kk : ∀ (H : Heap) (locs : List Loc), va_S (fun q => s.heap.size ≤ q) s.heap H locs → W p l e room_1 s m #[Value.ref b] below meth c H locs 43 1350 Q (F0 m 1422 ls [])) : W p l e room_1 s m #[Value.ref b] below meth c H locs 38 1303 Q (F0 m 575 ls []) := by
  have hbA : ¬ (fun q : Nat => s.heap.size ≤ q) b := Nat.not_le.mpr hbl
  refine lv_aload_n S.1 S.2.1 dL_law_575 rfl (lv_at hl 2 rfl) ?_
  refine lv_aload_n S.1 S.2.1 dL_law_576 rfl (lv_at hl 3 rfl) ?_
  refine lv_iload_n S.1 S.2.1 dL_law_577 rfl (lv_at hl 0 rfl) ?_
  refine lv_iconst (v := 1) S.1 S.2.1 dL_law_578 (by decide) ?_
  refine lv_iadd S.1 S.2.1 dL_law_579 (q_to (by decide : ((0 : Int32) + 1) = 1) ?_)
  refine va_sld S.1 S.2.1 hY hbl hbA hS (i := 1) vin6_1 dL_law_580 ?_
  refine lv_aload_n S.1 S.2.1 dL_law_581 rfl (lv_at hl 3 rfl) ?_
  refine lv_iload_n S.1 S.2.1 dL_law_582 rfl (lv_at hl 0 rfl) ?_
  refine lv_iconst (v := 2) S.1 S.2.1 dL_law_583 (by decide) ?_
  refine lv_iadd S.1 S.2.1 dL_law_584 (q_to (by decide : ((0 : Int32) + 2) = 2) ?_)
  refine va_sld S.1 S.2.1 hY hbl hbA hS (i := 2) vin6_2 dL_law_585 ?_
  refine cPV (rest := []) S (c0_X4_right l D G aX (xs (Int32.toNatClampNeg 1)) (xs (Int32.toNatClampNeg 2))) gV_RL_58 ds_X4_right ⟨rfl, rfl⟩ ⟨Nat.le_of_ble_eq_true rfl, Nat.le_of_ble_eq_true rfl⟩ ⟨blindX, recvX hK hX (k := 0) (i := 0) Nat.zero_lt_one rfl rfl, preX hK hN hX _⟩ rfl hl.1 rfl (Nat.le_of_ble_eq_true rfl) ⟨Nat.le_of_ble_eq_true rfl, Nat.le_of_ble_eq_true rfl⟩ dL_law_586 ?_
  refine lv_aload_n S.1 S.2.1 dL_law_589 rfl (lv_at hl 1 rfl) ?_
  refine lv_aload_n S.1 S.2.1 dL_law_590 rfl (lv_at hl 3 rfl) ?_
  refine lv_iload_n S.1 S.2.1 dL_law_591 rfl (lv_at hl 0 rfl) ?_
  refine lv_iconst (v := 1) S.1 S.2.1 dL_law_592 (by decide) ?_
  refine lv_iadd S.1 S.2.1 dL_law_593 (q_to (by decide : ((0 : Int32) + 1) = 1) ?_)
  refine va_sld S.1 S.2.1 hY hbl hbA hS (i := 1) vin6_1 dL_law_594 ?_
  refine lv_aload_n S.1 S.2.1 dL_law_595 rfl (lv_at hl 3 rfl) ?_
  refine lv_iload_n S.1 S.2.1 dL_law_596 rfl (lv_at hl 0 rfl) ?_
  refine lv_iconst (v := 2) S.1 S.2.1 dL_law_597 (by decide) ?_
  refine lv_iadd S.1 S.2.1 dL_law_598 (q_to (by decide : ((0 : Int32) + 2) = 2) ?_)
  refine va_sld S.1 S.2.1 hY hbl hbA hS (i := 2) vin6_2 dL_law_599 ?_
  refine cWV (rest := [.int (-1)]) (A := fun q => s.heap.size ≤ q) S (c_X5_right l D G aM d0M (xs (Int32.toNatClampNeg 1)) (xs (Int32.toNatClampNeg 2)) mi0) gV_RL_61 ds_X5_right ⟨rfl, rfl⟩ ⟨Nat.le_of_ble_eq_true rfl, Nat.le_of_ble_eq_true rfl⟩ ⟨blindX, recvX hK hM (k := 0) (i := 0) Nat.zero_lt_one rfl rfl, preX hK hN hM _⟩ rfl hl.1 rfl (Nat.le_of_ble_eq_true rfl) ⟨Nat.le_of_ble_eq_true rfl, Nat.le_of_ble_eq_true rfl⟩ dL_law_600 hS hAM (fun H1 locs1 hX1 hS1 k1 => ?_)
  replace hS := hS1
  refine lv_icmp_eq (tgt := 1422) S.1 S.2.1 dL_law_603 (by decide) (fun _ => ?_) (fun z => absurd (fe_right (xs (Int32.toNatClampNeg 1)) (xs (Int32.toNatClampNeg 2))) z)
  refine W.widen (k := 43) (n := 1350) (Nat.le_of_ble_eq_true rfl) (Nat.le_of_ble_eq_true rfl) ?_
  exact kk _ _ hS
set_option maxRecDepth 100000 in
set_option maxHeartbeats 8000000 in
theorem lc_11 {p : Program} {e : Env} {s : State} {m : MethodId} {below : List Frame} {meth : Method} {c : Code} (l : Launch) {b : Nat} {xs : Nat → Int32} (S : CallFix p m c cL_law 4 s #[Value.ref b] wsL_law RL) (hY : va_X b 6 xs s s.heap) (hbl : b < s.heap.size) {Q : State → Prop} {D : va_G} {G : Gc} {aX aM : Nat → Nat → Nat} {H : Heap} {locs : List Loc} {ls : Array Slot} (hK : va_K D vwCl (tysG G) s) (hN : NW s) (hX : PIC D (XF G 0 0 aX) (XN 0 0) aX d0X H) (hM : PIC D (MF G aM) MN aM d0M H) (hAX : ∀ q, adS (XN 0 0) aX q → s.heap.size ≤ q) (hAM : ∀ q, adS MN aM q → s.heap.size ≤ q) (hdis : ∀ q, adS (XN 0 0) aX q → ¬ adS MN aM q) (hS : va_S (fun q => s.heap.size ≤ q) s.heap H locs) (hl : lv_has ls 4 [(3, .int 0), (2, .ref (aM 0 0)), (1, .ref (aX 0 0)), (0, .ref b)]) (kk : ∀ (H : Heap) (locs : List Loc), va_S (fun q => s.heap.size ≤ q) s.heap H locs → W p l e room_1 s m #[Value.ref b] below meth c H locs 43 1350 Q (F0 m 1422 ls [])) : W p l e room_1 s m #[Value.ref b] below meth c H locs 38 1303 Q (F0 m 608 ls []) := by
  have hbA : ¬ (fun q : Nat => s.heap.size ≤ q) b := Nat.not_le.mpr hbl
  refine lv_aload_n S.1 S.2.1 dL_law_608 rfl (lv_at hl 2 rfl) ?_
  refine lv_aload_n S.1 S.2.1 dL_law_609 rfl (lv_at hl 3 rfl) ?_
  refine lv_iload_n S.1 S.2.1 dL_law_610 rfl (lv_at hl 0 rfl) ?_
  refine lv_iconst (v := 1) S.1 S.2.1 dL_law_611 (by decide) ?_
  refine lv_iadd S.1 S.2.1 dL_law_612 (q_to (by decide : ((0 : Int32) + 1) = 1) ?_)
  refine va_sld S.1 S.2.1 hY hbl hbA hS (i := 1) vin6_1 dL_law_613 ?_
  refine lv_aload_n S.1 S.2.1 dL_law_614 rfl (lv_at hl 3 rfl) ?_
  refine lv_iload_n S.1 S.2.1 dL_law_615 rfl (lv_at hl 0 rfl) ?_
  refine lv_iconst (v := 2) S.1 S.2.1 dL_law_616 (by decide) ?_
  refine lv_iadd S.1 S.2.1 dL_law_617 (q_to (by decide : ((0 : Int32) + 2) = 2) ?_)
  refine va_sld S.1 S.2.1 hY hbl hbA hS (i := 2) vin6_2 dL_law_618 ?_
  refine lv_aload_n S.1 S.2.1 dL_law_619 rfl (lv_at hl 3 rfl) ?_
  refine lv_iload_n S.1 S.2.1 dL_law_620 rfl (lv_at hl 0 rfl) ?_
  refine lv_iconst (v := 3) S.1 S.2.1 dL_law_621 (by decide) ?_
  refine lv_iadd S.1 S.2.1 dL_law_622 (q_to (by decide : ((0 : Int32) + 3) = 3) ?_)
  refine va_sld S.1 S.2.1 hY hbl hbA hS (i := 3) vin6_3 dL_law_623 ?_
  refine cPV (rest := []) S (c0_X4_remake l D G aX (xs (Int32.toNatClampNeg 1)) (xs (Int32.toNatClampNeg 2)) (xs (Int32.toNatClampNeg 3))) gV_RL_62 ds_X4_remake ⟨rfl, rfl⟩ ⟨Nat.le_of_ble_eq_true rfl, Nat.le_of_ble_eq_true rfl⟩ ⟨blindX, recvX hK hX (k := 0) (i := 0) Nat.zero_lt_one rfl rfl, preX hK hN hX _⟩ rfl hl.1 rfl (Nat.le_of_ble_eq_true rfl) ⟨Nat.le_of_ble_eq_true rfl, Nat.le_of_ble_eq_true rfl⟩ dL_law_624 ?_
  refine lv_aload_n S.1 S.2.1 dL_law_627 rfl (lv_at hl 1 rfl) ?_
  refine lv_aload_n S.1 S.2.1 dL_law_628 rfl (lv_at hl 3 rfl) ?_
  refine lv_iload_n S.1 S.2.1 dL_law_629 rfl (lv_at hl 0 rfl) ?_
  refine lv_iconst (v := 1) S.1 S.2.1 dL_law_630 (by decide) ?_
  refine lv_iadd S.1 S.2.1 dL_law_631 (q_to (by decide : ((0 : Int32) + 1) = 1) ?_)
  refine va_sld S.1 S.2.1 hY hbl hbA hS (i := 1) vin6_1 dL_law_632 ?_
  refine lv_aload_n S.1 S.2.1 dL_law_633 rfl (lv_at hl 3 rfl) ?_
  refine lv_iload_n S.1 S.2.1 dL_law_634 rfl (lv_at hl 0 rfl) ?_
  refine lv_iconst (v := 2) S.1 S.2.1 dL_law_635 (by decide) ?_
  refine lv_iadd S.1 S.2.1 dL_law_636 (q_to (by decide : ((0 : Int32) + 2) = 2) ?_)
  refine va_sld S.1 S.2.1 hY hbl hbA hS (i := 2) vin6_2 dL_law_637 ?_
  refine lv_aload_n S.1 S.2.1 dL_law_638 rfl (lv_at hl 3 rfl) ?_
  refine lv_iload_n S.1 S.2.1 dL_law_639 rfl (lv_at hl 0 rfl) ?_
  refine lv_iconst (v := 3) S.1 S.2.1 dL_law_640 (by decide) ?_
  refine lv_iadd S.1 S.2.1 dL_law_641 (q_to (by decide : ((0 : Int32) + 3) = 3) ?_)
  refine va_sld S.1 S.2.1 hY hbl hbA hS (i := 3) vin6_3 dL_law_642 ?_
  refine cPV (rest := [.int (-1)]) S (c0_X5_remake l D G aM (xs (Int32.toNatClampNeg 1)) (xs (Int32.toNatClampNeg 2)) (xs (Int32.toNatClampNeg 3))) gV_RL_65 ds_X5_remake ⟨rfl, rfl⟩ ⟨Nat.le_of_ble_eq_true rfl, Nat.le_of_ble_eq_true rfl⟩ ⟨blindX, recvX hK hM (k := 0) (i := 0) Nat.zero_lt_one rfl rfl, preX hK hN hM _⟩ rfl hl.1 rfl (Nat.le_of_ble_eq_true rfl) ⟨Nat.le_of_ble_eq_true rfl, Nat.le_of_ble_eq_true rfl⟩ dL_law_643 ?_
  refine lv_icmp_eq (tgt := 1422) S.1 S.2.1 dL_law_646 (by decide) (fun _ => ?_) (fun z => absurd (rfl : (-1 : Int32) = -1) z)
  refine W.widen (k := 43) (n := 1350) (Nat.le_of_ble_eq_true rfl) (Nat.le_of_ble_eq_true rfl) ?_
  exact kk _ _ hS
set_option maxRecDepth 100000 in
set_option maxHeartbeats 8000000 in
theorem lc_12 {p : Program} {e : Env} {s : State} {m : MethodId} {below : List Frame} {meth : Method} {c : Code} (l : Launch) {b : Nat} {xs : Nat → Int32} (S : CallFix p m c cL_law 4 s #[Value.ref b] wsL_law RL) (hY : va_X b 6 xs s s.heap) (hbl : b < s.heap.size) {Q : State → Prop} {D : va_G} {G : Gc} {aX aM : Nat → Nat → Nat} {H : Heap} {locs : List Loc} {ls : Array Slot} (hK : va_K D vwCl (tysG G) s) (hN : NW s) (hX : PIC D (XF G 0 0 aX) (XN 0 0) aX d0X H) (hM : PIC D (MF G aM) MN aM d0M H) (hAX : ∀ q, adS (XN 0 0) aX q → s.heap.size ≤ q) (hAM : ∀ q, adS MN aM q → s.heap.size ≤ q) (hdis : ∀ q, adS (XN 0 0) aX q → ¬ adS MN aM q) (hS : va_S (fun q => s.heap.size ≤ q) s.heap H locs) (hl : lv_has ls 4 [(3, .int 0), (2, .ref (aM 0 0)), (1, .ref (aX 0 0)), (0, .ref b)]) (kk : ∀ (H : Heap) (locs : List Loc), va_S (fun q => s.heap.size ≤ q) s.heap H locs → W p l e room_1 s m #[Value.ref b] below meth c H locs 43 1350 Q (F0 m 1422 ls [])) : W p l e room_1 s m #[Value.ref b] below meth c H locs 38 1303 Q (F0 m 651 ls []) := by
  have hbA : ¬ (fun q : Nat => s.heap.size ≤ q) b := Nat.not_le.mpr hbl
  refine lv_aload_n S.1 S.2.1 dL_law_651 rfl (lv_at hl 2 rfl) ?_
  refine lv_aload_n S.1 S.2.1 dL_law_652 rfl (lv_at hl 3 rfl) ?_
  refine lv_iload_n S.1 S.2.1 dL_law_653 rfl (lv_at hl 0 rfl) ?_
  refine lv_iconst (v := 1) S.1 S.2.1 dL_law_654 (by decide) ?_
  refine lv_iadd S.1 S.2.1 dL_law_655 (q_to (by decide : ((0 : Int32) + 1) = 1) ?_)
  refine va_sld S.1 S.2.1 hY hbl hbA hS (i := 1) vin6_1 dL_law_656 ?_
  refine lv_aload_n S.1 S.2.1 dL_law_657 rfl (lv_at hl 3 rfl) ?_
  refine lv_iload_n S.1 S.2.1 dL_law_658 rfl (lv_at hl 0 rfl) ?_
  refine lv_iconst (v := 2) S.1 S.2.1 dL_law_659 (by decide) ?_
  refine lv_iadd S.1 S.2.1 dL_law_660 (q_to (by decide : ((0 : Int32) + 2) = 2) ?_)
  refine va_sld S.1 S.2.1 hY hbl hbA hS (i := 2) vin6_2 dL_law_661 ?_
  refine cPV (rest := []) S (c_X4_ticketed l D G 0 0 aX d0X (xs (Int32.toNatClampNeg 1)) (xs (Int32.toNatClampNeg 2)) xi0) gV_RL_66 ds_X4_ticketed ⟨rfl, rfl⟩ ⟨Nat.le_of_ble_eq_true rfl, Nat.le_of_ble_eq_true rfl⟩ ⟨blindX, recvX hK hX (k := 0) (i := 0) Nat.zero_lt_one rfl rfl, preX hK hN hX _⟩ rfl hl.1 rfl (Nat.le_of_ble_eq_true rfl) ⟨Nat.le_of_ble_eq_true rfl, Nat.le_of_ble_eq_true rfl⟩ dL_law_662 ?_
  refine lv_aload_n S.1 S.2.1 dL_law_665 rfl (lv_at hl 1 rfl) ?_
  refine lv_aload_n S.1 S.2.1 dL_law_666 rfl (lv_at hl 3 rfl) ?_
  refine lv_iload_n S.1 S.2.1 dL_law_667 rfl (lv_at hl 0 rfl) ?_
  refine lv_iconst (v := 1) S.1 S.2.1 dL_law_668 (by decide) ?_
  refine lv_iadd S.1 S.2.1 dL_law_669 (q_to (by decide : ((0 : Int32) + 1) = 1) ?_)
  refine va_sld S.1 S.2.1 hY hbl hbA hS (i := 1) vin6_1 dL_law_670 ?_
  refine lv_aload_n S.1 S.2.1 dL_law_671 rfl (lv_at hl 3 rfl) ?_
  refine lv_iload_n S.1 S.2.1 dL_law_672 rfl (lv_at hl 0 rfl) ?_
  refine lv_iconst (v := 2) S.1 S.2.1 dL_law_673 (by decide) ?_
  refine lv_iadd S.1 S.2.1 dL_law_674 (q_to (by decide : ((0 : Int32) + 2) = 2) ?_)
  refine va_sld S.1 S.2.1 hY hbl hbA hS (i := 2) vin6_2 dL_law_675 ?_
  refine cPV (rest := [.int (sp_X4_ticketed d0X (xs (Int32.toNatClampNeg 1)) (xs (Int32.toNatClampNeg 2)))]) S (c_X5_ticketed l D G aM d0M (xs (Int32.toNatClampNeg 1)) (xs (Int32.toNatClampNeg 2)) mi0) gV_RL_69 ds_X5_ticketed ⟨rfl, rfl⟩ ⟨Nat.le_of_ble_eq_true rfl, Nat.le_of_ble_eq_true rfl⟩ ⟨blindX, recvX hK hM (k := 0) (i := 0) Nat.zero_lt_one rfl rfl, preX hK hN hM _⟩ rfl hl.1 rfl (Nat.le_of_ble_eq_true rfl) ⟨Nat.le_of_ble_eq_true rfl, Nat.le_of_ble_eq_true rfl⟩ dL_law_676 ?_
  refine lv_icmp_eq (tgt := 1422) S.1 S.2.1 dL_law_679 (by decide) (fun _ => ?_) (fun z => absurd (fe_ticketed (xs (Int32.toNatClampNeg 1)) (xs (Int32.toNatClampNeg 2))) z)
  refine W.widen (k := 43) (n := 1350) (Nat.le_of_ble_eq_true rfl) (Nat.le_of_ble_eq_true rfl) ?_
  exact kk _ _ hS
set_option maxRecDepth 100000 in
set_option maxHeartbeats 8000000 in
theorem lc_13 {p : Program} {e : Env} {s : State} {m : MethodId} {below : List Frame} {meth : Method} {c : Code} (l : Launch) {b : Nat} {xs : Nat → Int32} (S : CallFix p m c cL_law 4 s #[Value.ref b] wsL_law RL) (hY : va_X b 6 xs s s.heap) (hbl : b < s.heap.size) {Q : State → Prop} {D : va_G} {G : Gc} {aX aM : Nat → Nat → Nat} {H : Heap} {locs : List Loc} {ls : Array Slot} (hK : va_K D vwCl (tysG G) s) (hN : NW s) (hX : PIC D (XF G 0 0 aX) (XN 0 0) aX d0X H) (hM : PIC D (MF G aM) MN aM d0M H) (hAX : ∀ q, adS (XN 0 0) aX q → s.heap.size ≤ q) (hAM : ∀ q, adS MN aM q → s.heap.size ≤ q) (hdis : ∀ q, adS (XN 0 0) aX q → ¬ adS MN aM q) (hS : va_S (fun q => s.heap.size ≤ q) s.heap H locs) (hl : lv_has ls 4 [(3, .int 0), (2, .ref (aM 0 0)), (1, .ref (aX 0 0)), (0, .ref b)]) (kk : ∀ (H : Heap) (locs : List Loc), va_S (fun q => s.heap.size ≤ q) s.heap H locs → W p l e room_1 s m #[Value.ref b] below meth c H locs 43 1350 Q (F0 m 1422 ls [])) : W p l e room_1 s m #[Value.ref b] below meth c H locs 38 1303 Q (F0 m 684 ls []) := by
  have hbA : ¬ (fun q : Nat => s.heap.size ≤ q) b := Nat.not_le.mpr hbl
  refine lv_aload_n S.1 S.2.1 dL_law_684 rfl (lv_at hl 2 rfl) ?_
  refine lv_aload_n S.1 S.2.1 dL_law_685 rfl (lv_at hl 3 rfl) ?_
  refine lv_iload_n S.1 S.2.1 dL_law_686 rfl (lv_at hl 0 rfl) ?_
  refine lv_iconst (v := 1) S.1 S.2.1 dL_law_687 (by decide) ?_
  refine lv_iadd S.1 S.2.1 dL_law_688 (q_to (by decide : ((0 : Int32) + 1) = 1) ?_)
  refine va_sld S.1 S.2.1 hY hbl hbA hS (i := 1) vin6_1 dL_law_689 ?_
  refine cPV (rest := []) S (c_X4_volume l D G 0 0 aX d0X (xs (Int32.toNatClampNeg 1)) xi0) gV_RL_70 ds_X4_volume ⟨rfl, rfl⟩ ⟨Nat.le_of_ble_eq_true rfl, Nat.le_of_ble_eq_true rfl⟩ ⟨blindX, recvX hK hX (k := 0) (i := 0) Nat.zero_lt_one rfl rfl, preX hK hN hX _⟩ rfl hl.1 rfl (Nat.le_of_ble_eq_true rfl) ⟨Nat.le_of_ble_eq_true rfl, Nat.le_of_ble_eq_true rfl⟩ dL_law_690 ?_
  refine lv_aload_n S.1 S.2.1 dL_law_693 rfl (lv_at hl 1 rfl) ?_
  refine lv_aload_n S.1 S.2.1 dL_law_694 rfl (lv_at hl 3 rfl) ?_
  refine lv_iload_n S.1 S.2.1 dL_law_695 rfl (lv_at hl 0 rfl) ?_
  refine lv_iconst (v := 1) S.1 S.2.1 dL_law_696 (by decide) ?_
  refine lv_iadd S.1 S.2.1 dL_law_697 (q_to (by decide : ((0 : Int32) + 1) = 1) ?_)
  refine va_sld S.1 S.2.1 hY hbl hbA hS (i := 1) vin6_1 dL_law_698 ?_
  refine cPV (rest := [.long (sp_X4_volume d0X (xs (Int32.toNatClampNeg 1)))]) S (c_X5_volume l D G aM d0M (xs (Int32.toNatClampNeg 1)) mi0) gV_RL_74 ds_X5_volume ⟨rfl, rfl⟩ ⟨Nat.le_of_ble_eq_true rfl, Nat.le_of_ble_eq_true rfl⟩ ⟨blindX, recvX hK hM (k := 0) (i := 0) Nat.zero_lt_one rfl rfl, preX hK hN hM _⟩ rfl hl.1 rfl (Nat.le_of_ble_eq_true rfl) ⟨Nat.le_of_ble_eq_true rfl, Nat.le_of_ble_eq_true rfl⟩ dL_law_699 ?_
  refine q_lcmp_eq (tgt := 1422) S rfl rfl dL_law_702 dL_law_703 (by decide) (fun _ => ?_) (fun z => absurd (congrArg Int64.toInt (fe_volume (xs (Int32.toNatClampNeg 1)))) z)
  refine W.widen (k := 43) (n := 1350) (Nat.le_of_ble_eq_true rfl) (Nat.le_of_ble_eq_true rfl) ?_
  exact kk _ _ hS
set_option maxRecDepth 100000 in
set_option maxHeartbeats 8000000 in
theorem lc_14 {p : Program} {e : Env} {s : State} {m : MethodId} {below : List Frame} {meth : Method} {c : Code} (l : Launch) {b : Nat} {xs : Nat → Int32} (S : CallFix p m c cL_law 4 s #[Value.ref b] wsL_law RL) (hY : va_X b 6 xs s s.heap) (hbl : b < s.heap.size) {Q : State → Prop} {D : va_G} {G : Gc} {aX aM : Nat → Nat → Nat} {H : Heap} {locs : List Loc} {ls : Array Slot} (hK : va_K D vwCl (tysG G) s) (hN : NW s) (hX : PIC D (XF G 0 0 aX) (XN 0 0) aX d0X H) (hM : PIC D (MF G aM) MN aM d0M H) (hAX : ∀ q, adS (XN 0 0) aX q → s.heap.size ≤ q) (hAM : ∀ q, adS MN aM q → s.heap.size ≤ q) (hdis : ∀ q, adS (XN 0 0) aX q → ¬ adS MN aM q) (hS : va_S (fun q => s.heap.size ≤ q) s.heap H locs) (hl : lv_has ls 4 [(3, .int 0), (2, .ref (aM 0 0)), (1, .ref (aX 0 0)), (0, .ref b)]) (kk : ∀ (H : Heap) (locs : List Loc), va_S (fun q => s.heap.size ≤ q) s.heap H locs → W p l e room_1 s m #[Value.ref b] below meth c H locs 43 1350 Q (F0 m 1422 ls [])) : W p l e room_1 s m #[Value.ref b] below meth c H locs 38 1303 Q (F0 m 708 ls []) := by
  have hbA : ¬ (fun q : Nat => s.heap.size ≤ q) b := Nat.not_le.mpr hbl
  refine lv_aload_n S.1 S.2.1 dL_law_708 rfl (lv_at hl 2 rfl) ?_
  refine lv_aload_n S.1 S.2.1 dL_law_709 rfl (lv_at hl 3 rfl) ?_
  refine lv_iload_n S.1 S.2.1 dL_law_710 rfl (lv_at hl 0 rfl) ?_
  refine lv_iconst (v := 1) S.1 S.2.1 dL_law_711 (by decide) ?_
  refine lv_iadd S.1 S.2.1 dL_law_712 (q_to (by decide : ((0 : Int32) + 1) = 1) ?_)
  refine va_sld S.1 S.2.1 hY hbl hbA hS (i := 1) vin6_1 dL_law_713 ?_
  refine lv_aload_n S.1 S.2.1 dL_law_714 rfl (lv_at hl 3 rfl) ?_
  refine lv_iload_n S.1 S.2.1 dL_law_715 rfl (lv_at hl 0 rfl) ?_
  refine lv_iconst (v := 2) S.1 S.2.1 dL_law_716 (by decide) ?_
  refine lv_iadd S.1 S.2.1 dL_law_717 (q_to (by decide : ((0 : Int32) + 2) = 2) ?_)
  refine va_sld S.1 S.2.1 hY hbl hbA hS (i := 2) vin6_2 dL_law_718 ?_
  refine lv_aload_n S.1 S.2.1 dL_law_719 rfl (lv_at hl 3 rfl) ?_
  refine lv_iload_n S.1 S.2.1 dL_law_720 rfl (lv_at hl 0 rfl) ?_
  refine lv_iconst (v := 3) S.1 S.2.1 dL_law_721 (by decide) ?_
  refine lv_iadd S.1 S.2.1 dL_law_722 (q_to (by decide : ((0 : Int32) + 3) = 3) ?_)
  refine va_sld S.1 S.2.1 hY hbl hbA hS (i := 3) vin6_3 dL_law_723 ?_
  refine cPV (rest := []) S (c_X4_sum l D G 0 0 aX d0X (xs (Int32.toNatClampNeg 1)) (xs (Int32.toNatClampNeg 2)) (xs (Int32.toNatClampNeg 3)) xi0) gV_RL_75 ds_X4_sum ⟨rfl, rfl⟩ ⟨Nat.le_of_ble_eq_true rfl, Nat.le_of_ble_eq_true rfl⟩ ⟨blindX, recvX hK hX (k := 0) (i := 0) Nat.zero_lt_one rfl rfl, preX hK hN hX _⟩ rfl hl.1 rfl (Nat.le_of_ble_eq_true rfl) ⟨Nat.le_of_ble_eq_true rfl, Nat.le_of_ble_eq_true rfl⟩ dL_law_724 ?_
  refine lv_aload_n S.1 S.2.1 dL_law_727 rfl (lv_at hl 1 rfl) ?_
  refine lv_aload_n S.1 S.2.1 dL_law_728 rfl (lv_at hl 3 rfl) ?_
  refine lv_iload_n S.1 S.2.1 dL_law_729 rfl (lv_at hl 0 rfl) ?_
  refine lv_iconst (v := 1) S.1 S.2.1 dL_law_730 (by decide) ?_
  refine lv_iadd S.1 S.2.1 dL_law_731 (q_to (by decide : ((0 : Int32) + 1) = 1) ?_)
  refine va_sld S.1 S.2.1 hY hbl hbA hS (i := 1) vin6_1 dL_law_732 ?_
  refine lv_aload_n S.1 S.2.1 dL_law_733 rfl (lv_at hl 3 rfl) ?_
  refine lv_iload_n S.1 S.2.1 dL_law_734 rfl (lv_at hl 0 rfl) ?_
  refine lv_iconst (v := 2) S.1 S.2.1 dL_law_735 (by decide) ?_
  refine lv_iadd S.1 S.2.1 dL_law_736 (q_to (by decide : ((0 : Int32) + 2) = 2) ?_)
  refine va_sld S.1 S.2.1 hY hbl hbA hS (i := 2) vin6_2 dL_law_737 ?_
  refine lv_aload_n S.1 S.2.1 dL_law_738 rfl (lv_at hl 3 rfl) ?_
  refine lv_iload_n S.1 S.2.1 dL_law_739 rfl (lv_at hl 0 rfl) ?_
  refine lv_iconst (v := 3) S.1 S.2.1 dL_law_740 (by decide) ?_
  refine lv_iadd S.1 S.2.1 dL_law_741 (q_to (by decide : ((0 : Int32) + 3) = 3) ?_)
  refine va_sld S.1 S.2.1 hY hbl hbA hS (i := 3) vin6_3 dL_law_742 ?_
  refine cPV (rest := [.long (sp_X4_sum d0X (xs (Int32.toNatClampNeg 1)) (xs (Int32.toNatClampNeg 2)) (xs (Int32.toNatClampNeg 3)))]) S (c_X5_sum l D G aM d0M (xs (Int32.toNatClampNeg 1)) (xs (Int32.toNatClampNeg 2)) (xs (Int32.toNatClampNeg 3)) mi0) gV_RL_78 ds_X5_sum ⟨rfl, rfl⟩ ⟨Nat.le_of_ble_eq_true rfl, Nat.le_of_ble_eq_true rfl⟩ ⟨blindX, recvX hK hM (k := 0) (i := 0) Nat.zero_lt_one rfl rfl, preX hK hN hM _⟩ rfl hl.1 rfl (Nat.le_of_ble_eq_true rfl) ⟨Nat.le_of_ble_eq_true rfl, Nat.le_of_ble_eq_true rfl⟩ dL_law_743 ?_
  refine q_lcmp_eq (tgt := 1422) S rfl rfl dL_law_746 dL_law_747 (by decide) (fun _ => ?_) (fun z => absurd (congrArg Int64.toInt (fe_sum (xs (Int32.toNatClampNeg 1)) (xs (Int32.toNatClampNeg 2)) (xs (Int32.toNatClampNeg 3)))) z)
  refine W.widen (k := 43) (n := 1350) (Nat.le_of_ble_eq_true rfl) (Nat.le_of_ble_eq_true rfl) ?_
  exact kk _ _ hS
set_option maxRecDepth 100000 in
set_option maxHeartbeats 8000000 in
theorem lc_15 {p : Program} {e : Env} {s : State} {m : MethodId} {below : List Frame} {meth : Method} {c : Code} (l : Launch) {b : Nat} {xs : Nat → Int32} (S : CallFix p m c cL_law 4 s #[Value.ref b] wsL_law RL) (hY : va_X b 6 xs s s.heap) (hbl : b < s.heap.size) {Q : State → Prop} {D : va_G} {G : Gc} {aX aM : Nat → Nat → Nat} {H : Heap} {locs : List Loc} {ls : Array Slot} (hK : va_K D vwCl (tysG G) s) (hN : NW s) (hX : PIC D (XF G 0 0 aX) (XN 0 0) aX d0X H) (hM : PIC D (MF G aM) MN aM d0M H) (hAX : ∀ q, adS (XN 0 0) aX q → s.heap.size ≤ q) (hAM : ∀ q, adS MN aM q → s.heap.size ≤ q) (hdis : ∀ q, adS (XN 0 0) aX q → ¬ adS MN aM q) (hS : va_S (fun q => s.heap.size ≤ q) s.heap H locs) (hl : lv_has ls 4 [(3, .int 0), (2, .ref (aM 0 0)), (1, .ref (aX 0 0)), (0, .ref b)]) (kk : ∀ (H : Heap) (locs : List Loc), va_S (fun q => s.heap.size ≤ q) s.heap H locs → W p l e room_1 s m #[Value.ref b] below meth c H locs 43 1350 Q (F0 m 1422 ls [])) : W p l e room_1 s m #[Value.ref b] below meth c H locs 38 1303 Q (F0 m 752 ls []) := by
  have hbA : ¬ (fun q : Nat => s.heap.size ≤ q) b := Nat.not_le.mpr hbl
  refine lv_aload_n S.1 S.2.1 dL_law_752 rfl (lv_at hl 2 rfl) ?_
  refine lv_aload_n S.1 S.2.1 dL_law_753 rfl (lv_at hl 3 rfl) ?_
  refine lv_iload_n S.1 S.2.1 dL_law_754 rfl (lv_at hl 0 rfl) ?_
  refine lv_iconst (v := 1) S.1 S.2.1 dL_law_755 (by decide) ?_
  refine lv_iadd S.1 S.2.1 dL_law_756 (q_to (by decide : ((0 : Int32) + 1) = 1) ?_)
  refine va_sld S.1 S.2.1 hY hbl hbA hS (i := 1) vin6_1 dL_law_757 ?_
  refine cWV (rest := []) (A := fun q => s.heap.size ≤ q) S (c_X4_shut l D G 0 0 aX d0X (xs (Int32.toNatClampNeg 1)) xi0) gV_RL_79 ds_X4_shut ⟨rfl, rfl⟩ ⟨Nat.le_of_ble_eq_true rfl, Nat.le_of_ble_eq_true rfl⟩ ⟨blindX, recvX hK hX (k := 0) (i := 0) Nat.zero_lt_one rfl rfl, preX hK hN hX _⟩ rfl hl.1 rfl (Nat.le_of_ble_eq_true rfl) ⟨Nat.le_of_ble_eq_true rfl, Nat.le_of_ble_eq_true rfl⟩ dL_law_758 hS hAX (fun H1 locs1 hX1 hS1 k1 => ?_)
  have hM1 := hM.kept (H1 := H1) (fun q hq => k1 q (hM.sz hq) (fun z => hdis q z hq))
  replace hM := hM1
  replace hS := hS1
  refine lv_aload_n S.1 S.2.1 dL_law_761 rfl (lv_at hl 1 rfl) ?_
  refine lv_aload_n S.1 S.2.1 dL_law_762 rfl (lv_at hl 3 rfl) ?_
  refine lv_iload_n S.1 S.2.1 dL_law_763 rfl (lv_at hl 0 rfl) ?_
  refine lv_iconst (v := 1) S.1 S.2.1 dL_law_764 (by decide) ?_
  refine lv_iadd S.1 S.2.1 dL_law_765 (q_to (by decide : ((0 : Int32) + 1) = 1) ?_)
  refine va_sld S.1 S.2.1 hY hbl hbA hS (i := 1) vin6_1 dL_law_766 ?_
  refine cWV (rest := [.int (sp_X4_shut d0X (xs (Int32.toNatClampNeg 1))).1]) (A := fun q => s.heap.size ≤ q) S (c_X5_shut l D G aM d0M (xs (Int32.toNatClampNeg 1)) mi0) gV_RL_82 ds_X5_shut ⟨rfl, rfl⟩ ⟨Nat.le_of_ble_eq_true rfl, Nat.le_of_ble_eq_true rfl⟩ ⟨blindX, recvX hK hM (k := 0) (i := 0) Nat.zero_lt_one rfl rfl, preX hK hN hM _⟩ rfl hl.1 rfl (Nat.le_of_ble_eq_true rfl) ⟨Nat.le_of_ble_eq_true rfl, Nat.le_of_ble_eq_true rfl⟩ dL_law_767 hS hAM (fun H1 locs1 hX1 hS1 k1 => ?_)
  replace hS := hS1
  refine lv_icmp_eq (tgt := 1422) S.1 S.2.1 dL_law_770 (by decide) (fun _ => ?_) (fun z => absurd (fe_shut (xs (Int32.toNatClampNeg 1))) z)
  refine W.widen (k := 43) (n := 1350) (Nat.le_of_ble_eq_true rfl) (Nat.le_of_ble_eq_true rfl) ?_
  exact kk _ _ hS
set_option maxRecDepth 100000 in
set_option maxHeartbeats 8000000 in
theorem lc_16 {p : Program} {e : Env} {s : State} {m : MethodId} {below : List Frame} {meth : Method} {c : Code} (l : Launch) {b : Nat} {xs : Nat → Int32} (S : CallFix p m c cL_law 4 s #[Value.ref b] wsL_law RL) (hY : va_X b 6 xs s s.heap) (hbl : b < s.heap.size) {Q : State → Prop} {D : va_G} {G : Gc} {aX aM : Nat → Nat → Nat} {H : Heap} {locs : List Loc} {ls : Array Slot} (hK : va_K D vwCl (tysG G) s) (hN : NW s) (hX : PIC D (XF G 0 0 aX) (XN 0 0) aX d0X H) (hM : PIC D (MF G aM) MN aM d0M H) (hAX : ∀ q, adS (XN 0 0) aX q → s.heap.size ≤ q) (hAM : ∀ q, adS MN aM q → s.heap.size ≤ q) (hdis : ∀ q, adS (XN 0 0) aX q → ¬ adS MN aM q) (hS : va_S (fun q => s.heap.size ≤ q) s.heap H locs) (hl : lv_has ls 4 [(3, .int 0), (2, .ref (aM 0 0)), (1, .ref (aX 0 0)), (0, .ref b)]) (kk : ∀ (H : Heap) (locs : List Loc), va_S (fun q => s.heap.size ≤ q) s.heap H locs → W p l e room_1 s m #[Value.ref b] below meth c H locs 43 1350 Q (F0 m 1422 ls [])) : W p l e room_1 s m #[Value.ref b] below meth c H locs 38 1303 Q (F0 m 775 ls []) := by
  have hbA : ¬ (fun q : Nat => s.heap.size ≤ q) b := Nat.not_le.mpr hbl
  refine lv_aload_n S.1 S.2.1 dL_law_775 rfl (lv_at hl 2 rfl) ?_
  refine lv_aload_n S.1 S.2.1 dL_law_776 rfl (lv_at hl 3 rfl) ?_
  refine lv_iload_n S.1 S.2.1 dL_law_777 rfl (lv_at hl 0 rfl) ?_
  refine lv_iconst (v := 1) S.1 S.2.1 dL_law_778 (by decide) ?_
  refine lv_iadd S.1 S.2.1 dL_law_779 (q_to (by decide : ((0 : Int32) + 1) = 1) ?_)
  refine va_sld S.1 S.2.1 hY hbl hbA hS (i := 1) vin6_1 dL_law_780 ?_
  refine lv_aload_n S.1 S.2.1 dL_law_781 rfl (lv_at hl 3 rfl) ?_
  refine lv_iload_n S.1 S.2.1 dL_law_782 rfl (lv_at hl 0 rfl) ?_
  refine lv_iconst (v := 2) S.1 S.2.1 dL_law_783 (by decide) ?_
  refine lv_iadd S.1 S.2.1 dL_law_784 (q_to (by decide : ((0 : Int32) + 2) = 2) ?_)
  refine va_sld S.1 S.2.1 hY hbl hbA hS (i := 2) vin6_2 dL_law_785 ?_
  refine lv_aload_n S.1 S.2.1 dL_law_786 rfl (lv_at hl 3 rfl) ?_
  refine lv_iload_n S.1 S.2.1 dL_law_787 rfl (lv_at hl 0 rfl) ?_
  refine lv_iconst (v := 3) S.1 S.2.1 dL_law_788 (by decide) ?_
  refine lv_iadd S.1 S.2.1 dL_law_789 (q_to (by decide : ((0 : Int32) + 3) = 3) ?_)
  refine va_sld S.1 S.2.1 hY hbl hbA hS (i := 3) vin6_3 dL_law_790 ?_
  refine cWV (rest := []) (A := fun q => s.heap.size ≤ q) S (c_X4_line l D G 0 0 aX d0X (xs (Int32.toNatClampNeg 1)) (xs (Int32.toNatClampNeg 2)) (xs (Int32.toNatClampNeg 3)) xi0) gV_RL_83 ds_X4_line ⟨rfl, rfl⟩ ⟨Nat.le_of_ble_eq_true rfl, Nat.le_of_ble_eq_true rfl⟩ ⟨blindX, recvX hK hX (k := 0) (i := 0) Nat.zero_lt_one rfl rfl, preX hK hN hX _⟩ rfl hl.1 rfl (Nat.le_of_ble_eq_true rfl) ⟨Nat.le_of_ble_eq_true rfl, Nat.le_of_ble_eq_true rfl⟩ dL_law_791 hS hAX (fun H1 locs1 hX1 hS1 k1 => ?_)
  have hM1 := hM.kept (H1 := H1) (fun q hq => k1 q (hM.sz hq) (fun z => hdis q z hq))
  replace hM := hM1
  replace hS := hS1
  refine lv_aload_n S.1 S.2.1 dL_law_794 rfl (lv_at hl 1 rfl) ?_
  refine lv_aload_n S.1 S.2.1 dL_law_795 rfl (lv_at hl 3 rfl) ?_
  refine lv_iload_n S.1 S.2.1 dL_law_796 rfl (lv_at hl 0 rfl) ?_
  refine lv_iconst (v := 1) S.1 S.2.1 dL_law_797 (by decide) ?_
  refine lv_iadd S.1 S.2.1 dL_law_798 (q_to (by decide : ((0 : Int32) + 1) = 1) ?_)
  refine va_sld S.1 S.2.1 hY hbl hbA hS (i := 1) vin6_1 dL_law_799 ?_
  refine lv_aload_n S.1 S.2.1 dL_law_800 rfl (lv_at hl 3 rfl) ?_
  refine lv_iload_n S.1 S.2.1 dL_law_801 rfl (lv_at hl 0 rfl) ?_
  refine lv_iconst (v := 2) S.1 S.2.1 dL_law_802 (by decide) ?_
  refine lv_iadd S.1 S.2.1 dL_law_803 (q_to (by decide : ((0 : Int32) + 2) = 2) ?_)
  refine va_sld S.1 S.2.1 hY hbl hbA hS (i := 2) vin6_2 dL_law_804 ?_
  refine lv_aload_n S.1 S.2.1 dL_law_805 rfl (lv_at hl 3 rfl) ?_
  refine lv_iload_n S.1 S.2.1 dL_law_806 rfl (lv_at hl 0 rfl) ?_
  refine lv_iconst (v := 3) S.1 S.2.1 dL_law_807 (by decide) ?_
  refine lv_iadd S.1 S.2.1 dL_law_808 (q_to (by decide : ((0 : Int32) + 3) = 3) ?_)
  refine va_sld S.1 S.2.1 hY hbl hbA hS (i := 3) vin6_3 dL_law_809 ?_
  refine cWV (rest := [.int (sp_X4_line d0X (xs (Int32.toNatClampNeg 1)) (xs (Int32.toNatClampNeg 2)) (xs (Int32.toNatClampNeg 3))).1]) (A := fun q => s.heap.size ≤ q) S (c_X5_line l D G aM d0M (xs (Int32.toNatClampNeg 1)) (xs (Int32.toNatClampNeg 2)) (xs (Int32.toNatClampNeg 3)) mi0) gV_RL_86 ds_X5_line ⟨rfl, rfl⟩ ⟨Nat.le_of_ble_eq_true rfl, Nat.le_of_ble_eq_true rfl⟩ ⟨blindX, recvX hK hM (k := 0) (i := 0) Nat.zero_lt_one rfl rfl, preX hK hN hM _⟩ rfl hl.1 rfl (Nat.le_of_ble_eq_true rfl) ⟨Nat.le_of_ble_eq_true rfl, Nat.le_of_ble_eq_true rfl⟩ dL_law_810 hS hAM (fun H1 locs1 hX1 hS1 k1 => ?_)
  replace hS := hS1
  refine lv_icmp_eq (tgt := 1422) S.1 S.2.1 dL_law_813 (by decide) (fun _ => ?_) (fun z => absurd (fe_line (xs (Int32.toNatClampNeg 1)) (xs (Int32.toNatClampNeg 2)) (xs (Int32.toNatClampNeg 3))) z)
  refine W.widen (k := 43) (n := 1350) (Nat.le_of_ble_eq_true rfl) (Nat.le_of_ble_eq_true rfl) ?_
  exact kk _ _ hS
set_option maxRecDepth 100000 in
set_option maxHeartbeats 8000000 in
theorem lc_17 {p : Program} {e : Env} {s : State} {m : MethodId} {below : List Frame} {meth : Method} {c : Code} (l : Launch) {b : Nat} {xs : Nat → Int32} (S : CallFix p m c cL_law 4 s #[Value.ref b] wsL_law RL) (hY : va_X b 6 xs s s.heap) (hbl : b < s.heap.size) {Q : State → Prop} {D : va_G} {G : Gc} {aX aM : Nat → Nat → Nat} {H : Heap} {locs : List Loc} {ls : Array Slot} (hK : va_K D vwCl (tysG G) s) (hN : NW s) (hX : PIC D (XF G 0 0 aX) (XN 0 0) aX d0X H) (hM : PIC D (MF G aM) MN aM d0M H) (hAX : ∀ q, adS (XN 0 0) aX q → s.heap.size ≤ q) (hAM : ∀ q, adS MN aM q → s.heap.size ≤ q) (hdis : ∀ q, adS (XN 0 0) aX q → ¬ adS MN aM q) (hS : va_S (fun q => s.heap.size ≤ q) s.heap H locs) (hl : lv_has ls 4 [(3, .int 0), (2, .ref (aM 0 0)), (1, .ref (aX 0 0)), (0, .ref b)]) (kk : ∀ (H : Heap) (locs : List Loc), va_S (fun q => s.heap.size ≤ q) s.heap H locs → W p l e room_1 s m #[Value.ref b] below meth c H locs 43 1350 Q (F0 m 1422 ls [])) : W p l e room_1 s m #[Value.ref b] below meth c H locs 38 1303 Q (F0 m 818 ls []) := by
  have hbA : ¬ (fun q : Nat => s.heap.size ≤ q) b := Nat.not_le.mpr hbl
  refine lv_aload_n S.1 S.2.1 dL_law_818 rfl (lv_at hl 2 rfl) ?_
  refine lv_aload_n S.1 S.2.1 dL_law_819 rfl (lv_at hl 3 rfl) ?_
  refine lv_iload_n S.1 S.2.1 dL_law_820 rfl (lv_at hl 0 rfl) ?_
  refine lv_iconst (v := 1) S.1 S.2.1 dL_law_821 (by decide) ?_
  refine lv_iadd S.1 S.2.1 dL_law_822 (q_to (by decide : ((0 : Int32) + 1) = 1) ?_)
  refine va_sld S.1 S.2.1 hY hbl hbA hS (i := 1) vin6_1 dL_law_823 ?_
  refine lv_aload_n S.1 S.2.1 dL_law_824 rfl (lv_at hl 3 rfl) ?_
  refine lv_iload_n S.1 S.2.1 dL_law_825 rfl (lv_at hl 0 rfl) ?_
  refine lv_iconst (v := 2) S.1 S.2.1 dL_law_826 (by decide) ?_
  refine lv_iadd S.1 S.2.1 dL_law_827 (q_to (by decide : ((0 : Int32) + 2) = 2) ?_)
  refine va_sld S.1 S.2.1 hY hbl hbA hS (i := 2) vin6_2 dL_law_828 ?_
  refine cPV (rest := []) S (c_X4_lined l D G 0 0 aX d0X (xs (Int32.toNatClampNeg 1)) (xs (Int32.toNatClampNeg 2)) xi0) gV_RL_87 ds_X4_lined ⟨rfl, rfl⟩ ⟨Nat.le_of_ble_eq_true rfl, Nat.le_of_ble_eq_true rfl⟩ ⟨blindX, recvX hK hX (k := 0) (i := 0) Nat.zero_lt_one rfl rfl, preX hK hN hX _⟩ rfl hl.1 rfl (Nat.le_of_ble_eq_true rfl) ⟨Nat.le_of_ble_eq_true rfl, Nat.le_of_ble_eq_true rfl⟩ dL_law_829 ?_
  refine lv_aload_n S.1 S.2.1 dL_law_832 rfl (lv_at hl 1 rfl) ?_
  refine lv_aload_n S.1 S.2.1 dL_law_833 rfl (lv_at hl 3 rfl) ?_
  refine lv_iload_n S.1 S.2.1 dL_law_834 rfl (lv_at hl 0 rfl) ?_
  refine lv_iconst (v := 1) S.1 S.2.1 dL_law_835 (by decide) ?_
  refine lv_iadd S.1 S.2.1 dL_law_836 (q_to (by decide : ((0 : Int32) + 1) = 1) ?_)
  refine va_sld S.1 S.2.1 hY hbl hbA hS (i := 1) vin6_1 dL_law_837 ?_
  refine lv_aload_n S.1 S.2.1 dL_law_838 rfl (lv_at hl 3 rfl) ?_
  refine lv_iload_n S.1 S.2.1 dL_law_839 rfl (lv_at hl 0 rfl) ?_
  refine lv_iconst (v := 2) S.1 S.2.1 dL_law_840 (by decide) ?_
  refine lv_iadd S.1 S.2.1 dL_law_841 (q_to (by decide : ((0 : Int32) + 2) = 2) ?_)
  refine va_sld S.1 S.2.1 hY hbl hbA hS (i := 2) vin6_2 dL_law_842 ?_
  refine cPV (rest := [.int (sp_X4_lined d0X (xs (Int32.toNatClampNeg 1)) (xs (Int32.toNatClampNeg 2)))]) S (c_X5_lined l D G aM d0M (xs (Int32.toNatClampNeg 1)) (xs (Int32.toNatClampNeg 2)) mi0) gV_RL_90 ds_X5_lined ⟨rfl, rfl⟩ ⟨Nat.le_of_ble_eq_true rfl, Nat.le_of_ble_eq_true rfl⟩ ⟨blindX, recvX hK hM (k := 0) (i := 0) Nat.zero_lt_one rfl rfl, preX hK hN hM _⟩ rfl hl.1 rfl (Nat.le_of_ble_eq_true rfl) ⟨Nat.le_of_ble_eq_true rfl, Nat.le_of_ble_eq_true rfl⟩ dL_law_843 ?_
  refine lv_icmp_eq (tgt := 1422) S.1 S.2.1 dL_law_846 (by decide) (fun _ => ?_) (fun z => absurd (fe_lined (xs (Int32.toNatClampNeg 1)) (xs (Int32.toNatClampNeg 2))) z)
  refine W.widen (k := 43) (n := 1350) (Nat.le_of_ble_eq_true rfl) (Nat.le_of_ble_eq_true rfl) ?_
  exact kk _ _ hS
set_option maxRecDepth 100000 in
set_option maxHeartbeats 8000000 in
theorem lc_18 {p : Program} {e : Env} {s : State} {m : MethodId} {below : List Frame} {meth : Method} {c : Code} (l : Launch) {b : Nat} {xs : Nat → Int32} (S : CallFix p m c cL_law 4 s #[Value.ref b] wsL_law RL) (hY : va_X b 6 xs s s.heap) (hbl : b < s.heap.size) {Q : State → Prop} {D : va_G} {G : Gc} {aX aM : Nat → Nat → Nat} {H : Heap} {locs : List Loc} {ls : Array Slot} (hK : va_K D vwCl (tysG G) s) (hN : NW s) (hX : PIC D (XF G 0 0 aX) (XN 0 0) aX d0X H) (hM : PIC D (MF G aM) MN aM d0M H) (hAX : ∀ q, adS (XN 0 0) aX q → s.heap.size ≤ q) (hAM : ∀ q, adS MN aM q → s.heap.size ≤ q) (hdis : ∀ q, adS (XN 0 0) aX q → ¬ adS MN aM q) (hS : va_S (fun q => s.heap.size ≤ q) s.heap H locs) (hl : lv_has ls 4 [(3, .int 0), (2, .ref (aM 0 0)), (1, .ref (aX 0 0)), (0, .ref b)]) (kk : ∀ (H : Heap) (locs : List Loc), va_S (fun q => s.heap.size ≤ q) s.heap H locs → W p l e room_1 s m #[Value.ref b] below meth c H locs 43 1350 Q (F0 m 1422 ls [])) : W p l e room_1 s m #[Value.ref b] below meth c H locs 38 1303 Q (F0 m 851 ls []) := by
  have hbA : ¬ (fun q : Nat => s.heap.size ≤ q) b := Nat.not_le.mpr hbl
  refine lv_aload_n S.1 S.2.1 dL_law_851 rfl (lv_at hl 2 rfl) ?_
  refine lv_aload_n S.1 S.2.1 dL_law_852 rfl (lv_at hl 3 rfl) ?_
  refine lv_iload_n S.1 S.2.1 dL_law_853 rfl (lv_at hl 0 rfl) ?_
  refine lv_iconst (v := 1) S.1 S.2.1 dL_law_854 (by decide) ?_
  refine lv_iadd S.1 S.2.1 dL_law_855 (q_to (by decide : ((0 : Int32) + 1) = 1) ?_)
  refine va_sld S.1 S.2.1 hY hbl hbA hS (i := 1) vin6_1 dL_law_856 ?_
  refine lv_aload_n S.1 S.2.1 dL_law_857 rfl (lv_at hl 3 rfl) ?_
  refine lv_iload_n S.1 S.2.1 dL_law_858 rfl (lv_at hl 0 rfl) ?_
  refine lv_iconst (v := 2) S.1 S.2.1 dL_law_859 (by decide) ?_
  refine lv_iadd S.1 S.2.1 dL_law_860 (q_to (by decide : ((0 : Int32) + 2) = 2) ?_)
  refine va_sld S.1 S.2.1 hY hbl hbA hS (i := 2) vin6_2 dL_law_861 ?_
  refine cWV (rest := []) (A := fun q => s.heap.size ≤ q) S (c_X4_end l D G 0 0 aX d0X (xs (Int32.toNatClampNeg 1)) (xs (Int32.toNatClampNeg 2)) xi0) gV_RL_91 ds_X4_end ⟨rfl, rfl⟩ ⟨Nat.le_of_ble_eq_true rfl, Nat.le_of_ble_eq_true rfl⟩ ⟨blindX, recvX hK hX (k := 0) (i := 0) Nat.zero_lt_one rfl rfl, preX hK hN hX _⟩ rfl hl.1 rfl (Nat.le_of_ble_eq_true rfl) ⟨Nat.le_of_ble_eq_true rfl, Nat.le_of_ble_eq_true rfl⟩ dL_law_862 hS hAX (fun H1 locs1 hX1 hS1 k1 => ?_)
  have hM1 := hM.kept (H1 := H1) (fun q hq => k1 q (hM.sz hq) (fun z => hdis q z hq))
  replace hM := hM1
  replace hS := hS1
  refine lv_aload_n S.1 S.2.1 dL_law_865 rfl (lv_at hl 1 rfl) ?_
  refine lv_aload_n S.1 S.2.1 dL_law_866 rfl (lv_at hl 3 rfl) ?_
  refine lv_iload_n S.1 S.2.1 dL_law_867 rfl (lv_at hl 0 rfl) ?_
  refine lv_iconst (v := 1) S.1 S.2.1 dL_law_868 (by decide) ?_
  refine lv_iadd S.1 S.2.1 dL_law_869 (q_to (by decide : ((0 : Int32) + 1) = 1) ?_)
  refine va_sld S.1 S.2.1 hY hbl hbA hS (i := 1) vin6_1 dL_law_870 ?_
  refine lv_aload_n S.1 S.2.1 dL_law_871 rfl (lv_at hl 3 rfl) ?_
  refine lv_iload_n S.1 S.2.1 dL_law_872 rfl (lv_at hl 0 rfl) ?_
  refine lv_iconst (v := 2) S.1 S.2.1 dL_law_873 (by decide) ?_
  refine lv_iadd S.1 S.2.1 dL_law_874 (q_to (by decide : ((0 : Int32) + 2) = 2) ?_)
  refine va_sld S.1 S.2.1 hY hbl hbA hS (i := 2) vin6_2 dL_law_875 ?_
  refine cWV (rest := [.int (sp_X4_end d0X (xs (Int32.toNatClampNeg 1)) (xs (Int32.toNatClampNeg 2))).1]) (A := fun q => s.heap.size ≤ q) S (c_X5_end l D G aM d0M (xs (Int32.toNatClampNeg 1)) (xs (Int32.toNatClampNeg 2)) mi0) gV_RL_94 ds_X5_end ⟨rfl, rfl⟩ ⟨Nat.le_of_ble_eq_true rfl, Nat.le_of_ble_eq_true rfl⟩ ⟨blindX, recvX hK hM (k := 0) (i := 0) Nat.zero_lt_one rfl rfl, preX hK hN hM _⟩ rfl hl.1 rfl (Nat.le_of_ble_eq_true rfl) ⟨Nat.le_of_ble_eq_true rfl, Nat.le_of_ble_eq_true rfl⟩ dL_law_876 hS hAM (fun H1 locs1 hX1 hS1 k1 => ?_)
  replace hS := hS1
  refine lv_icmp_eq (tgt := 1422) S.1 S.2.1 dL_law_879 (by decide) (fun _ => ?_) (fun z => absurd (fe_end (xs (Int32.toNatClampNeg 1)) (xs (Int32.toNatClampNeg 2))) z)
  refine W.widen (k := 43) (n := 1350) (Nat.le_of_ble_eq_true rfl) (Nat.le_of_ble_eq_true rfl) ?_
  exact kk _ _ hS
set_option maxRecDepth 100000 in
set_option maxHeartbeats 8000000 in
theorem lc_19 {p : Program} {e : Env} {s : State} {m : MethodId} {below : List Frame} {meth : Method} {c : Code} (l : Launch) {b : Nat} {xs : Nat → Int32} (S : CallFix p m c cL_law 4 s #[Value.ref b] wsL_law RL) (hY : va_X b 6 xs s s.heap) (hbl : b < s.heap.size) {Q : State → Prop} {D : va_G} {G : Gc} {aX aM : Nat → Nat → Nat} {H : Heap} {locs : List Loc} {ls : Array Slot} (hK : va_K D vwCl (tysG G) s) (hN : NW s) (hX : PIC D (XF G 0 0 aX) (XN 0 0) aX d0X H) (hM : PIC D (MF G aM) MN aM d0M H) (hAX : ∀ q, adS (XN 0 0) aX q → s.heap.size ≤ q) (hAM : ∀ q, adS MN aM q → s.heap.size ≤ q) (hdis : ∀ q, adS (XN 0 0) aX q → ¬ adS MN aM q) (hS : va_S (fun q => s.heap.size ≤ q) s.heap H locs) (hl : lv_has ls 4 [(3, .int 0), (2, .ref (aM 0 0)), (1, .ref (aX 0 0)), (0, .ref b)]) (kk : ∀ (H : Heap) (locs : List Loc), va_S (fun q => s.heap.size ≤ q) s.heap H locs → W p l e room_1 s m #[Value.ref b] below meth c H locs 43 1350 Q (F0 m 1422 ls [])) : W p l e room_1 s m #[Value.ref b] below meth c H locs 38 1303 Q (F0 m 884 ls []) := by
  have hbA : ¬ (fun q : Nat => s.heap.size ≤ q) b := Nat.not_le.mpr hbl
  refine lv_aload_n S.1 S.2.1 dL_law_884 rfl (lv_at hl 2 rfl) ?_
  refine lv_aload_n S.1 S.2.1 dL_law_885 rfl (lv_at hl 3 rfl) ?_
  refine lv_iload_n S.1 S.2.1 dL_law_886 rfl (lv_at hl 0 rfl) ?_
  refine lv_iconst (v := 1) S.1 S.2.1 dL_law_887 (by decide) ?_
  refine lv_iadd S.1 S.2.1 dL_law_888 (q_to (by decide : ((0 : Int32) + 1) = 1) ?_)
  refine va_sld S.1 S.2.1 hY hbl hbA hS (i := 1) vin6_1 dL_law_889 ?_
  refine lv_aload_n S.1 S.2.1 dL_law_890 rfl (lv_at hl 3 rfl) ?_
  refine lv_iload_n S.1 S.2.1 dL_law_891 rfl (lv_at hl 0 rfl) ?_
  refine lv_iconst (v := 2) S.1 S.2.1 dL_law_892 (by decide) ?_
  refine lv_iadd S.1 S.2.1 dL_law_893 (q_to (by decide : ((0 : Int32) + 2) = 2) ?_)
  refine va_sld S.1 S.2.1 hY hbl hbA hS (i := 2) vin6_2 dL_law_894 ?_
  refine lv_aload_n S.1 S.2.1 dL_law_895 rfl (lv_at hl 3 rfl) ?_
  refine lv_iload_n S.1 S.2.1 dL_law_896 rfl (lv_at hl 0 rfl) ?_
  refine lv_iconst (v := 3) S.1 S.2.1 dL_law_897 (by decide) ?_
  refine lv_iadd S.1 S.2.1 dL_law_898 (q_to (by decide : ((0 : Int32) + 3) = 3) ?_)
  refine va_sld S.1 S.2.1 hY hbl hbA hS (i := 3) vin6_3 dL_law_899 ?_
  refine lv_aload_n S.1 S.2.1 dL_law_900 rfl (lv_at hl 3 rfl) ?_
  refine lv_iload_n S.1 S.2.1 dL_law_901 rfl (lv_at hl 0 rfl) ?_
  refine lv_iconst (v := 4) S.1 S.2.1 dL_law_902 (by decide) ?_
  refine lv_iadd S.1 S.2.1 dL_law_903 (q_to (by decide : ((0 : Int32) + 4) = 4) ?_)
  refine va_sld S.1 S.2.1 hY hbl hbA hS (i := 4) vin6_4 dL_law_904 ?_
  refine cPV (rest := []) S (c_X4_balance l D G 0 0 aX d0X (xs (Int32.toNatClampNeg 1)) (xs (Int32.toNatClampNeg 2)) (xs (Int32.toNatClampNeg 3)) (xs (Int32.toNatClampNeg 4)) xi0) gV_RL_95 ds_X4_balance ⟨rfl, rfl⟩ ⟨Nat.le_of_ble_eq_true rfl, Nat.le_of_ble_eq_true rfl⟩ ⟨blindX, recvX hK hX (k := 0) (i := 0) Nat.zero_lt_one rfl rfl, preX hK hN hX _⟩ rfl hl.1 rfl (Nat.le_of_ble_eq_true rfl) ⟨Nat.le_of_ble_eq_true rfl, Nat.le_of_ble_eq_true rfl⟩ dL_law_905 ?_
  refine lv_aload_n S.1 S.2.1 dL_law_908 rfl (lv_at hl 1 rfl) ?_
  refine lv_aload_n S.1 S.2.1 dL_law_909 rfl (lv_at hl 3 rfl) ?_
  refine lv_iload_n S.1 S.2.1 dL_law_910 rfl (lv_at hl 0 rfl) ?_
  refine lv_iconst (v := 1) S.1 S.2.1 dL_law_911 (by decide) ?_
  refine lv_iadd S.1 S.2.1 dL_law_912 (q_to (by decide : ((0 : Int32) + 1) = 1) ?_)
  refine va_sld S.1 S.2.1 hY hbl hbA hS (i := 1) vin6_1 dL_law_913 ?_
  refine lv_aload_n S.1 S.2.1 dL_law_914 rfl (lv_at hl 3 rfl) ?_
  refine lv_iload_n S.1 S.2.1 dL_law_915 rfl (lv_at hl 0 rfl) ?_
  refine lv_iconst (v := 2) S.1 S.2.1 dL_law_916 (by decide) ?_
  refine lv_iadd S.1 S.2.1 dL_law_917 (q_to (by decide : ((0 : Int32) + 2) = 2) ?_)
  refine va_sld S.1 S.2.1 hY hbl hbA hS (i := 2) vin6_2 dL_law_918 ?_
  refine lv_aload_n S.1 S.2.1 dL_law_919 rfl (lv_at hl 3 rfl) ?_
  refine lv_iload_n S.1 S.2.1 dL_law_920 rfl (lv_at hl 0 rfl) ?_
  refine lv_iconst (v := 3) S.1 S.2.1 dL_law_921 (by decide) ?_
  refine lv_iadd S.1 S.2.1 dL_law_922 (q_to (by decide : ((0 : Int32) + 3) = 3) ?_)
  refine va_sld S.1 S.2.1 hY hbl hbA hS (i := 3) vin6_3 dL_law_923 ?_
  refine lv_aload_n S.1 S.2.1 dL_law_924 rfl (lv_at hl 3 rfl) ?_
  refine lv_iload_n S.1 S.2.1 dL_law_925 rfl (lv_at hl 0 rfl) ?_
  refine lv_iconst (v := 4) S.1 S.2.1 dL_law_926 (by decide) ?_
  refine lv_iadd S.1 S.2.1 dL_law_927 (q_to (by decide : ((0 : Int32) + 4) = 4) ?_)
  refine va_sld S.1 S.2.1 hY hbl hbA hS (i := 4) vin6_4 dL_law_928 ?_
  refine cPV (rest := [.long (sp_X4_balance d0X (xs (Int32.toNatClampNeg 1)) (xs (Int32.toNatClampNeg 2)) (xs (Int32.toNatClampNeg 3)) (xs (Int32.toNatClampNeg 4)))]) S (c_X5_balance l D G aM d0M (xs (Int32.toNatClampNeg 1)) (xs (Int32.toNatClampNeg 2)) (xs (Int32.toNatClampNeg 3)) (xs (Int32.toNatClampNeg 4)) mi0) gV_RL_99 ds_X5_balance ⟨rfl, rfl⟩ ⟨Nat.le_of_ble_eq_true rfl, Nat.le_of_ble_eq_true rfl⟩ ⟨blindX, recvX hK hM (k := 0) (i := 0) Nat.zero_lt_one rfl rfl, preX hK hN hM _⟩ rfl hl.1 rfl (Nat.le_of_ble_eq_true rfl) ⟨Nat.le_of_ble_eq_true rfl, Nat.le_of_ble_eq_true rfl⟩ dL_law_929 ?_
  refine q_lcmp_eq (tgt := 1422) S rfl rfl dL_law_932 dL_law_933 (by decide) (fun _ => ?_) (fun z => absurd (congrArg Int64.toInt (fe_balance (xs (Int32.toNatClampNeg 1)) (xs (Int32.toNatClampNeg 2)) (xs (Int32.toNatClampNeg 3)) (xs (Int32.toNatClampNeg 4)))) z)
  refine W.widen (k := 43) (n := 1350) (Nat.le_of_ble_eq_true rfl) (Nat.le_of_ble_eq_true rfl) ?_
  exact kk _ _ hS
set_option maxRecDepth 100000 in
set_option maxHeartbeats 8000000 in
theorem lc_20 {p : Program} {e : Env} {s : State} {m : MethodId} {below : List Frame} {meth : Method} {c : Code} (l : Launch) {b : Nat} {xs : Nat → Int32} (S : CallFix p m c cL_law 4 s #[Value.ref b] wsL_law RL) (hY : va_X b 6 xs s s.heap) (hbl : b < s.heap.size) {Q : State → Prop} {D : va_G} {G : Gc} {aX aM : Nat → Nat → Nat} {H : Heap} {locs : List Loc} {ls : Array Slot} (hK : va_K D vwCl (tysG G) s) (hN : NW s) (hX : PIC D (XF G 0 0 aX) (XN 0 0) aX d0X H) (hM : PIC D (MF G aM) MN aM d0M H) (hAX : ∀ q, adS (XN 0 0) aX q → s.heap.size ≤ q) (hAM : ∀ q, adS MN aM q → s.heap.size ≤ q) (hdis : ∀ q, adS (XN 0 0) aX q → ¬ adS MN aM q) (hS : va_S (fun q => s.heap.size ≤ q) s.heap H locs) (hl : lv_has ls 4 [(3, .int 0), (2, .ref (aM 0 0)), (1, .ref (aX 0 0)), (0, .ref b)]) (kk : ∀ (H : Heap) (locs : List Loc), va_S (fun q => s.heap.size ≤ q) s.heap H locs → W p l e room_1 s m #[Value.ref b] below meth c H locs 43 1350 Q (F0 m 1422 ls [])) : W p l e room_1 s m #[Value.ref b] below meth c H locs 38 1303 Q (F0 m 938 ls []) := by
  have hbA : ¬ (fun q : Nat => s.heap.size ≤ q) b := Nat.not_le.mpr hbl
  refine lv_aload_n S.1 S.2.1 dL_law_938 rfl (lv_at hl 2 rfl) ?_
  refine lv_aload_n S.1 S.2.1 dL_law_939 rfl (lv_at hl 3 rfl) ?_
  refine lv_iload_n S.1 S.2.1 dL_law_940 rfl (lv_at hl 0 rfl) ?_
  refine lv_iconst (v := 1) S.1 S.2.1 dL_law_941 (by decide) ?_
  refine lv_iadd S.1 S.2.1 dL_law_942 (q_to (by decide : ((0 : Int32) + 1) = 1) ?_)
  refine va_sld S.1 S.2.1 hY hbl hbA hS (i := 1) vin6_1 dL_law_943 ?_
  refine lv_aload_n S.1 S.2.1 dL_law_944 rfl (lv_at hl 3 rfl) ?_
  refine lv_iload_n S.1 S.2.1 dL_law_945 rfl (lv_at hl 0 rfl) ?_
  refine lv_iconst (v := 2) S.1 S.2.1 dL_law_946 (by decide) ?_
  refine lv_iadd S.1 S.2.1 dL_law_947 (q_to (by decide : ((0 : Int32) + 2) = 2) ?_)
  refine va_sld S.1 S.2.1 hY hbl hbA hS (i := 2) vin6_2 dL_law_948 ?_
  refine cPV (rest := []) S (c_X4_beyond l D G 0 0 aX d0X (xs (Int32.toNatClampNeg 1)) (xs (Int32.toNatClampNeg 2)) xi0) gV_RL_100 ds_X4_beyond ⟨rfl, rfl⟩ ⟨Nat.le_of_ble_eq_true rfl, Nat.le_of_ble_eq_true rfl⟩ ⟨blindX, recvX hK hX (k := 0) (i := 0) Nat.zero_lt_one rfl rfl, preX hK hN hX _⟩ rfl hl.1 rfl (Nat.le_of_ble_eq_true rfl) ⟨Nat.le_of_ble_eq_true rfl, Nat.le_of_ble_eq_true rfl⟩ dL_law_949 ?_
  refine lv_aload_n S.1 S.2.1 dL_law_952 rfl (lv_at hl 1 rfl) ?_
  refine lv_aload_n S.1 S.2.1 dL_law_953 rfl (lv_at hl 3 rfl) ?_
  refine lv_iload_n S.1 S.2.1 dL_law_954 rfl (lv_at hl 0 rfl) ?_
  refine lv_iconst (v := 1) S.1 S.2.1 dL_law_955 (by decide) ?_
  refine lv_iadd S.1 S.2.1 dL_law_956 (q_to (by decide : ((0 : Int32) + 1) = 1) ?_)
  refine va_sld S.1 S.2.1 hY hbl hbA hS (i := 1) vin6_1 dL_law_957 ?_
  refine lv_aload_n S.1 S.2.1 dL_law_958 rfl (lv_at hl 3 rfl) ?_
  refine lv_iload_n S.1 S.2.1 dL_law_959 rfl (lv_at hl 0 rfl) ?_
  refine lv_iconst (v := 2) S.1 S.2.1 dL_law_960 (by decide) ?_
  refine lv_iadd S.1 S.2.1 dL_law_961 (q_to (by decide : ((0 : Int32) + 2) = 2) ?_)
  refine va_sld S.1 S.2.1 hY hbl hbA hS (i := 2) vin6_2 dL_law_962 ?_
  refine cPV (rest := [.int (sp_X4_beyond d0X (xs (Int32.toNatClampNeg 1)) (xs (Int32.toNatClampNeg 2)))]) S (c_X5_beyond l D G aM d0M (xs (Int32.toNatClampNeg 1)) (xs (Int32.toNatClampNeg 2)) mi0) gV_RL_103 ds_X5_beyond ⟨rfl, rfl⟩ ⟨Nat.le_of_ble_eq_true rfl, Nat.le_of_ble_eq_true rfl⟩ ⟨blindX, recvX hK hM (k := 0) (i := 0) Nat.zero_lt_one rfl rfl, preX hK hN hM _⟩ rfl hl.1 rfl (Nat.le_of_ble_eq_true rfl) ⟨Nat.le_of_ble_eq_true rfl, Nat.le_of_ble_eq_true rfl⟩ dL_law_963 ?_
  refine lv_icmp_eq (tgt := 1422) S.1 S.2.1 dL_law_966 (by decide) (fun _ => ?_) (fun z => absurd (fe_beyond (xs (Int32.toNatClampNeg 1)) (xs (Int32.toNatClampNeg 2))) z)
  refine W.widen (k := 43) (n := 1350) (Nat.le_of_ble_eq_true rfl) (Nat.le_of_ble_eq_true rfl) ?_
  exact kk _ _ hS
set_option maxRecDepth 100000 in
set_option maxHeartbeats 8000000 in
theorem lc_21 {p : Program} {e : Env} {s : State} {m : MethodId} {below : List Frame} {meth : Method} {c : Code} (l : Launch) {b : Nat} {xs : Nat → Int32} (S : CallFix p m c cL_law 4 s #[Value.ref b] wsL_law RL) (hY : va_X b 6 xs s s.heap) (hbl : b < s.heap.size) {Q : State → Prop} {D : va_G} {G : Gc} {aX aM : Nat → Nat → Nat} {H : Heap} {locs : List Loc} {ls : Array Slot} (hK : va_K D vwCl (tysG G) s) (hN : NW s) (hX : PIC D (XF G 0 0 aX) (XN 0 0) aX d0X H) (hM : PIC D (MF G aM) MN aM d0M H) (hAX : ∀ q, adS (XN 0 0) aX q → s.heap.size ≤ q) (hAM : ∀ q, adS MN aM q → s.heap.size ≤ q) (hdis : ∀ q, adS (XN 0 0) aX q → ¬ adS MN aM q) (hS : va_S (fun q => s.heap.size ≤ q) s.heap H locs) (hl : lv_has ls 4 [(3, .int 0), (2, .ref (aM 0 0)), (1, .ref (aX 0 0)), (0, .ref b)]) (kk : ∀ (H : Heap) (locs : List Loc), va_S (fun q => s.heap.size ≤ q) s.heap H locs → W p l e room_1 s m #[Value.ref b] below meth c H locs 43 1350 Q (F0 m 1422 ls [])) : W p l e room_1 s m #[Value.ref b] below meth c H locs 38 1303 Q (F0 m 971 ls []) := by
  have hbA : ¬ (fun q : Nat => s.heap.size ≤ q) b := Nat.not_le.mpr hbl
  refine lv_aload_n S.1 S.2.1 dL_law_971 rfl (lv_at hl 2 rfl) ?_
  refine lv_aload_n S.1 S.2.1 dL_law_972 rfl (lv_at hl 3 rfl) ?_
  refine lv_iload_n S.1 S.2.1 dL_law_973 rfl (lv_at hl 0 rfl) ?_
  refine lv_iconst (v := 1) S.1 S.2.1 dL_law_974 (by decide) ?_
  refine lv_iadd S.1 S.2.1 dL_law_975 (q_to (by decide : ((0 : Int32) + 1) = 1) ?_)
  refine va_sld S.1 S.2.1 hY hbl hbA hS (i := 1) vin6_1 dL_law_976 ?_
  refine lv_aload_n S.1 S.2.1 dL_law_977 rfl (lv_at hl 3 rfl) ?_
  refine lv_iload_n S.1 S.2.1 dL_law_978 rfl (lv_at hl 0 rfl) ?_
  refine lv_iconst (v := 2) S.1 S.2.1 dL_law_979 (by decide) ?_
  refine lv_iadd S.1 S.2.1 dL_law_980 (q_to (by decide : ((0 : Int32) + 2) = 2) ?_)
  refine va_sld S.1 S.2.1 hY hbl hbA hS (i := 2) vin6_2 dL_law_981 ?_
  refine lv_aload_n S.1 S.2.1 dL_law_982 rfl (lv_at hl 3 rfl) ?_
  refine lv_iload_n S.1 S.2.1 dL_law_983 rfl (lv_at hl 0 rfl) ?_
  refine lv_iconst (v := 3) S.1 S.2.1 dL_law_984 (by decide) ?_
  refine lv_iadd S.1 S.2.1 dL_law_985 (q_to (by decide : ((0 : Int32) + 3) = 3) ?_)
  refine va_sld S.1 S.2.1 hY hbl hbA hS (i := 3) vin6_3 dL_law_986 ?_
  refine cPV (rest := []) S (c_X4_explains l D G 0 0 aX d0X (xs (Int32.toNatClampNeg 1)) (xs (Int32.toNatClampNeg 2)) (xs (Int32.toNatClampNeg 3)) xi0) gV_RL_104 ds_X4_explains ⟨rfl, rfl⟩ ⟨Nat.le_of_ble_eq_true rfl, Nat.le_of_ble_eq_true rfl⟩ ⟨blindX, recvX hK hX (k := 0) (i := 0) Nat.zero_lt_one rfl rfl, preX hK hN hX _⟩ rfl hl.1 rfl (Nat.le_of_ble_eq_true rfl) ⟨Nat.le_of_ble_eq_true rfl, Nat.le_of_ble_eq_true rfl⟩ dL_law_987 ?_
  refine lv_aload_n S.1 S.2.1 dL_law_990 rfl (lv_at hl 1 rfl) ?_
  refine lv_aload_n S.1 S.2.1 dL_law_991 rfl (lv_at hl 3 rfl) ?_
  refine lv_iload_n S.1 S.2.1 dL_law_992 rfl (lv_at hl 0 rfl) ?_
  refine lv_iconst (v := 1) S.1 S.2.1 dL_law_993 (by decide) ?_
  refine lv_iadd S.1 S.2.1 dL_law_994 (q_to (by decide : ((0 : Int32) + 1) = 1) ?_)
  refine va_sld S.1 S.2.1 hY hbl hbA hS (i := 1) vin6_1 dL_law_995 ?_
  refine lv_aload_n S.1 S.2.1 dL_law_996 rfl (lv_at hl 3 rfl) ?_
  refine lv_iload_n S.1 S.2.1 dL_law_997 rfl (lv_at hl 0 rfl) ?_
  refine lv_iconst (v := 2) S.1 S.2.1 dL_law_998 (by decide) ?_
  refine lv_iadd S.1 S.2.1 dL_law_999 (q_to (by decide : ((0 : Int32) + 2) = 2) ?_)
  refine va_sld S.1 S.2.1 hY hbl hbA hS (i := 2) vin6_2 dL_law_1000 ?_
  refine lv_aload_n S.1 S.2.1 dL_law_1001 rfl (lv_at hl 3 rfl) ?_
  refine lv_iload_n S.1 S.2.1 dL_law_1002 rfl (lv_at hl 0 rfl) ?_
  refine lv_iconst (v := 3) S.1 S.2.1 dL_law_1003 (by decide) ?_
  refine lv_iadd S.1 S.2.1 dL_law_1004 (q_to (by decide : ((0 : Int32) + 3) = 3) ?_)
  refine va_sld S.1 S.2.1 hY hbl hbA hS (i := 3) vin6_3 dL_law_1005 ?_
  refine cPV (rest := [.long (sp_X4_explains d0X (xs (Int32.toNatClampNeg 1)) (xs (Int32.toNatClampNeg 2)) (xs (Int32.toNatClampNeg 3)))]) S (c_X5_explains l D G aM d0M (xs (Int32.toNatClampNeg 1)) (xs (Int32.toNatClampNeg 2)) (xs (Int32.toNatClampNeg 3)) mi0) gV_RL_107 ds_X5_explains ⟨rfl, rfl⟩ ⟨Nat.le_of_ble_eq_true rfl, Nat.le_of_ble_eq_true rfl⟩ ⟨blindX, recvX hK hM (k := 0) (i := 0) Nat.zero_lt_one rfl rfl, preX hK hN hM _⟩ rfl hl.1 rfl (Nat.le_of_ble_eq_true rfl) ⟨Nat.le_of_ble_eq_true rfl, Nat.le_of_ble_eq_true rfl⟩ dL_law_1006 ?_
  refine q_lcmp_eq (tgt := 1422) S rfl rfl dL_law_1009 dL_law_1010 (by decide) (fun _ => ?_) (fun z => absurd (congrArg Int64.toInt (fe_explains (xs (Int32.toNatClampNeg 1)) (xs (Int32.toNatClampNeg 2)) (xs (Int32.toNatClampNeg 3)))) z)
  refine W.widen (k := 43) (n := 1350) (Nat.le_of_ble_eq_true rfl) (Nat.le_of_ble_eq_true rfl) ?_
  exact kk _ _ hS
set_option maxRecDepth 100000 in
set_option maxHeartbeats 8000000 in
theorem lc_22 {p : Program} {e : Env} {s : State} {m : MethodId} {below : List Frame} {meth : Method} {c : Code} (l : Launch) {b : Nat} {xs : Nat → Int32} (S : CallFix p m c cL_law 4 s #[Value.ref b] wsL_law RL) (hY : va_X b 6 xs s s.heap) (hbl : b < s.heap.size) {Q : State → Prop} {D : va_G} {G : Gc} {aX aM : Nat → Nat → Nat} {H : Heap} {locs : List Loc} {ls : Array Slot} (hK : va_K D vwCl (tysG G) s) (hN : NW s) (hX : PIC D (XF G 0 0 aX) (XN 0 0) aX d0X H) (hM : PIC D (MF G aM) MN aM d0M H) (hAX : ∀ q, adS (XN 0 0) aX q → s.heap.size ≤ q) (hAM : ∀ q, adS MN aM q → s.heap.size ≤ q) (hdis : ∀ q, adS (XN 0 0) aX q → ¬ adS MN aM q) (hS : va_S (fun q => s.heap.size ≤ q) s.heap H locs) (hl : lv_has ls 4 [(3, .int 0), (2, .ref (aM 0 0)), (1, .ref (aX 0 0)), (0, .ref b)]) (kk : ∀ (H : Heap) (locs : List Loc), va_S (fun q => s.heap.size ≤ q) s.heap H locs → W p l e room_1 s m #[Value.ref b] below meth c H locs 43 1350 Q (F0 m 1422 ls [])) : W p l e room_1 s m #[Value.ref b] below meth c H locs 38 1303 Q (F0 m 1015 ls []) := by
  have hbA : ¬ (fun q : Nat => s.heap.size ≤ q) b := Nat.not_le.mpr hbl
  refine lv_aload_n S.1 S.2.1 dL_law_1015 rfl (lv_at hl 2 rfl) ?_
  refine lv_aload_n S.1 S.2.1 dL_law_1016 rfl (lv_at hl 3 rfl) ?_
  refine lv_iload_n S.1 S.2.1 dL_law_1017 rfl (lv_at hl 0 rfl) ?_
  refine lv_iconst (v := 1) S.1 S.2.1 dL_law_1018 (by decide) ?_
  refine lv_iadd S.1 S.2.1 dL_law_1019 (q_to (by decide : ((0 : Int32) + 1) = 1) ?_)
  refine va_sld S.1 S.2.1 hY hbl hbA hS (i := 1) vin6_1 dL_law_1020 ?_
  refine lv_aload_n S.1 S.2.1 dL_law_1021 rfl (lv_at hl 3 rfl) ?_
  refine lv_iload_n S.1 S.2.1 dL_law_1022 rfl (lv_at hl 0 rfl) ?_
  refine lv_iconst (v := 2) S.1 S.2.1 dL_law_1023 (by decide) ?_
  refine lv_iadd S.1 S.2.1 dL_law_1024 (q_to (by decide : ((0 : Int32) + 2) = 2) ?_)
  refine va_sld S.1 S.2.1 hY hbl hbA hS (i := 2) vin6_2 dL_law_1025 ?_
  refine lv_aload_n S.1 S.2.1 dL_law_1026 rfl (lv_at hl 3 rfl) ?_
  refine lv_iload_n S.1 S.2.1 dL_law_1027 rfl (lv_at hl 0 rfl) ?_
  refine lv_iconst (v := 3) S.1 S.2.1 dL_law_1028 (by decide) ?_
  refine lv_iadd S.1 S.2.1 dL_law_1029 (q_to (by decide : ((0 : Int32) + 3) = 3) ?_)
  refine va_sld S.1 S.2.1 hY hbl hbA hS (i := 3) vin6_3 dL_law_1030 ?_
  refine cWV (rest := []) (A := fun q => s.heap.size ≤ q) S (c_X4_sheet l D G 0 0 aX d0X (xs (Int32.toNatClampNeg 1)) (xs (Int32.toNatClampNeg 2)) (xs (Int32.toNatClampNeg 3)) xi0) gV_RL_108 ds_X4_sheet ⟨rfl, rfl⟩ ⟨Nat.le_of_ble_eq_true rfl, Nat.le_of_ble_eq_true rfl⟩ ⟨blindX, recvX hK hX (k := 0) (i := 0) Nat.zero_lt_one rfl rfl, preX hK hN hX _⟩ rfl hl.1 rfl (Nat.le_of_ble_eq_true rfl) ⟨Nat.le_of_ble_eq_true rfl, Nat.le_of_ble_eq_true rfl⟩ dL_law_1031 hS hAX (fun H1 locs1 hX1 hS1 k1 => ?_)
  have hM1 := hM.kept (H1 := H1) (fun q hq => k1 q (hM.sz hq) (fun z => hdis q z hq))
  replace hM := hM1
  replace hS := hS1
  refine lv_aload_n S.1 S.2.1 dL_law_1034 rfl (lv_at hl 1 rfl) ?_
  refine lv_aload_n S.1 S.2.1 dL_law_1035 rfl (lv_at hl 3 rfl) ?_
  refine lv_iload_n S.1 S.2.1 dL_law_1036 rfl (lv_at hl 0 rfl) ?_
  refine lv_iconst (v := 1) S.1 S.2.1 dL_law_1037 (by decide) ?_
  refine lv_iadd S.1 S.2.1 dL_law_1038 (q_to (by decide : ((0 : Int32) + 1) = 1) ?_)
  refine va_sld S.1 S.2.1 hY hbl hbA hS (i := 1) vin6_1 dL_law_1039 ?_
  refine lv_aload_n S.1 S.2.1 dL_law_1040 rfl (lv_at hl 3 rfl) ?_
  refine lv_iload_n S.1 S.2.1 dL_law_1041 rfl (lv_at hl 0 rfl) ?_
  refine lv_iconst (v := 2) S.1 S.2.1 dL_law_1042 (by decide) ?_
  refine lv_iadd S.1 S.2.1 dL_law_1043 (q_to (by decide : ((0 : Int32) + 2) = 2) ?_)
  refine va_sld S.1 S.2.1 hY hbl hbA hS (i := 2) vin6_2 dL_law_1044 ?_
  refine lv_aload_n S.1 S.2.1 dL_law_1045 rfl (lv_at hl 3 rfl) ?_
  refine lv_iload_n S.1 S.2.1 dL_law_1046 rfl (lv_at hl 0 rfl) ?_
  refine lv_iconst (v := 3) S.1 S.2.1 dL_law_1047 (by decide) ?_
  refine lv_iadd S.1 S.2.1 dL_law_1048 (q_to (by decide : ((0 : Int32) + 3) = 3) ?_)
  refine va_sld S.1 S.2.1 hY hbl hbA hS (i := 3) vin6_3 dL_law_1049 ?_
  refine cWV (rest := [.int (sp_X4_sheet d0X (xs (Int32.toNatClampNeg 1)) (xs (Int32.toNatClampNeg 2)) (xs (Int32.toNatClampNeg 3))).1]) (A := fun q => s.heap.size ≤ q) S (c_X5_sheet l D G aM d0M (xs (Int32.toNatClampNeg 1)) (xs (Int32.toNatClampNeg 2)) (xs (Int32.toNatClampNeg 3)) mi0) gV_RL_111 ds_X5_sheet ⟨rfl, rfl⟩ ⟨Nat.le_of_ble_eq_true rfl, Nat.le_of_ble_eq_true rfl⟩ ⟨blindX, recvX hK hM (k := 0) (i := 0) Nat.zero_lt_one rfl rfl, preX hK hN hM _⟩ rfl hl.1 rfl (Nat.le_of_ble_eq_true rfl) ⟨Nat.le_of_ble_eq_true rfl, Nat.le_of_ble_eq_true rfl⟩ dL_law_1050 hS hAM (fun H1 locs1 hX1 hS1 k1 => ?_)
  replace hS := hS1
  refine lv_icmp_eq (tgt := 1422) S.1 S.2.1 dL_law_1053 (by decide) (fun _ => ?_) (fun z => absurd (fe_sheet (xs (Int32.toNatClampNeg 1)) (xs (Int32.toNatClampNeg 2)) (xs (Int32.toNatClampNeg 3))) z)
  refine W.widen (k := 43) (n := 1350) (Nat.le_of_ble_eq_true rfl) (Nat.le_of_ble_eq_true rfl) ?_
  exact kk _ _ hS
set_option maxRecDepth 100000 in
set_option maxHeartbeats 8000000 in
theorem lc_23 {p : Program} {e : Env} {s : State} {m : MethodId} {below : List Frame} {meth : Method} {c : Code} (l : Launch) {b : Nat} {xs : Nat → Int32} (S : CallFix p m c cL_law 4 s #[Value.ref b] wsL_law RL) (hY : va_X b 6 xs s s.heap) (hbl : b < s.heap.size) {Q : State → Prop} {D : va_G} {G : Gc} {aX aM : Nat → Nat → Nat} {H : Heap} {locs : List Loc} {ls : Array Slot} (hK : va_K D vwCl (tysG G) s) (hN : NW s) (hX : PIC D (XF G 0 0 aX) (XN 0 0) aX d0X H) (hM : PIC D (MF G aM) MN aM d0M H) (hAX : ∀ q, adS (XN 0 0) aX q → s.heap.size ≤ q) (hAM : ∀ q, adS MN aM q → s.heap.size ≤ q) (hdis : ∀ q, adS (XN 0 0) aX q → ¬ adS MN aM q) (hS : va_S (fun q => s.heap.size ≤ q) s.heap H locs) (hl : lv_has ls 4 [(3, .int 0), (2, .ref (aM 0 0)), (1, .ref (aX 0 0)), (0, .ref b)]) (kk : ∀ (H : Heap) (locs : List Loc), va_S (fun q => s.heap.size ≤ q) s.heap H locs → W p l e room_1 s m #[Value.ref b] below meth c H locs 43 1350 Q (F0 m 1422 ls [])) : W p l e room_1 s m #[Value.ref b] below meth c H locs 38 1303 Q (F0 m 1058 ls []) := by
  have hbA : ¬ (fun q : Nat => s.heap.size ≤ q) b := Nat.not_le.mpr hbl
  refine lv_aload_n S.1 S.2.1 dL_law_1058 rfl (lv_at hl 2 rfl) ?_
  refine lv_aload_n S.1 S.2.1 dL_law_1059 rfl (lv_at hl 3 rfl) ?_
  refine lv_iload_n S.1 S.2.1 dL_law_1060 rfl (lv_at hl 0 rfl) ?_
  refine lv_iconst (v := 1) S.1 S.2.1 dL_law_1061 (by decide) ?_
  refine lv_iadd S.1 S.2.1 dL_law_1062 (q_to (by decide : ((0 : Int32) + 1) = 1) ?_)
  refine va_sld S.1 S.2.1 hY hbl hbA hS (i := 1) vin6_1 dL_law_1063 ?_
  refine cWV (rest := []) (A := fun q => s.heap.size ≤ q) S (c_X4_lose l D G 0 0 aX d0X (xs (Int32.toNatClampNeg 1)) xi0) gV_RL_112 ds_X4_lose ⟨rfl, rfl⟩ ⟨Nat.le_of_ble_eq_true rfl, Nat.le_of_ble_eq_true rfl⟩ ⟨blindX, recvX hK hX (k := 0) (i := 0) Nat.zero_lt_one rfl rfl, preX hK hN hX _⟩ rfl hl.1 rfl (Nat.le_of_ble_eq_true rfl) ⟨Nat.le_of_ble_eq_true rfl, Nat.le_of_ble_eq_true rfl⟩ dL_law_1064 hS hAX (fun H1 locs1 hX1 hS1 k1 => ?_)
  have hM1 := hM.kept (H1 := H1) (fun q hq => k1 q (hM.sz hq) (fun z => hdis q z hq))
  replace hM := hM1
  replace hS := hS1
  refine lv_aload_n S.1 S.2.1 dL_law_1067 rfl (lv_at hl 1 rfl) ?_
  refine lv_aload_n S.1 S.2.1 dL_law_1068 rfl (lv_at hl 3 rfl) ?_
  refine lv_iload_n S.1 S.2.1 dL_law_1069 rfl (lv_at hl 0 rfl) ?_
  refine lv_iconst (v := 1) S.1 S.2.1 dL_law_1070 (by decide) ?_
  refine lv_iadd S.1 S.2.1 dL_law_1071 (q_to (by decide : ((0 : Int32) + 1) = 1) ?_)
  refine va_sld S.1 S.2.1 hY hbl hbA hS (i := 1) vin6_1 dL_law_1072 ?_
  refine cWV (rest := [.int (sp_X4_lose d0X (xs (Int32.toNatClampNeg 1))).1]) (A := fun q => s.heap.size ≤ q) S (c_X5_lose l D G aM d0M (xs (Int32.toNatClampNeg 1)) mi0) gV_RL_115 ds_X5_lose ⟨rfl, rfl⟩ ⟨Nat.le_of_ble_eq_true rfl, Nat.le_of_ble_eq_true rfl⟩ ⟨blindX, recvX hK hM (k := 0) (i := 0) Nat.zero_lt_one rfl rfl, preX hK hN hM _⟩ rfl hl.1 rfl (Nat.le_of_ble_eq_true rfl) ⟨Nat.le_of_ble_eq_true rfl, Nat.le_of_ble_eq_true rfl⟩ dL_law_1073 hS hAM (fun H1 locs1 hX1 hS1 k1 => ?_)
  replace hS := hS1
  refine lv_icmp_eq (tgt := 1422) S.1 S.2.1 dL_law_1076 (by decide) (fun _ => ?_) (fun z => absurd (fe_lose (xs (Int32.toNatClampNeg 1))) z)
  refine W.widen (k := 43) (n := 1350) (Nat.le_of_ble_eq_true rfl) (Nat.le_of_ble_eq_true rfl) ?_
  exact kk _ _ hS
set_option maxRecDepth 100000 in
set_option maxHeartbeats 8000000 in
theorem lc_24 {p : Program} {e : Env} {s : State} {m : MethodId} {below : List Frame} {meth : Method} {c : Code} (l : Launch) {b : Nat} {xs : Nat → Int32} (S : CallFix p m c cL_law 4 s #[Value.ref b] wsL_law RL) (hY : va_X b 6 xs s s.heap) (hbl : b < s.heap.size) {Q : State → Prop} {D : va_G} {G : Gc} {aX aM : Nat → Nat → Nat} {H : Heap} {locs : List Loc} {ls : Array Slot} (hK : va_K D vwCl (tysG G) s) (hN : NW s) (hX : PIC D (XF G 0 0 aX) (XN 0 0) aX d0X H) (hM : PIC D (MF G aM) MN aM d0M H) (hAX : ∀ q, adS (XN 0 0) aX q → s.heap.size ≤ q) (hAM : ∀ q, adS MN aM q → s.heap.size ≤ q) (hdis : ∀ q, adS (XN 0 0) aX q → ¬ adS MN aM q) (hS : va_S (fun q => s.heap.size ≤ q) s.heap H locs) (hl : lv_has ls 4 [(3, .int 0), (2, .ref (aM 0 0)), (1, .ref (aX 0 0)), (0, .ref b)]) (kk : ∀ (H : Heap) (locs : List Loc), va_S (fun q => s.heap.size ≤ q) s.heap H locs → W p l e room_1 s m #[Value.ref b] below meth c H locs 43 1350 Q (F0 m 1422 ls [])) : W p l e room_1 s m #[Value.ref b] below meth c H locs 38 1303 Q (F0 m 1081 ls []) := by
  have hbA : ¬ (fun q : Nat => s.heap.size ≤ q) b := Nat.not_le.mpr hbl
  refine lv_aload_n S.1 S.2.1 dL_law_1081 rfl (lv_at hl 2 rfl) ?_
  refine lv_aload_n S.1 S.2.1 dL_law_1082 rfl (lv_at hl 3 rfl) ?_
  refine lv_iload_n S.1 S.2.1 dL_law_1083 rfl (lv_at hl 0 rfl) ?_
  refine lv_iconst (v := 1) S.1 S.2.1 dL_law_1084 (by decide) ?_
  refine lv_iadd S.1 S.2.1 dL_law_1085 (q_to (by decide : ((0 : Int32) + 1) = 1) ?_)
  refine va_sld S.1 S.2.1 hY hbl hbA hS (i := 1) vin6_1 dL_law_1086 ?_
  refine lv_aload_n S.1 S.2.1 dL_law_1087 rfl (lv_at hl 3 rfl) ?_
  refine lv_iload_n S.1 S.2.1 dL_law_1088 rfl (lv_at hl 0 rfl) ?_
  refine lv_iconst (v := 2) S.1 S.2.1 dL_law_1089 (by decide) ?_
  refine lv_iadd S.1 S.2.1 dL_law_1090 (q_to (by decide : ((0 : Int32) + 2) = 2) ?_)
  refine va_sld S.1 S.2.1 hY hbl hbA hS (i := 2) vin6_2 dL_law_1091 ?_
  refine lv_aload_n S.1 S.2.1 dL_law_1092 rfl (lv_at hl 3 rfl) ?_
  refine lv_iload_n S.1 S.2.1 dL_law_1093 rfl (lv_at hl 0 rfl) ?_
  refine lv_iconst (v := 3) S.1 S.2.1 dL_law_1094 (by decide) ?_
  refine lv_iadd S.1 S.2.1 dL_law_1095 (q_to (by decide : ((0 : Int32) + 3) = 3) ?_)
  refine va_sld S.1 S.2.1 hY hbl hbA hS (i := 3) vin6_3 dL_law_1096 ?_
  refine cWV (rest := []) (A := fun q => s.heap.size ≤ q) S (c_X4_put l D G 0 0 aX d0X (xs (Int32.toNatClampNeg 1)) (xs (Int32.toNatClampNeg 2)) (xs (Int32.toNatClampNeg 3)) xi0) gV_RL_116 ds_X4_put ⟨rfl, rfl⟩ ⟨Nat.le_of_ble_eq_true rfl, Nat.le_of_ble_eq_true rfl⟩ ⟨blindX, recvX hK hX (k := 0) (i := 0) Nat.zero_lt_one rfl rfl, preX hK hN hX _⟩ rfl hl.1 rfl (Nat.le_of_ble_eq_true rfl) ⟨Nat.le_of_ble_eq_true rfl, Nat.le_of_ble_eq_true rfl⟩ dL_law_1097 hS hAX (fun H1 locs1 hX1 hS1 k1 => ?_)
  have hM1 := hM.kept (H1 := H1) (fun q hq => k1 q (hM.sz hq) (fun z => hdis q z hq))
  replace hM := hM1
  replace hS := hS1
  refine lv_aload_n S.1 S.2.1 dL_law_1100 rfl (lv_at hl 1 rfl) ?_
  refine lv_aload_n S.1 S.2.1 dL_law_1101 rfl (lv_at hl 3 rfl) ?_
  refine lv_iload_n S.1 S.2.1 dL_law_1102 rfl (lv_at hl 0 rfl) ?_
  refine lv_iconst (v := 1) S.1 S.2.1 dL_law_1103 (by decide) ?_
  refine lv_iadd S.1 S.2.1 dL_law_1104 (q_to (by decide : ((0 : Int32) + 1) = 1) ?_)
  refine va_sld S.1 S.2.1 hY hbl hbA hS (i := 1) vin6_1 dL_law_1105 ?_
  refine lv_aload_n S.1 S.2.1 dL_law_1106 rfl (lv_at hl 3 rfl) ?_
  refine lv_iload_n S.1 S.2.1 dL_law_1107 rfl (lv_at hl 0 rfl) ?_
  refine lv_iconst (v := 2) S.1 S.2.1 dL_law_1108 (by decide) ?_
  refine lv_iadd S.1 S.2.1 dL_law_1109 (q_to (by decide : ((0 : Int32) + 2) = 2) ?_)
  refine va_sld S.1 S.2.1 hY hbl hbA hS (i := 2) vin6_2 dL_law_1110 ?_
  refine lv_aload_n S.1 S.2.1 dL_law_1111 rfl (lv_at hl 3 rfl) ?_
  refine lv_iload_n S.1 S.2.1 dL_law_1112 rfl (lv_at hl 0 rfl) ?_
  refine lv_iconst (v := 3) S.1 S.2.1 dL_law_1113 (by decide) ?_
  refine lv_iadd S.1 S.2.1 dL_law_1114 (q_to (by decide : ((0 : Int32) + 3) = 3) ?_)
  refine va_sld S.1 S.2.1 hY hbl hbA hS (i := 3) vin6_3 dL_law_1115 ?_
  refine cWV (rest := [.int (sp_X4_put d0X (xs (Int32.toNatClampNeg 1)) (xs (Int32.toNatClampNeg 2)) (xs (Int32.toNatClampNeg 3))).1]) (A := fun q => s.heap.size ≤ q) S (c_X5_put l D G aM d0M (xs (Int32.toNatClampNeg 1)) (xs (Int32.toNatClampNeg 2)) (xs (Int32.toNatClampNeg 3)) mi0) gV_RL_119 ds_X5_put ⟨rfl, rfl⟩ ⟨Nat.le_of_ble_eq_true rfl, Nat.le_of_ble_eq_true rfl⟩ ⟨blindX, recvX hK hM (k := 0) (i := 0) Nat.zero_lt_one rfl rfl, preX hK hN hM _⟩ rfl hl.1 rfl (Nat.le_of_ble_eq_true rfl) ⟨Nat.le_of_ble_eq_true rfl, Nat.le_of_ble_eq_true rfl⟩ dL_law_1116 hS hAM (fun H1 locs1 hX1 hS1 k1 => ?_)
  replace hS := hS1
  refine lv_icmp_eq (tgt := 1422) S.1 S.2.1 dL_law_1119 (by decide) (fun _ => ?_) (fun z => absurd (fe_put (xs (Int32.toNatClampNeg 1)) (xs (Int32.toNatClampNeg 2)) (xs (Int32.toNatClampNeg 3))) z)
  refine W.widen (k := 43) (n := 1350) (Nat.le_of_ble_eq_true rfl) (Nat.le_of_ble_eq_true rfl) ?_
  exact kk _ _ hS
set_option maxRecDepth 100000 in
set_option maxHeartbeats 8000000 in
theorem lc_25 {p : Program} {e : Env} {s : State} {m : MethodId} {below : List Frame} {meth : Method} {c : Code} (l : Launch) {b : Nat} {xs : Nat → Int32} (S : CallFix p m c cL_law 4 s #[Value.ref b] wsL_law RL) (hY : va_X b 6 xs s s.heap) (hbl : b < s.heap.size) {Q : State → Prop} {D : va_G} {G : Gc} {aX aM : Nat → Nat → Nat} {H : Heap} {locs : List Loc} {ls : Array Slot} (hK : va_K D vwCl (tysG G) s) (hN : NW s) (hX : PIC D (XF G 0 0 aX) (XN 0 0) aX d0X H) (hM : PIC D (MF G aM) MN aM d0M H) (hAX : ∀ q, adS (XN 0 0) aX q → s.heap.size ≤ q) (hAM : ∀ q, adS MN aM q → s.heap.size ≤ q) (hdis : ∀ q, adS (XN 0 0) aX q → ¬ adS MN aM q) (hS : va_S (fun q => s.heap.size ≤ q) s.heap H locs) (hl : lv_has ls 4 [(3, .int 0), (2, .ref (aM 0 0)), (1, .ref (aX 0 0)), (0, .ref b)]) (kk : ∀ (H : Heap) (locs : List Loc), va_S (fun q => s.heap.size ≤ q) s.heap H locs → W p l e room_1 s m #[Value.ref b] below meth c H locs 43 1350 Q (F0 m 1422 ls [])) : W p l e room_1 s m #[Value.ref b] below meth c H locs 38 1303 Q (F0 m 1124 ls []) := by
  have hbA : ¬ (fun q : Nat => s.heap.size ≤ q) b := Nat.not_le.mpr hbl
  refine lv_aload_n S.1 S.2.1 dL_law_1124 rfl (lv_at hl 2 rfl) ?_
  refine lv_aload_n S.1 S.2.1 dL_law_1125 rfl (lv_at hl 3 rfl) ?_
  refine lv_iload_n S.1 S.2.1 dL_law_1126 rfl (lv_at hl 0 rfl) ?_
  refine lv_iconst (v := 1) S.1 S.2.1 dL_law_1127 (by decide) ?_
  refine lv_iadd S.1 S.2.1 dL_law_1128 (q_to (by decide : ((0 : Int32) + 1) = 1) ?_)
  refine va_sld S.1 S.2.1 hY hbl hbA hS (i := 1) vin6_1 dL_law_1129 ?_
  refine lv_aload_n S.1 S.2.1 dL_law_1130 rfl (lv_at hl 3 rfl) ?_
  refine lv_iload_n S.1 S.2.1 dL_law_1131 rfl (lv_at hl 0 rfl) ?_
  refine lv_iconst (v := 2) S.1 S.2.1 dL_law_1132 (by decide) ?_
  refine lv_iadd S.1 S.2.1 dL_law_1133 (q_to (by decide : ((0 : Int32) + 2) = 2) ?_)
  refine va_sld S.1 S.2.1 hY hbl hbA hS (i := 2) vin6_2 dL_law_1134 ?_
  refine lv_aload_n S.1 S.2.1 dL_law_1135 rfl (lv_at hl 3 rfl) ?_
  refine lv_iload_n S.1 S.2.1 dL_law_1136 rfl (lv_at hl 0 rfl) ?_
  refine lv_iconst (v := 3) S.1 S.2.1 dL_law_1137 (by decide) ?_
  refine lv_iadd S.1 S.2.1 dL_law_1138 (q_to (by decide : ((0 : Int32) + 3) = 3) ?_)
  refine va_sld S.1 S.2.1 hY hbl hbA hS (i := 3) vin6_3 dL_law_1139 ?_
  refine cWV (rest := []) (A := fun q => s.heap.size ≤ q) S (c_X4_cell l D G 0 0 aX d0X (xs (Int32.toNatClampNeg 1)) (xs (Int32.toNatClampNeg 2)) (xs (Int32.toNatClampNeg 3)) xi0) gV_RL_120 ds_X4_cell ⟨rfl, rfl⟩ ⟨Nat.le_of_ble_eq_true rfl, Nat.le_of_ble_eq_true rfl⟩ ⟨blindX, recvX hK hX (k := 0) (i := 0) Nat.zero_lt_one rfl rfl, preX hK hN hX _⟩ rfl hl.1 rfl (Nat.le_of_ble_eq_true rfl) ⟨Nat.le_of_ble_eq_true rfl, Nat.le_of_ble_eq_true rfl⟩ dL_law_1140 hS hAX (fun H1 locs1 hX1 hS1 k1 => ?_)
  have hM1 := hM.kept (H1 := H1) (fun q hq => k1 q (hM.sz hq) (fun z => hdis q z hq))
  replace hM := hM1
  replace hS := hS1
  refine lv_aload_n S.1 S.2.1 dL_law_1143 rfl (lv_at hl 1 rfl) ?_
  refine lv_aload_n S.1 S.2.1 dL_law_1144 rfl (lv_at hl 3 rfl) ?_
  refine lv_iload_n S.1 S.2.1 dL_law_1145 rfl (lv_at hl 0 rfl) ?_
  refine lv_iconst (v := 1) S.1 S.2.1 dL_law_1146 (by decide) ?_
  refine lv_iadd S.1 S.2.1 dL_law_1147 (q_to (by decide : ((0 : Int32) + 1) = 1) ?_)
  refine va_sld S.1 S.2.1 hY hbl hbA hS (i := 1) vin6_1 dL_law_1148 ?_
  refine lv_aload_n S.1 S.2.1 dL_law_1149 rfl (lv_at hl 3 rfl) ?_
  refine lv_iload_n S.1 S.2.1 dL_law_1150 rfl (lv_at hl 0 rfl) ?_
  refine lv_iconst (v := 2) S.1 S.2.1 dL_law_1151 (by decide) ?_
  refine lv_iadd S.1 S.2.1 dL_law_1152 (q_to (by decide : ((0 : Int32) + 2) = 2) ?_)
  refine va_sld S.1 S.2.1 hY hbl hbA hS (i := 2) vin6_2 dL_law_1153 ?_
  refine lv_aload_n S.1 S.2.1 dL_law_1154 rfl (lv_at hl 3 rfl) ?_
  refine lv_iload_n S.1 S.2.1 dL_law_1155 rfl (lv_at hl 0 rfl) ?_
  refine lv_iconst (v := 3) S.1 S.2.1 dL_law_1156 (by decide) ?_
  refine lv_iadd S.1 S.2.1 dL_law_1157 (q_to (by decide : ((0 : Int32) + 3) = 3) ?_)
  refine va_sld S.1 S.2.1 hY hbl hbA hS (i := 3) vin6_3 dL_law_1158 ?_
  refine cWV (rest := [.long (sp_X4_cell d0X (xs (Int32.toNatClampNeg 1)) (xs (Int32.toNatClampNeg 2)) (xs (Int32.toNatClampNeg 3))).1]) (A := fun q => s.heap.size ≤ q) S (c_X5_cell l D G aM d0M (xs (Int32.toNatClampNeg 1)) (xs (Int32.toNatClampNeg 2)) (xs (Int32.toNatClampNeg 3)) mi0) gV_RL_123 ds_X5_cell ⟨rfl, rfl⟩ ⟨Nat.le_of_ble_eq_true rfl, Nat.le_of_ble_eq_true rfl⟩ ⟨blindX, recvX hK hM (k := 0) (i := 0) Nat.zero_lt_one rfl rfl, preX hK hN hM _⟩ rfl hl.1 rfl (Nat.le_of_ble_eq_true rfl) ⟨Nat.le_of_ble_eq_true rfl, Nat.le_of_ble_eq_true rfl⟩ dL_law_1159 hS hAM (fun H1 locs1 hX1 hS1 k1 => ?_)
  replace hS := hS1
  refine q_lcmp_eq (tgt := 1422) S rfl rfl dL_law_1162 dL_law_1163 (by decide) (fun _ => ?_) (fun z => absurd (congrArg Int64.toInt (fe_cell (xs (Int32.toNatClampNeg 1)) (xs (Int32.toNatClampNeg 2)) (xs (Int32.toNatClampNeg 3)))) z)
  refine W.widen (k := 43) (n := 1350) (Nat.le_of_ble_eq_true rfl) (Nat.le_of_ble_eq_true rfl) ?_
  exact kk _ _ hS
set_option maxRecDepth 100000 in
set_option maxHeartbeats 8000000 in
theorem lc_26 {p : Program} {e : Env} {s : State} {m : MethodId} {below : List Frame} {meth : Method} {c : Code} (l : Launch) {b : Nat} {xs : Nat → Int32} (S : CallFix p m c cL_law 4 s #[Value.ref b] wsL_law RL) (hY : va_X b 6 xs s s.heap) (hbl : b < s.heap.size) {Q : State → Prop} {D : va_G} {G : Gc} {aX aM : Nat → Nat → Nat} {H : Heap} {locs : List Loc} {ls : Array Slot} (hK : va_K D vwCl (tysG G) s) (hN : NW s) (hX : PIC D (XF G 0 0 aX) (XN 0 0) aX d0X H) (hM : PIC D (MF G aM) MN aM d0M H) (hAX : ∀ q, adS (XN 0 0) aX q → s.heap.size ≤ q) (hAM : ∀ q, adS MN aM q → s.heap.size ≤ q) (hdis : ∀ q, adS (XN 0 0) aX q → ¬ adS MN aM q) (hS : va_S (fun q => s.heap.size ≤ q) s.heap H locs) (hl : lv_has ls 4 [(3, .int 0), (2, .ref (aM 0 0)), (1, .ref (aX 0 0)), (0, .ref b)]) (kk : ∀ (H : Heap) (locs : List Loc), va_S (fun q => s.heap.size ≤ q) s.heap H locs → W p l e room_1 s m #[Value.ref b] below meth c H locs 43 1350 Q (F0 m 1422 ls [])) : W p l e room_1 s m #[Value.ref b] below meth c H locs 38 1303 Q (F0 m 1168 ls []) := by
  have hbA : ¬ (fun q : Nat => s.heap.size ≤ q) b := Nat.not_le.mpr hbl
  refine lv_aload_n S.1 S.2.1 dL_law_1168 rfl (lv_at hl 2 rfl) ?_
  refine lv_aload_n S.1 S.2.1 dL_law_1169 rfl (lv_at hl 3 rfl) ?_
  refine lv_iload_n S.1 S.2.1 dL_law_1170 rfl (lv_at hl 0 rfl) ?_
  refine lv_iconst (v := 1) S.1 S.2.1 dL_law_1171 (by decide) ?_
  refine lv_iadd S.1 S.2.1 dL_law_1172 (q_to (by decide : ((0 : Int32) + 1) = 1) ?_)
  refine va_sld S.1 S.2.1 hY hbl hbA hS (i := 1) vin6_1 dL_law_1173 ?_
  refine lv_aload_n S.1 S.2.1 dL_law_1174 rfl (lv_at hl 3 rfl) ?_
  refine lv_iload_n S.1 S.2.1 dL_law_1175 rfl (lv_at hl 0 rfl) ?_
  refine lv_iconst (v := 2) S.1 S.2.1 dL_law_1176 (by decide) ?_
  refine lv_iadd S.1 S.2.1 dL_law_1177 (q_to (by decide : ((0 : Int32) + 2) = 2) ?_)
  refine va_sld S.1 S.2.1 hY hbl hbA hS (i := 2) vin6_2 dL_law_1178 ?_
  refine lv_aload_n S.1 S.2.1 dL_law_1179 rfl (lv_at hl 3 rfl) ?_
  refine lv_iload_n S.1 S.2.1 dL_law_1180 rfl (lv_at hl 0 rfl) ?_
  refine lv_iconst (v := 3) S.1 S.2.1 dL_law_1181 (by decide) ?_
  refine lv_iadd S.1 S.2.1 dL_law_1182 (q_to (by decide : ((0 : Int32) + 3) = 3) ?_)
  refine va_sld S.1 S.2.1 hY hbl hbA hS (i := 3) vin6_3 dL_law_1183 ?_
  refine lv_aload_n S.1 S.2.1 dL_law_1184 rfl (lv_at hl 3 rfl) ?_
  refine lv_iload_n S.1 S.2.1 dL_law_1185 rfl (lv_at hl 0 rfl) ?_
  refine lv_iconst (v := 4) S.1 S.2.1 dL_law_1186 (by decide) ?_
  refine lv_iadd S.1 S.2.1 dL_law_1187 (q_to (by decide : ((0 : Int32) + 4) = 4) ?_)
  refine va_sld S.1 S.2.1 hY hbl hbA hS (i := 4) vin6_4 dL_law_1188 ?_
  refine lv_aload_n S.1 S.2.1 dL_law_1189 rfl (lv_at hl 3 rfl) ?_
  refine lv_iload_n S.1 S.2.1 dL_law_1190 rfl (lv_at hl 0 rfl) ?_
  refine lv_iconst (v := 5) S.1 S.2.1 dL_law_1191 (by decide) ?_
  refine lv_iadd S.1 S.2.1 dL_law_1192 (q_to (by decide : ((0 : Int32) + 5) = 5) ?_)
  refine va_sld S.1 S.2.1 hY hbl hbA hS (i := 5) vin6_5 dL_law_1193 ?_
  refine cWV (rest := []) (A := fun q => s.heap.size ≤ q) S (c_X4_copy l D G 0 0 aX d0X (xs (Int32.toNatClampNeg 1)) (xs (Int32.toNatClampNeg 2)) (xs (Int32.toNatClampNeg 3)) (xs (Int32.toNatClampNeg 4)) (xs (Int32.toNatClampNeg 5)) xi0) gV_RL_124 ds_X4_copy ⟨rfl, rfl⟩ ⟨Nat.le_of_ble_eq_true rfl, Nat.le_of_ble_eq_true rfl⟩ ⟨blindX, recvX hK hX (k := 0) (i := 0) Nat.zero_lt_one rfl rfl, preX hK hN hX _⟩ rfl hl.1 rfl (Nat.le_of_ble_eq_true rfl) ⟨Nat.le_of_ble_eq_true rfl, Nat.le_of_ble_eq_true rfl⟩ dL_law_1194 hS hAX (fun H1 locs1 hX1 hS1 k1 => ?_)
  have hM1 := hM.kept (H1 := H1) (fun q hq => k1 q (hM.sz hq) (fun z => hdis q z hq))
  replace hM := hM1
  replace hS := hS1
  refine lv_aload_n S.1 S.2.1 dL_law_1197 rfl (lv_at hl 1 rfl) ?_
  refine lv_aload_n S.1 S.2.1 dL_law_1198 rfl (lv_at hl 3 rfl) ?_
  refine lv_iload_n S.1 S.2.1 dL_law_1199 rfl (lv_at hl 0 rfl) ?_
  refine lv_iconst (v := 1) S.1 S.2.1 dL_law_1200 (by decide) ?_
  refine lv_iadd S.1 S.2.1 dL_law_1201 (q_to (by decide : ((0 : Int32) + 1) = 1) ?_)
  refine va_sld S.1 S.2.1 hY hbl hbA hS (i := 1) vin6_1 dL_law_1202 ?_
  refine lv_aload_n S.1 S.2.1 dL_law_1203 rfl (lv_at hl 3 rfl) ?_
  refine lv_iload_n S.1 S.2.1 dL_law_1204 rfl (lv_at hl 0 rfl) ?_
  refine lv_iconst (v := 2) S.1 S.2.1 dL_law_1205 (by decide) ?_
  refine lv_iadd S.1 S.2.1 dL_law_1206 (q_to (by decide : ((0 : Int32) + 2) = 2) ?_)
  refine va_sld S.1 S.2.1 hY hbl hbA hS (i := 2) vin6_2 dL_law_1207 ?_
  refine lv_aload_n S.1 S.2.1 dL_law_1208 rfl (lv_at hl 3 rfl) ?_
  refine lv_iload_n S.1 S.2.1 dL_law_1209 rfl (lv_at hl 0 rfl) ?_
  refine lv_iconst (v := 3) S.1 S.2.1 dL_law_1210 (by decide) ?_
  refine lv_iadd S.1 S.2.1 dL_law_1211 (q_to (by decide : ((0 : Int32) + 3) = 3) ?_)
  refine va_sld S.1 S.2.1 hY hbl hbA hS (i := 3) vin6_3 dL_law_1212 ?_
  refine lv_aload_n S.1 S.2.1 dL_law_1213 rfl (lv_at hl 3 rfl) ?_
  refine lv_iload_n S.1 S.2.1 dL_law_1214 rfl (lv_at hl 0 rfl) ?_
  refine lv_iconst (v := 4) S.1 S.2.1 dL_law_1215 (by decide) ?_
  refine lv_iadd S.1 S.2.1 dL_law_1216 (q_to (by decide : ((0 : Int32) + 4) = 4) ?_)
  refine va_sld S.1 S.2.1 hY hbl hbA hS (i := 4) vin6_4 dL_law_1217 ?_
  refine lv_aload_n S.1 S.2.1 dL_law_1218 rfl (lv_at hl 3 rfl) ?_
  refine lv_iload_n S.1 S.2.1 dL_law_1219 rfl (lv_at hl 0 rfl) ?_
  refine lv_iconst (v := 5) S.1 S.2.1 dL_law_1220 (by decide) ?_
  refine lv_iadd S.1 S.2.1 dL_law_1221 (q_to (by decide : ((0 : Int32) + 5) = 5) ?_)
  refine va_sld S.1 S.2.1 hY hbl hbA hS (i := 5) vin6_5 dL_law_1222 ?_
  refine cWV (rest := [.int (sp_X4_copy d0X (xs (Int32.toNatClampNeg 1)) (xs (Int32.toNatClampNeg 2)) (xs (Int32.toNatClampNeg 3)) (xs (Int32.toNatClampNeg 4)) (xs (Int32.toNatClampNeg 5))).1]) (A := fun q => s.heap.size ≤ q) S (c_X5_copy l D G aM d0M (xs (Int32.toNatClampNeg 1)) (xs (Int32.toNatClampNeg 2)) (xs (Int32.toNatClampNeg 3)) (xs (Int32.toNatClampNeg 4)) (xs (Int32.toNatClampNeg 5)) mi0) gV_RL_128 ds_X5_copy ⟨rfl, rfl⟩ ⟨Nat.le_of_ble_eq_true rfl, Nat.le_of_ble_eq_true rfl⟩ ⟨blindX, recvX hK hM (k := 0) (i := 0) Nat.zero_lt_one rfl rfl, preX hK hN hM _⟩ rfl hl.1 rfl (Nat.le_of_ble_eq_true rfl) ⟨Nat.le_of_ble_eq_true rfl, Nat.le_of_ble_eq_true rfl⟩ dL_law_1223 hS hAM (fun H1 locs1 hX1 hS1 k1 => ?_)
  replace hS := hS1
  refine lv_icmp_eq (tgt := 1422) S.1 S.2.1 dL_law_1226 (by decide) (fun _ => ?_) (fun z => absurd (fe_copy (xs (Int32.toNatClampNeg 1)) (xs (Int32.toNatClampNeg 2)) (xs (Int32.toNatClampNeg 3)) (xs (Int32.toNatClampNeg 4)) (xs (Int32.toNatClampNeg 5))) z)
  refine W.widen (k := 43) (n := 1350) (Nat.le_of_ble_eq_true rfl) (Nat.le_of_ble_eq_true rfl) ?_
  exact kk _ _ hS
set_option maxRecDepth 100000 in
set_option maxHeartbeats 8000000 in
theorem lc_27 {p : Program} {e : Env} {s : State} {m : MethodId} {below : List Frame} {meth : Method} {c : Code} (l : Launch) {b : Nat} {xs : Nat → Int32} (S : CallFix p m c cL_law 4 s #[Value.ref b] wsL_law RL) (hY : va_X b 6 xs s s.heap) (hbl : b < s.heap.size) {Q : State → Prop} {D : va_G} {G : Gc} {aX aM : Nat → Nat → Nat} {H : Heap} {locs : List Loc} {ls : Array Slot} (hK : va_K D vwCl (tysG G) s) (hN : NW s) (hX : PIC D (XF G 0 0 aX) (XN 0 0) aX d0X H) (hM : PIC D (MF G aM) MN aM d0M H) (hAX : ∀ q, adS (XN 0 0) aX q → s.heap.size ≤ q) (hAM : ∀ q, adS MN aM q → s.heap.size ≤ q) (hdis : ∀ q, adS (XN 0 0) aX q → ¬ adS MN aM q) (hS : va_S (fun q => s.heap.size ≤ q) s.heap H locs) (hl : lv_has ls 4 [(3, .int 0), (2, .ref (aM 0 0)), (1, .ref (aX 0 0)), (0, .ref b)]) (kk : ∀ (H : Heap) (locs : List Loc), va_S (fun q => s.heap.size ≤ q) s.heap H locs → W p l e room_1 s m #[Value.ref b] below meth c H locs 43 1350 Q (F0 m 1422 ls [])) : W p l e room_1 s m #[Value.ref b] below meth c H locs 38 1303 Q (F0 m 1231 ls []) := by
  have hbA : ¬ (fun q : Nat => s.heap.size ≤ q) b := Nat.not_le.mpr hbl
  refine lv_aload_n S.1 S.2.1 dL_law_1231 rfl (lv_at hl 2 rfl) ?_
  refine lv_aload_n S.1 S.2.1 dL_law_1232 rfl (lv_at hl 3 rfl) ?_
  refine lv_iload_n S.1 S.2.1 dL_law_1233 rfl (lv_at hl 0 rfl) ?_
  refine lv_iconst (v := 1) S.1 S.2.1 dL_law_1234 (by decide) ?_
  refine lv_iadd S.1 S.2.1 dL_law_1235 (q_to (by decide : ((0 : Int32) + 1) = 1) ?_)
  refine va_sld S.1 S.2.1 hY hbl hbA hS (i := 1) vin6_1 dL_law_1236 ?_
  refine lv_aload_n S.1 S.2.1 dL_law_1237 rfl (lv_at hl 3 rfl) ?_
  refine lv_iload_n S.1 S.2.1 dL_law_1238 rfl (lv_at hl 0 rfl) ?_
  refine lv_iconst (v := 2) S.1 S.2.1 dL_law_1239 (by decide) ?_
  refine lv_iadd S.1 S.2.1 dL_law_1240 (q_to (by decide : ((0 : Int32) + 2) = 2) ?_)
  refine va_sld S.1 S.2.1 hY hbl hbA hS (i := 2) vin6_2 dL_law_1241 ?_
  refine lv_aload_n S.1 S.2.1 dL_law_1242 rfl (lv_at hl 3 rfl) ?_
  refine lv_iload_n S.1 S.2.1 dL_law_1243 rfl (lv_at hl 0 rfl) ?_
  refine lv_iconst (v := 3) S.1 S.2.1 dL_law_1244 (by decide) ?_
  refine lv_iadd S.1 S.2.1 dL_law_1245 (q_to (by decide : ((0 : Int32) + 3) = 3) ?_)
  refine va_sld S.1 S.2.1 hY hbl hbA hS (i := 3) vin6_3 dL_law_1246 ?_
  refine lv_aload_n S.1 S.2.1 dL_law_1247 rfl (lv_at hl 3 rfl) ?_
  refine lv_iload_n S.1 S.2.1 dL_law_1248 rfl (lv_at hl 0 rfl) ?_
  refine lv_iconst (v := 4) S.1 S.2.1 dL_law_1249 (by decide) ?_
  refine lv_iadd S.1 S.2.1 dL_law_1250 (q_to (by decide : ((0 : Int32) + 4) = 4) ?_)
  refine va_sld S.1 S.2.1 hY hbl hbA hS (i := 4) vin6_4 dL_law_1251 ?_
  refine lv_aload_n S.1 S.2.1 dL_law_1252 rfl (lv_at hl 3 rfl) ?_
  refine lv_iload_n S.1 S.2.1 dL_law_1253 rfl (lv_at hl 0 rfl) ?_
  refine lv_iconst (v := 5) S.1 S.2.1 dL_law_1254 (by decide) ?_
  refine lv_iadd S.1 S.2.1 dL_law_1255 (q_to (by decide : ((0 : Int32) + 5) = 5) ?_)
  refine va_sld S.1 S.2.1 hY hbl hbA hS (i := 5) vin6_5 dL_law_1256 ?_
  refine cWV (rest := []) (A := fun q => s.heap.size ≤ q) S (c_X4_watch l D G 0 0 aX d0X (xs (Int32.toNatClampNeg 1)) (xs (Int32.toNatClampNeg 2)) (xs (Int32.toNatClampNeg 3)) (xs (Int32.toNatClampNeg 4)) (xs (Int32.toNatClampNeg 5)) xi0) gV_RL_129 ds_X4_watch ⟨rfl, rfl⟩ ⟨Nat.le_of_ble_eq_true rfl, Nat.le_of_ble_eq_true rfl⟩ ⟨blindX, recvX hK hX (k := 0) (i := 0) Nat.zero_lt_one rfl rfl, preX hK hN hX _⟩ rfl hl.1 rfl (Nat.le_of_ble_eq_true rfl) ⟨Nat.le_of_ble_eq_true rfl, Nat.le_of_ble_eq_true rfl⟩ dL_law_1257 hS hAX (fun H1 locs1 hX1 hS1 k1 => ?_)
  have hM1 := hM.kept (H1 := H1) (fun q hq => k1 q (hM.sz hq) (fun z => hdis q z hq))
  replace hM := hM1
  replace hS := hS1
  refine lv_aload_n S.1 S.2.1 dL_law_1260 rfl (lv_at hl 1 rfl) ?_
  refine lv_aload_n S.1 S.2.1 dL_law_1261 rfl (lv_at hl 3 rfl) ?_
  refine lv_iload_n S.1 S.2.1 dL_law_1262 rfl (lv_at hl 0 rfl) ?_
  refine lv_iconst (v := 1) S.1 S.2.1 dL_law_1263 (by decide) ?_
  refine lv_iadd S.1 S.2.1 dL_law_1264 (q_to (by decide : ((0 : Int32) + 1) = 1) ?_)
  refine va_sld S.1 S.2.1 hY hbl hbA hS (i := 1) vin6_1 dL_law_1265 ?_
  refine lv_aload_n S.1 S.2.1 dL_law_1266 rfl (lv_at hl 3 rfl) ?_
  refine lv_iload_n S.1 S.2.1 dL_law_1267 rfl (lv_at hl 0 rfl) ?_
  refine lv_iconst (v := 2) S.1 S.2.1 dL_law_1268 (by decide) ?_
  refine lv_iadd S.1 S.2.1 dL_law_1269 (q_to (by decide : ((0 : Int32) + 2) = 2) ?_)
  refine va_sld S.1 S.2.1 hY hbl hbA hS (i := 2) vin6_2 dL_law_1270 ?_
  refine lv_aload_n S.1 S.2.1 dL_law_1271 rfl (lv_at hl 3 rfl) ?_
  refine lv_iload_n S.1 S.2.1 dL_law_1272 rfl (lv_at hl 0 rfl) ?_
  refine lv_iconst (v := 3) S.1 S.2.1 dL_law_1273 (by decide) ?_
  refine lv_iadd S.1 S.2.1 dL_law_1274 (q_to (by decide : ((0 : Int32) + 3) = 3) ?_)
  refine va_sld S.1 S.2.1 hY hbl hbA hS (i := 3) vin6_3 dL_law_1275 ?_
  refine lv_aload_n S.1 S.2.1 dL_law_1276 rfl (lv_at hl 3 rfl) ?_
  refine lv_iload_n S.1 S.2.1 dL_law_1277 rfl (lv_at hl 0 rfl) ?_
  refine lv_iconst (v := 4) S.1 S.2.1 dL_law_1278 (by decide) ?_
  refine lv_iadd S.1 S.2.1 dL_law_1279 (q_to (by decide : ((0 : Int32) + 4) = 4) ?_)
  refine va_sld S.1 S.2.1 hY hbl hbA hS (i := 4) vin6_4 dL_law_1280 ?_
  refine lv_aload_n S.1 S.2.1 dL_law_1281 rfl (lv_at hl 3 rfl) ?_
  refine lv_iload_n S.1 S.2.1 dL_law_1282 rfl (lv_at hl 0 rfl) ?_
  refine lv_iconst (v := 5) S.1 S.2.1 dL_law_1283 (by decide) ?_
  refine lv_iadd S.1 S.2.1 dL_law_1284 (q_to (by decide : ((0 : Int32) + 5) = 5) ?_)
  refine va_sld S.1 S.2.1 hY hbl hbA hS (i := 5) vin6_5 dL_law_1285 ?_
  refine cWV (rest := [.int (sp_X4_watch d0X (xs (Int32.toNatClampNeg 1)) (xs (Int32.toNatClampNeg 2)) (xs (Int32.toNatClampNeg 3)) (xs (Int32.toNatClampNeg 4)) (xs (Int32.toNatClampNeg 5))).1]) (A := fun q => s.heap.size ≤ q) S (c_X5_watch l D G aM d0M (xs (Int32.toNatClampNeg 1)) (xs (Int32.toNatClampNeg 2)) (xs (Int32.toNatClampNeg 3)) (xs (Int32.toNatClampNeg 4)) (xs (Int32.toNatClampNeg 5)) mi0) gV_RL_132 ds_X5_watch ⟨rfl, rfl⟩ ⟨Nat.le_of_ble_eq_true rfl, Nat.le_of_ble_eq_true rfl⟩ ⟨blindX, recvX hK hM (k := 0) (i := 0) Nat.zero_lt_one rfl rfl, preX hK hN hM _⟩ rfl hl.1 rfl (Nat.le_of_ble_eq_true rfl) ⟨Nat.le_of_ble_eq_true rfl, Nat.le_of_ble_eq_true rfl⟩ dL_law_1286 hS hAM (fun H1 locs1 hX1 hS1 k1 => ?_)
  replace hS := hS1
  refine lv_icmp_eq (tgt := 1422) S.1 S.2.1 dL_law_1289 (by decide) (fun _ => ?_) (fun z => absurd (fe_watch (xs (Int32.toNatClampNeg 1)) (xs (Int32.toNatClampNeg 2)) (xs (Int32.toNatClampNeg 3)) (xs (Int32.toNatClampNeg 4)) (xs (Int32.toNatClampNeg 5))) z)
  refine W.widen (k := 43) (n := 1350) (Nat.le_of_ble_eq_true rfl) (Nat.le_of_ble_eq_true rfl) ?_
  exact kk _ _ hS
set_option maxRecDepth 100000 in
set_option maxHeartbeats 8000000 in
theorem lc_28 {p : Program} {e : Env} {s : State} {m : MethodId} {below : List Frame} {meth : Method} {c : Code} (l : Launch) {b : Nat} {xs : Nat → Int32} (S : CallFix p m c cL_law 4 s #[Value.ref b] wsL_law RL) (hY : va_X b 6 xs s s.heap) (hbl : b < s.heap.size) {Q : State → Prop} {D : va_G} {G : Gc} {aX aM : Nat → Nat → Nat} {H : Heap} {locs : List Loc} {ls : Array Slot} (hK : va_K D vwCl (tysG G) s) (hN : NW s) (hX : PIC D (XF G 0 0 aX) (XN 0 0) aX d0X H) (hM : PIC D (MF G aM) MN aM d0M H) (hAX : ∀ q, adS (XN 0 0) aX q → s.heap.size ≤ q) (hAM : ∀ q, adS MN aM q → s.heap.size ≤ q) (hdis : ∀ q, adS (XN 0 0) aX q → ¬ adS MN aM q) (hS : va_S (fun q => s.heap.size ≤ q) s.heap H locs) (hl : lv_has ls 4 [(3, .int 0), (2, .ref (aM 0 0)), (1, .ref (aX 0 0)), (0, .ref b)]) (kk : ∀ (H : Heap) (locs : List Loc), va_S (fun q => s.heap.size ≤ q) s.heap H locs → W p l e room_1 s m #[Value.ref b] below meth c H locs 43 1350 Q (F0 m 1422 ls [])) : W p l e room_1 s m #[Value.ref b] below meth c H locs 38 1303 Q (F0 m 1294 ls []) := by
  have hbA : ¬ (fun q : Nat => s.heap.size ≤ q) b := Nat.not_le.mpr hbl
  refine lv_aload_n S.1 S.2.1 dL_law_1294 rfl (lv_at hl 2 rfl) ?_
  refine lv_aload_n S.1 S.2.1 dL_law_1295 rfl (lv_at hl 3 rfl) ?_
  refine lv_iload_n S.1 S.2.1 dL_law_1296 rfl (lv_at hl 0 rfl) ?_
  refine lv_iconst (v := 1) S.1 S.2.1 dL_law_1297 (by decide) ?_
  refine lv_iadd S.1 S.2.1 dL_law_1298 (q_to (by decide : ((0 : Int32) + 1) = 1) ?_)
  refine va_sld S.1 S.2.1 hY hbl hbA hS (i := 1) vin6_1 dL_law_1299 ?_
  refine cWV (rest := []) (A := fun q => s.heap.size ≤ q) S (c_X4_tell l D G 0 0 aX d0X (xs (Int32.toNatClampNeg 1)) xi0) gV_RL_133 ds_X4_tell ⟨rfl, rfl⟩ ⟨Nat.le_of_ble_eq_true rfl, Nat.le_of_ble_eq_true rfl⟩ ⟨blindX, recvX hK hX (k := 0) (i := 0) Nat.zero_lt_one rfl rfl, preX hK hN hX _⟩ rfl hl.1 rfl (Nat.le_of_ble_eq_true rfl) ⟨Nat.le_of_ble_eq_true rfl, Nat.le_of_ble_eq_true rfl⟩ dL_law_1300 hS hAX (fun H1 locs1 hX1 hS1 k1 => ?_)
  have hM1 := hM.kept (H1 := H1) (fun q hq => k1 q (hM.sz hq) (fun z => hdis q z hq))
  replace hM := hM1
  replace hS := hS1
  refine lv_aload_n S.1 S.2.1 dL_law_1303 rfl (lv_at hl 1 rfl) ?_
  refine lv_aload_n S.1 S.2.1 dL_law_1304 rfl (lv_at hl 3 rfl) ?_
  refine lv_iload_n S.1 S.2.1 dL_law_1305 rfl (lv_at hl 0 rfl) ?_
  refine lv_iconst (v := 1) S.1 S.2.1 dL_law_1306 (by decide) ?_
  refine lv_iadd S.1 S.2.1 dL_law_1307 (q_to (by decide : ((0 : Int32) + 1) = 1) ?_)
  refine va_sld S.1 S.2.1 hY hbl hbA hS (i := 1) vin6_1 dL_law_1308 ?_
  refine cWV (rest := [.int (sp_X4_tell d0X (xs (Int32.toNatClampNeg 1))).1]) (A := fun q => s.heap.size ≤ q) S (c_X5_tell l D G aM d0M (xs (Int32.toNatClampNeg 1)) mi0) gV_RL_136 ds_X5_tell ⟨rfl, rfl⟩ ⟨Nat.le_of_ble_eq_true rfl, Nat.le_of_ble_eq_true rfl⟩ ⟨blindX, recvX hK hM (k := 0) (i := 0) Nat.zero_lt_one rfl rfl, preX hK hN hM _⟩ rfl hl.1 rfl (Nat.le_of_ble_eq_true rfl) ⟨Nat.le_of_ble_eq_true rfl, Nat.le_of_ble_eq_true rfl⟩ dL_law_1309 hS hAM (fun H1 locs1 hX1 hS1 k1 => ?_)
  replace hS := hS1
  refine lv_icmp_eq (tgt := 1422) S.1 S.2.1 dL_law_1312 (by decide) (fun _ => ?_) (fun z => absurd (fe_tell (xs (Int32.toNatClampNeg 1))) z)
  refine W.widen (k := 43) (n := 1350) (Nat.le_of_ble_eq_true rfl) (Nat.le_of_ble_eq_true rfl) ?_
  exact kk _ _ hS
set_option maxRecDepth 100000 in
set_option maxHeartbeats 8000000 in
theorem lc_29 {p : Program} {e : Env} {s : State} {m : MethodId} {below : List Frame} {meth : Method} {c : Code} (l : Launch) {b : Nat} {xs : Nat → Int32} (S : CallFix p m c cL_law 4 s #[Value.ref b] wsL_law RL) (hY : va_X b 6 xs s s.heap) (hbl : b < s.heap.size) {Q : State → Prop} {D : va_G} {G : Gc} {aX aM : Nat → Nat → Nat} {H : Heap} {locs : List Loc} {ls : Array Slot} (hK : va_K D vwCl (tysG G) s) (hN : NW s) (hX : PIC D (XF G 0 0 aX) (XN 0 0) aX d0X H) (hM : PIC D (MF G aM) MN aM d0M H) (hAX : ∀ q, adS (XN 0 0) aX q → s.heap.size ≤ q) (hAM : ∀ q, adS MN aM q → s.heap.size ≤ q) (hdis : ∀ q, adS (XN 0 0) aX q → ¬ adS MN aM q) (hS : va_S (fun q => s.heap.size ≤ q) s.heap H locs) (hl : lv_has ls 4 [(3, .int 0), (2, .ref (aM 0 0)), (1, .ref (aX 0 0)), (0, .ref b)]) (kk : ∀ (H : Heap) (locs : List Loc), va_S (fun q => s.heap.size ≤ q) s.heap H locs → W p l e room_1 s m #[Value.ref b] below meth c H locs 43 1350 Q (F0 m 1422 ls [])) : W p l e room_1 s m #[Value.ref b] below meth c H locs 38 1303 Q (F0 m 1317 ls []) := by
  have hbA : ¬ (fun q : Nat => s.heap.size ≤ q) b := Nat.not_le.mpr hbl
  refine lv_aload_n S.1 S.2.1 dL_law_1317 rfl (lv_at hl 2 rfl) ?_
  refine lv_aload_n S.1 S.2.1 dL_law_1318 rfl (lv_at hl 3 rfl) ?_
  refine lv_iload_n S.1 S.2.1 dL_law_1319 rfl (lv_at hl 0 rfl) ?_
  refine lv_iconst (v := 1) S.1 S.2.1 dL_law_1320 (by decide) ?_
  refine lv_iadd S.1 S.2.1 dL_law_1321 (q_to (by decide : ((0 : Int32) + 1) = 1) ?_)
  refine va_sld S.1 S.2.1 hY hbl hbA hS (i := 1) vin6_1 dL_law_1322 ?_
  refine cWV (rest := []) (A := fun q => s.heap.size ≤ q) S (c_X4_worth l D G 0 0 aX d0X (xs (Int32.toNatClampNeg 1)) xi0) gV_RL_137 ds_X4_worth ⟨rfl, rfl⟩ ⟨Nat.le_of_ble_eq_true rfl, Nat.le_of_ble_eq_true rfl⟩ ⟨blindX, recvX hK hX (k := 0) (i := 0) Nat.zero_lt_one rfl rfl, preX hK hN hX _⟩ rfl hl.1 rfl (Nat.le_of_ble_eq_true rfl) ⟨Nat.le_of_ble_eq_true rfl, Nat.le_of_ble_eq_true rfl⟩ dL_law_1323 hS hAX (fun H1 locs1 hX1 hS1 k1 => ?_)
  have hM1 := hM.kept (H1 := H1) (fun q hq => k1 q (hM.sz hq) (fun z => hdis q z hq))
  replace hM := hM1
  replace hS := hS1
  refine lv_aload_n S.1 S.2.1 dL_law_1326 rfl (lv_at hl 1 rfl) ?_
  refine lv_aload_n S.1 S.2.1 dL_law_1327 rfl (lv_at hl 3 rfl) ?_
  refine lv_iload_n S.1 S.2.1 dL_law_1328 rfl (lv_at hl 0 rfl) ?_
  refine lv_iconst (v := 1) S.1 S.2.1 dL_law_1329 (by decide) ?_
  refine lv_iadd S.1 S.2.1 dL_law_1330 (q_to (by decide : ((0 : Int32) + 1) = 1) ?_)
  refine va_sld S.1 S.2.1 hY hbl hbA hS (i := 1) vin6_1 dL_law_1331 ?_
  refine cWV (rest := [.int (sp_X4_worth d0X (xs (Int32.toNatClampNeg 1))).1]) (A := fun q => s.heap.size ≤ q) S (c_X5_worth l D G aM d0M (xs (Int32.toNatClampNeg 1)) mi0) gV_RL_140 ds_X5_worth ⟨rfl, rfl⟩ ⟨Nat.le_of_ble_eq_true rfl, Nat.le_of_ble_eq_true rfl⟩ ⟨blindX, recvX hK hM (k := 0) (i := 0) Nat.zero_lt_one rfl rfl, preX hK hN hM _⟩ rfl hl.1 rfl (Nat.le_of_ble_eq_true rfl) ⟨Nat.le_of_ble_eq_true rfl, Nat.le_of_ble_eq_true rfl⟩ dL_law_1332 hS hAM (fun H1 locs1 hX1 hS1 k1 => ?_)
  replace hS := hS1
  refine lv_icmp_eq (tgt := 1422) S.1 S.2.1 dL_law_1335 (by decide) (fun _ => ?_) (fun z => absurd (fe_worth (xs (Int32.toNatClampNeg 1))) z)
  refine W.widen (k := 43) (n := 1350) (Nat.le_of_ble_eq_true rfl) (Nat.le_of_ble_eq_true rfl) ?_
  exact kk _ _ hS
set_option maxRecDepth 100000 in
set_option maxHeartbeats 8000000 in
theorem lc_30 {p : Program} {e : Env} {s : State} {m : MethodId} {below : List Frame} {meth : Method} {c : Code} (l : Launch) {b : Nat} {xs : Nat → Int32} (S : CallFix p m c cL_law 4 s #[Value.ref b] wsL_law RL) (hY : va_X b 6 xs s s.heap) (hbl : b < s.heap.size) {Q : State → Prop} {D : va_G} {G : Gc} {aX aM : Nat → Nat → Nat} {H : Heap} {locs : List Loc} {ls : Array Slot} (hK : va_K D vwCl (tysG G) s) (hN : NW s) (hX : PIC D (XF G 0 0 aX) (XN 0 0) aX d0X H) (hM : PIC D (MF G aM) MN aM d0M H) (hAX : ∀ q, adS (XN 0 0) aX q → s.heap.size ≤ q) (hAM : ∀ q, adS MN aM q → s.heap.size ≤ q) (hdis : ∀ q, adS (XN 0 0) aX q → ¬ adS MN aM q) (hS : va_S (fun q => s.heap.size ≤ q) s.heap H locs) (hl : lv_has ls 4 [(3, .int 0), (2, .ref (aM 0 0)), (1, .ref (aX 0 0)), (0, .ref b)]) (kk : ∀ (H : Heap) (locs : List Loc), va_S (fun q => s.heap.size ≤ q) s.heap H locs → W p l e room_1 s m #[Value.ref b] below meth c H locs 43 1350 Q (F0 m 1422 ls [])) : W p l e room_1 s m #[Value.ref b] below meth c H locs 38 1303 Q (F0 m 1340 ls []) := by
  have hbA : ¬ (fun q : Nat => s.heap.size ≤ q) b := Nat.not_le.mpr hbl
  refine lv_aload_n S.1 S.2.1 dL_law_1340 rfl (lv_at hl 2 rfl) ?_
  refine lv_aload_n S.1 S.2.1 dL_law_1341 rfl (lv_at hl 3 rfl) ?_
  refine lv_iload_n S.1 S.2.1 dL_law_1342 rfl (lv_at hl 0 rfl) ?_
  refine lv_iconst (v := 1) S.1 S.2.1 dL_law_1343 (by decide) ?_
  refine lv_iadd S.1 S.2.1 dL_law_1344 (q_to (by decide : ((0 : Int32) + 1) = 1) ?_)
  refine va_sld S.1 S.2.1 hY hbl hbA hS (i := 1) vin6_1 dL_law_1345 ?_
  refine lv_aload_n S.1 S.2.1 dL_law_1346 rfl (lv_at hl 3 rfl) ?_
  refine lv_iload_n S.1 S.2.1 dL_law_1347 rfl (lv_at hl 0 rfl) ?_
  refine lv_iconst (v := 2) S.1 S.2.1 dL_law_1348 (by decide) ?_
  refine lv_iadd S.1 S.2.1 dL_law_1349 (q_to (by decide : ((0 : Int32) + 2) = 2) ?_)
  refine va_sld S.1 S.2.1 hY hbl hbA hS (i := 2) vin6_2 dL_law_1350 ?_
  refine cWV (rest := []) (A := fun q => s.heap.size ≤ q) S (c_X4_as l D G 0 0 aX d0X (xs (Int32.toNatClampNeg 1)) (xs (Int32.toNatClampNeg 2)) xi0) gV_RL_141 ds_X4_as ⟨rfl, rfl⟩ ⟨Nat.le_of_ble_eq_true rfl, Nat.le_of_ble_eq_true rfl⟩ ⟨blindX, recvX hK hX (k := 0) (i := 0) Nat.zero_lt_one rfl rfl, preX hK hN hX _⟩ rfl hl.1 rfl (Nat.le_of_ble_eq_true rfl) ⟨Nat.le_of_ble_eq_true rfl, Nat.le_of_ble_eq_true rfl⟩ dL_law_1351 hS hAX (fun H1 locs1 hX1 hS1 k1 => ?_)
  have hM1 := hM.kept (H1 := H1) (fun q hq => k1 q (hM.sz hq) (fun z => hdis q z hq))
  replace hM := hM1
  replace hS := hS1
  refine lv_aload_n S.1 S.2.1 dL_law_1354 rfl (lv_at hl 1 rfl) ?_
  refine lv_aload_n S.1 S.2.1 dL_law_1355 rfl (lv_at hl 3 rfl) ?_
  refine lv_iload_n S.1 S.2.1 dL_law_1356 rfl (lv_at hl 0 rfl) ?_
  refine lv_iconst (v := 1) S.1 S.2.1 dL_law_1357 (by decide) ?_
  refine lv_iadd S.1 S.2.1 dL_law_1358 (q_to (by decide : ((0 : Int32) + 1) = 1) ?_)
  refine va_sld S.1 S.2.1 hY hbl hbA hS (i := 1) vin6_1 dL_law_1359 ?_
  refine lv_aload_n S.1 S.2.1 dL_law_1360 rfl (lv_at hl 3 rfl) ?_
  refine lv_iload_n S.1 S.2.1 dL_law_1361 rfl (lv_at hl 0 rfl) ?_
  refine lv_iconst (v := 2) S.1 S.2.1 dL_law_1362 (by decide) ?_
  refine lv_iadd S.1 S.2.1 dL_law_1363 (q_to (by decide : ((0 : Int32) + 2) = 2) ?_)
  refine va_sld S.1 S.2.1 hY hbl hbA hS (i := 2) vin6_2 dL_law_1364 ?_
  refine cWV (rest := [.int (sp_X4_as d0X (xs (Int32.toNatClampNeg 1)) (xs (Int32.toNatClampNeg 2))).1]) (A := fun q => s.heap.size ≤ q) S (c_X5_as l D G aM d0M (xs (Int32.toNatClampNeg 1)) (xs (Int32.toNatClampNeg 2)) mi0) gV_RL_144 ds_X5_as ⟨rfl, rfl⟩ ⟨Nat.le_of_ble_eq_true rfl, Nat.le_of_ble_eq_true rfl⟩ ⟨blindX, recvX hK hM (k := 0) (i := 0) Nat.zero_lt_one rfl rfl, preX hK hN hM _⟩ rfl hl.1 rfl (Nat.le_of_ble_eq_true rfl) ⟨Nat.le_of_ble_eq_true rfl, Nat.le_of_ble_eq_true rfl⟩ dL_law_1365 hS hAM (fun H1 locs1 hX1 hS1 k1 => ?_)
  replace hS := hS1
  refine lv_icmp_eq (tgt := 1422) S.1 S.2.1 dL_law_1368 (by decide) (fun _ => ?_) (fun z => absurd (fe_as (xs (Int32.toNatClampNeg 1)) (xs (Int32.toNatClampNeg 2))) z)
  refine W.widen (k := 43) (n := 1350) (Nat.le_of_ble_eq_true rfl) (Nat.le_of_ble_eq_true rfl) ?_
  exact kk _ _ hS
set_option maxRecDepth 100000 in
set_option maxHeartbeats 8000000 in
theorem lc_31 {p : Program} {e : Env} {s : State} {m : MethodId} {below : List Frame} {meth : Method} {c : Code} (l : Launch) {b : Nat} {xs : Nat → Int32} (S : CallFix p m c cL_law 4 s #[Value.ref b] wsL_law RL) (hY : va_X b 6 xs s s.heap) (hbl : b < s.heap.size) {Q : State → Prop} {D : va_G} {G : Gc} {aX aM : Nat → Nat → Nat} {H : Heap} {locs : List Loc} {ls : Array Slot} (hK : va_K D vwCl (tysG G) s) (hN : NW s) (hX : PIC D (XF G 0 0 aX) (XN 0 0) aX d0X H) (hM : PIC D (MF G aM) MN aM d0M H) (hAX : ∀ q, adS (XN 0 0) aX q → s.heap.size ≤ q) (hAM : ∀ q, adS MN aM q → s.heap.size ≤ q) (hdis : ∀ q, adS (XN 0 0) aX q → ¬ adS MN aM q) (hS : va_S (fun q => s.heap.size ≤ q) s.heap H locs) (hl : lv_has ls 4 [(3, .int 0), (2, .ref (aM 0 0)), (1, .ref (aX 0 0)), (0, .ref b)]) (kk : ∀ (H : Heap) (locs : List Loc), va_S (fun q => s.heap.size ≤ q) s.heap H locs → W p l e room_1 s m #[Value.ref b] below meth c H locs 43 1350 Q (F0 m 1422 ls [])) : W p l e room_1 s m #[Value.ref b] below meth c H locs 38 1303 Q (F0 m 1373 ls []) := by
  have hbA : ¬ (fun q : Nat => s.heap.size ≤ q) b := Nat.not_le.mpr hbl
  refine lv_aload_n S.1 S.2.1 dL_law_1373 rfl (lv_at hl 2 rfl) ?_
  refine cPV (rest := []) S (c_X4_trace l D G 0 0 aX d0X) gV_RL_145 ds_X4_trace ⟨rfl, rfl⟩ ⟨Nat.le_of_ble_eq_true rfl, Nat.le_of_ble_eq_true rfl⟩ ⟨blindX, recvX hK hX (k := 0) (i := 0) Nat.zero_lt_one rfl rfl, preX hK hN hX _⟩ rfl hl.1 rfl (Nat.le_of_ble_eq_true rfl) ⟨Nat.le_of_ble_eq_true rfl, Nat.le_of_ble_eq_true rfl⟩ dL_law_1374 ?_
  refine lv_aload_n S.1 S.2.1 dL_law_1377 rfl (lv_at hl 1 rfl) ?_
  refine cPV (rest := [.int (sp_X4_trace d0X)]) S (c_X5_trace l D G aM d0M) gV_RL_149 ds_X5_trace ⟨rfl, rfl⟩ ⟨Nat.le_of_ble_eq_true rfl, Nat.le_of_ble_eq_true rfl⟩ ⟨blindX, recvX hK hM (k := 0) (i := 0) Nat.zero_lt_one rfl rfl, preX hK hN hM _⟩ rfl hl.1 rfl (Nat.le_of_ble_eq_true rfl) ⟨Nat.le_of_ble_eq_true rfl, Nat.le_of_ble_eq_true rfl⟩ dL_law_1378 ?_
  refine lv_icmp_eq (tgt := 1422) S.1 S.2.1 dL_law_1381 (by decide) (fun _ => ?_) (fun z => absurd (fe_trace) z)
  refine W.widen (k := 43) (n := 1350) (Nat.le_of_ble_eq_true rfl) (Nat.le_of_ble_eq_true rfl) ?_
  exact kk _ _ hS
set_option maxRecDepth 100000 in
set_option maxHeartbeats 8000000 in
theorem lc_32 {p : Program} {e : Env} {s : State} {m : MethodId} {below : List Frame} {meth : Method} {c : Code} (l : Launch) {b : Nat} {xs : Nat → Int32} (S : CallFix p m c cL_law 4 s #[Value.ref b] wsL_law RL) (hY : va_X b 6 xs s s.heap) (hbl : b < s.heap.size) {Q : State → Prop} {D : va_G} {G : Gc} {aX aM : Nat → Nat → Nat} {H : Heap} {locs : List Loc} {ls : Array Slot} (hK : va_K D vwCl (tysG G) s) (hN : NW s) (hX : PIC D (XF G 0 0 aX) (XN 0 0) aX d0X H) (hM : PIC D (MF G aM) MN aM d0M H) (hAX : ∀ q, adS (XN 0 0) aX q → s.heap.size ≤ q) (hAM : ∀ q, adS MN aM q → s.heap.size ≤ q) (hdis : ∀ q, adS (XN 0 0) aX q → ¬ adS MN aM q) (hS : va_S (fun q => s.heap.size ≤ q) s.heap H locs) (hl : lv_has ls 4 [(3, .int 0), (2, .ref (aM 0 0)), (1, .ref (aX 0 0)), (0, .ref b)]) (kk : ∀ (H : Heap) (locs : List Loc), va_S (fun q => s.heap.size ≤ q) s.heap H locs → W p l e room_1 s m #[Value.ref b] below meth c H locs 43 1350 Q (F0 m 1422 ls [])) : W p l e room_1 s m #[Value.ref b] below meth c H locs 38 1303 Q (F0 m 1386 ls []) := by
  have hbA : ¬ (fun q : Nat => s.heap.size ≤ q) b := Nat.not_le.mpr hbl
  refine lv_aload_n S.1 S.2.1 dL_law_1386 rfl (lv_at hl 2 rfl) ?_
  refine cPV (rest := []) S (c_X4_fault l D G 0 0 aX d0X) gV_RL_150 ds_X4_fault ⟨rfl, rfl⟩ ⟨Nat.le_of_ble_eq_true rfl, Nat.le_of_ble_eq_true rfl⟩ ⟨blindX, recvX hK hX (k := 0) (i := 0) Nat.zero_lt_one rfl rfl, preX hK hN hX _⟩ rfl hl.1 rfl (Nat.le_of_ble_eq_true rfl) ⟨Nat.le_of_ble_eq_true rfl, Nat.le_of_ble_eq_true rfl⟩ dL_law_1387 ?_
  refine lv_aload_n S.1 S.2.1 dL_law_1390 rfl (lv_at hl 1 rfl) ?_
  refine cPV (rest := [.int (sp_X4_fault d0X)]) S (c_X5_fault l D G aM d0M) gV_RL_153 ds_X5_fault ⟨rfl, rfl⟩ ⟨Nat.le_of_ble_eq_true rfl, Nat.le_of_ble_eq_true rfl⟩ ⟨blindX, recvX hK hM (k := 0) (i := 0) Nat.zero_lt_one rfl rfl, preX hK hN hM _⟩ rfl hl.1 rfl (Nat.le_of_ble_eq_true rfl) ⟨Nat.le_of_ble_eq_true rfl, Nat.le_of_ble_eq_true rfl⟩ dL_law_1391 ?_
  refine lv_icmp_eq (tgt := 1422) S.1 S.2.1 dL_law_1394 (by decide) (fun _ => ?_) (fun z => absurd (fe_fault) z)
  refine W.widen (k := 43) (n := 1350) (Nat.le_of_ble_eq_true rfl) (Nat.le_of_ble_eq_true rfl) ?_
  exact kk _ _ hS
set_option maxRecDepth 100000 in
set_option maxHeartbeats 8000000 in
theorem lc_33 {p : Program} {e : Env} {s : State} {m : MethodId} {below : List Frame} {meth : Method} {c : Code} (l : Launch) {b : Nat} {xs : Nat → Int32} (S : CallFix p m c cL_law 4 s #[Value.ref b] wsL_law RL) (hY : va_X b 6 xs s s.heap) (hbl : b < s.heap.size) {Q : State → Prop} {D : va_G} {G : Gc} {aX aM : Nat → Nat → Nat} {H : Heap} {locs : List Loc} {ls : Array Slot} (hK : va_K D vwCl (tysG G) s) (hN : NW s) (hX : PIC D (XF G 0 0 aX) (XN 0 0) aX d0X H) (hM : PIC D (MF G aM) MN aM d0M H) (hAX : ∀ q, adS (XN 0 0) aX q → s.heap.size ≤ q) (hAM : ∀ q, adS MN aM q → s.heap.size ≤ q) (hdis : ∀ q, adS (XN 0 0) aX q → ¬ adS MN aM q) (hS : va_S (fun q => s.heap.size ≤ q) s.heap H locs) (hl : lv_has ls 4 [(3, .int 0), (2, .ref (aM 0 0)), (1, .ref (aX 0 0)), (0, .ref b)]) (kk : ∀ (H : Heap) (locs : List Loc), va_S (fun q => s.heap.size ≤ q) s.heap H locs → W p l e room_1 s m #[Value.ref b] below meth c H locs 43 1350 Q (F0 m 1422 ls [])) : W p l e room_1 s m #[Value.ref b] below meth c H locs 38 1303 Q (F0 m 1399 ls []) := by
  have hbA : ¬ (fun q : Nat => s.heap.size ≤ q) b := Nat.not_le.mpr hbl
  refine lv_aload_n S.1 S.2.1 dL_law_1399 rfl (lv_at hl 2 rfl) ?_
  refine lv_aload_n S.1 S.2.1 dL_law_1400 rfl (lv_at hl 3 rfl) ?_
  refine lv_iload_n S.1 S.2.1 dL_law_1401 rfl (lv_at hl 0 rfl) ?_
  refine lv_iconst (v := 1) S.1 S.2.1 dL_law_1402 (by decide) ?_
  refine lv_iadd S.1 S.2.1 dL_law_1403 (q_to (by decide : ((0 : Int32) + 1) = 1) ?_)
  refine va_sld S.1 S.2.1 hY hbl hbA hS (i := 1) vin6_1 dL_law_1404 ?_
  refine cPV (rest := []) S (c_X4_told l D G 0 0 aX d0X (xs (Int32.toNatClampNeg 1)) xi0) gV_RL_154 ds_X4_told ⟨rfl, rfl⟩ ⟨Nat.le_of_ble_eq_true rfl, Nat.le_of_ble_eq_true rfl⟩ ⟨blindX, recvX hK hX (k := 0) (i := 0) Nat.zero_lt_one rfl rfl, preX hK hN hX _⟩ rfl hl.1 rfl (Nat.le_of_ble_eq_true rfl) ⟨Nat.le_of_ble_eq_true rfl, Nat.le_of_ble_eq_true rfl⟩ dL_law_1405 ?_
  refine lv_aload_n S.1 S.2.1 dL_law_1408 rfl (lv_at hl 1 rfl) ?_
  refine lv_aload_n S.1 S.2.1 dL_law_1409 rfl (lv_at hl 3 rfl) ?_
  refine lv_iload_n S.1 S.2.1 dL_law_1410 rfl (lv_at hl 0 rfl) ?_
  refine lv_iconst (v := 1) S.1 S.2.1 dL_law_1411 (by decide) ?_
  refine lv_iadd S.1 S.2.1 dL_law_1412 (q_to (by decide : ((0 : Int32) + 1) = 1) ?_)
  refine va_sld S.1 S.2.1 hY hbl hbA hS (i := 1) vin6_1 dL_law_1413 ?_
  refine cPV (rest := [.int (sp_X4_told d0X (xs (Int32.toNatClampNeg 1)))]) S (c_X5_told l D G aM d0M (xs (Int32.toNatClampNeg 1)) mi0) gV_RL_157 ds_X5_told ⟨rfl, rfl⟩ ⟨Nat.le_of_ble_eq_true rfl, Nat.le_of_ble_eq_true rfl⟩ ⟨blindX, recvX hK hM (k := 0) (i := 0) Nat.zero_lt_one rfl rfl, preX hK hN hM _⟩ rfl hl.1 rfl (Nat.le_of_ble_eq_true rfl) ⟨Nat.le_of_ble_eq_true rfl, Nat.le_of_ble_eq_true rfl⟩ dL_law_1414 ?_
  refine lv_icmp_eq (tgt := 1422) S.1 S.2.1 dL_law_1417 (by decide) (fun _ => ?_) (fun z => absurd (fe_told (xs (Int32.toNatClampNeg 1))) z)
  refine W.widen (k := 43) (n := 1350) (Nat.le_of_ble_eq_true rfl) (Nat.le_of_ble_eq_true rfl) ?_
  exact kk _ _ hS
set_option maxRecDepth 100000 in
set_option maxHeartbeats 8000000 in
theorem law_switch {p : Program} {e : Env} {s : State} {m : MethodId} {below : List Frame} {meth : Method} {c : Code} (l : Launch) {b : Nat} {xs : Nat → Int32} (S : CallFix p m c cL_law 4 s #[Value.ref b] wsL_law RL) (hY : va_X b 6 xs s s.heap) (hbl : b < s.heap.size) {Q : State → Prop} {D : va_G} {G : Gc} {aX aM : Nat → Nat → Nat} {H : Heap} {locs : List Loc} {ls : Array Slot} (hK : va_K D vwCl (tysG G) s) (hN : NW s) (hX : PIC D (XF G 0 0 aX) (XN 0 0) aX d0X H) (hM : PIC D (MF G aM) MN aM d0M H) (hAX : ∀ q, adS (XN 0 0) aX q → s.heap.size ≤ q) (hAM : ∀ q, adS MN aM q → s.heap.size ≤ q) (hdis : ∀ q, adS (XN 0 0) aX q → ¬ adS MN aM q) (hS : va_S (fun q => s.heap.size ≤ q) s.heap H locs) (hl : lv_has ls 4 [(3, .int 0), (2, .ref (aM 0 0)), (1, .ref (aX 0 0)), (0, .ref b)]) (kk : ∀ (H : Heap) (locs : List Loc), va_S (fun q => s.heap.size ≤ q) s.heap H locs → W p l e room_1 s m #[Value.ref b] below meth c H locs 43 1350 Q (F0 m 1422 ls [])) : W p l e room_1 s m #[Value.ref b] below meth c H locs 38 1303 Q (F0 m 33 ls [.int (xs (Int32.toNatClampNeg 0) &&& 63)]) := by
  by_cases h1 : (xs (Int32.toNatClampNeg 0) &&& 63).toInt < 0 ∨ 33 < (xs (Int32.toNatClampNeg 0) &&& 63).toInt
  · refine lv_tableOut (tgt := 1422) S.1 S.2.1 dL_law_33 h1 (by decide) ?_
    exact W.widen (Nat.le_of_ble_eq_true rfl) (Nat.le_of_ble_eq_true rfl) (kk _ _ hS)
  · obtain ⟨k, hk, e1⟩ : ∃ k : Nat, k < 34 ∧ (xs (Int32.toNatClampNeg 0) &&& 63).toInt = (k : Int) := ⟨(xs (Int32.toNatClampNeg 0) &&& 63).toInt.toNat, by omega, by omega⟩
    match k, hk, e1 with
    | 0, _, e1 => exact lv_tableIn (tgt := 184) (off := 151) S.1 S.2.1 dL_law_33 (by rw [e1]; decide) (by rw [e1]; decide) (by rw [e1]; rfl) (by decide) (lc_0 l S hY hbl hK hN hX hM hAX hAM hdis hS hl kk)
    | 1, _, e1 => exact lv_tableIn (tgt := 207) (off := 174) S.1 S.2.1 dL_law_33 (by rw [e1]; decide) (by rw [e1]; decide) (by rw [e1]; rfl) (by decide) (lc_1 l S hY hbl hK hN hX hM hAX hAM hdis hS hl kk)
    | 2, _, e1 => exact lv_tableIn (tgt := 260) (off := 227) S.1 S.2.1 dL_law_33 (by rw [e1]; decide) (by rw [e1]; decide) (by rw [e1]; rfl) (by decide) (lc_2 l S hY hbl hK hN hX hM hAX hAM hdis hS hl kk)
    | 3, _, e1 => exact lv_tableIn (tgt := 303) (off := 270) S.1 S.2.1 dL_law_33 (by rw [e1]; decide) (by rw [e1]; decide) (by rw [e1]; rfl) (by decide) (lc_3 l S hY hbl hK hN hX hM hAX hAM hdis hS hl kk)
    | 4, _, e1 => exact lv_tableIn (tgt := 336) (off := 303) S.1 S.2.1 dL_law_33 (by rw [e1]; decide) (by rw [e1]; decide) (by rw [e1]; rfl) (by decide) (lc_4 l S hY hbl hK hN hX hM hAX hAM hdis hS hl kk)
    | 5, _, e1 => exact lv_tableIn (tgt := 389) (off := 356) S.1 S.2.1 dL_law_33 (by rw [e1]; decide) (by rw [e1]; decide) (by rw [e1]; rfl) (by decide) (lc_5 l S hY hbl hK hN hX hM hAX hAM hdis hS hl kk)
    | 6, _, e1 => exact lv_tableIn (tgt := 432) (off := 399) S.1 S.2.1 dL_law_33 (by rw [e1]; decide) (by rw [e1]; decide) (by rw [e1]; rfl) (by decide) (lc_6 l S hY hbl hK hN hX hM hAX hAM hdis hS hl kk)
    | 7, _, e1 => exact lv_tableIn (tgt := 476) (off := 443) S.1 S.2.1 dL_law_33 (by rw [e1]; decide) (by rw [e1]; decide) (by rw [e1]; rfl) (by decide) (lc_7 l S hY hbl hK hN hX hM hAX hAM hdis hS hl kk)
    | 8, _, e1 => exact lv_tableIn (tgt := 499) (off := 466) S.1 S.2.1 dL_law_33 (by rw [e1]; decide) (by rw [e1]; decide) (by rw [e1]; rfl) (by decide) (lc_8 l S hY hbl hK hN hX hM hAX hAM hdis hS hl kk)
    | 9, _, e1 => exact lv_tableIn (tgt := 522) (off := 489) S.1 S.2.1 dL_law_33 (by rw [e1]; decide) (by rw [e1]; decide) (by rw [e1]; rfl) (by decide) (lc_9 l S hY hbl hK hN hX hM hAX hAM hdis hS hl kk)
    | 10, _, e1 => exact lv_tableIn (tgt := 575) (off := 542) S.1 S.2.1 dL_law_33 (by rw [e1]; decide) (by rw [e1]; decide) (by rw [e1]; rfl) (by decide) (lc_10 l S hY hbl hK hN hX hM hAX hAM hdis hS hl kk)
    | 11, _, e1 => exact lv_tableIn (tgt := 608) (off := 575) S.1 S.2.1 dL_law_33 (by rw [e1]; decide) (by rw [e1]; decide) (by rw [e1]; rfl) (by decide) (lc_11 l S hY hbl hK hN hX hM hAX hAM hdis hS hl kk)
    | 12, _, e1 => exact lv_tableIn (tgt := 651) (off := 618) S.1 S.2.1 dL_law_33 (by rw [e1]; decide) (by rw [e1]; decide) (by rw [e1]; rfl) (by decide) (lc_12 l S hY hbl hK hN hX hM hAX hAM hdis hS hl kk)
    | 13, _, e1 => exact lv_tableIn (tgt := 684) (off := 651) S.1 S.2.1 dL_law_33 (by rw [e1]; decide) (by rw [e1]; decide) (by rw [e1]; rfl) (by decide) (lc_13 l S hY hbl hK hN hX hM hAX hAM hdis hS hl kk)
    | 14, _, e1 => exact lv_tableIn (tgt := 708) (off := 675) S.1 S.2.1 dL_law_33 (by rw [e1]; decide) (by rw [e1]; decide) (by rw [e1]; rfl) (by decide) (lc_14 l S hY hbl hK hN hX hM hAX hAM hdis hS hl kk)
    | 15, _, e1 => exact lv_tableIn (tgt := 752) (off := 719) S.1 S.2.1 dL_law_33 (by rw [e1]; decide) (by rw [e1]; decide) (by rw [e1]; rfl) (by decide) (lc_15 l S hY hbl hK hN hX hM hAX hAM hdis hS hl kk)
    | 16, _, e1 => exact lv_tableIn (tgt := 775) (off := 742) S.1 S.2.1 dL_law_33 (by rw [e1]; decide) (by rw [e1]; decide) (by rw [e1]; rfl) (by decide) (lc_16 l S hY hbl hK hN hX hM hAX hAM hdis hS hl kk)
    | 17, _, e1 => exact lv_tableIn (tgt := 818) (off := 785) S.1 S.2.1 dL_law_33 (by rw [e1]; decide) (by rw [e1]; decide) (by rw [e1]; rfl) (by decide) (lc_17 l S hY hbl hK hN hX hM hAX hAM hdis hS hl kk)
    | 18, _, e1 => exact lv_tableIn (tgt := 851) (off := 818) S.1 S.2.1 dL_law_33 (by rw [e1]; decide) (by rw [e1]; decide) (by rw [e1]; rfl) (by decide) (lc_18 l S hY hbl hK hN hX hM hAX hAM hdis hS hl kk)
    | 19, _, e1 => exact lv_tableIn (tgt := 884) (off := 851) S.1 S.2.1 dL_law_33 (by rw [e1]; decide) (by rw [e1]; decide) (by rw [e1]; rfl) (by decide) (lc_19 l S hY hbl hK hN hX hM hAX hAM hdis hS hl kk)
    | 20, _, e1 => exact lv_tableIn (tgt := 938) (off := 905) S.1 S.2.1 dL_law_33 (by rw [e1]; decide) (by rw [e1]; decide) (by rw [e1]; rfl) (by decide) (lc_20 l S hY hbl hK hN hX hM hAX hAM hdis hS hl kk)
    | 21, _, e1 => exact lv_tableIn (tgt := 971) (off := 938) S.1 S.2.1 dL_law_33 (by rw [e1]; decide) (by rw [e1]; decide) (by rw [e1]; rfl) (by decide) (lc_21 l S hY hbl hK hN hX hM hAX hAM hdis hS hl kk)
    | 22, _, e1 => exact lv_tableIn (tgt := 1015) (off := 982) S.1 S.2.1 dL_law_33 (by rw [e1]; decide) (by rw [e1]; decide) (by rw [e1]; rfl) (by decide) (lc_22 l S hY hbl hK hN hX hM hAX hAM hdis hS hl kk)
    | 23, _, e1 => exact lv_tableIn (tgt := 1058) (off := 1025) S.1 S.2.1 dL_law_33 (by rw [e1]; decide) (by rw [e1]; decide) (by rw [e1]; rfl) (by decide) (lc_23 l S hY hbl hK hN hX hM hAX hAM hdis hS hl kk)
    | 24, _, e1 => exact lv_tableIn (tgt := 1081) (off := 1048) S.1 S.2.1 dL_law_33 (by rw [e1]; decide) (by rw [e1]; decide) (by rw [e1]; rfl) (by decide) (lc_24 l S hY hbl hK hN hX hM hAX hAM hdis hS hl kk)
    | 25, _, e1 => exact lv_tableIn (tgt := 1124) (off := 1091) S.1 S.2.1 dL_law_33 (by rw [e1]; decide) (by rw [e1]; decide) (by rw [e1]; rfl) (by decide) (lc_25 l S hY hbl hK hN hX hM hAX hAM hdis hS hl kk)
    | 26, _, e1 => exact lv_tableIn (tgt := 1168) (off := 1135) S.1 S.2.1 dL_law_33 (by rw [e1]; decide) (by rw [e1]; decide) (by rw [e1]; rfl) (by decide) (lc_26 l S hY hbl hK hN hX hM hAX hAM hdis hS hl kk)
    | 27, _, e1 => exact lv_tableIn (tgt := 1231) (off := 1198) S.1 S.2.1 dL_law_33 (by rw [e1]; decide) (by rw [e1]; decide) (by rw [e1]; rfl) (by decide) (lc_27 l S hY hbl hK hN hX hM hAX hAM hdis hS hl kk)
    | 28, _, e1 => exact lv_tableIn (tgt := 1294) (off := 1261) S.1 S.2.1 dL_law_33 (by rw [e1]; decide) (by rw [e1]; decide) (by rw [e1]; rfl) (by decide) (lc_28 l S hY hbl hK hN hX hM hAX hAM hdis hS hl kk)
    | 29, _, e1 => exact lv_tableIn (tgt := 1317) (off := 1284) S.1 S.2.1 dL_law_33 (by rw [e1]; decide) (by rw [e1]; decide) (by rw [e1]; rfl) (by decide) (lc_29 l S hY hbl hK hN hX hM hAX hAM hdis hS hl kk)
    | 30, _, e1 => exact lv_tableIn (tgt := 1340) (off := 1307) S.1 S.2.1 dL_law_33 (by rw [e1]; decide) (by rw [e1]; decide) (by rw [e1]; rfl) (by decide) (lc_30 l S hY hbl hK hN hX hM hAX hAM hdis hS hl kk)
    | 31, _, e1 => exact lv_tableIn (tgt := 1373) (off := 1340) S.1 S.2.1 dL_law_33 (by rw [e1]; decide) (by rw [e1]; decide) (by rw [e1]; rfl) (by decide) (lc_31 l S hY hbl hK hN hX hM hAX hAM hdis hS hl kk)
    | 32, _, e1 => exact lv_tableIn (tgt := 1386) (off := 1353) S.1 S.2.1 dL_law_33 (by rw [e1]; decide) (by rw [e1]; decide) (by rw [e1]; rfl) (by decide) (lc_32 l S hY hbl hK hN hX hM hAX hAM hdis hS hl kk)
    | 33, _, e1 => exact lv_tableIn (tgt := 1399) (off := 1366) S.1 S.2.1 dL_law_33 (by rw [e1]; decide) (by rw [e1]; decide) (by rw [e1]; rfl) (by decide) (lc_33 l S hY hbl hK hN hX hM hAX hAM hdis hS hl kk)
    | n + 34, hk, _ => exact absurd hk (by omega)
set_option maxRecDepth 100000 in
set_option maxHeartbeats 8000000 in
/-- the law's end -/
theorem law_fin {p : Program} {e : Env} {s : State} {m : MethodId} {below : List Frame} {meth : Method} {c : Code} (l : Launch) {b : Nat} (S : CallFix p m c cL_law 4 s #[Value.ref b] wsL_law RL) (hr : meth.sig.returnType = ret) (hlk : meth.locks = false) {H : Heap} {locs : List Loc} {ls : Array Slot} {cells slots : Nat} (h1 : cells ≤ 600000) (h2 : slots ≤ 7302250) (hS : va_S (fun q => s.heap.size ≤ q) s.heap H locs) : W p l e room_1 s m #[Value.ref b] below meth c H locs cells slots (lw_Z below #[Value.ref b] s) (F0 m 1428 ls []) := by
  refine lv_iconst (v := 1) S.1 S.2.1 dL_law_1428 (by decide) ?_
  refine va_forget (fun q hq => hS.2.2 q hq) ?_
  refine W.widen (k := 600000) (n := 7302250) h1 h2 ?_
  exact lw_ret S.1 S.2.1 hr hlk dL_law_1429
/-- the head, where no call is left -/
theorem law_out {p : Program} {e : Env} {s : State} {m : MethodId} {below : List Frame} {meth : Method} {c : Code} (l : Launch) {b L : Nat} {xs : Nat → Int32} (S : CallFix p m c cL_law 4 s #[Value.ref b] wsL_law RL) (hr : meth.sig.returnType = ret) (hlk : meth.locks = false) (hY : va_X b L xs s s.heap) (hbl : b < s.heap.size) (hL : L ≤ 6) {x : Int32} (hx : (L : Int) < x.toInt + 6) {H : Heap} {locs : List Loc} {ls : Array Slot} {cells slots : Nat} (h1 : cells ≤ 600000) (h2 : slots ≤ 7302250) (hS : va_S (fun q => s.heap.size ≤ q) s.heap H locs) {vs : List (Nat × Value)} (hl : lv_has ls 4 ((3, .int x) :: (0, .ref b) :: vs)) : W p l e room_1 s m #[Value.ref b] below meth c H locs cells slots (lw_Z below #[Value.ref b] s) (F0 m 18 ls []) := by
  have hbA : ¬ (fun q : Nat => s.heap.size ≤ q) b := Nat.not_le.mpr hbl
  have e1 : (Int32.ofNat L).toInt = (L : Int) := nI_toInt (n := L) (by omega)
  have e6 : (6 : Int32).toInt = 6 := rfl
  have e2 : (Int32.ofNat L - 6).toInt = (L : Int) - 6 := by rw [ti_sub (by omega) (by omega), e1, e6]
  refine lv_iload_n S.1 S.2.1 dL_law_18 rfl (lv_at hl 0 rfl) ?_
  refine lv_aload_n S.1 S.2.1 dL_law_19 rfl (lv_at hl 1 rfl) ?_
  refine va_slen S.1 S.2.1 hY hbl hbA hS dL_law_20 ?_
  refine lv_bipush (v := 6) S.1 S.2.1 dL_law_21 (by decide) ?_
  refine lv_isub S.1 S.2.1 dL_law_23 ?_
  refine q_icmp_gt (tgt := 1428) (xi := x.toInt) (yi := (L : Int) - 6) S rfl e2 dL_law_24 (by decide) (fun _ => ?_) (fun z => absurd (by omega) z)
  exact law_fin l S hr hlk h1 h2 hS
set_option maxRecDepth 100000 in
set_option maxHeartbeats 8000000 in
theorem whole_start {p : Program} {e : Env} {s : State} {m : MethodId} {below : List Frame} {meth : Method} {c : Code} (l : Launch) (hflags : l.flags = flags0) {b L : Nat} {xs : Nat → Int32} (hL : L ≤ 6) (C0 : lw_At p s m meth c b L xs) : W p l e room_1 s m #[Value.ref b] below meth c s.heap [] 0 0 (lw_Z below #[Value.ref b] s) (entryFrame m ([Value.ref b] : List Value).toArray 4) := by
  obtain ⟨hx, hb, hr, hml, hown, hts, hY, hbl, hlk, hgv⟩ := C0
  have S : CallFix p m c cL_law 4 s #[Value.ref b] wsL_law RL := ⟨hx, hb, hml, hown, fun w hw => hts w (wsL_law_in w hw)⟩
  have hbA : ¬ (fun q : Nat => s.heap.size ≤ q) b := Nat.not_le.mpr hbl
  have e1 : (Int32.ofNat L).toInt = (L : Int) := nI_toInt (n := L) (by omega)
  have e6 : (6 : Int32).toInt = 6 := rfl
  have e0 : (0 : Int32).toInt = 0 := rfl
  have e2 : (Int32.ofNat L - 6).toInt = (L : Int) - 6 := by rw [ti_sub (by omega) (by omega), e1, e6]
  refine law_start l S hts (fun D G aX aM H locs ls hK hN hX hM hAX hAM hdis hS hl => ?_)
  by_cases h6 : L < 6
  · exact law_out l S hr hlk hY hbl hL (x := 0) (by rw [e0]; omega) (Nat.le_of_ble_eq_true rfl) (Nat.le_of_ble_eq_true rfl) hS (lv_sub hl [0, 3] rfl)
  have h6 : L = 6 := by omega
  subst h6
  refine lv_iload_n S.1 S.2.1 dL_law_18 rfl (lv_at hl 0 rfl) ?_
  refine lv_aload_n S.1 S.2.1 dL_law_19 rfl (lv_at hl 3 rfl) ?_
  refine va_slen S.1 S.2.1 hY hbl hbA hS dL_law_20 ?_
  refine lv_bipush (v := 6) S.1 S.2.1 dL_law_21 (by decide) ?_
  refine lv_isub S.1 S.2.1 dL_law_23 ?_
  refine q_icmp_gt (tgt := 1428) (xi := 0) (yi := ((6 : Nat) : Int) - 6) S rfl e2 dL_law_24 (by decide) (fun z => absurd z (by decide)) (fun _ => ?_)
  refine lv_aload_n S.1 S.2.1 dL_law_27 rfl (lv_at hl 3 rfl) ?_
  refine lv_iload_n S.1 S.2.1 dL_law_28 rfl (lv_at hl 0 rfl) ?_
  refine va_sld S.1 S.2.1 hY hbl hbA hS (i := 0) vin6_0 dL_law_29 ?_
  refine lv_bipush (v := 63) S.1 S.2.1 dL_law_30 (by decide) ?_
  refine lv_iand S.1 S.2.1 dL_law_32 ?_
  refine law_switch l S hY hbl hK hN hX hM hAX hAM hdis hS hl (fun H locs hS => ?_)
  refine lv_iinc (v := 6) (lv' := [(3, .int 6), (2, .ref (aM 0 0)), (1, .ref (aX 0 0)), (0, .ref b)]) S.1 S.2.1 dL_law_1422 hl (k := 0) rfl (by decide) (by decide) rfl (fun ls hl => ?_)
  refine lv_goto (tgt := 18) S.1 S.2.1 dL_law_1425 (by decide) ?_
  exact law_out l S hr hlk hY hbl hL (x := 6) (by decide) (Nat.le_of_ble_eq_true rfl) (Nat.le_of_ble_eq_true rfl) hS (lv_sub hl [0, 3] rfl)
