set_option maxRecDepth 100000 in
set_option maxHeartbeats 4000000 in
theorem lc_row {p : Program} {l : Launch} {e : Env} {s : State} {m : MethodId} {below : List Frame} {meth : Method} {c : Code} {gX gM : Gw} {b L t : Nat} {xs : Nat → Int32} (hL : L ≤ 3072) (ht : 6 * t + 6 ≤ L) (hX : va_X b L xs s s.heap) (hbl : b < s.heap.size) (CX : Cx wkX gX p s m #[Value.ref b] meth c cL_law 4 RL ret) (CM : Cx wkM gM p s m #[Value.ref b] meth c cL_law 4 RL ret) (hAX : ∀ q, AS wkX gX q → s.heap.size ≤ q) (hAM : ∀ q, AS wkM gM q → s.heap.size ≤ q) (hd1 : ∀ q, AS wkX gX q → ¬ AS wkM gM q) (hd2 : ∀ q, AS wkM gM q → ¬ AS wkX gX q) {σx σm : Sto} (hI : Inv σx σm) {H : Heap} {locs : List Loc} {ls : Array Slot} (hP : wS wkX gX σx H) (hP2 : wS wkM gM σm H) (hS : va_S (bA s.heap.size) s.heap H locs) (hl : lv_has ls 4 [(0, .ref b), (1, .ref (adG gX 0)), (2, .ref (adG gM 0)), (3, .int (nI (6 * t)))]) {Q : State → Prop} (hk : ∀ (σx σm : Sto) (H : Heap) (locs : List Loc) (ls : Array Slot), Inv σx σm → wS wkX gX σx H → wS wkM gM σm H → va_S (bA s.heap.size) s.heap H locs → lv_has ls 4 [(0, .ref b), (1, .ref (adG gX 0)), (2, .ref (adG gM 0)), (3, .int (nI (6 * t)))] → W p l e room_1 s m #[Value.ref b] below meth c H locs 291 6240 Q (F0 m 1479 ls [])) : W p l e room_1 s m #[Value.ref b] below meth c H locs 291 6240 Q (F0 m 208 ls []) := by
  obtain ⟨hx, hb, hml, hown, hts, hr, hlk, hK, hZ⟩ := id CX
  have hbA : ¬ bA s.heap.size b := Nat.not_le.mpr hbl
  have hi1 : vp_in (nI (6 * t) + 1) L := by rw [show (1 : Int32) = nI 1 from rfl, nI_add]; exact vp_in_nI (by omega) (by omega)
  have hi2 : vp_in (nI (6 * t) + 2) L := by rw [show (2 : Int32) = nI 2 from rfl, nI_add]; exact vp_in_nI (by omega) (by omega)
  have hi3 : vp_in (nI (6 * t) + 3) L := by rw [show (3 : Int32) = nI 3 from rfl, nI_add]; exact vp_in_nI (by omega) (by omega)
  obtain ⟨qx, qm, hx1, hm1, he, hI2⟩ := op_row hI (xs (nI (6 * t) + 1).toNatClampNeg) (xs (nI (6 * t) + 2).toNatClampNeg) (xs (nI (6 * t) + 3).toNatClampNeg)
  refine lv_aload_n hx hb dL_law_208 rfl (lv_at hl 1 rfl) ?_
  refine lv_aload_n hx hb dL_law_209 rfl (lv_at hl 0 rfl) ?_
  refine lv_iload_n hx hb dL_law_210 rfl (lv_at hl 3 rfl) ?_
  refine lv_iconst (v := 1) hx hb dL_law_211 (by decide) ?_
  refine lv_iadd hx hb dL_law_212 ?_
  refine va_sld hx hb hX hbl hbA hS hi1 dL_law_213 ?_
  refine lv_aload_n hx hb dL_law_214 rfl (lv_at hl 0 rfl) ?_
  refine lv_iload_n hx hb dL_law_215 rfl (lv_at hl 3 rfl) ?_
  refine lv_iconst (v := 2) hx hb dL_law_216 (by decide) ?_
  refine lv_iadd hx hb dL_law_217 ?_
  refine va_sld hx hb hX hbl hbA hS hi2 dL_law_218 ?_
  refine lv_aload_n hx hb dL_law_219 rfl (lv_at hl 0 rfl) ?_
  refine lv_iload_n hx hb dL_law_220 rfl (lv_at hl 3 rfl) ?_
  refine lv_iconst (v := 3) hx hb dL_law_221 (by decide) ?_
  refine lv_iadd hx hb dL_law_222 ?_
  refine va_sld hx hb hX hbl hbA hS hi3 dL_law_223 ?_
  refine law_ci (As := [.int (xs (nI (6 * t) + 1).toNatClampNeg), .int (xs (nI (6 * t) + 2).toNatClampNeg), .int (xs (nI (6 * t) + 3).toNatClampNeg)]) (rest := []) CX ca_X9_row (ctX9_row (xs (nI (6 * t) + 1).toNatClampNeg) (xs (nI (6 * t) + 2).toNatClampNeg) (xs (nI (6 * t) + 3).toNatClampNeg) hx1) cf_9 sx_0 kx_0 tw_158 ⟨Nat.le_of_ble_eq_true rfl, Nat.le_of_ble_eq_true rfl⟩ rfl hl.1 (Nat.le_of_ble_eq_true rfl) ⟨Nat.le_of_ble_eq_true rfl, Nat.le_of_ble_eq_true rfl⟩ hP hP2 hS hAX hd1 dL_law_224 (fun H locs hP hP2 hS => ?_)
  refine lv_aload_n hx hb dL_law_227 rfl (lv_at hl 2 rfl) ?_
  refine lv_aload_n hx hb dL_law_228 rfl (lv_at hl 0 rfl) ?_
  refine lv_iload_n hx hb dL_law_229 rfl (lv_at hl 3 rfl) ?_
  refine lv_iconst (v := 1) hx hb dL_law_230 (by decide) ?_
  refine lv_iadd hx hb dL_law_231 ?_
  refine va_sld hx hb hX hbl hbA hS hi1 dL_law_232 ?_
  refine lv_aload_n hx hb dL_law_233 rfl (lv_at hl 0 rfl) ?_
  refine lv_iload_n hx hb dL_law_234 rfl (lv_at hl 3 rfl) ?_
  refine lv_iconst (v := 2) hx hb dL_law_235 (by decide) ?_
  refine lv_iadd hx hb dL_law_236 ?_
  refine va_sld hx hb hX hbl hbA hS hi2 dL_law_237 ?_
  refine lv_aload_n hx hb dL_law_238 rfl (lv_at hl 0 rfl) ?_
  refine lv_iload_n hx hb dL_law_239 rfl (lv_at hl 3 rfl) ?_
  refine lv_iconst (v := 3) hx hb dL_law_240 (by decide) ?_
  refine lv_iadd hx hb dL_law_241 ?_
  refine va_sld hx hb hX hbl hbA hS hi3 dL_law_242 ?_
  refine law_ci (As := [.int (xs (nI (6 * t) + 1).toNatClampNeg), .int (xs (nI (6 * t) + 2).toNatClampNeg), .int (xs (nI (6 * t) + 3).toNatClampNeg)]) (rest := [.int qx.2]) CM ca_X10_row (ctX10_row (xs (nI (6 * t) + 1).toNatClampNeg) (xs (nI (6 * t) + 2).toNatClampNeg) (xs (nI (6 * t) + 3).toNatClampNeg) hm1) cf_10 sm_0 km_0 tw_183 ⟨Nat.le_of_ble_eq_true rfl, Nat.le_of_ble_eq_true rfl⟩ rfl hl.1 (Nat.le_of_ble_eq_true rfl) ⟨Nat.le_of_ble_eq_true rfl, Nat.le_of_ble_eq_true rfl⟩ hP2 hP hS hAM hd2 dL_law_243 (fun H locs hP2 hP hS => ?_)
  refine lv_icmp_eq (tgt := 1479) hx hb dL_law_246 (by decide) (fun _ => ?_) (fun c_ => absurd he c_)
  exact hk _ _ H locs ls hI2 hP hP2 hS hl
set_option maxRecDepth 100000 in
set_option maxHeartbeats 4000000 in
theorem lc_set {p : Program} {l : Launch} {e : Env} {s : State} {m : MethodId} {below : List Frame} {meth : Method} {c : Code} {gX gM : Gw} {b L t : Nat} {xs : Nat → Int32} (hL : L ≤ 3072) (ht : 6 * t + 6 ≤ L) (hX : va_X b L xs s s.heap) (hbl : b < s.heap.size) (CX : Cx wkX gX p s m #[Value.ref b] meth c cL_law 4 RL ret) (CM : Cx wkM gM p s m #[Value.ref b] meth c cL_law 4 RL ret) (hAX : ∀ q, AS wkX gX q → s.heap.size ≤ q) (hAM : ∀ q, AS wkM gM q → s.heap.size ≤ q) (hd1 : ∀ q, AS wkX gX q → ¬ AS wkM gM q) (hd2 : ∀ q, AS wkM gM q → ¬ AS wkX gX q) {σx σm : Sto} (hI : Inv σx σm) {H : Heap} {locs : List Loc} {ls : Array Slot} (hP : wS wkX gX σx H) (hP2 : wS wkM gM σm H) (hS : va_S (bA s.heap.size) s.heap H locs) (hl : lv_has ls 4 [(0, .ref b), (1, .ref (adG gX 0)), (2, .ref (adG gM 0)), (3, .int (nI (6 * t)))]) {Q : State → Prop} (hk : ∀ (σx σm : Sto) (H : Heap) (locs : List Loc) (ls : Array Slot), Inv σx σm → wS wkX gX σx H → wS wkM gM σm H → va_S (bA s.heap.size) s.heap H locs → lv_has ls 4 [(0, .ref b), (1, .ref (adG gX 0)), (2, .ref (adG gM 0)), (3, .int (nI (6 * t)))] → W p l e room_1 s m #[Value.ref b] below meth c H locs 291 6240 Q (F0 m 1479 ls [])) : W p l e room_1 s m #[Value.ref b] below meth c H locs 291 6240 Q (F0 m 251 ls []) := by
  obtain ⟨hx, hb, hml, hown, hts, hr, hlk, hK, hZ⟩ := id CX
  have hbA : ¬ bA s.heap.size b := Nat.not_le.mpr hbl
  have hi1 : vp_in (nI (6 * t) + 1) L := by rw [show (1 : Int32) = nI 1 from rfl, nI_add]; exact vp_in_nI (by omega) (by omega)
  have hi2 : vp_in (nI (6 * t) + 2) L := by rw [show (2 : Int32) = nI 2 from rfl, nI_add]; exact vp_in_nI (by omega) (by omega)
  have hi3 : vp_in (nI (6 * t) + 3) L := by rw [show (3 : Int32) = nI 3 from rfl, nI_add]; exact vp_in_nI (by omega) (by omega)
  obtain ⟨qx, qm, hx1, hm1, he, hI2⟩ := op_set hI (xs (nI (6 * t) + 1).toNatClampNeg) (xs (nI (6 * t) + 2).toNatClampNeg) (xs (nI (6 * t) + 3).toNatClampNeg)
  refine lv_aload_n hx hb dL_law_251 rfl (lv_at hl 1 rfl) ?_
  refine lv_aload_n hx hb dL_law_252 rfl (lv_at hl 0 rfl) ?_
  refine lv_iload_n hx hb dL_law_253 rfl (lv_at hl 3 rfl) ?_
  refine lv_iconst (v := 1) hx hb dL_law_254 (by decide) ?_
  refine lv_iadd hx hb dL_law_255 ?_
  refine va_sld hx hb hX hbl hbA hS hi1 dL_law_256 ?_
  refine lv_aload_n hx hb dL_law_257 rfl (lv_at hl 0 rfl) ?_
  refine lv_iload_n hx hb dL_law_258 rfl (lv_at hl 3 rfl) ?_
  refine lv_iconst (v := 2) hx hb dL_law_259 (by decide) ?_
  refine lv_iadd hx hb dL_law_260 ?_
  refine va_sld hx hb hX hbl hbA hS hi2 dL_law_261 ?_
  refine lv_aload_n hx hb dL_law_262 rfl (lv_at hl 0 rfl) ?_
  refine lv_iload_n hx hb dL_law_263 rfl (lv_at hl 3 rfl) ?_
  refine lv_iconst (v := 3) hx hb dL_law_264 (by decide) ?_
  refine lv_iadd hx hb dL_law_265 ?_
  refine va_sld hx hb hX hbl hbA hS hi3 dL_law_266 ?_
  refine law_ci (As := [.int (xs (nI (6 * t) + 1).toNatClampNeg), .int (xs (nI (6 * t) + 2).toNatClampNeg), .int (xs (nI (6 * t) + 3).toNatClampNeg)]) (rest := []) CX ca_X9_set (ctX9_set (xs (nI (6 * t) + 1).toNatClampNeg) (xs (nI (6 * t) + 2).toNatClampNeg) (xs (nI (6 * t) + 3).toNatClampNeg) hx1) cf_9 sx_0 kx_0 tw_206 ⟨Nat.le_of_ble_eq_true rfl, Nat.le_of_ble_eq_true rfl⟩ rfl hl.1 (Nat.le_of_ble_eq_true rfl) ⟨Nat.le_of_ble_eq_true rfl, Nat.le_of_ble_eq_true rfl⟩ hP hP2 hS hAX hd1 dL_law_267 (fun H locs hP hP2 hS => ?_)
  refine lv_aload_n hx hb dL_law_270 rfl (lv_at hl 2 rfl) ?_
  refine lv_aload_n hx hb dL_law_271 rfl (lv_at hl 0 rfl) ?_
  refine lv_iload_n hx hb dL_law_272 rfl (lv_at hl 3 rfl) ?_
  refine lv_iconst (v := 1) hx hb dL_law_273 (by decide) ?_
  refine lv_iadd hx hb dL_law_274 ?_
  refine va_sld hx hb hX hbl hbA hS hi1 dL_law_275 ?_
  refine lv_aload_n hx hb dL_law_276 rfl (lv_at hl 0 rfl) ?_
  refine lv_iload_n hx hb dL_law_277 rfl (lv_at hl 3 rfl) ?_
  refine lv_iconst (v := 2) hx hb dL_law_278 (by decide) ?_
  refine lv_iadd hx hb dL_law_279 ?_
  refine va_sld hx hb hX hbl hbA hS hi2 dL_law_280 ?_
  refine lv_aload_n hx hb dL_law_281 rfl (lv_at hl 0 rfl) ?_
  refine lv_iload_n hx hb dL_law_282 rfl (lv_at hl 3 rfl) ?_
  refine lv_iconst (v := 3) hx hb dL_law_283 (by decide) ?_
  refine lv_iadd hx hb dL_law_284 ?_
  refine va_sld hx hb hX hbl hbA hS hi3 dL_law_285 ?_
  refine law_ci (As := [.int (xs (nI (6 * t) + 1).toNatClampNeg), .int (xs (nI (6 * t) + 2).toNatClampNeg), .int (xs (nI (6 * t) + 3).toNatClampNeg)]) (rest := [.int qx.2]) CM ca_X10_set (ctX10_set (xs (nI (6 * t) + 1).toNatClampNeg) (xs (nI (6 * t) + 2).toNatClampNeg) (xs (nI (6 * t) + 3).toNatClampNeg) hm1) cf_10 sm_0 km_0 tw_229 ⟨Nat.le_of_ble_eq_true rfl, Nat.le_of_ble_eq_true rfl⟩ rfl hl.1 (Nat.le_of_ble_eq_true rfl) ⟨Nat.le_of_ble_eq_true rfl, Nat.le_of_ble_eq_true rfl⟩ hP2 hP hS hAM hd2 dL_law_286 (fun H locs hP2 hP hS => ?_)
  refine lv_icmp_eq (tgt := 1479) hx hb dL_law_289 (by decide) (fun _ => ?_) (fun c_ => absurd he c_)
  exact hk _ _ H locs ls hI2 hP hP2 hS hl
set_option maxRecDepth 100000 in
set_option maxHeartbeats 4000000 in
theorem lc_copy {p : Program} {l : Launch} {e : Env} {s : State} {m : MethodId} {below : List Frame} {meth : Method} {c : Code} {gX gM : Gw} {b L t : Nat} {xs : Nat → Int32} (hL : L ≤ 3072) (ht : 6 * t + 6 ≤ L) (hX : va_X b L xs s s.heap) (hbl : b < s.heap.size) (CX : Cx wkX gX p s m #[Value.ref b] meth c cL_law 4 RL ret) (CM : Cx wkM gM p s m #[Value.ref b] meth c cL_law 4 RL ret) (hAX : ∀ q, AS wkX gX q → s.heap.size ≤ q) (hAM : ∀ q, AS wkM gM q → s.heap.size ≤ q) (hd1 : ∀ q, AS wkX gX q → ¬ AS wkM gM q) (hd2 : ∀ q, AS wkM gM q → ¬ AS wkX gX q) {σx σm : Sto} (hI : Inv σx σm) {H : Heap} {locs : List Loc} {ls : Array Slot} (hP : wS wkX gX σx H) (hP2 : wS wkM gM σm H) (hS : va_S (bA s.heap.size) s.heap H locs) (hl : lv_has ls 4 [(0, .ref b), (1, .ref (adG gX 0)), (2, .ref (adG gM 0)), (3, .int (nI (6 * t)))]) {Q : State → Prop} (hk : ∀ (σx σm : Sto) (H : Heap) (locs : List Loc) (ls : Array Slot), Inv σx σm → wS wkX gX σx H → wS wkM gM σm H → va_S (bA s.heap.size) s.heap H locs → lv_has ls 4 [(0, .ref b), (1, .ref (adG gX 0)), (2, .ref (adG gM 0)), (3, .int (nI (6 * t)))] → W p l e room_1 s m #[Value.ref b] below meth c H locs 291 6240 Q (F0 m 1479 ls [])) : W p l e room_1 s m #[Value.ref b] below meth c H locs 291 6240 Q (F0 m 294 ls []) := by
  obtain ⟨hx, hb, hml, hown, hts, hr, hlk, hK, hZ⟩ := id CX
  have hbA : ¬ bA s.heap.size b := Nat.not_le.mpr hbl
  have hi1 : vp_in (nI (6 * t) + 1) L := by rw [show (1 : Int32) = nI 1 from rfl, nI_add]; exact vp_in_nI (by omega) (by omega)
  have hi2 : vp_in (nI (6 * t) + 2) L := by rw [show (2 : Int32) = nI 2 from rfl, nI_add]; exact vp_in_nI (by omega) (by omega)
  have hi3 : vp_in (nI (6 * t) + 3) L := by rw [show (3 : Int32) = nI 3 from rfl, nI_add]; exact vp_in_nI (by omega) (by omega)
  have hi4 : vp_in (nI (6 * t) + 4) L := by rw [show (4 : Int32) = nI 4 from rfl, nI_add]; exact vp_in_nI (by omega) (by omega)
  have hi5 : vp_in (nI (6 * t) + 5) L := by rw [show (5 : Int32) = nI 5 from rfl, nI_add]; exact vp_in_nI (by omega) (by omega)
  obtain ⟨qx, qm, hx1, hm1, he, hI2⟩ := op_copy hI (xs (nI (6 * t) + 1).toNatClampNeg) (xs (nI (6 * t) + 2).toNatClampNeg) (xs (nI (6 * t) + 3).toNatClampNeg) (xs (nI (6 * t) + 4).toNatClampNeg) (xs (nI (6 * t) + 5).toNatClampNeg)
  refine lv_aload_n hx hb dL_law_294 rfl (lv_at hl 1 rfl) ?_
  refine lv_aload_n hx hb dL_law_295 rfl (lv_at hl 0 rfl) ?_
  refine lv_iload_n hx hb dL_law_296 rfl (lv_at hl 3 rfl) ?_
  refine lv_iconst (v := 1) hx hb dL_law_297 (by decide) ?_
  refine lv_iadd hx hb dL_law_298 ?_
  refine va_sld hx hb hX hbl hbA hS hi1 dL_law_299 ?_
  refine lv_aload_n hx hb dL_law_300 rfl (lv_at hl 0 rfl) ?_
  refine lv_iload_n hx hb dL_law_301 rfl (lv_at hl 3 rfl) ?_
  refine lv_iconst (v := 2) hx hb dL_law_302 (by decide) ?_
  refine lv_iadd hx hb dL_law_303 ?_
  refine va_sld hx hb hX hbl hbA hS hi2 dL_law_304 ?_
  refine lv_aload_n hx hb dL_law_305 rfl (lv_at hl 0 rfl) ?_
  refine lv_iload_n hx hb dL_law_306 rfl (lv_at hl 3 rfl) ?_
  refine lv_iconst (v := 3) hx hb dL_law_307 (by decide) ?_
  refine lv_iadd hx hb dL_law_308 ?_
  refine va_sld hx hb hX hbl hbA hS hi3 dL_law_309 ?_
  refine lv_aload_n hx hb dL_law_310 rfl (lv_at hl 0 rfl) ?_
  refine lv_iload_n hx hb dL_law_311 rfl (lv_at hl 3 rfl) ?_
  refine lv_iconst (v := 4) hx hb dL_law_312 (by decide) ?_
  refine lv_iadd hx hb dL_law_313 ?_
  refine va_sld hx hb hX hbl hbA hS hi4 dL_law_314 ?_
  refine lv_aload_n hx hb dL_law_315 rfl (lv_at hl 0 rfl) ?_
  refine lv_iload_n hx hb dL_law_316 rfl (lv_at hl 3 rfl) ?_
  refine lv_iconst (v := 5) hx hb dL_law_317 (by decide) ?_
  refine lv_iadd hx hb dL_law_318 ?_
  refine va_sld hx hb hX hbl hbA hS hi5 dL_law_319 ?_
  refine law_ci (As := [.int (xs (nI (6 * t) + 1).toNatClampNeg), .int (xs (nI (6 * t) + 2).toNatClampNeg), .int (xs (nI (6 * t) + 3).toNatClampNeg), .int (xs (nI (6 * t) + 4).toNatClampNeg), .int (xs (nI (6 * t) + 5).toNatClampNeg)]) (rest := []) CX ca_X9_copy (ctX9_copy (xs (nI (6 * t) + 1).toNatClampNeg) (xs (nI (6 * t) + 2).toNatClampNeg) (xs (nI (6 * t) + 3).toNatClampNeg) (xs (nI (6 * t) + 4).toNatClampNeg) (xs (nI (6 * t) + 5).toNatClampNeg) hx1) cf_9 sx_0 kx_0 tw_233 ⟨Nat.le_of_ble_eq_true rfl, Nat.le_of_ble_eq_true rfl⟩ rfl hl.1 (Nat.le_of_ble_eq_true rfl) ⟨Nat.le_of_ble_eq_true rfl, Nat.le_of_ble_eq_true rfl⟩ hP hP2 hS hAX hd1 dL_law_320 (fun H locs hP hP2 hS => ?_)
  refine lv_aload_n hx hb dL_law_323 rfl (lv_at hl 2 rfl) ?_
  refine lv_aload_n hx hb dL_law_324 rfl (lv_at hl 0 rfl) ?_
  refine lv_iload_n hx hb dL_law_325 rfl (lv_at hl 3 rfl) ?_
  refine lv_iconst (v := 1) hx hb dL_law_326 (by decide) ?_
  refine lv_iadd hx hb dL_law_327 ?_
  refine va_sld hx hb hX hbl hbA hS hi1 dL_law_328 ?_
  refine lv_aload_n hx hb dL_law_329 rfl (lv_at hl 0 rfl) ?_
  refine lv_iload_n hx hb dL_law_330 rfl (lv_at hl 3 rfl) ?_
  refine lv_iconst (v := 2) hx hb dL_law_331 (by decide) ?_
  refine lv_iadd hx hb dL_law_332 ?_
  refine va_sld hx hb hX hbl hbA hS hi2 dL_law_333 ?_
  refine lv_aload_n hx hb dL_law_334 rfl (lv_at hl 0 rfl) ?_
  refine lv_iload_n hx hb dL_law_335 rfl (lv_at hl 3 rfl) ?_
  refine lv_iconst (v := 3) hx hb dL_law_336 (by decide) ?_
  refine lv_iadd hx hb dL_law_337 ?_
  refine va_sld hx hb hX hbl hbA hS hi3 dL_law_338 ?_
  refine lv_aload_n hx hb dL_law_339 rfl (lv_at hl 0 rfl) ?_
  refine lv_iload_n hx hb dL_law_340 rfl (lv_at hl 3 rfl) ?_
  refine lv_iconst (v := 4) hx hb dL_law_341 (by decide) ?_
  refine lv_iadd hx hb dL_law_342 ?_
  refine va_sld hx hb hX hbl hbA hS hi4 dL_law_343 ?_
  refine lv_aload_n hx hb dL_law_344 rfl (lv_at hl 0 rfl) ?_
  refine lv_iload_n hx hb dL_law_345 rfl (lv_at hl 3 rfl) ?_
  refine lv_iconst (v := 5) hx hb dL_law_346 (by decide) ?_
  refine lv_iadd hx hb dL_law_347 ?_
  refine va_sld hx hb hX hbl hbA hS hi5 dL_law_348 ?_
  refine law_ci (As := [.int (xs (nI (6 * t) + 1).toNatClampNeg), .int (xs (nI (6 * t) + 2).toNatClampNeg), .int (xs (nI (6 * t) + 3).toNatClampNeg), .int (xs (nI (6 * t) + 4).toNatClampNeg), .int (xs (nI (6 * t) + 5).toNatClampNeg)]) (rest := [.int qx.2]) CM ca_X10_copy (ctX10_copy (xs (nI (6 * t) + 1).toNatClampNeg) (xs (nI (6 * t) + 2).toNatClampNeg) (xs (nI (6 * t) + 3).toNatClampNeg) (xs (nI (6 * t) + 4).toNatClampNeg) (xs (nI (6 * t) + 5).toNatClampNeg) hm1) cf_10 sm_0 km_0 tw_249 ⟨Nat.le_of_ble_eq_true rfl, Nat.le_of_ble_eq_true rfl⟩ rfl hl.1 (Nat.le_of_ble_eq_true rfl) ⟨Nat.le_of_ble_eq_true rfl, Nat.le_of_ble_eq_true rfl⟩ hP2 hP hS hAM hd2 dL_law_349 (fun H locs hP2 hP hS => ?_)
  refine lv_icmp_eq (tgt := 1479) hx hb dL_law_352 (by decide) (fun _ => ?_) (fun c_ => absurd he c_)
  exact hk _ _ H locs ls hI2 hP hP2 hS hl
set_option maxRecDepth 100000 in
set_option maxHeartbeats 4000000 in
theorem lc_drop {p : Program} {l : Launch} {e : Env} {s : State} {m : MethodId} {below : List Frame} {meth : Method} {c : Code} {gX gM : Gw} {b L t : Nat} {xs : Nat → Int32} (hL : L ≤ 3072) (ht : 6 * t + 6 ≤ L) (hX : va_X b L xs s s.heap) (hbl : b < s.heap.size) (CX : Cx wkX gX p s m #[Value.ref b] meth c cL_law 4 RL ret) (CM : Cx wkM gM p s m #[Value.ref b] meth c cL_law 4 RL ret) (hAX : ∀ q, AS wkX gX q → s.heap.size ≤ q) (hAM : ∀ q, AS wkM gM q → s.heap.size ≤ q) (hd1 : ∀ q, AS wkX gX q → ¬ AS wkM gM q) (hd2 : ∀ q, AS wkM gM q → ¬ AS wkX gX q) {σx σm : Sto} (hI : Inv σx σm) {H : Heap} {locs : List Loc} {ls : Array Slot} (hP : wS wkX gX σx H) (hP2 : wS wkM gM σm H) (hS : va_S (bA s.heap.size) s.heap H locs) (hl : lv_has ls 4 [(0, .ref b), (1, .ref (adG gX 0)), (2, .ref (adG gM 0)), (3, .int (nI (6 * t)))]) {Q : State → Prop} (hk : ∀ (σx σm : Sto) (H : Heap) (locs : List Loc) (ls : Array Slot), Inv σx σm → wS wkX gX σx H → wS wkM gM σm H → va_S (bA s.heap.size) s.heap H locs → lv_has ls 4 [(0, .ref b), (1, .ref (adG gX 0)), (2, .ref (adG gM 0)), (3, .int (nI (6 * t)))] → W p l e room_1 s m #[Value.ref b] below meth c H locs 291 6240 Q (F0 m 1479 ls [])) : W p l e room_1 s m #[Value.ref b] below meth c H locs 291 6240 Q (F0 m 357 ls []) := by
  obtain ⟨hx, hb, hml, hown, hts, hr, hlk, hK, hZ⟩ := id CX
  have hbA : ¬ bA s.heap.size b := Nat.not_le.mpr hbl
  have hi1 : vp_in (nI (6 * t) + 1) L := by rw [show (1 : Int32) = nI 1 from rfl, nI_add]; exact vp_in_nI (by omega) (by omega)
  obtain ⟨qx, qm, hx1, hm1, he, hI2⟩ := op_drop hI (xs (nI (6 * t) + 1).toNatClampNeg)
  refine lv_aload_n hx hb dL_law_357 rfl (lv_at hl 1 rfl) ?_
  refine lv_aload_n hx hb dL_law_358 rfl (lv_at hl 0 rfl) ?_
  refine lv_iload_n hx hb dL_law_359 rfl (lv_at hl 3 rfl) ?_
  refine lv_iconst (v := 1) hx hb dL_law_360 (by decide) ?_
  refine lv_iadd hx hb dL_law_361 ?_
  refine va_sld hx hb hX hbl hbA hS hi1 dL_law_362 ?_
  refine law_ci (As := [.int (xs (nI (6 * t) + 1).toNatClampNeg)]) (rest := []) CX ca_X9_drop (ctX9_drop (xs (nI (6 * t) + 1).toNatClampNeg) hx1) cf_9 sx_0 kx_0 tw_253 ⟨Nat.le_of_ble_eq_true rfl, Nat.le_of_ble_eq_true rfl⟩ rfl hl.1 (Nat.le_of_ble_eq_true rfl) ⟨Nat.le_of_ble_eq_true rfl, Nat.le_of_ble_eq_true rfl⟩ hP hP2 hS hAX hd1 dL_law_363 (fun H locs hP hP2 hS => ?_)
  refine lv_aload_n hx hb dL_law_366 rfl (lv_at hl 2 rfl) ?_
  refine lv_aload_n hx hb dL_law_367 rfl (lv_at hl 0 rfl) ?_
  refine lv_iload_n hx hb dL_law_368 rfl (lv_at hl 3 rfl) ?_
  refine lv_iconst (v := 1) hx hb dL_law_369 (by decide) ?_
  refine lv_iadd hx hb dL_law_370 ?_
  refine va_sld hx hb hX hbl hbA hS hi1 dL_law_371 ?_
  refine law_ci (As := [.int (xs (nI (6 * t) + 1).toNatClampNeg)]) (rest := [.int qx.2]) CM ca_X10_drop (ctX10_drop (xs (nI (6 * t) + 1).toNatClampNeg) hm1) cf_10 sm_0 km_0 tw_262 ⟨Nat.le_of_ble_eq_true rfl, Nat.le_of_ble_eq_true rfl⟩ rfl hl.1 (Nat.le_of_ble_eq_true rfl) ⟨Nat.le_of_ble_eq_true rfl, Nat.le_of_ble_eq_true rfl⟩ hP2 hP hS hAM hd2 dL_law_372 (fun H locs hP2 hP hS => ?_)
  refine lv_icmp_eq (tgt := 1479) hx hb dL_law_375 (by decide) (fun _ => ?_) (fun c_ => absurd he c_)
  exact hk _ _ H locs ls hI2 hP hP2 hS hl
set_option maxRecDepth 100000 in
set_option maxHeartbeats 4000000 in
theorem lc_feed {p : Program} {l : Launch} {e : Env} {s : State} {m : MethodId} {below : List Frame} {meth : Method} {c : Code} {gX gM : Gw} {b L t : Nat} {xs : Nat → Int32} (hL : L ≤ 3072) (ht : 6 * t + 6 ≤ L) (hX : va_X b L xs s s.heap) (hbl : b < s.heap.size) (CX : Cx wkX gX p s m #[Value.ref b] meth c cL_law 4 RL ret) (CM : Cx wkM gM p s m #[Value.ref b] meth c cL_law 4 RL ret) (hAX : ∀ q, AS wkX gX q → s.heap.size ≤ q) (hAM : ∀ q, AS wkM gM q → s.heap.size ≤ q) (hd1 : ∀ q, AS wkX gX q → ¬ AS wkM gM q) (hd2 : ∀ q, AS wkM gM q → ¬ AS wkX gX q) {σx σm : Sto} (hI : Inv σx σm) {H : Heap} {locs : List Loc} {ls : Array Slot} (hP : wS wkX gX σx H) (hP2 : wS wkM gM σm H) (hS : va_S (bA s.heap.size) s.heap H locs) (hl : lv_has ls 4 [(0, .ref b), (1, .ref (adG gX 0)), (2, .ref (adG gM 0)), (3, .int (nI (6 * t)))]) {Q : State → Prop} (hk : ∀ (σx σm : Sto) (H : Heap) (locs : List Loc) (ls : Array Slot), Inv σx σm → wS wkX gX σx H → wS wkM gM σm H → va_S (bA s.heap.size) s.heap H locs → lv_has ls 4 [(0, .ref b), (1, .ref (adG gX 0)), (2, .ref (adG gM 0)), (3, .int (nI (6 * t)))] → W p l e room_1 s m #[Value.ref b] below meth c H locs 291 6240 Q (F0 m 1479 ls [])) : W p l e room_1 s m #[Value.ref b] below meth c H locs 291 6240 Q (F0 m 380 ls []) := by
  obtain ⟨hx, hb, hml, hown, hts, hr, hlk, hK, hZ⟩ := id CX
  have hbA : ¬ bA s.heap.size b := Nat.not_le.mpr hbl
  have hi1 : vp_in (nI (6 * t) + 1) L := by rw [show (1 : Int32) = nI 1 from rfl, nI_add]; exact vp_in_nI (by omega) (by omega)
  obtain ⟨qx, qm, hx1, hm1, he, hI2⟩ := op_feed hI (xs (nI (6 * t) + 1).toNatClampNeg)
  refine lv_aload_n hx hb dL_law_380 rfl (lv_at hl 1 rfl) ?_
  refine lv_aload_n hx hb dL_law_381 rfl (lv_at hl 0 rfl) ?_
  refine lv_iload_n hx hb dL_law_382 rfl (lv_at hl 3 rfl) ?_
  refine lv_iconst (v := 1) hx hb dL_law_383 (by decide) ?_
  refine lv_iadd hx hb dL_law_384 ?_
  refine va_sld hx hb hX hbl hbA hS hi1 dL_law_385 ?_
  refine law_ci (As := [.int (xs (nI (6 * t) + 1).toNatClampNeg)]) (rest := []) CX ca_X9_feed (ctX9_feed (xs (nI (6 * t) + 1).toNatClampNeg) hx1) cf_9 sx_0 kx_0 tw_266 ⟨Nat.le_of_ble_eq_true rfl, Nat.le_of_ble_eq_true rfl⟩ rfl hl.1 (Nat.le_of_ble_eq_true rfl) ⟨Nat.le_of_ble_eq_true rfl, Nat.le_of_ble_eq_true rfl⟩ hP hP2 hS hAX hd1 dL_law_386 (fun H locs hP hP2 hS => ?_)
  refine lv_aload_n hx hb dL_law_389 rfl (lv_at hl 2 rfl) ?_
  refine lv_aload_n hx hb dL_law_390 rfl (lv_at hl 0 rfl) ?_
  refine lv_iload_n hx hb dL_law_391 rfl (lv_at hl 3 rfl) ?_
  refine lv_iconst (v := 1) hx hb dL_law_392 (by decide) ?_
  refine lv_iadd hx hb dL_law_393 ?_
  refine va_sld hx hb hX hbl hbA hS hi1 dL_law_394 ?_
  refine law_ci (As := [.int (xs (nI (6 * t) + 1).toNatClampNeg)]) (rest := [.int qx.2]) CM ca_X10_feed (ctX10_feed (xs (nI (6 * t) + 1).toNatClampNeg) hm1) cf_10 sm_0 km_0 tw_276 ⟨Nat.le_of_ble_eq_true rfl, Nat.le_of_ble_eq_true rfl⟩ rfl hl.1 (Nat.le_of_ble_eq_true rfl) ⟨Nat.le_of_ble_eq_true rfl, Nat.le_of_ble_eq_true rfl⟩ hP2 hP hS hAM hd2 dL_law_395 (fun H locs hP2 hP hS => ?_)
  refine lv_icmp_eq (tgt := 1479) hx hb dL_law_398 (by decide) (fun _ => ?_) (fun c_ => absurd he c_)
  exact hk _ _ H locs ls hI2 hP hP2 hS hl
set_option maxRecDepth 100000 in
set_option maxHeartbeats 4000000 in
theorem lc_street {p : Program} {l : Launch} {e : Env} {s : State} {m : MethodId} {below : List Frame} {meth : Method} {c : Code} {gX gM : Gw} {b L t : Nat} {xs : Nat → Int32} (hL : L ≤ 3072) (ht : 6 * t + 6 ≤ L) (hX : va_X b L xs s s.heap) (hbl : b < s.heap.size) (CX : Cx wkX gX p s m #[Value.ref b] meth c cL_law 4 RL ret) (CM : Cx wkM gM p s m #[Value.ref b] meth c cL_law 4 RL ret) (hAX : ∀ q, AS wkX gX q → s.heap.size ≤ q) (hAM : ∀ q, AS wkM gM q → s.heap.size ≤ q) (hd1 : ∀ q, AS wkX gX q → ¬ AS wkM gM q) (hd2 : ∀ q, AS wkM gM q → ¬ AS wkX gX q) {σx σm : Sto} (hI : Inv σx σm) {H : Heap} {locs : List Loc} {ls : Array Slot} (hP : wS wkX gX σx H) (hP2 : wS wkM gM σm H) (hS : va_S (bA s.heap.size) s.heap H locs) (hl : lv_has ls 4 [(0, .ref b), (1, .ref (adG gX 0)), (2, .ref (adG gM 0)), (3, .int (nI (6 * t)))]) {Q : State → Prop} (hk : ∀ (σx σm : Sto) (H : Heap) (locs : List Loc) (ls : Array Slot), Inv σx σm → wS wkX gX σx H → wS wkM gM σm H → va_S (bA s.heap.size) s.heap H locs → lv_has ls 4 [(0, .ref b), (1, .ref (adG gX 0)), (2, .ref (adG gM 0)), (3, .int (nI (6 * t)))] → W p l e room_1 s m #[Value.ref b] below meth c H locs 291 6240 Q (F0 m 1479 ls [])) : W p l e room_1 s m #[Value.ref b] below meth c H locs 291 6240 Q (F0 m 403 ls []) := by
  obtain ⟨hx, hb, hml, hown, hts, hr, hlk, hK, hZ⟩ := id CX
  have hbA : ¬ bA s.heap.size b := Nat.not_le.mpr hbl
  obtain ⟨qx, qm, hx1, hm1, he, hI2⟩ := op_street hI 
  refine lv_aload_n hx hb dL_law_403 rfl (lv_at hl 1 rfl) ?_
  refine law_ci (As := []) (rest := []) CX ca_X9_street (ctX9_street hx1) cf_9 sx_0 kx_0 tw_283 ⟨Nat.le_of_ble_eq_true rfl, Nat.le_of_ble_eq_true rfl⟩ rfl hl.1 (Nat.le_of_ble_eq_true rfl) ⟨Nat.le_of_ble_eq_true rfl, Nat.le_of_ble_eq_true rfl⟩ hP hP2 hS hAX hd1 dL_law_404 (fun H locs hP hP2 hS => ?_)
  refine lv_aload_n hx hb dL_law_407 rfl (lv_at hl 2 rfl) ?_
  refine law_ci (As := []) (rest := [.int qx.2]) CM ca_X10_street (ctX10_street hm1) cf_10 sm_0 km_0 tw_362 ⟨Nat.le_of_ble_eq_true rfl, Nat.le_of_ble_eq_true rfl⟩ rfl hl.1 (Nat.le_of_ble_eq_true rfl) ⟨Nat.le_of_ble_eq_true rfl, Nat.le_of_ble_eq_true rfl⟩ hP2 hP hS hAM hd2 dL_law_408 (fun H locs hP2 hP hS => ?_)
  refine lv_icmp_eq (tgt := 1479) hx hb dL_law_411 (by decide) (fun _ => ?_) (fun c_ => absurd he c_)
  exact hk _ _ H locs ls hI2 hP hP2 hS hl
set_option maxRecDepth 100000 in
set_option maxHeartbeats 4000000 in
theorem lc_fault {p : Program} {l : Launch} {e : Env} {s : State} {m : MethodId} {below : List Frame} {meth : Method} {c : Code} {gX gM : Gw} {b L t : Nat} {xs : Nat → Int32} (hL : L ≤ 3072) (ht : 6 * t + 6 ≤ L) (hX : va_X b L xs s s.heap) (hbl : b < s.heap.size) (CX : Cx wkX gX p s m #[Value.ref b] meth c cL_law 4 RL ret) (CM : Cx wkM gM p s m #[Value.ref b] meth c cL_law 4 RL ret) (hAX : ∀ q, AS wkX gX q → s.heap.size ≤ q) (hAM : ∀ q, AS wkM gM q → s.heap.size ≤ q) (hd1 : ∀ q, AS wkX gX q → ¬ AS wkM gM q) (hd2 : ∀ q, AS wkM gM q → ¬ AS wkX gX q) {σx σm : Sto} (hI : Inv σx σm) {H : Heap} {locs : List Loc} {ls : Array Slot} (hP : wS wkX gX σx H) (hP2 : wS wkM gM σm H) (hS : va_S (bA s.heap.size) s.heap H locs) (hl : lv_has ls 4 [(0, .ref b), (1, .ref (adG gX 0)), (2, .ref (adG gM 0)), (3, .int (nI (6 * t)))]) {Q : State → Prop} (hk : ∀ (σx σm : Sto) (H : Heap) (locs : List Loc) (ls : Array Slot), Inv σx σm → wS wkX gX σx H → wS wkM gM σm H → va_S (bA s.heap.size) s.heap H locs → lv_has ls 4 [(0, .ref b), (1, .ref (adG gX 0)), (2, .ref (adG gM 0)), (3, .int (nI (6 * t)))] → W p l e room_1 s m #[Value.ref b] below meth c H locs 291 6240 Q (F0 m 1479 ls [])) : W p l e room_1 s m #[Value.ref b] below meth c H locs 291 6240 Q (F0 m 416 ls []) := by
  obtain ⟨hx, hb, hml, hown, hts, hr, hlk, hK, hZ⟩ := id CX
  have hbA : ¬ bA s.heap.size b := Nat.not_le.mpr hbl
  have he := op_fault hI
  refine lv_aload_n hx hb dL_law_416 rfl (lv_at hl 1 rfl) ?_
  refine law_ci (As := []) (rest := []) CX ca_X9_fault (ctX9_fault rfl) cf_9 sx_0 kx_0 tw_412 ⟨Nat.le_of_ble_eq_true rfl, Nat.le_of_ble_eq_true rfl⟩ rfl hl.1 (Nat.le_of_ble_eq_true rfl) ⟨Nat.le_of_ble_eq_true rfl, Nat.le_of_ble_eq_true rfl⟩ hP hP2 hS hAX hd1 dL_law_417 (fun H locs hP hP2 hS => ?_)
  refine lv_aload_n hx hb dL_law_420 rfl (lv_at hl 2 rfl) ?_
  refine law_ci (As := []) (rest := [.int (fX9_fault σx)]) CM ca_X10_fault (ctX10_fault rfl) cf_10 sm_0 km_0 tw_417 ⟨Nat.le_of_ble_eq_true rfl, Nat.le_of_ble_eq_true rfl⟩ rfl hl.1 (Nat.le_of_ble_eq_true rfl) ⟨Nat.le_of_ble_eq_true rfl, Nat.le_of_ble_eq_true rfl⟩ hP2 hP hS hAM hd2 dL_law_421 (fun H locs hP2 hP hS => ?_)
  refine lv_icmp_eq (tgt := 1479) hx hb dL_law_424 (by decide) (fun _ => ?_) (fun c_ => absurd he c_)
  exact hk _ _ H locs ls hI hP hP2 hS hl
set_option maxRecDepth 100000 in
set_option maxHeartbeats 4000000 in
theorem lc_undo {p : Program} {l : Launch} {e : Env} {s : State} {m : MethodId} {below : List Frame} {meth : Method} {c : Code} {gX gM : Gw} {b L t : Nat} {xs : Nat → Int32} (hL : L ≤ 3072) (ht : 6 * t + 6 ≤ L) (hX : va_X b L xs s s.heap) (hbl : b < s.heap.size) (CX : Cx wkX gX p s m #[Value.ref b] meth c cL_law 4 RL ret) (CM : Cx wkM gM p s m #[Value.ref b] meth c cL_law 4 RL ret) (hAX : ∀ q, AS wkX gX q → s.heap.size ≤ q) (hAM : ∀ q, AS wkM gM q → s.heap.size ≤ q) (hd1 : ∀ q, AS wkX gX q → ¬ AS wkM gM q) (hd2 : ∀ q, AS wkM gM q → ¬ AS wkX gX q) {σx σm : Sto} (hI : Inv σx σm) {H : Heap} {locs : List Loc} {ls : Array Slot} (hP : wS wkX gX σx H) (hP2 : wS wkM gM σm H) (hS : va_S (bA s.heap.size) s.heap H locs) (hl : lv_has ls 4 [(0, .ref b), (1, .ref (adG gX 0)), (2, .ref (adG gM 0)), (3, .int (nI (6 * t)))]) {Q : State → Prop} (hk : ∀ (σx σm : Sto) (H : Heap) (locs : List Loc) (ls : Array Slot), Inv σx σm → wS wkX gX σx H → wS wkM gM σm H → va_S (bA s.heap.size) s.heap H locs → lv_has ls 4 [(0, .ref b), (1, .ref (adG gX 0)), (2, .ref (adG gM 0)), (3, .int (nI (6 * t)))] → W p l e room_1 s m #[Value.ref b] below meth c H locs 291 6240 Q (F0 m 1479 ls [])) : W p l e room_1 s m #[Value.ref b] below meth c H locs 291 6240 Q (F0 m 429 ls []) := by
  obtain ⟨hx, hb, hml, hown, hts, hr, hlk, hK, hZ⟩ := id CX
  have hbA : ¬ bA s.heap.size b := Nat.not_le.mpr hbl
  obtain ⟨qx, qm, hx1, hm1, he, hI2⟩ := op_undo hI 
  refine lv_aload_n hx hb dL_law_429 rfl (lv_at hl 1 rfl) ?_
  refine law_ci (As := []) (rest := []) CX ca_X9_undo (ctX9_undo hx1) cf_9 sx_0 kx_0 tw_421 ⟨Nat.le_of_ble_eq_true rfl, Nat.le_of_ble_eq_true rfl⟩ rfl hl.1 (Nat.le_of_ble_eq_true rfl) ⟨Nat.le_of_ble_eq_true rfl, Nat.le_of_ble_eq_true rfl⟩ hP hP2 hS hAX hd1 dL_law_430 (fun H locs hP hP2 hS => ?_)
  refine lv_aload_n hx hb dL_law_433 rfl (lv_at hl 2 rfl) ?_
  refine law_ci (As := []) (rest := [.int qx.2]) CM ca_X10_undo (ctX10_undo hm1) cf_10 sm_0 km_0 tw_432 ⟨Nat.le_of_ble_eq_true rfl, Nat.le_of_ble_eq_true rfl⟩ rfl hl.1 (Nat.le_of_ble_eq_true rfl) ⟨Nat.le_of_ble_eq_true rfl, Nat.le_of_ble_eq_true rfl⟩ hP2 hP hS hAM hd2 dL_law_434 (fun H locs hP2 hP hS => ?_)
  refine lv_icmp_eq (tgt := 1479) hx hb dL_law_437 (by decide) (fun _ => ?_) (fun c_ => absurd he c_)
  exact hk _ _ H locs ls hI2 hP hP2 hS hl
set_option maxRecDepth 100000 in
set_option maxHeartbeats 4000000 in
theorem lc_days {p : Program} {l : Launch} {e : Env} {s : State} {m : MethodId} {below : List Frame} {meth : Method} {c : Code} {gX gM : Gw} {b L t : Nat} {xs : Nat → Int32} (hL : L ≤ 3072) (ht : 6 * t + 6 ≤ L) (hX : va_X b L xs s s.heap) (hbl : b < s.heap.size) (CX : Cx wkX gX p s m #[Value.ref b] meth c cL_law 4 RL ret) (CM : Cx wkM gM p s m #[Value.ref b] meth c cL_law 4 RL ret) (hAX : ∀ q, AS wkX gX q → s.heap.size ≤ q) (hAM : ∀ q, AS wkM gM q → s.heap.size ≤ q) (hd1 : ∀ q, AS wkX gX q → ¬ AS wkM gM q) (hd2 : ∀ q, AS wkM gM q → ¬ AS wkX gX q) {σx σm : Sto} (hI : Inv σx σm) {H : Heap} {locs : List Loc} {ls : Array Slot} (hP : wS wkX gX σx H) (hP2 : wS wkM gM σm H) (hS : va_S (bA s.heap.size) s.heap H locs) (hl : lv_has ls 4 [(0, .ref b), (1, .ref (adG gX 0)), (2, .ref (adG gM 0)), (3, .int (nI (6 * t)))]) {Q : State → Prop} (hk : ∀ (σx σm : Sto) (H : Heap) (locs : List Loc) (ls : Array Slot), Inv σx σm → wS wkX gX σx H → wS wkM gM σm H → va_S (bA s.heap.size) s.heap H locs → lv_has ls 4 [(0, .ref b), (1, .ref (adG gX 0)), (2, .ref (adG gM 0)), (3, .int (nI (6 * t)))] → W p l e room_1 s m #[Value.ref b] below meth c H locs 291 6240 Q (F0 m 1479 ls [])) : W p l e room_1 s m #[Value.ref b] below meth c H locs 291 6240 Q (F0 m 442 ls []) := by
  obtain ⟨hx, hb, hml, hown, hts, hr, hlk, hK, hZ⟩ := id CX
  have hbA : ¬ bA s.heap.size b := Nat.not_le.mpr hbl
  have hi1 : vp_in (nI (6 * t) + 1) L := by rw [show (1 : Int32) = nI 1 from rfl, nI_add]; exact vp_in_nI (by omega) (by omega)
  obtain ⟨qx, qm, hx1, hm1, he, hI2⟩ := op_days hI (xs (nI (6 * t) + 1).toNatClampNeg)
  refine lv_aload_n hx hb dL_law_442 rfl (lv_at hl 1 rfl) ?_
  refine lv_aload_n hx hb dL_law_443 rfl (lv_at hl 0 rfl) ?_
  refine lv_iload_n hx hb dL_law_444 rfl (lv_at hl 3 rfl) ?_
  refine lv_iconst (v := 1) hx hb dL_law_445 (by decide) ?_
  refine lv_iadd hx hb dL_law_446 ?_
  refine va_sld hx hb hX hbl hbA hS hi1 dL_law_447 ?_
  refine law_ci (As := [.int (xs (nI (6 * t) + 1).toNatClampNeg)]) (rest := []) CX ca_X9_days (ctX9_days (xs (nI (6 * t) + 1).toNatClampNeg) hx1) cf_9 sx_0 kx_0 tw_437 ⟨Nat.le_of_ble_eq_true rfl, Nat.le_of_ble_eq_true rfl⟩ rfl hl.1 (Nat.le_of_ble_eq_true rfl) ⟨Nat.le_of_ble_eq_true rfl, Nat.le_of_ble_eq_true rfl⟩ hP hP2 hS hAX hd1 dL_law_448 (fun H locs hP hP2 hS => ?_)
  refine lv_aload_n hx hb dL_law_451 rfl (lv_at hl 2 rfl) ?_
  refine lv_aload_n hx hb dL_law_452 rfl (lv_at hl 0 rfl) ?_
  refine lv_iload_n hx hb dL_law_453 rfl (lv_at hl 3 rfl) ?_
  refine lv_iconst (v := 1) hx hb dL_law_454 (by decide) ?_
  refine lv_iadd hx hb dL_law_455 ?_
  refine va_sld hx hb hX hbl hbA hS hi1 dL_law_456 ?_
  refine law_ci (As := [.int (xs (nI (6 * t) + 1).toNatClampNeg)]) (rest := [.int qx.2]) CM ca_X10_days (ctX10_days (xs (nI (6 * t) + 1).toNatClampNeg) hm1) cf_10 sm_0 km_0 tw_477 ⟨Nat.le_of_ble_eq_true rfl, Nat.le_of_ble_eq_true rfl⟩ rfl hl.1 (Nat.le_of_ble_eq_true rfl) ⟨Nat.le_of_ble_eq_true rfl, Nat.le_of_ble_eq_true rfl⟩ hP2 hP hS hAM hd2 dL_law_457 (fun H locs hP2 hP hS => ?_)
  refine lv_icmp_eq (tgt := 1479) hx hb dL_law_460 (by decide) (fun _ => ?_) (fun c_ => absurd he c_)
  exact hk _ _ H locs ls hI2 hP hP2 hS hl
set_option maxRecDepth 100000 in
set_option maxHeartbeats 4000000 in
theorem lc_wall {p : Program} {l : Launch} {e : Env} {s : State} {m : MethodId} {below : List Frame} {meth : Method} {c : Code} {gX gM : Gw} {b L t : Nat} {xs : Nat → Int32} (hL : L ≤ 3072) (ht : 6 * t + 6 ≤ L) (hX : va_X b L xs s s.heap) (hbl : b < s.heap.size) (CX : Cx wkX gX p s m #[Value.ref b] meth c cL_law 4 RL ret) (CM : Cx wkM gM p s m #[Value.ref b] meth c cL_law 4 RL ret) (hAX : ∀ q, AS wkX gX q → s.heap.size ≤ q) (hAM : ∀ q, AS wkM gM q → s.heap.size ≤ q) (hd1 : ∀ q, AS wkX gX q → ¬ AS wkM gM q) (hd2 : ∀ q, AS wkM gM q → ¬ AS wkX gX q) {σx σm : Sto} (hI : Inv σx σm) {H : Heap} {locs : List Loc} {ls : Array Slot} (hP : wS wkX gX σx H) (hP2 : wS wkM gM σm H) (hS : va_S (bA s.heap.size) s.heap H locs) (hl : lv_has ls 4 [(0, .ref b), (1, .ref (adG gX 0)), (2, .ref (adG gM 0)), (3, .int (nI (6 * t)))]) {Q : State → Prop} (hk : ∀ (σx σm : Sto) (H : Heap) (locs : List Loc) (ls : Array Slot), Inv σx σm → wS wkX gX σx H → wS wkM gM σm H → va_S (bA s.heap.size) s.heap H locs → lv_has ls 4 [(0, .ref b), (1, .ref (adG gX 0)), (2, .ref (adG gM 0)), (3, .int (nI (6 * t)))] → W p l e room_1 s m #[Value.ref b] below meth c H locs 291 6240 Q (F0 m 1479 ls [])) : W p l e room_1 s m #[Value.ref b] below meth c H locs 291 6240 Q (F0 m 465 ls []) := by
  obtain ⟨hx, hb, hml, hown, hts, hr, hlk, hK, hZ⟩ := id CX
  have hbA : ¬ bA s.heap.size b := Nat.not_le.mpr hbl
  have hi1 : vp_in (nI (6 * t) + 1) L := by rw [show (1 : Int32) = nI 1 from rfl, nI_add]; exact vp_in_nI (by omega) (by omega)
  have hi2 : vp_in (nI (6 * t) + 2) L := by rw [show (2 : Int32) = nI 2 from rfl, nI_add]; exact vp_in_nI (by omega) (by omega)
  obtain ⟨qx, qm, hx1, hm1, he, hI2⟩ := op_wall hI (xs (nI (6 * t) + 1).toNatClampNeg) (xs (nI (6 * t) + 2).toNatClampNeg)
  refine lv_aload_n hx hb dL_law_465 rfl (lv_at hl 1 rfl) ?_
  refine lv_aload_n hx hb dL_law_466 rfl (lv_at hl 0 rfl) ?_
  refine lv_iload_n hx hb dL_law_467 rfl (lv_at hl 3 rfl) ?_
  refine lv_iconst (v := 1) hx hb dL_law_468 (by decide) ?_
  refine lv_iadd hx hb dL_law_469 ?_
  refine va_sld hx hb hX hbl hbA hS hi1 dL_law_470 ?_
  refine lv_aload_n hx hb dL_law_471 rfl (lv_at hl 0 rfl) ?_
  refine lv_iload_n hx hb dL_law_472 rfl (lv_at hl 3 rfl) ?_
  refine lv_iconst (v := 2) hx hb dL_law_473 (by decide) ?_
  refine lv_iadd hx hb dL_law_474 ?_
  refine va_sld hx hb hX hbl hbA hS hi2 dL_law_475 ?_
  refine law_ci (As := [.int (xs (nI (6 * t) + 1).toNatClampNeg), .int (xs (nI (6 * t) + 2).toNatClampNeg)]) (rest := []) CX ca_X9_wall (ctX9_wall (xs (nI (6 * t) + 1).toNatClampNeg) (xs (nI (6 * t) + 2).toNatClampNeg) hx1) cf_9 sx_0 kx_0 tw_511 ⟨Nat.le_of_ble_eq_true rfl, Nat.le_of_ble_eq_true rfl⟩ rfl hl.1 (Nat.le_of_ble_eq_true rfl) ⟨Nat.le_of_ble_eq_true rfl, Nat.le_of_ble_eq_true rfl⟩ hP hP2 hS hAX hd1 dL_law_476 (fun H locs hP hP2 hS => ?_)
  refine lv_aload_n hx hb dL_law_479 rfl (lv_at hl 2 rfl) ?_
  refine lv_aload_n hx hb dL_law_480 rfl (lv_at hl 0 rfl) ?_
  refine lv_iload_n hx hb dL_law_481 rfl (lv_at hl 3 rfl) ?_
  refine lv_iconst (v := 1) hx hb dL_law_482 (by decide) ?_
  refine lv_iadd hx hb dL_law_483 ?_
  refine va_sld hx hb hX hbl hbA hS hi1 dL_law_484 ?_
  refine lv_aload_n hx hb dL_law_485 rfl (lv_at hl 0 rfl) ?_
  refine lv_iload_n hx hb dL_law_486 rfl (lv_at hl 3 rfl) ?_
  refine lv_iconst (v := 2) hx hb dL_law_487 (by decide) ?_
  refine lv_iadd hx hb dL_law_488 ?_
  refine va_sld hx hb hX hbl hbA hS hi2 dL_law_489 ?_
  refine law_ci (As := [.int (xs (nI (6 * t) + 1).toNatClampNeg), .int (xs (nI (6 * t) + 2).toNatClampNeg)]) (rest := [.int qx.2]) CM ca_X10_wall (ctX10_wall (xs (nI (6 * t) + 1).toNatClampNeg) (xs (nI (6 * t) + 2).toNatClampNeg) hm1) cf_10 sm_0 km_0 tw_520 ⟨Nat.le_of_ble_eq_true rfl, Nat.le_of_ble_eq_true rfl⟩ rfl hl.1 (Nat.le_of_ble_eq_true rfl) ⟨Nat.le_of_ble_eq_true rfl, Nat.le_of_ble_eq_true rfl⟩ hP2 hP hS hAM hd2 dL_law_490 (fun H locs hP2 hP hS => ?_)
  refine lv_icmp_eq (tgt := 1479) hx hb dL_law_493 (by decide) (fun _ => ?_) (fun c_ => absurd he c_)
  exact hk _ _ H locs ls hI2 hP hP2 hS hl
