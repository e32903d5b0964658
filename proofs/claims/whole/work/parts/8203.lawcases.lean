set_option maxRecDepth 100000 in
set_option maxHeartbeats 4000000 in
theorem lc_gives {p : Program} {l : Launch} {e : Env} {s : State} {m : MethodId} {below : List Frame} {meth : Method} {c : Code} {gX gM : Gw} {b L t : Nat} {xs : Nat → Int32} (hL : L ≤ 3072) (ht : 6 * t + 6 ≤ L) (hX : va_X b L xs s s.heap) (hbl : b < s.heap.size) (CX : Cx wkX gX p s m #[Value.ref b] meth c cL_law 4 RL ret) (CM : Cx wkM gM p s m #[Value.ref b] meth c cL_law 4 RL ret) (hAX : ∀ q, AS wkX gX q → s.heap.size ≤ q) (hAM : ∀ q, AS wkM gM q → s.heap.size ≤ q) (hd1 : ∀ q, AS wkX gX q → ¬ AS wkM gM q) (hd2 : ∀ q, AS wkM gM q → ¬ AS wkX gX q) {σx σm : Sto} (hI : Inv σx σm) {H : Heap} {locs : List Loc} {ls : Array Slot} (hP : wS wkX gX σx H) (hP2 : wS wkM gM σm H) (hS : va_S (bA s.heap.size) s.heap H locs) (hl : lv_has ls 4 [(0, .ref b), (1, .ref (adG gX 0)), (2, .ref (adG gM 0)), (3, .int (nI (6 * t)))]) {Q : State → Prop} (hk : ∀ (σx σm : Sto) (H : Heap) (locs : List Loc) (ls : Array Slot), Inv σx σm → wS wkX gX σx H → wS wkM gM σm H → va_S (bA s.heap.size) s.heap H locs → lv_has ls 4 [(0, .ref b), (1, .ref (adG gX 0)), (2, .ref (adG gM 0)), (3, .int (nI (6 * t)))] → W p l e room_1 s m #[Value.ref b] below meth c H locs 291 6240 Q (F0 m 1479 ls [])) : W p l e room_1 s m #[Value.ref b] below meth c H locs 291 6240 Q (F0 m 1188 ls []) := by
  obtain ⟨hx, hb, hml, hown, hts, hr, hlk, hK, hZ⟩ := id CX
  have hbA : ¬ bA s.heap.size b := Nat.not_le.mpr hbl
  have hi1 : vp_in (nI (6 * t) + 1) L := by rw [show (1 : Int32) = nI 1 from rfl, nI_add]; exact vp_in_nI (by omega) (by omega)
  have hi2 : vp_in (nI (6 * t) + 2) L := by rw [show (2 : Int32) = nI 2 from rfl, nI_add]; exact vp_in_nI (by omega) (by omega)
  have hi3 : vp_in (nI (6 * t) + 3) L := by rw [show (3 : Int32) = nI 3 from rfl, nI_add]; exact vp_in_nI (by omega) (by omega)
  have hi4 : vp_in (nI (6 * t) + 4) L := by rw [show (4 : Int32) = nI 4 from rfl, nI_add]; exact vp_in_nI (by omega) (by omega)
  obtain ⟨qx, qm, hx1, hm1, he, hI2⟩ := op_gives hI (xs (nI (6 * t) + 1).toNatClampNeg) (xs (nI (6 * t) + 2).toNatClampNeg) (xs (nI (6 * t) + 3).toNatClampNeg) (xs (nI (6 * t) + 4).toNatClampNeg)
  refine lv_aload_n hx hb dL_law_1188 rfl (lv_at hl 1 rfl) ?_
  refine lv_aload_n hx hb dL_law_1189 rfl (lv_at hl 0 rfl) ?_
  refine lv_iload_n hx hb dL_law_1190 rfl (lv_at hl 3 rfl) ?_
  refine lv_iconst (v := 1) hx hb dL_law_1191 (by decide) ?_
  refine lv_iadd hx hb dL_law_1192 ?_
  refine va_sld hx hb hX hbl hbA hS hi1 dL_law_1193 ?_
  refine lv_aload_n hx hb dL_law_1194 rfl (lv_at hl 0 rfl) ?_
  refine lv_iload_n hx hb dL_law_1195 rfl (lv_at hl 3 rfl) ?_
  refine lv_iconst (v := 2) hx hb dL_law_1196 (by decide) ?_
  refine lv_iadd hx hb dL_law_1197 ?_
  refine va_sld hx hb hX hbl hbA hS hi2 dL_law_1198 ?_
  refine lv_aload_n hx hb dL_law_1199 rfl (lv_at hl 0 rfl) ?_
  refine lv_iload_n hx hb dL_law_1200 rfl (lv_at hl 3 rfl) ?_
  refine lv_iconst (v := 3) hx hb dL_law_1201 (by decide) ?_
  refine lv_iadd hx hb dL_law_1202 ?_
  refine va_sld hx hb hX hbl hbA hS hi3 dL_law_1203 ?_
  refine lv_aload_n hx hb dL_law_1204 rfl (lv_at hl 0 rfl) ?_
  refine lv_iload_n hx hb dL_law_1205 rfl (lv_at hl 3 rfl) ?_
  refine lv_iconst (v := 4) hx hb dL_law_1206 (by decide) ?_
  refine lv_iadd hx hb dL_law_1207 ?_
  refine va_sld hx hb hX hbl hbA hS hi4 dL_law_1208 ?_
  refine law_cl (As := [.int (xs (nI (6 * t) + 1).toNatClampNeg), .int (xs (nI (6 * t) + 2).toNatClampNeg), .int (xs (nI (6 * t) + 3).toNatClampNeg), .int (xs (nI (6 * t) + 4).toNatClampNeg)]) (rest := []) CX ca_X9_gives (ctX9_gives (xs (nI (6 * t) + 1).toNatClampNeg) (xs (nI (6 * t) + 2).toNatClampNeg) (xs (nI (6 * t) + 3).toNatClampNeg) (xs (nI (6 * t) + 4).toNatClampNeg) hx1) cf_9 sx_0 kx_0 tw_1003 ⟨Nat.le_of_ble_eq_true rfl, Nat.le_of_ble_eq_true rfl⟩ rfl hl.1 (Nat.le_of_ble_eq_true rfl) ⟨Nat.le_of_ble_eq_true rfl, Nat.le_of_ble_eq_true rfl⟩ hP hP2 hS hAX hd1 dL_law_1209 (fun H locs hP hP2 hS => ?_)
  refine lv_aload_n hx hb dL_law_1212 rfl (lv_at hl 2 rfl) ?_
  refine lv_aload_n hx hb dL_law_1213 rfl (lv_at hl 0 rfl) ?_
  refine lv_iload_n hx hb dL_law_1214 rfl (lv_at hl 3 rfl) ?_
  refine lv_iconst (v := 1) hx hb dL_law_1215 (by decide) ?_
  refine lv_iadd hx hb dL_law_1216 ?_
  refine va_sld hx hb hX hbl hbA hS hi1 dL_law_1217 ?_
  refine lv_aload_n hx hb dL_law_1218 rfl (lv_at hl 0 rfl) ?_
  refine lv_iload_n hx hb dL_law_1219 rfl (lv_at hl 3 rfl) ?_
  refine lv_iconst (v := 2) hx hb dL_law_1220 (by decide) ?_
  refine lv_iadd hx hb dL_law_1221 ?_
  refine va_sld hx hb hX hbl hbA hS hi2 dL_law_1222 ?_
  refine lv_aload_n hx hb dL_law_1223 rfl (lv_at hl 0 rfl) ?_
  refine lv_iload_n hx hb dL_law_1224 rfl (lv_at hl 3 rfl) ?_
  refine lv_iconst (v := 3) hx hb dL_law_1225 (by decide) ?_
  refine lv_iadd hx hb dL_law_1226 ?_
  refine va_sld hx hb hX hbl hbA hS hi3 dL_law_1227 ?_
  refine lv_aload_n hx hb dL_law_1228 rfl (lv_at hl 0 rfl) ?_
  refine lv_iload_n hx hb dL_law_1229 rfl (lv_at hl 3 rfl) ?_
  refine lv_iconst (v := 4) hx hb dL_law_1230 (by decide) ?_
  refine lv_iadd hx hb dL_law_1231 ?_
  refine va_sld hx hb hX hbl hbA hS hi4 dL_law_1232 ?_
  refine law_cl (As := [.int (xs (nI (6 * t) + 1).toNatClampNeg), .int (xs (nI (6 * t) + 2).toNatClampNeg), .int (xs (nI (6 * t) + 3).toNatClampNeg), .int (xs (nI (6 * t) + 4).toNatClampNeg)]) (rest := [.long qx.2]) CM ca_X10_gives (ctX10_gives (xs (nI (6 * t) + 1).toNatClampNeg) (xs (nI (6 * t) + 2).toNatClampNeg) (xs (nI (6 * t) + 3).toNatClampNeg) (xs (nI (6 * t) + 4).toNatClampNeg) hm1) cf_10 sm_0 km_0 tw_1030 ⟨Nat.le_of_ble_eq_true rfl, Nat.le_of_ble_eq_true rfl⟩ rfl hl.1 (Nat.le_of_ble_eq_true rfl) ⟨Nat.le_of_ble_eq_true rfl, Nat.le_of_ble_eq_true rfl⟩ hP2 hP hS hAM hd2 dL_law_1233 (fun H locs hP2 hP hS => ?_)
  refine W.lcmp hx hb dL_law_1236 ?_
  refine lv_if_eq (tgt := 1479) hx hb dL_law_1237 (by decide) (fun _ => ?_) (fun c_ => absurd (by rw [he]; simp [lg_cmp]) c_)
  exact hk _ _ H locs ls hI2 hP hP2 hS hl
set_option maxRecDepth 100000 in
set_option maxHeartbeats 4000000 in
theorem lc_drawn {p : Program} {l : Launch} {e : Env} {s : State} {m : MethodId} {below : List Frame} {meth : Method} {c : Code} {gX gM : Gw} {b L t : Nat} {xs : Nat → Int32} (hL : L ≤ 3072) (ht : 6 * t + 6 ≤ L) (hX : va_X b L xs s s.heap) (hbl : b < s.heap.size) (CX : Cx wkX gX p s m #[Value.ref b] meth c cL_law 4 RL ret) (CM : Cx wkM gM p s m #[Value.ref b] meth c cL_law 4 RL ret) (hAX : ∀ q, AS wkX gX q → s.heap.size ≤ q) (hAM : ∀ q, AS wkM gM q → s.heap.size ≤ q) (hd1 : ∀ q, AS wkX gX q → ¬ AS wkM gM q) (hd2 : ∀ q, AS wkM gM q → ¬ AS wkX gX q) {σx σm : Sto} (hI : Inv σx σm) {H : Heap} {locs : List Loc} {ls : Array Slot} (hP : wS wkX gX σx H) (hP2 : wS wkM gM σm H) (hS : va_S (bA s.heap.size) s.heap H locs) (hl : lv_has ls 4 [(0, .ref b), (1, .ref (adG gX 0)), (2, .ref (adG gM 0)), (3, .int (nI (6 * t)))]) {Q : State → Prop} (hk : ∀ (σx σm : Sto) (H : Heap) (locs : List Loc) (ls : Array Slot), Inv σx σm → wS wkX gX σx H → wS wkM gM σm H → va_S (bA s.heap.size) s.heap H locs → lv_has ls 4 [(0, .ref b), (1, .ref (adG gX 0)), (2, .ref (adG gM 0)), (3, .int (nI (6 * t)))] → W p l e room_1 s m #[Value.ref b] below meth c H locs 291 6240 Q (F0 m 1479 ls [])) : W p l e room_1 s m #[Value.ref b] below meth c H locs 291 6240 Q (F0 m 1242 ls []) := by
  obtain ⟨hx, hb, hml, hown, hts, hr, hlk, hK, hZ⟩ := id CX
  have hbA : ¬ bA s.heap.size b := Nat.not_le.mpr hbl
  have hi1 : vp_in (nI (6 * t) + 1) L := by rw [show (1 : Int32) = nI 1 from rfl, nI_add]; exact vp_in_nI (by omega) (by omega)
  have hi2 : vp_in (nI (6 * t) + 2) L := by rw [show (2 : Int32) = nI 2 from rfl, nI_add]; exact vp_in_nI (by omega) (by omega)
  have hi3 : vp_in (nI (6 * t) + 3) L := by rw [show (3 : Int32) = nI 3 from rfl, nI_add]; exact vp_in_nI (by omega) (by omega)
  obtain ⟨qx, qm, hx1, hm1, he, hI2⟩ := op_drawn hI (xs (nI (6 * t) + 1).toNatClampNeg) (xs (nI (6 * t) + 2).toNatClampNeg) (xs (nI (6 * t) + 3).toNatClampNeg)
  refine lv_aload_n hx hb dL_law_1242 rfl (lv_at hl 1 rfl) ?_
  refine lv_aload_n hx hb dL_law_1243 rfl (lv_at hl 0 rfl) ?_
  refine lv_iload_n hx hb dL_law_1244 rfl (lv_at hl 3 rfl) ?_
  refine lv_iconst (v := 1) hx hb dL_law_1245 (by decide) ?_
  refine lv_iadd hx hb dL_law_1246 ?_
  refine va_sld hx hb hX hbl hbA hS hi1 dL_law_1247 ?_
  refine lv_aload_n hx hb dL_law_1248 rfl (lv_at hl 0 rfl) ?_
  refine lv_iload_n hx hb dL_law_1249 rfl (lv_at hl 3 rfl) ?_
  refine lv_iconst (v := 2) hx hb dL_law_1250 (by decide) ?_
  refine lv_iadd hx hb dL_law_1251 ?_
  refine va_sld hx hb hX hbl hbA hS hi2 dL_law_1252 ?_
  refine lv_aload_n hx hb dL_law_1253 rfl (lv_at hl 0 rfl) ?_
  refine lv_iload_n hx hb dL_law_1254 rfl (lv_at hl 3 rfl) ?_
  refine lv_iconst (v := 3) hx hb dL_law_1255 (by decide) ?_
  refine lv_iadd hx hb dL_law_1256 ?_
  refine va_sld hx hb hX hbl hbA hS hi3 dL_law_1257 ?_
  refine law_ci (As := [.int (xs (nI (6 * t) + 1).toNatClampNeg), .int (xs (nI (6 * t) + 2).toNatClampNeg), .int (xs (nI (6 * t) + 3).toNatClampNeg)]) (rest := []) CX ca_X9_drawn (ctX9_drawn (xs (nI (6 * t) + 1).toNatClampNeg) (xs (nI (6 * t) + 2).toNatClampNeg) (xs (nI (6 * t) + 3).toNatClampNeg) hx1) cf_9 sx_0 kx_0 tw_1039 ⟨Nat.le_of_ble_eq_true rfl, Nat.le_of_ble_eq_true rfl⟩ rfl hl.1 (Nat.le_of_ble_eq_true rfl) ⟨Nat.le_of_ble_eq_true rfl, Nat.le_of_ble_eq_true rfl⟩ hP hP2 hS hAX hd1 dL_law_1258 (fun H locs hP hP2 hS => ?_)
  refine lv_aload_n hx hb dL_law_1261 rfl (lv_at hl 2 rfl) ?_
  refine lv_aload_n hx hb dL_law_1262 rfl (lv_at hl 0 rfl) ?_
  refine lv_iload_n hx hb dL_law_1263 rfl (lv_at hl 3 rfl) ?_
  refine lv_iconst (v := 1) hx hb dL_law_1264 (by decide) ?_
  refine lv_iadd hx hb dL_law_1265 ?_
  refine va_sld hx hb hX hbl hbA hS hi1 dL_law_1266 ?_
  refine lv_aload_n hx hb dL_law_1267 rfl (lv_at hl 0 rfl) ?_
  refine lv_iload_n hx hb dL_law_1268 rfl (lv_at hl 3 rfl) ?_
  refine lv_iconst (v := 2) hx hb dL_law_1269 (by decide) ?_
  refine lv_iadd hx hb dL_law_1270 ?_
  refine va_sld hx hb hX hbl hbA hS hi2 dL_law_1271 ?_
  refine lv_aload_n hx hb dL_law_1272 rfl (lv_at hl 0 rfl) ?_
  refine lv_iload_n hx hb dL_law_1273 rfl (lv_at hl 3 rfl) ?_
  refine lv_iconst (v := 3) hx hb dL_law_1274 (by decide) ?_
  refine lv_iadd hx hb dL_law_1275 ?_
  refine va_sld hx hb hX hbl hbA hS hi3 dL_law_1276 ?_
  refine law_ci (As := [.int (xs (nI (6 * t) + 1).toNatClampNeg), .int (xs (nI (6 * t) + 2).toNatClampNeg), .int (xs (nI (6 * t) + 3).toNatClampNeg)]) (rest := [.int qx.2]) CM ca_X10_drawn (ctX10_drawn (xs (nI (6 * t) + 1).toNatClampNeg) (xs (nI (6 * t) + 2).toNatClampNeg) (xs (nI (6 * t) + 3).toNatClampNeg) hm1) cf_10 sm_0 km_0 tw_1057 ⟨Nat.le_of_ble_eq_true rfl, Nat.le_of_ble_eq_true rfl⟩ rfl hl.1 (Nat.le_of_ble_eq_true rfl) ⟨Nat.le_of_ble_eq_true rfl, Nat.le_of_ble_eq_true rfl⟩ hP2 hP hS hAM hd2 dL_law_1277 (fun H locs hP2 hP hS => ?_)
  refine lv_icmp_eq (tgt := 1479) hx hb dL_law_1280 (by decide) (fun _ => ?_) (fun c_ => absurd he c_)
  exact hk _ _ H locs ls hI2 hP hP2 hS hl
set_option maxRecDepth 100000 in
set_option maxHeartbeats 4000000 in
theorem lc_image {p : Program} {l : Launch} {e : Env} {s : State} {m : MethodId} {below : List Frame} {meth : Method} {c : Code} {gX gM : Gw} {b L t : Nat} {xs : Nat → Int32} (hL : L ≤ 3072) (ht : 6 * t + 6 ≤ L) (hX : va_X b L xs s s.heap) (hbl : b < s.heap.size) (CX : Cx wkX gX p s m #[Value.ref b] meth c cL_law 4 RL ret) (CM : Cx wkM gM p s m #[Value.ref b] meth c cL_law 4 RL ret) (hAX : ∀ q, AS wkX gX q → s.heap.size ≤ q) (hAM : ∀ q, AS wkM gM q → s.heap.size ≤ q) (hd1 : ∀ q, AS wkX gX q → ¬ AS wkM gM q) (hd2 : ∀ q, AS wkM gM q → ¬ AS wkX gX q) {σx σm : Sto} (hI : Inv σx σm) {H : Heap} {locs : List Loc} {ls : Array Slot} (hP : wS wkX gX σx H) (hP2 : wS wkM gM σm H) (hS : va_S (bA s.heap.size) s.heap H locs) (hl : lv_has ls 4 [(0, .ref b), (1, .ref (adG gX 0)), (2, .ref (adG gM 0)), (3, .int (nI (6 * t)))]) {Q : State → Prop} (hk : ∀ (σx σm : Sto) (H : Heap) (locs : List Loc) (ls : Array Slot), Inv σx σm → wS wkX gX σx H → wS wkM gM σm H → va_S (bA s.heap.size) s.heap H locs → lv_has ls 4 [(0, .ref b), (1, .ref (adG gX 0)), (2, .ref (adG gM 0)), (3, .int (nI (6 * t)))] → W p l e room_1 s m #[Value.ref b] below meth c H locs 291 6240 Q (F0 m 1479 ls [])) : W p l e room_1 s m #[Value.ref b] below meth c H locs 291 6240 Q (F0 m 1285 ls []) := by
  obtain ⟨hx, hb, hml, hown, hts, hr, hlk, hK, hZ⟩ := id CX
  have hbA : ¬ bA s.heap.size b := Nat.not_le.mpr hbl
  have hi1 : vp_in (nI (6 * t) + 1) L := by rw [show (1 : Int32) = nI 1 from rfl, nI_add]; exact vp_in_nI (by omega) (by omega)
  obtain ⟨qx, qm, hx1, hm1, he, hI2⟩ := op_image hI (xs (nI (6 * t) + 1).toNatClampNeg)
  refine lv_aload_n hx hb dL_law_1285 rfl (lv_at hl 1 rfl) ?_
  refine lv_aload_n hx hb dL_law_1286 rfl (lv_at hl 0 rfl) ?_
  refine lv_iload_n hx hb dL_law_1287 rfl (lv_at hl 3 rfl) ?_
  refine lv_iconst (v := 1) hx hb dL_law_1288 (by decide) ?_
  refine lv_iadd hx hb dL_law_1289 ?_
  refine va_sld hx hb hX hbl hbA hS hi1 dL_law_1290 ?_
  refine law_ci (As := [.int (xs (nI (6 * t) + 1).toNatClampNeg)]) (rest := []) CX ca_X9_image (ctX9_image (xs (nI (6 * t) + 1).toNatClampNeg) hx1) cf_9 sx_0 kx_0 tw_1065 ⟨Nat.le_of_ble_eq_true rfl, Nat.le_of_ble_eq_true rfl⟩ rfl hl.1 (Nat.le_of_ble_eq_true rfl) ⟨Nat.le_of_ble_eq_true rfl, Nat.le_of_ble_eq_true rfl⟩ hP hP2 hS hAX hd1 dL_law_1291 (fun H locs hP hP2 hS => ?_)
  refine lv_aload_n hx hb dL_law_1294 rfl (lv_at hl 2 rfl) ?_
  refine lv_aload_n hx hb dL_law_1295 rfl (lv_at hl 0 rfl) ?_
  refine lv_iload_n hx hb dL_law_1296 rfl (lv_at hl 3 rfl) ?_
  refine lv_iconst (v := 1) hx hb dL_law_1297 (by decide) ?_
  refine lv_iadd hx hb dL_law_1298 ?_
  refine va_sld hx hb hX hbl hbA hS hi1 dL_law_1299 ?_
  refine law_ci (As := [.int (xs (nI (6 * t) + 1).toNatClampNeg)]) (rest := [.int qx.2]) CM ca_X10_image (ctX10_image (xs (nI (6 * t) + 1).toNatClampNeg) hm1) cf_10 sm_0 km_0 tw_1069 ⟨Nat.le_of_ble_eq_true rfl, Nat.le_of_ble_eq_true rfl⟩ rfl hl.1 (Nat.le_of_ble_eq_true rfl) ⟨Nat.le_of_ble_eq_true rfl, Nat.le_of_ble_eq_true rfl⟩ hP2 hP hS hAM hd2 dL_law_1300 (fun H locs hP2 hP hS => ?_)
  refine lv_icmp_eq (tgt := 1479) hx hb dL_law_1303 (by decide) (fun _ => ?_) (fun c_ => absurd he c_)
  exact hk _ _ H locs ls hI2 hP hP2 hS hl
set_option maxRecDepth 100000 in
set_option maxHeartbeats 4000000 in
theorem lc_restore {p : Program} {l : Launch} {e : Env} {s : State} {m : MethodId} {below : List Frame} {meth : Method} {c : Code} {gX gM : Gw} {b L t : Nat} {xs : Nat → Int32} (hL : L ≤ 3072) (ht : 6 * t + 6 ≤ L) (hX : va_X b L xs s s.heap) (hbl : b < s.heap.size) (CX : Cx wkX gX p s m #[Value.ref b] meth c cL_law 4 RL ret) (CM : Cx wkM gM p s m #[Value.ref b] meth c cL_law 4 RL ret) (hAX : ∀ q, AS wkX gX q → s.heap.size ≤ q) (hAM : ∀ q, AS wkM gM q → s.heap.size ≤ q) (hd1 : ∀ q, AS wkX gX q → ¬ AS wkM gM q) (hd2 : ∀ q, AS wkM gM q → ¬ AS wkX gX q) {σx σm : Sto} (hI : Inv σx σm) {H : Heap} {locs : List Loc} {ls : Array Slot} (hP : wS wkX gX σx H) (hP2 : wS wkM gM σm H) (hS : va_S (bA s.heap.size) s.heap H locs) (hl : lv_has ls 4 [(0, .ref b), (1, .ref (adG gX 0)), (2, .ref (adG gM 0)), (3, .int (nI (6 * t)))]) {Q : State → Prop} (hk : ∀ (σx σm : Sto) (H : Heap) (locs : List Loc) (ls : Array Slot), Inv σx σm → wS wkX gX σx H → wS wkM gM σm H → va_S (bA s.heap.size) s.heap H locs → lv_has ls 4 [(0, .ref b), (1, .ref (adG gX 0)), (2, .ref (adG gM 0)), (3, .int (nI (6 * t)))] → W p l e room_1 s m #[Value.ref b] below meth c H locs 291 6240 Q (F0 m 1479 ls [])) : W p l e room_1 s m #[Value.ref b] below meth c H locs 291 6240 Q (F0 m 1308 ls []) := by
  obtain ⟨hx, hb, hml, hown, hts, hr, hlk, hK, hZ⟩ := id CX
  have hbA : ¬ bA s.heap.size b := Nat.not_le.mpr hbl
  have hi1 : vp_in (nI (6 * t) + 1) L := by rw [show (1 : Int32) = nI 1 from rfl, nI_add]; exact vp_in_nI (by omega) (by omega)
  obtain ⟨qx, qm, hx1, hm1, he, hI2⟩ := op_restore hI (xs (nI (6 * t) + 1).toNatClampNeg)
  refine lv_aload_n hx hb dL_law_1308 rfl (lv_at hl 1 rfl) ?_
  refine lv_aload_n hx hb dL_law_1309 rfl (lv_at hl 0 rfl) ?_
  refine lv_iload_n hx hb dL_law_1310 rfl (lv_at hl 3 rfl) ?_
  refine lv_iconst (v := 1) hx hb dL_law_1311 (by decide) ?_
  refine lv_iadd hx hb dL_law_1312 ?_
  refine va_sld hx hb hX hbl hbA hS hi1 dL_law_1313 ?_
  refine law_ci (As := [.int (xs (nI (6 * t) + 1).toNatClampNeg)]) (rest := []) CX ca_X9_restore (ctX9_restore (xs (nI (6 * t) + 1).toNatClampNeg) hx1) cf_9 sx_0 kx_0 tw_1073 ⟨Nat.le_of_ble_eq_true rfl, Nat.le_of_ble_eq_true rfl⟩ rfl hl.1 (Nat.le_of_ble_eq_true rfl) ⟨Nat.le_of_ble_eq_true rfl, Nat.le_of_ble_eq_true rfl⟩ hP hP2 hS hAX hd1 dL_law_1314 (fun H locs hP hP2 hS => ?_)
  refine lv_aload_n hx hb dL_law_1317 rfl (lv_at hl 2 rfl) ?_
  refine lv_aload_n hx hb dL_law_1318 rfl (lv_at hl 0 rfl) ?_
  refine lv_iload_n hx hb dL_law_1319 rfl (lv_at hl 3 rfl) ?_
  refine lv_iconst (v := 1) hx hb dL_law_1320 (by decide) ?_
  refine lv_iadd hx hb dL_law_1321 ?_
  refine va_sld hx hb hX hbl hbA hS hi1 dL_law_1322 ?_
  refine law_ci (As := [.int (xs (nI (6 * t) + 1).toNatClampNeg)]) (rest := [.int qx.2]) CM ca_X10_restore (ctX10_restore (xs (nI (6 * t) + 1).toNatClampNeg) hm1) cf_10 sm_0 km_0 tw_1077 ⟨Nat.le_of_ble_eq_true rfl, Nat.le_of_ble_eq_true rfl⟩ rfl hl.1 (Nat.le_of_ble_eq_true rfl) ⟨Nat.le_of_ble_eq_true rfl, Nat.le_of_ble_eq_true rfl⟩ hP2 hP hS hAM hd2 dL_law_1323 (fun H locs hP2 hP hS => ?_)
  refine lv_icmp_eq (tgt := 1479) hx hb dL_law_1326 (by decide) (fun _ => ?_) (fun c_ => absurd he c_)
  exact hk _ _ H locs ls hI2 hP hP2 hS hl
set_option maxRecDepth 100000 in
set_option maxHeartbeats 4000000 in
theorem lc_kind {p : Program} {l : Launch} {e : Env} {s : State} {m : MethodId} {below : List Frame} {meth : Method} {c : Code} {gX gM : Gw} {b L t : Nat} {xs : Nat → Int32} (hL : L ≤ 3072) (ht : 6 * t + 6 ≤ L) (hX : va_X b L xs s s.heap) (hbl : b < s.heap.size) (CX : Cx wkX gX p s m #[Value.ref b] meth c cL_law 4 RL ret) (CM : Cx wkM gM p s m #[Value.ref b] meth c cL_law 4 RL ret) (hAX : ∀ q, AS wkX gX q → s.heap.size ≤ q) (hAM : ∀ q, AS wkM gM q → s.heap.size ≤ q) (hd1 : ∀ q, AS wkX gX q → ¬ AS wkM gM q) (hd2 : ∀ q, AS wkM gM q → ¬ AS wkX gX q) {σx σm : Sto} (hI : Inv σx σm) {H : Heap} {locs : List Loc} {ls : Array Slot} (hP : wS wkX gX σx H) (hP2 : wS wkM gM σm H) (hS : va_S (bA s.heap.size) s.heap H locs) (hl : lv_has ls 4 [(0, .ref b), (1, .ref (adG gX 0)), (2, .ref (adG gM 0)), (3, .int (nI (6 * t)))]) {Q : State → Prop} (hk : ∀ (σx σm : Sto) (H : Heap) (locs : List Loc) (ls : Array Slot), Inv σx σm → wS wkX gX σx H → wS wkM gM σm H → va_S (bA s.heap.size) s.heap H locs → lv_has ls 4 [(0, .ref b), (1, .ref (adG gX 0)), (2, .ref (adG gM 0)), (3, .int (nI (6 * t)))] → W p l e room_1 s m #[Value.ref b] below meth c H locs 291 6240 Q (F0 m 1479 ls [])) : W p l e room_1 s m #[Value.ref b] below meth c H locs 291 6240 Q (F0 m 1331 ls []) := by
  obtain ⟨hx, hb, hml, hown, hts, hr, hlk, hK, hZ⟩ := id CX
  have hbA : ¬ bA s.heap.size b := Nat.not_le.mpr hbl
  have hi1 : vp_in (nI (6 * t) + 1) L := by rw [show (1 : Int32) = nI 1 from rfl, nI_add]; exact vp_in_nI (by omega) (by omega)
  obtain ⟨r, hx1, hm1⟩ := op_kind hI (xs (nI (6 * t) + 1).toNatClampNeg)
  refine lv_aload_n hx hb dL_law_1331 rfl (lv_at hl 1 rfl) ?_
  refine lv_aload_n hx hb dL_law_1332 rfl (lv_at hl 0 rfl) ?_
  refine lv_iload_n hx hb dL_law_1333 rfl (lv_at hl 3 rfl) ?_
  refine lv_iconst (v := 1) hx hb dL_law_1334 (by decide) ?_
  refine lv_iadd hx hb dL_law_1335 ?_
  refine va_sld hx hb hX hbl hbA hS hi1 dL_law_1336 ?_
  refine law_ci (As := [.int (xs (nI (6 * t) + 1).toNatClampNeg)]) (rest := []) CX ca_X9_kind (ctX9_kind (xs (nI (6 * t) + 1).toNatClampNeg) hx1) cf_9 sx_0 kx_0 tw_1081 ⟨Nat.le_of_ble_eq_true rfl, Nat.le_of_ble_eq_true rfl⟩ rfl hl.1 (Nat.le_of_ble_eq_true rfl) ⟨Nat.le_of_ble_eq_true rfl, Nat.le_of_ble_eq_true rfl⟩ hP hP2 hS hAX hd1 dL_law_1337 (fun H locs hP hP2 hS => ?_)
  refine lv_aload_n hx hb dL_law_1340 rfl (lv_at hl 2 rfl) ?_
  refine lv_aload_n hx hb dL_law_1341 rfl (lv_at hl 0 rfl) ?_
  refine lv_iload_n hx hb dL_law_1342 rfl (lv_at hl 3 rfl) ?_
  refine lv_iconst (v := 1) hx hb dL_law_1343 (by decide) ?_
  refine lv_iadd hx hb dL_law_1344 ?_
  refine va_sld hx hb hX hbl hbA hS hi1 dL_law_1345 ?_
  refine law_ci (As := [.int (xs (nI (6 * t) + 1).toNatClampNeg)]) (rest := [.int r]) CM ca_X10_kind (ctX10_kind (xs (nI (6 * t) + 1).toNatClampNeg) hm1) cf_10 sm_0 km_0 tw_1086 ⟨Nat.le_of_ble_eq_true rfl, Nat.le_of_ble_eq_true rfl⟩ rfl hl.1 (Nat.le_of_ble_eq_true rfl) ⟨Nat.le_of_ble_eq_true rfl, Nat.le_of_ble_eq_true rfl⟩ hP2 hP hS hAM hd2 dL_law_1346 (fun H locs hP2 hP hS => ?_)
  refine lv_icmp_eq (tgt := 1479) hx hb dL_law_1349 (by decide) (fun _ => ?_) (fun c_ => absurd rfl c_)
  exact hk _ _ H locs ls hI hP hP2 hS hl
set_option maxRecDepth 100000 in
set_option maxHeartbeats 4000000 in
theorem lc_as {p : Program} {l : Launch} {e : Env} {s : State} {m : MethodId} {below : List Frame} {meth : Method} {c : Code} {gX gM : Gw} {b L t : Nat} {xs : Nat → Int32} (hL : L ≤ 3072) (ht : 6 * t + 6 ≤ L) (hX : va_X b L xs s s.heap) (hbl : b < s.heap.size) (CX : Cx wkX gX p s m #[Value.ref b] meth c cL_law 4 RL ret) (CM : Cx wkM gM p s m #[Value.ref b] meth c cL_law 4 RL ret) (hAX : ∀ q, AS wkX gX q → s.heap.size ≤ q) (hAM : ∀ q, AS wkM gM q → s.heap.size ≤ q) (hd1 : ∀ q, AS wkX gX q → ¬ AS wkM gM q) (hd2 : ∀ q, AS wkM gM q → ¬ AS wkX gX q) {σx σm : Sto} (hI : Inv σx σm) {H : Heap} {locs : List Loc} {ls : Array Slot} (hP : wS wkX gX σx H) (hP2 : wS wkM gM σm H) (hS : va_S (bA s.heap.size) s.heap H locs) (hl : lv_has ls 4 [(0, .ref b), (1, .ref (adG gX 0)), (2, .ref (adG gM 0)), (3, .int (nI (6 * t)))]) {Q : State → Prop} (hk : ∀ (σx σm : Sto) (H : Heap) (locs : List Loc) (ls : Array Slot), Inv σx σm → wS wkX gX σx H → wS wkM gM σm H → va_S (bA s.heap.size) s.heap H locs → lv_has ls 4 [(0, .ref b), (1, .ref (adG gX 0)), (2, .ref (adG gM 0)), (3, .int (nI (6 * t)))] → W p l e room_1 s m #[Value.ref b] below meth c H locs 291 6240 Q (F0 m 1479 ls [])) : W p l e room_1 s m #[Value.ref b] below meth c H locs 291 6240 Q (F0 m 1354 ls []) := by
  obtain ⟨hx, hb, hml, hown, hts, hr, hlk, hK, hZ⟩ := id CX
  have hbA : ¬ bA s.heap.size b := Nat.not_le.mpr hbl
  have hi1 : vp_in (nI (6 * t) + 1) L := by rw [show (1 : Int32) = nI 1 from rfl, nI_add]; exact vp_in_nI (by omega) (by omega)
  have hi2 : vp_in (nI (6 * t) + 2) L := by rw [show (2 : Int32) = nI 2 from rfl, nI_add]; exact vp_in_nI (by omega) (by omega)
  obtain ⟨qx, qm, hx1, hm1, he, hI2⟩ := op_as hI (xs (nI (6 * t) + 1).toNatClampNeg) (xs (nI (6 * t) + 2).toNatClampNeg)
  refine lv_aload_n hx hb dL_law_1354 rfl (lv_at hl 1 rfl) ?_
  refine lv_aload_n hx hb dL_law_1355 rfl (lv_at hl 0 rfl) ?_
  refine lv_iload_n hx hb dL_law_1356 rfl (lv_at hl 3 rfl) ?_
  refine lv_iconst (v := 1) hx hb dL_law_1357 (by decide) ?_
  refine lv_iadd hx hb dL_law_1358 ?_
  refine va_sld hx hb hX hbl hbA hS hi1 dL_law_1359 ?_
  refine lv_aload_n hx hb dL_law_1360 rfl (lv_at hl 0 rfl) ?_
  refine lv_iload_n hx hb dL_law_1361 rfl (lv_at hl 3 rfl) ?_
  refine lv_iconst (v := 2) hx hb dL_law_1362 (by decide) ?_
  refine lv_iadd hx hb dL_law_1363 ?_
  refine va_sld hx hb hX hbl hbA hS hi2 dL_law_1364 ?_
  refine law_ci (As := [.int (xs (nI (6 * t) + 1).toNatClampNeg), .int (xs (nI (6 * t) + 2).toNatClampNeg)]) (rest := []) CX ca_X9_as (ctX9_as (xs (nI (6 * t) + 1).toNatClampNeg) (xs (nI (6 * t) + 2).toNatClampNeg) hx1) cf_9 sx_0 kx_0 tw_1090 ⟨Nat.le_of_ble_eq_true rfl, Nat.le_of_ble_eq_true rfl⟩ rfl hl.1 (Nat.le_of_ble_eq_true rfl) ⟨Nat.le_of_ble_eq_true rfl, Nat.le_of_ble_eq_true rfl⟩ hP hP2 hS hAX hd1 dL_law_1365 (fun H locs hP hP2 hS => ?_)
  refine lv_aload_n hx hb dL_law_1368 rfl (lv_at hl 2 rfl) ?_
  refine lv_aload_n hx hb dL_law_1369 rfl (lv_at hl 0 rfl) ?_
  refine lv_iload_n hx hb dL_law_1370 rfl (lv_at hl 3 rfl) ?_
  refine lv_iconst (v := 1) hx hb dL_law_1371 (by decide) ?_
  refine lv_iadd hx hb dL_law_1372 ?_
  refine va_sld hx hb hX hbl hbA hS hi1 dL_law_1373 ?_
  refine lv_aload_n hx hb dL_law_1374 rfl (lv_at hl 0 rfl) ?_
  refine lv_iload_n hx hb dL_law_1375 rfl (lv_at hl 3 rfl) ?_
  refine lv_iconst (v := 2) hx hb dL_law_1376 (by decide) ?_
  refine lv_iadd hx hb dL_law_1377 ?_
  refine va_sld hx hb hX hbl hbA hS hi2 dL_law_1378 ?_
  refine law_ci (As := [.int (xs (nI (6 * t) + 1).toNatClampNeg), .int (xs (nI (6 * t) + 2).toNatClampNeg)]) (rest := [.int qx.2]) CM ca_X10_as (ctX10_as (xs (nI (6 * t) + 1).toNatClampNeg) (xs (nI (6 * t) + 2).toNatClampNeg) hm1) cf_10 sm_0 km_0 tw_1098 ⟨Nat.le_of_ble_eq_true rfl, Nat.le_of_ble_eq_true rfl⟩ rfl hl.1 (Nat.le_of_ble_eq_true rfl) ⟨Nat.le_of_ble_eq_true rfl, Nat.le_of_ble_eq_true rfl⟩ hP2 hP hS hAM hd2 dL_law_1379 (fun H locs hP2 hP hS => ?_)
  refine lv_icmp_eq (tgt := 1479) hx hb dL_law_1382 (by decide) (fun _ => ?_) (fun c_ => absurd he c_)
  exact hk _ _ H locs ls hI2 hP hP2 hS hl
set_option maxRecDepth 100000 in
set_option maxHeartbeats 4000000 in
theorem lc_ask {p : Program} {l : Launch} {e : Env} {s : State} {m : MethodId} {below : List Frame} {meth : Method} {c : Code} {gX gM : Gw} {b L t : Nat} {xs : Nat → Int32} (hL : L ≤ 3072) (ht : 6 * t + 6 ≤ L) (hX : va_X b L xs s s.heap) (hbl : b < s.heap.size) (CX : Cx wkX gX p s m #[Value.ref b] meth c cL_law 4 RL ret) (CM : Cx wkM gM p s m #[Value.ref b] meth c cL_law 4 RL ret) (hAX : ∀ q, AS wkX gX q → s.heap.size ≤ q) (hAM : ∀ q, AS wkM gM q → s.heap.size ≤ q) (hd1 : ∀ q, AS wkX gX q → ¬ AS wkM gM q) (hd2 : ∀ q, AS wkM gM q → ¬ AS wkX gX q) {σx σm : Sto} (hI : Inv σx σm) {H : Heap} {locs : List Loc} {ls : Array Slot} (hP : wS wkX gX σx H) (hP2 : wS wkM gM σm H) (hS : va_S (bA s.heap.size) s.heap H locs) (hl : lv_has ls 4 [(0, .ref b), (1, .ref (adG gX 0)), (2, .ref (adG gM 0)), (3, .int (nI (6 * t)))]) {Q : State → Prop} (hk : ∀ (σx σm : Sto) (H : Heap) (locs : List Loc) (ls : Array Slot), Inv σx σm → wS wkX gX σx H → wS wkM gM σm H → va_S (bA s.heap.size) s.heap H locs → lv_has ls 4 [(0, .ref b), (1, .ref (adG gX 0)), (2, .ref (adG gM 0)), (3, .int (nI (6 * t)))] → W p l e room_1 s m #[Value.ref b] below meth c H locs 291 6240 Q (F0 m 1479 ls [])) : W p l e room_1 s m #[Value.ref b] below meth c H locs 291 6240 Q (F0 m 1387 ls []) := by
  obtain ⟨hx, hb, hml, hown, hts, hr, hlk, hK, hZ⟩ := id CX
  have hbA : ¬ bA s.heap.size b := Nat.not_le.mpr hbl
  have hi1 : vp_in (nI (6 * t) + 1) L := by rw [show (1 : Int32) = nI 1 from rfl, nI_add]; exact vp_in_nI (by omega) (by omega)
  have hi2 : vp_in (nI (6 * t) + 2) L := by rw [show (2 : Int32) = nI 2 from rfl, nI_add]; exact vp_in_nI (by omega) (by omega)
  obtain ⟨qx, qm, hx1, hm1, he, hI2⟩ := op_ask hI (xs (nI (6 * t) + 1).toNatClampNeg) (xs (nI (6 * t) + 2).toNatClampNeg)
  refine lv_aload_n hx hb dL_law_1387 rfl (lv_at hl 1 rfl) ?_
  refine lv_aload_n hx hb dL_law_1388 rfl (lv_at hl 0 rfl) ?_
  refine lv_iload_n hx hb dL_law_1389 rfl (lv_at hl 3 rfl) ?_
  refine lv_iconst (v := 1) hx hb dL_law_1390 (by decide) ?_
  refine lv_iadd hx hb dL_law_1391 ?_
  refine va_sld hx hb hX hbl hbA hS hi1 dL_law_1392 ?_
  refine lv_aload_n hx hb dL_law_1393 rfl (lv_at hl 0 rfl) ?_
  refine lv_iload_n hx hb dL_law_1394 rfl (lv_at hl 3 rfl) ?_
  refine lv_iconst (v := 2) hx hb dL_law_1395 (by decide) ?_
  refine lv_iadd hx hb dL_law_1396 ?_
  refine va_sld hx hb hX hbl hbA hS hi2 dL_law_1397 ?_
  refine law_ci (As := [.int (xs (nI (6 * t) + 1).toNatClampNeg), .int (xs (nI (6 * t) + 2).toNatClampNeg)]) (rest := []) CX ca_X9_ask (ctX9_ask (xs (nI (6 * t) + 1).toNatClampNeg) (xs (nI (6 * t) + 2).toNatClampNeg) hx1) cf_9 sx_0 kx_0 tw_1106 ⟨Nat.le_of_ble_eq_true rfl, Nat.le_of_ble_eq_true rfl⟩ rfl hl.1 (Nat.le_of_ble_eq_true rfl) ⟨Nat.le_of_ble_eq_true rfl, Nat.le_of_ble_eq_true rfl⟩ hP hP2 hS hAX hd1 dL_law_1398 (fun H locs hP hP2 hS => ?_)
  refine lv_aload_n hx hb dL_law_1401 rfl (lv_at hl 2 rfl) ?_
  refine lv_aload_n hx hb dL_law_1402 rfl (lv_at hl 0 rfl) ?_
  refine lv_iload_n hx hb dL_law_1403 rfl (lv_at hl 3 rfl) ?_
  refine lv_iconst (v := 1) hx hb dL_law_1404 (by decide) ?_
  refine lv_iadd hx hb dL_law_1405 ?_
  refine va_sld hx hb hX hbl hbA hS hi1 dL_law_1406 ?_
  refine lv_aload_n hx hb dL_law_1407 rfl (lv_at hl 0 rfl) ?_
  refine lv_iload_n hx hb dL_law_1408 rfl (lv_at hl 3 rfl) ?_
  refine lv_iconst (v := 2) hx hb dL_law_1409 (by decide) ?_
  refine lv_iadd hx hb dL_law_1410 ?_
  refine va_sld hx hb hX hbl hbA hS hi2 dL_law_1411 ?_
  refine law_ci (As := [.int (xs (nI (6 * t) + 1).toNatClampNeg), .int (xs (nI (6 * t) + 2).toNatClampNeg)]) (rest := [.int qx.2]) CM ca_X10_ask (ctX10_ask (xs (nI (6 * t) + 1).toNatClampNeg) (xs (nI (6 * t) + 2).toNatClampNeg) hm1) cf_10 sm_0 km_0 tw_1134 ⟨Nat.le_of_ble_eq_true rfl, Nat.le_of_ble_eq_true rfl⟩ rfl hl.1 (Nat.le_of_ble_eq_true rfl) ⟨Nat.le_of_ble_eq_true rfl, Nat.le_of_ble_eq_true rfl⟩ hP2 hP hS hAM hd2 dL_law_1412 (fun H locs hP2 hP hS => ?_)
  refine lv_icmp_eq (tgt := 1479) hx hb dL_law_1415 (by decide) (fun _ => ?_) (fun c_ => absurd he c_)
  exact hk _ _ H locs ls hI2 hP hP2 hS hl
set_option maxRecDepth 100000 in
set_option maxHeartbeats 4000000 in
theorem lc_trace {p : Program} {l : Launch} {e : Env} {s : State} {m : MethodId} {below : List Frame} {meth : Method} {c : Code} {gX gM : Gw} {b L t : Nat} {xs : Nat → Int32} (hL : L ≤ 3072) (ht : 6 * t + 6 ≤ L) (hX : va_X b L xs s s.heap) (hbl : b < s.heap.size) (CX : Cx wkX gX p s m #[Value.ref b] meth c cL_law 4 RL ret) (CM : Cx wkM gM p s m #[Value.ref b] meth c cL_law 4 RL ret) (hAX : ∀ q, AS wkX gX q → s.heap.size ≤ q) (hAM : ∀ q, AS wkM gM q → s.heap.size ≤ q) (hd1 : ∀ q, AS wkX gX q → ¬ AS wkM gM q) (hd2 : ∀ q, AS wkM gM q → ¬ AS wkX gX q) {σx σm : Sto} (hI : Inv σx σm) {H : Heap} {locs : List Loc} {ls : Array Slot} (hP : wS wkX gX σx H) (hP2 : wS wkM gM σm H) (hS : va_S (bA s.heap.size) s.heap H locs) (hl : lv_has ls 4 [(0, .ref b), (1, .ref (adG gX 0)), (2, .ref (adG gM 0)), (3, .int (nI (6 * t)))]) {Q : State → Prop} (hk : ∀ (σx σm : Sto) (H : Heap) (locs : List Loc) (ls : Array Slot), Inv σx σm → wS wkX gX σx H → wS wkM gM σm H → va_S (bA s.heap.size) s.heap H locs → lv_has ls 4 [(0, .ref b), (1, .ref (adG gX 0)), (2, .ref (adG gM 0)), (3, .int (nI (6 * t)))] → W p l e room_1 s m #[Value.ref b] below meth c H locs 291 6240 Q (F0 m 1479 ls [])) : W p l e room_1 s m #[Value.ref b] below meth c H locs 291 6240 Q (F0 m 1420 ls []) := by
  obtain ⟨hx, hb, hml, hown, hts, hr, hlk, hK, hZ⟩ := id CX
  have hbA : ¬ bA s.heap.size b := Nat.not_le.mpr hbl
  have hi1 : vp_in (nI (6 * t) + 1) L := by rw [show (1 : Int32) = nI 1 from rfl, nI_add]; exact vp_in_nI (by omega) (by omega)
  obtain ⟨r, hx1, hm1⟩ := op_trace hI (xs (nI (6 * t) + 1).toNatClampNeg)
  refine lv_aload_n hx hb dL_law_1420 rfl (lv_at hl 1 rfl) ?_
  refine lv_aload_n hx hb dL_law_1421 rfl (lv_at hl 0 rfl) ?_
  refine lv_iload_n hx hb dL_law_1422 rfl (lv_at hl 3 rfl) ?_
  refine lv_iconst (v := 1) hx hb dL_law_1423 (by decide) ?_
  refine lv_iadd hx hb dL_law_1424 ?_
  refine va_sld hx hb hX hbl hbA hS hi1 dL_law_1425 ?_
  refine law_ci (As := [.int (xs (nI (6 * t) + 1).toNatClampNeg)]) (rest := []) CX ca_X9_trace (ctX9_trace (xs (nI (6 * t) + 1).toNatClampNeg) hx1) cf_9 sx_0 kx_0 tw_1160 ⟨Nat.le_of_ble_eq_true rfl, Nat.le_of_ble_eq_true rfl⟩ rfl hl.1 (Nat.le_of_ble_eq_true rfl) ⟨Nat.le_of_ble_eq_true rfl, Nat.le_of_ble_eq_true rfl⟩ hP hP2 hS hAX hd1 dL_law_1426 (fun H locs hP hP2 hS => ?_)
  refine lv_aload_n hx hb dL_law_1429 rfl (lv_at hl 2 rfl) ?_
  refine lv_aload_n hx hb dL_law_1430 rfl (lv_at hl 0 rfl) ?_
  refine lv_iload_n hx hb dL_law_1431 rfl (lv_at hl 3 rfl) ?_
  refine lv_iconst (v := 1) hx hb dL_law_1432 (by decide) ?_
  refine lv_iadd hx hb dL_law_1433 ?_
  refine va_sld hx hb hX hbl hbA hS hi1 dL_law_1434 ?_
  refine law_ci (As := [.int (xs (nI (6 * t) + 1).toNatClampNeg)]) (rest := [.int r]) CM ca_X10_trace (ctX10_trace (xs (nI (6 * t) + 1).toNatClampNeg) hm1) cf_10 sm_0 km_0 tw_1166 ⟨Nat.le_of_ble_eq_true rfl, Nat.le_of_ble_eq_true rfl⟩ rfl hl.1 (Nat.le_of_ble_eq_true rfl) ⟨Nat.le_of_ble_eq_true rfl, Nat.le_of_ble_eq_true rfl⟩ hP2 hP hS hAM hd2 dL_law_1435 (fun H locs hP2 hP hS => ?_)
  refine lv_icmp_eq (tgt := 1479) hx hb dL_law_1438 (by decide) (fun _ => ?_) (fun c_ => absurd rfl c_)
  exact hk _ _ H locs ls hI hP hP2 hS hl
set_option maxRecDepth 100000 in
set_option maxHeartbeats 4000000 in
theorem lc_count {p : Program} {l : Launch} {e : Env} {s : State} {m : MethodId} {below : List Frame} {meth : Method} {c : Code} {gX gM : Gw} {b L t : Nat} {xs : Nat → Int32} (hL : L ≤ 3072) (ht : 6 * t + 6 ≤ L) (hX : va_X b L xs s s.heap) (hbl : b < s.heap.size) (CX : Cx wkX gX p s m #[Value.ref b] meth c cL_law 4 RL ret) (CM : Cx wkM gM p s m #[Value.ref b] meth c cL_law 4 RL ret) (hAX : ∀ q, AS wkX gX q → s.heap.size ≤ q) (hAM : ∀ q, AS wkM gM q → s.heap.size ≤ q) (hd1 : ∀ q, AS wkX gX q → ¬ AS wkM gM q) (hd2 : ∀ q, AS wkM gM q → ¬ AS wkX gX q) {σx σm : Sto} (hI : Inv σx σm) {H : Heap} {locs : List Loc} {ls : Array Slot} (hP : wS wkX gX σx H) (hP2 : wS wkM gM σm H) (hS : va_S (bA s.heap.size) s.heap H locs) (hl : lv_has ls 4 [(0, .ref b), (1, .ref (adG gX 0)), (2, .ref (adG gM 0)), (3, .int (nI (6 * t)))]) {Q : State → Prop} (hk : ∀ (σx σm : Sto) (H : Heap) (locs : List Loc) (ls : Array Slot), Inv σx σm → wS wkX gX σx H → wS wkM gM σm H → va_S (bA s.heap.size) s.heap H locs → lv_has ls 4 [(0, .ref b), (1, .ref (adG gX 0)), (2, .ref (adG gM 0)), (3, .int (nI (6 * t)))] → W p l e room_1 s m #[Value.ref b] below meth c H locs 291 6240 Q (F0 m 1479 ls [])) : W p l e room_1 s m #[Value.ref b] below meth c H locs 291 6240 Q (F0 m 1443 ls []) := by
  obtain ⟨hx, hb, hml, hown, hts, hr, hlk, hK, hZ⟩ := id CX
  have hbA : ¬ bA s.heap.size b := Nat.not_le.mpr hbl
  have hi1 : vp_in (nI (6 * t) + 1) L := by rw [show (1 : Int32) = nI 1 from rfl, nI_add]; exact vp_in_nI (by omega) (by omega)
  obtain ⟨r, hx1, hm1⟩ := op_count hI (xs (nI (6 * t) + 1).toNatClampNeg)
  refine lv_aload_n hx hb dL_law_1443 rfl (lv_at hl 1 rfl) ?_
  refine lv_aload_n hx hb dL_law_1444 rfl (lv_at hl 0 rfl) ?_
  refine lv_iload_n hx hb dL_law_1445 rfl (lv_at hl 3 rfl) ?_
  refine lv_iconst (v := 1) hx hb dL_law_1446 (by decide) ?_
  refine lv_iadd hx hb dL_law_1447 ?_
  refine va_sld hx hb hX hbl hbA hS hi1 dL_law_1448 ?_
  refine law_ci (As := [.int (xs (nI (6 * t) + 1).toNatClampNeg)]) (rest := []) CX ca_X9_count (ctX9_count (xs (nI (6 * t) + 1).toNatClampNeg) hx1) cf_9 sx_0 kx_0 tw_1170 ⟨Nat.le_of_ble_eq_true rfl, Nat.le_of_ble_eq_true rfl⟩ rfl hl.1 (Nat.le_of_ble_eq_true rfl) ⟨Nat.le_of_ble_eq_true rfl, Nat.le_of_ble_eq_true rfl⟩ hP hP2 hS hAX hd1 dL_law_1449 (fun H locs hP hP2 hS => ?_)
  refine lv_aload_n hx hb dL_law_1452 rfl (lv_at hl 2 rfl) ?_
  refine lv_aload_n hx hb dL_law_1453 rfl (lv_at hl 0 rfl) ?_
  refine lv_iload_n hx hb dL_law_1454 rfl (lv_at hl 3 rfl) ?_
  refine lv_iconst (v := 1) hx hb dL_law_1455 (by decide) ?_
  refine lv_iadd hx hb dL_law_1456 ?_
  refine va_sld hx hb hX hbl hbA hS hi1 dL_law_1457 ?_
  refine law_ci (As := [.int (xs (nI (6 * t) + 1).toNatClampNeg)]) (rest := [.int r]) CM ca_X10_count (ctX10_count (xs (nI (6 * t) + 1).toNatClampNeg) hm1) cf_10 sm_0 km_0 tw_1182 ⟨Nat.le_of_ble_eq_true rfl, Nat.le_of_ble_eq_true rfl⟩ rfl hl.1 (Nat.le_of_ble_eq_true rfl) ⟨Nat.le_of_ble_eq_true rfl, Nat.le_of_ble_eq_true rfl⟩ hP2 hP hS hAM hd2 dL_law_1458 (fun H locs hP2 hP hS => ?_)
  refine lv_icmp_eq (tgt := 1479) hx hb dL_law_1461 (by decide) (fun _ => ?_) (fun c_ => absurd rfl c_)
  exact hk _ _ H locs ls hI hP hP2 hS hl
set_option maxRecDepth 100000 in
set_option maxHeartbeats 4000000 in
theorem lc_status {p : Program} {l : Launch} {e : Env} {s : State} {m : MethodId} {below : List Frame} {meth : Method} {c : Code} {gX gM : Gw} {b L t : Nat} {xs : Nat → Int32} (hL : L ≤ 3072) (ht : 6 * t + 6 ≤ L) (hX : va_X b L xs s s.heap) (hbl : b < s.heap.size) (CX : Cx wkX gX p s m #[Value.ref b] meth c cL_law 4 RL ret) (CM : Cx wkM gM p s m #[Value.ref b] meth c cL_law 4 RL ret) (hAX : ∀ q, AS wkX gX q → s.heap.size ≤ q) (hAM : ∀ q, AS wkM gM q → s.heap.size ≤ q) (hd1 : ∀ q, AS wkX gX q → ¬ AS wkM gM q) (hd2 : ∀ q, AS wkM gM q → ¬ AS wkX gX q) {σx σm : Sto} (hI : Inv σx σm) {H : Heap} {locs : List Loc} {ls : Array Slot} (hP : wS wkX gX σx H) (hP2 : wS wkM gM σm H) (hS : va_S (bA s.heap.size) s.heap H locs) (hl : lv_has ls 4 [(0, .ref b), (1, .ref (adG gX 0)), (2, .ref (adG gM 0)), (3, .int (nI (6 * t)))]) {Q : State → Prop} (hk : ∀ (σx σm : Sto) (H : Heap) (locs : List Loc) (ls : Array Slot), Inv σx σm → wS wkX gX σx H → wS wkM gM σm H → va_S (bA s.heap.size) s.heap H locs → lv_has ls 4 [(0, .ref b), (1, .ref (adG gX 0)), (2, .ref (adG gM 0)), (3, .int (nI (6 * t)))] → W p l e room_1 s m #[Value.ref b] below meth c H locs 291 6240 Q (F0 m 1479 ls [])) : W p l e room_1 s m #[Value.ref b] below meth c H locs 291 6240 Q (F0 m 1466 ls []) := by
  obtain ⟨hx, hb, hml, hown, hts, hr, hlk, hK, hZ⟩ := id CX
  have hbA : ¬ bA s.heap.size b := Nat.not_le.mpr hbl
  have he := op_status hI
  refine lv_aload_n hx hb dL_law_1466 rfl (lv_at hl 1 rfl) ?_
  refine law_ci (As := []) (rest := []) CX ca_X9_status (ctX9_status rfl) cf_9 sx_0 kx_0 tw_1186 ⟨Nat.le_of_ble_eq_true rfl, Nat.le_of_ble_eq_true rfl⟩ rfl hl.1 (Nat.le_of_ble_eq_true rfl) ⟨Nat.le_of_ble_eq_true rfl, Nat.le_of_ble_eq_true rfl⟩ hP hP2 hS hAX hd1 dL_law_1467 (fun H locs hP hP2 hS => ?_)
  refine lv_aload_n hx hb dL_law_1470 rfl (lv_at hl 2 rfl) ?_
  refine law_ci (As := []) (rest := [.int (fX9_status σx)]) CM ca_X10_status (ctX10_status rfl) cf_10 sm_0 km_0 tw_1190 ⟨Nat.le_of_ble_eq_true rfl, Nat.le_of_ble_eq_true rfl⟩ rfl hl.1 (Nat.le_of_ble_eq_true rfl) ⟨Nat.le_of_ble_eq_true rfl, Nat.le_of_ble_eq_true rfl⟩ hP2 hP hS hAM hd2 dL_law_1471 (fun H locs hP2 hP hS => ?_)
  refine lv_icmp_eq (tgt := 1479) hx hb dL_law_1474 (by decide) (fun _ => ?_) (fun c_ => absurd he c_)
  exact hk _ _ H locs ls hI hP hP2 hS hl
