set_option maxRecDepth 100000 in
set_option maxHeartbeats 4000000 in
theorem lc_carry {p : Program} {l : Launch} {e : Env} {s : State} {m : MethodId} {below : List Frame} {meth : Method} {c : Code} {gX gM : Gw} {b L t : Nat} {xs : Nat → Int32} (hL : L ≤ 3072) (ht : 6 * t + 6 ≤ L) (hX : va_X b L xs s s.heap) (hbl : b < s.heap.size) (CX : Cx wkX gX p s m #[Value.ref b] meth c cL_law 4 RL ret) (CM : Cx wkM gM p s m #[Value.ref b] meth c cL_law 4 RL ret) (hAX : ∀ q, AS wkX gX q → s.heap.size ≤ q) (hAM : ∀ q, AS wkM gM q → s.heap.size ≤ q) (hd1 : ∀ q, AS wkX gX q → ¬ AS wkM gM q) (hd2 : ∀ q, AS wkM gM q → ¬ AS wkX gX q) {σx σm : Sto} (hI : Inv σx σm) {H : Heap} {locs : List Loc} {ls : Array Slot} (hP : wS wkX gX σx H) (hP2 : wS wkM gM σm H) (hS : va_S (bA s.heap.size) s.heap H locs) (hl : lv_has ls 4 [(0, .ref b), (1, .ref (adG gX 0)), (2, .ref (adG gM 0)), (3, .int (nI (6 * t)))]) {Q : State → Prop} (hk : ∀ (σx σm : Sto) (H : Heap) (locs : List Loc) (ls : Array Slot), Inv σx σm → wS wkX gX σx H → wS wkM gM σm H → va_S (bA s.heap.size) s.heap H locs → lv_has ls 4 [(0, .ref b), (1, .ref (adG gX 0)), (2, .ref (adG gM 0)), (3, .int (nI (6 * t)))] → W p l e room_1 s m #[Value.ref b] below meth c H locs 291 6240 Q (F0 m 1479 ls [])) : W p l e room_1 s m #[Value.ref b] below meth c H locs 291 6240 Q (F0 m 498 ls []) := by
  obtain ⟨hx, hb, hml, hown, hts, hr, hlk, hK, hZ⟩ := id CX
  have hbA : ¬ bA s.heap.size b := Nat.not_le.mpr hbl
  have hi1 : vp_in (nI (6 * t) + 1) L := by rw [show (1 : Int32) = nI 1 from rfl, nI_add]; exact vp_in_nI (by omega) (by omega)
  obtain ⟨qx, qm, hx1, hm1, he, hI2⟩ := op_carry hI (xs (nI (6 * t) + 1).toNatClampNeg)
  refine lv_aload_n hx hb dL_law_498 rfl (lv_at hl 1 rfl) ?_
  refine lv_aload_n hx hb dL_law_499 rfl (lv_at hl 0 rfl) ?_
  refine lv_iload_n hx hb dL_law_500 rfl (lv_at hl 3 rfl) ?_
  refine lv_iconst (v := 1) hx hb dL_law_501 (by decide) ?_
  refine lv_iadd hx hb dL_law_502 ?_
  refine va_sld hx hb hX hbl hbA hS hi1 dL_law_503 ?_
  refine law_ci (As := [.int (xs (nI (6 * t) + 1).toNatClampNeg)]) (rest := []) CX ca_X9_carry (ctX9_carry (xs (nI (6 * t) + 1).toNatClampNeg) hx1) cf_9 sx_0 kx_0 tw_529 ⟨Nat.le_of_ble_eq_true rfl, Nat.le_of_ble_eq_true rfl⟩ rfl hl.1 (Nat.le_of_ble_eq_true rfl) ⟨Nat.le_of_ble_eq_true rfl, Nat.le_of_ble_eq_true rfl⟩ hP hP2 hS hAX hd1 dL_law_504 (fun H locs hP hP2 hS => ?_)
  refine lv_aload_n hx hb dL_law_507 rfl (lv_at hl 2 rfl) ?_
  refine lv_aload_n hx hb dL_law_508 rfl (lv_at hl 0 rfl) ?_
  refine lv_iload_n hx hb dL_law_509 rfl (lv_at hl 3 rfl) ?_
  refine lv_iconst (v := 1) hx hb dL_law_510 (by decide) ?_
  refine lv_iadd hx hb dL_law_511 ?_
  refine va_sld hx hb hX hbl hbA hS hi1 dL_law_512 ?_
  refine law_ci (As := [.int (xs (nI (6 * t) + 1).toNatClampNeg)]) (rest := [.int qx.2]) CM ca_X10_carry (ctX10_carry (xs (nI (6 * t) + 1).toNatClampNeg) hm1) cf_10 sm_0 km_0 tw_547 ⟨Nat.le_of_ble_eq_true rfl, Nat.le_of_ble_eq_true rfl⟩ rfl hl.1 (Nat.le_of_ble_eq_true rfl) ⟨Nat.le_of_ble_eq_true rfl, Nat.le_of_ble_eq_true rfl⟩ hP2 hP hS hAM hd2 dL_law_513 (fun H locs hP2 hP hS => ?_)
  refine lv_icmp_eq (tgt := 1479) hx hb dL_law_516 (by decide) (fun _ => ?_) (fun c_ => absurd he c_)
  exact hk _ _ H locs ls hI2 hP hP2 hS hl
set_option maxRecDepth 100000 in
set_option maxHeartbeats 4000000 in
theorem lc_feeding {p : Program} {l : Launch} {e : Env} {s : State} {m : MethodId} {below : List Frame} {meth : Method} {c : Code} {gX gM : Gw} {b L t : Nat} {xs : Nat → Int32} (hL : L ≤ 3072) (ht : 6 * t + 6 ≤ L) (hX : va_X b L xs s s.heap) (hbl : b < s.heap.size) (CX : Cx wkX gX p s m #[Value.ref b] meth c cL_law 4 RL ret) (CM : Cx wkM gM p s m #[Value.ref b] meth c cL_law 4 RL ret) (hAX : ∀ q, AS wkX gX q → s.heap.size ≤ q) (hAM : ∀ q, AS wkM gM q → s.heap.size ≤ q) (hd1 : ∀ q, AS wkX gX q → ¬ AS wkM gM q) (hd2 : ∀ q, AS wkM gM q → ¬ AS wkX gX q) {σx σm : Sto} (hI : Inv σx σm) {H : Heap} {locs : List Loc} {ls : Array Slot} (hP : wS wkX gX σx H) (hP2 : wS wkM gM σm H) (hS : va_S (bA s.heap.size) s.heap H locs) (hl : lv_has ls 4 [(0, .ref b), (1, .ref (adG gX 0)), (2, .ref (adG gM 0)), (3, .int (nI (6 * t)))]) {Q : State → Prop} (hk : ∀ (σx σm : Sto) (H : Heap) (locs : List Loc) (ls : Array Slot), Inv σx σm → wS wkX gX σx H → wS wkM gM σm H → va_S (bA s.heap.size) s.heap H locs → lv_has ls 4 [(0, .ref b), (1, .ref (adG gX 0)), (2, .ref (adG gM 0)), (3, .int (nI (6 * t)))] → W p l e room_1 s m #[Value.ref b] below meth c H locs 291 6240 Q (F0 m 1479 ls [])) : W p l e room_1 s m #[Value.ref b] below meth c H locs 291 6240 Q (F0 m 521 ls []) := by
  obtain ⟨hx, hb, hml, hown, hts, hr, hlk, hK, hZ⟩ := id CX
  have hbA : ¬ bA s.heap.size b := Nat.not_le.mpr hbl
  have hi1 : vp_in (nI (6 * t) + 1) L := by rw [show (1 : Int32) = nI 1 from rfl, nI_add]; exact vp_in_nI (by omega) (by omega)
  obtain ⟨qx, qm, hx1, hm1, he, hI2⟩ := op_feeding hI (xs (nI (6 * t) + 1).toNatClampNeg)
  refine lv_aload_n hx hb dL_law_521 rfl (lv_at hl 1 rfl) ?_
  refine lv_aload_n hx hb dL_law_522 rfl (lv_at hl 0 rfl) ?_
  refine lv_iload_n hx hb dL_law_523 rfl (lv_at hl 3 rfl) ?_
  refine lv_iconst (v := 1) hx hb dL_law_524 (by decide) ?_
  refine lv_iadd hx hb dL_law_525 ?_
  refine va_sld hx hb hX hbl hbA hS hi1 dL_law_526 ?_
  refine law_ci (As := [.int (xs (nI (6 * t) + 1).toNatClampNeg)]) (rest := []) CX ca_X9_feeding (ctX9_feeding (xs (nI (6 * t) + 1).toNatClampNeg) hx1) cf_9 sx_0 kx_0 tw_558 ⟨Nat.le_of_ble_eq_true rfl, Nat.le_of_ble_eq_true rfl⟩ rfl hl.1 (Nat.le_of_ble_eq_true rfl) ⟨Nat.le_of_ble_eq_true rfl, Nat.le_of_ble_eq_true rfl⟩ hP hP2 hS hAX hd1 dL_law_527 (fun H locs hP hP2 hS => ?_)
  refine lv_aload_n hx hb dL_law_530 rfl (lv_at hl 2 rfl) ?_
  refine lv_aload_n hx hb dL_law_531 rfl (lv_at hl 0 rfl) ?_
  refine lv_iload_n hx hb dL_law_532 rfl (lv_at hl 3 rfl) ?_
  refine lv_iconst (v := 1) hx hb dL_law_533 (by decide) ?_
  refine lv_iadd hx hb dL_law_534 ?_
  refine va_sld hx hb hX hbl hbA hS hi1 dL_law_535 ?_
  refine law_ci (As := [.int (xs (nI (6 * t) + 1).toNatClampNeg)]) (rest := [.int qx.2]) CM ca_X10_feeding (ctX10_feeding (xs (nI (6 * t) + 1).toNatClampNeg) hm1) cf_10 sm_0 km_0 tw_563 ⟨Nat.le_of_ble_eq_true rfl, Nat.le_of_ble_eq_true rfl⟩ rfl hl.1 (Nat.le_of_ble_eq_true rfl) ⟨Nat.le_of_ble_eq_true rfl, Nat.le_of_ble_eq_true rfl⟩ hP2 hP hS hAM hd2 dL_law_536 (fun H locs hP2 hP hS => ?_)
  refine lv_icmp_eq (tgt := 1479) hx hb dL_law_539 (by decide) (fun _ => ?_) (fun c_ => absurd he c_)
  exact hk _ _ H locs ls hI2 hP hP2 hS hl
set_option maxRecDepth 100000 in
set_option maxHeartbeats 4000000 in
theorem lc_dig {p : Program} {l : Launch} {e : Env} {s : State} {m : MethodId} {below : List Frame} {meth : Method} {c : Code} {gX gM : Gw} {b L t : Nat} {xs : Nat → Int32} (hL : L ≤ 3072) (ht : 6 * t + 6 ≤ L) (hX : va_X b L xs s s.heap) (hbl : b < s.heap.size) (CX : Cx wkX gX p s m #[Value.ref b] meth c cL_law 4 RL ret) (CM : Cx wkM gM p s m #[Value.ref b] meth c cL_law 4 RL ret) (hAX : ∀ q, AS wkX gX q → s.heap.size ≤ q) (hAM : ∀ q, AS wkM gM q → s.heap.size ≤ q) (hd1 : ∀ q, AS wkX gX q → ¬ AS wkM gM q) (hd2 : ∀ q, AS wkM gM q → ¬ AS wkX gX q) {σx σm : Sto} (hI : Inv σx σm) {H : Heap} {locs : List Loc} {ls : Array Slot} (hP : wS wkX gX σx H) (hP2 : wS wkM gM σm H) (hS : va_S (bA s.heap.size) s.heap H locs) (hl : lv_has ls 4 [(0, .ref b), (1, .ref (adG gX 0)), (2, .ref (adG gM 0)), (3, .int (nI (6 * t)))]) {Q : State → Prop} (hk : ∀ (σx σm : Sto) (H : Heap) (locs : List Loc) (ls : Array Slot), Inv σx σm → wS wkX gX σx H → wS wkM gM σm H → va_S (bA s.heap.size) s.heap H locs → lv_has ls 4 [(0, .ref b), (1, .ref (adG gX 0)), (2, .ref (adG gM 0)), (3, .int (nI (6 * t)))] → W p l e room_1 s m #[Value.ref b] below meth c H locs 291 6240 Q (F0 m 1479 ls [])) : W p l e room_1 s m #[Value.ref b] below meth c H locs 291 6240 Q (F0 m 544 ls []) := by
  obtain ⟨hx, hb, hml, hown, hts, hr, hlk, hK, hZ⟩ := id CX
  have hbA : ¬ bA s.heap.size b := Nat.not_le.mpr hbl
  have hi1 : vp_in (nI (6 * t) + 1) L := by rw [show (1 : Int32) = nI 1 from rfl, nI_add]; exact vp_in_nI (by omega) (by omega)
  obtain ⟨qx, qm, hx1, hm1, he, hI2⟩ := op_dig hI (xs (nI (6 * t) + 1).toNatClampNeg)
  refine lv_aload_n hx hb dL_law_544 rfl (lv_at hl 1 rfl) ?_
  refine lv_aload_n hx hb dL_law_545 rfl (lv_at hl 0 rfl) ?_
  refine lv_iload_n hx hb dL_law_546 rfl (lv_at hl 3 rfl) ?_
  refine lv_iconst (v := 1) hx hb dL_law_547 (by decide) ?_
  refine lv_iadd hx hb dL_law_548 ?_
  refine va_sld hx hb hX hbl hbA hS hi1 dL_law_549 ?_
  refine law_ci (As := [.int (xs (nI (6 * t) + 1).toNatClampNeg)]) (rest := []) CX ca_X9_dig (ctX9_dig (xs (nI (6 * t) + 1).toNatClampNeg) hx1) cf_9 sx_0 kx_0 tw_568 ⟨Nat.le_of_ble_eq_true rfl, Nat.le_of_ble_eq_true rfl⟩ rfl hl.1 (Nat.le_of_ble_eq_true rfl) ⟨Nat.le_of_ble_eq_true rfl, Nat.le_of_ble_eq_true rfl⟩ hP hP2 hS hAX hd1 dL_law_550 (fun H locs hP hP2 hS => ?_)
  refine lv_aload_n hx hb dL_law_553 rfl (lv_at hl 2 rfl) ?_
  refine lv_aload_n hx hb dL_law_554 rfl (lv_at hl 0 rfl) ?_
  refine lv_iload_n hx hb dL_law_555 rfl (lv_at hl 3 rfl) ?_
  refine lv_iconst (v := 1) hx hb dL_law_556 (by decide) ?_
  refine lv_iadd hx hb dL_law_557 ?_
  refine va_sld hx hb hX hbl hbA hS hi1 dL_law_558 ?_
  refine law_ci (As := [.int (xs (nI (6 * t) + 1).toNatClampNeg)]) (rest := [.int qx.2]) CM ca_X10_dig (ctX10_dig (xs (nI (6 * t) + 1).toNatClampNeg) hm1) cf_10 sm_0 km_0 tw_572 ⟨Nat.le_of_ble_eq_true rfl, Nat.le_of_ble_eq_true rfl⟩ rfl hl.1 (Nat.le_of_ble_eq_true rfl) ⟨Nat.le_of_ble_eq_true rfl, Nat.le_of_ble_eq_true rfl⟩ hP2 hP hS hAM hd2 dL_law_559 (fun H locs hP2 hP hS => ?_)
  refine lv_icmp_eq (tgt := 1479) hx hb dL_law_562 (by decide) (fun _ => ?_) (fun c_ => absurd he c_)
  exact hk _ _ H locs ls hI2 hP hP2 hS hl
set_option maxRecDepth 100000 in
set_option maxHeartbeats 4000000 in
theorem lc_thing {p : Program} {l : Launch} {e : Env} {s : State} {m : MethodId} {below : List Frame} {meth : Method} {c : Code} {gX gM : Gw} {b L t : Nat} {xs : Nat → Int32} (hL : L ≤ 3072) (ht : 6 * t + 6 ≤ L) (hX : va_X b L xs s s.heap) (hbl : b < s.heap.size) (CX : Cx wkX gX p s m #[Value.ref b] meth c cL_law 4 RL ret) (CM : Cx wkM gM p s m #[Value.ref b] meth c cL_law 4 RL ret) (hAX : ∀ q, AS wkX gX q → s.heap.size ≤ q) (hAM : ∀ q, AS wkM gM q → s.heap.size ≤ q) (hd1 : ∀ q, AS wkX gX q → ¬ AS wkM gM q) (hd2 : ∀ q, AS wkM gM q → ¬ AS wkX gX q) {σx σm : Sto} (hI : Inv σx σm) {H : Heap} {locs : List Loc} {ls : Array Slot} (hP : wS wkX gX σx H) (hP2 : wS wkM gM σm H) (hS : va_S (bA s.heap.size) s.heap H locs) (hl : lv_has ls 4 [(0, .ref b), (1, .ref (adG gX 0)), (2, .ref (adG gM 0)), (3, .int (nI (6 * t)))]) {Q : State → Prop} (hk : ∀ (σx σm : Sto) (H : Heap) (locs : List Loc) (ls : Array Slot), Inv σx σm → wS wkX gX σx H → wS wkM gM σm H → va_S (bA s.heap.size) s.heap H locs → lv_has ls 4 [(0, .ref b), (1, .ref (adG gX 0)), (2, .ref (adG gM 0)), (3, .int (nI (6 * t)))] → W p l e room_1 s m #[Value.ref b] below meth c H locs 291 6240 Q (F0 m 1479 ls [])) : W p l e room_1 s m #[Value.ref b] below meth c H locs 291 6240 Q (F0 m 567 ls []) := by
  obtain ⟨hx, hb, hml, hown, hts, hr, hlk, hK, hZ⟩ := id CX
  have hbA : ¬ bA s.heap.size b := Nat.not_le.mpr hbl
  have hi1 : vp_in (nI (6 * t) + 1) L := by rw [show (1 : Int32) = nI 1 from rfl, nI_add]; exact vp_in_nI (by omega) (by omega)
  have hi2 : vp_in (nI (6 * t) + 2) L := by rw [show (2 : Int32) = nI 2 from rfl, nI_add]; exact vp_in_nI (by omega) (by omega)
  obtain ⟨r, hx1, hm1⟩ := op_thing hI (xs (nI (6 * t) + 1).toNatClampNeg) (xs (nI (6 * t) + 2).toNatClampNeg)
  refine lv_aload_n hx hb dL_law_567 rfl (lv_at hl 1 rfl) ?_
  refine lv_aload_n hx hb dL_law_568 rfl (lv_at hl 0 rfl) ?_
  refine lv_iload_n hx hb dL_law_569 rfl (lv_at hl 3 rfl) ?_
  refine lv_iconst (v := 1) hx hb dL_law_570 (by decide) ?_
  refine lv_iadd hx hb dL_law_571 ?_
  refine va_sld hx hb hX hbl hbA hS hi1 dL_law_572 ?_
  refine lv_aload_n hx hb dL_law_573 rfl (lv_at hl 0 rfl) ?_
  refine lv_iload_n hx hb dL_law_574 rfl (lv_at hl 3 rfl) ?_
  refine lv_iconst (v := 2) hx hb dL_law_575 (by decide) ?_
  refine lv_iadd hx hb dL_law_576 ?_
  refine va_sld hx hb hX hbl hbA hS hi2 dL_law_577 ?_
  refine law_ci (As := [.int (xs (nI (6 * t) + 1).toNatClampNeg), .int (xs (nI (6 * t) + 2).toNatClampNeg)]) (rest := []) CX ca_X9_thing (ctX9_thing (xs (nI (6 * t) + 1).toNatClampNeg) (xs (nI (6 * t) + 2).toNatClampNeg) hx1) cf_9 sx_0 kx_0 tw_576 ⟨Nat.le_of_ble_eq_true rfl, Nat.le_of_ble_eq_true rfl⟩ rfl hl.1 (Nat.le_of_ble_eq_true rfl) ⟨Nat.le_of_ble_eq_true rfl, Nat.le_of_ble_eq_true rfl⟩ hP hP2 hS hAX hd1 dL_law_578 (fun H locs hP hP2 hS => ?_)
  refine lv_aload_n hx hb dL_law_581 rfl (lv_at hl 2 rfl) ?_
  refine lv_aload_n hx hb dL_law_582 rfl (lv_at hl 0 rfl) ?_
  refine lv_iload_n hx hb dL_law_583 rfl (lv_at hl 3 rfl) ?_
  refine lv_iconst (v := 1) hx hb dL_law_584 (by decide) ?_
  refine lv_iadd hx hb dL_law_585 ?_
  refine va_sld hx hb hX hbl hbA hS hi1 dL_law_586 ?_
  refine lv_aload_n hx hb dL_law_587 rfl (lv_at hl 0 rfl) ?_
  refine lv_iload_n hx hb dL_law_588 rfl (lv_at hl 3 rfl) ?_
  refine lv_iconst (v := 2) hx hb dL_law_589 (by decide) ?_
  refine lv_iadd hx hb dL_law_590 ?_
  refine va_sld hx hb hX hbl hbA hS hi2 dL_law_591 ?_
  refine law_ci (As := [.int (xs (nI (6 * t) + 1).toNatClampNeg), .int (xs (nI (6 * t) + 2).toNatClampNeg)]) (rest := [.int r]) CM ca_X10_thing (ctX10_thing (xs (nI (6 * t) + 1).toNatClampNeg) (xs (nI (6 * t) + 2).toNatClampNeg) hm1) cf_10 sm_0 km_0 tw_583 ⟨Nat.le_of_ble_eq_true rfl, Nat.le_of_ble_eq_true rfl⟩ rfl hl.1 (Nat.le_of_ble_eq_true rfl) ⟨Nat.le_of_ble_eq_true rfl, Nat.le_of_ble_eq_true rfl⟩ hP2 hP hS hAM hd2 dL_law_592 (fun H locs hP2 hP hS => ?_)
  refine lv_icmp_eq (tgt := 1479) hx hb dL_law_595 (by decide) (fun _ => ?_) (fun c_ => absurd rfl c_)
  exact hk _ _ H locs ls hI hP hP2 hS hl
set_option maxRecDepth 100000 in
set_option maxHeartbeats 4000000 in
theorem lc_roomOf {p : Program} {l : Launch} {e : Env} {s : State} {m : MethodId} {below : List Frame} {meth : Method} {c : Code} {gX gM : Gw} {b L t : Nat} {xs : Nat → Int32} (hL : L ≤ 3072) (ht : 6 * t + 6 ≤ L) (hX : va_X b L xs s s.heap) (hbl : b < s.heap.size) (CX : Cx wkX gX p s m #[Value.ref b] meth c cL_law 4 RL ret) (CM : Cx wkM gM p s m #[Value.ref b] meth c cL_law 4 RL ret) (hAX : ∀ q, AS wkX gX q → s.heap.size ≤ q) (hAM : ∀ q, AS wkM gM q → s.heap.size ≤ q) (hd1 : ∀ q, AS wkX gX q → ¬ AS wkM gM q) (hd2 : ∀ q, AS wkM gM q → ¬ AS wkX gX q) {σx σm : Sto} (hI : Inv σx σm) {H : Heap} {locs : List Loc} {ls : Array Slot} (hP : wS wkX gX σx H) (hP2 : wS wkM gM σm H) (hS : va_S (bA s.heap.size) s.heap H locs) (hl : lv_has ls 4 [(0, .ref b), (1, .ref (adG gX 0)), (2, .ref (adG gM 0)), (3, .int (nI (6 * t)))]) {Q : State → Prop} (hk : ∀ (σx σm : Sto) (H : Heap) (locs : List Loc) (ls : Array Slot), Inv σx σm → wS wkX gX σx H → wS wkM gM σm H → va_S (bA s.heap.size) s.heap H locs → lv_has ls 4 [(0, .ref b), (1, .ref (adG gX 0)), (2, .ref (adG gM 0)), (3, .int (nI (6 * t)))] → W p l e room_1 s m #[Value.ref b] below meth c H locs 291 6240 Q (F0 m 1479 ls [])) : W p l e room_1 s m #[Value.ref b] below meth c H locs 291 6240 Q (F0 m 600 ls []) := by
  obtain ⟨hx, hb, hml, hown, hts, hr, hlk, hK, hZ⟩ := id CX
  have hbA : ¬ bA s.heap.size b := Nat.not_le.mpr hbl
  have hi1 : vp_in (nI (6 * t) + 1) L := by rw [show (1 : Int32) = nI 1 from rfl, nI_add]; exact vp_in_nI (by omega) (by omega)
  have hi2 : vp_in (nI (6 * t) + 2) L := by rw [show (2 : Int32) = nI 2 from rfl, nI_add]; exact vp_in_nI (by omega) (by omega)
  obtain ⟨r, hx1, hm1⟩ := op_roomOf hI (xs (nI (6 * t) + 1).toNatClampNeg) (xs (nI (6 * t) + 2).toNatClampNeg)
  refine lv_aload_n hx hb dL_law_600 rfl (lv_at hl 1 rfl) ?_
  refine lv_aload_n hx hb dL_law_601 rfl (lv_at hl 0 rfl) ?_
  refine lv_iload_n hx hb dL_law_602 rfl (lv_at hl 3 rfl) ?_
  refine lv_iconst (v := 1) hx hb dL_law_603 (by decide) ?_
  refine lv_iadd hx hb dL_law_604 ?_
  refine va_sld hx hb hX hbl hbA hS hi1 dL_law_605 ?_
  refine lv_aload_n hx hb dL_law_606 rfl (lv_at hl 0 rfl) ?_
  refine lv_iload_n hx hb dL_law_607 rfl (lv_at hl 3 rfl) ?_
  refine lv_iconst (v := 2) hx hb dL_law_608 (by decide) ?_
  refine lv_iadd hx hb dL_law_609 ?_
  refine va_sld hx hb hX hbl hbA hS hi2 dL_law_610 ?_
  refine law_ci (As := [.int (xs (nI (6 * t) + 1).toNatClampNeg), .int (xs (nI (6 * t) + 2).toNatClampNeg)]) (rest := []) CX ca_X9_roomOf (ctX9_roomOf (xs (nI (6 * t) + 1).toNatClampNeg) (xs (nI (6 * t) + 2).toNatClampNeg) hx1) cf_9 sx_0 kx_0 tw_587 ⟨Nat.le_of_ble_eq_true rfl, Nat.le_of_ble_eq_true rfl⟩ rfl hl.1 (Nat.le_of_ble_eq_true rfl) ⟨Nat.le_of_ble_eq_true rfl, Nat.le_of_ble_eq_true rfl⟩ hP hP2 hS hAX hd1 dL_law_611 (fun H locs hP hP2 hS => ?_)
  refine lv_aload_n hx hb dL_law_614 rfl (lv_at hl 2 rfl) ?_
  refine lv_aload_n hx hb dL_law_615 rfl (lv_at hl 0 rfl) ?_
  refine lv_iload_n hx hb dL_law_616 rfl (lv_at hl 3 rfl) ?_
  refine lv_iconst (v := 1) hx hb dL_law_617 (by decide) ?_
  refine lv_iadd hx hb dL_law_618 ?_
  refine va_sld hx hb hX hbl hbA hS hi1 dL_law_619 ?_
  refine lv_aload_n hx hb dL_law_620 rfl (lv_at hl 0 rfl) ?_
  refine lv_iload_n hx hb dL_law_621 rfl (lv_at hl 3 rfl) ?_
  refine lv_iconst (v := 2) hx hb dL_law_622 (by decide) ?_
  refine lv_iadd hx hb dL_law_623 ?_
  refine va_sld hx hb hX hbl hbA hS hi2 dL_law_624 ?_
  refine law_ci (As := [.int (xs (nI (6 * t) + 1).toNatClampNeg), .int (xs (nI (6 * t) + 2).toNatClampNeg)]) (rest := [.int r]) CM ca_X10_roomOf (ctX10_roomOf (xs (nI (6 * t) + 1).toNatClampNeg) (xs (nI (6 * t) + 2).toNatClampNeg) hm1) cf_10 sm_0 km_0 tw_596 ⟨Nat.le_of_ble_eq_true rfl, Nat.le_of_ble_eq_true rfl⟩ rfl hl.1 (Nat.le_of_ble_eq_true rfl) ⟨Nat.le_of_ble_eq_true rfl, Nat.le_of_ble_eq_true rfl⟩ hP2 hP hS hAM hd2 dL_law_625 (fun H locs hP2 hP hS => ?_)
  refine lv_icmp_eq (tgt := 1479) hx hb dL_law_628 (by decide) (fun _ => ?_) (fun c_ => absurd rfl c_)
  exact hk _ _ H locs ls hI hP hP2 hS hl
set_option maxRecDepth 100000 in
set_option maxHeartbeats 4000000 in
theorem lc_stand {p : Program} {l : Launch} {e : Env} {s : State} {m : MethodId} {below : List Frame} {meth : Method} {c : Code} {gX gM : Gw} {b L t : Nat} {xs : Nat → Int32} (hL : L ≤ 3072) (ht : 6 * t + 6 ≤ L) (hX : va_X b L xs s s.heap) (hbl : b < s.heap.size) (CX : Cx wkX gX p s m #[Value.ref b] meth c cL_law 4 RL ret) (CM : Cx wkM gM p s m #[Value.ref b] meth c cL_law 4 RL ret) (hAX : ∀ q, AS wkX gX q → s.heap.size ≤ q) (hAM : ∀ q, AS wkM gM q → s.heap.size ≤ q) (hd1 : ∀ q, AS wkX gX q → ¬ AS wkM gM q) (hd2 : ∀ q, AS wkM gM q → ¬ AS wkX gX q) {σx σm : Sto} (hI : Inv σx σm) {H : Heap} {locs : List Loc} {ls : Array Slot} (hP : wS wkX gX σx H) (hP2 : wS wkM gM σm H) (hS : va_S (bA s.heap.size) s.heap H locs) (hl : lv_has ls 4 [(0, .ref b), (1, .ref (adG gX 0)), (2, .ref (adG gM 0)), (3, .int (nI (6 * t)))]) {Q : State → Prop} (hk : ∀ (σx σm : Sto) (H : Heap) (locs : List Loc) (ls : Array Slot), Inv σx σm → wS wkX gX σx H → wS wkM gM σm H → va_S (bA s.heap.size) s.heap H locs → lv_has ls 4 [(0, .ref b), (1, .ref (adG gX 0)), (2, .ref (adG gM 0)), (3, .int (nI (6 * t)))] → W p l e room_1 s m #[Value.ref b] below meth c H locs 291 6240 Q (F0 m 1479 ls [])) : W p l e room_1 s m #[Value.ref b] below meth c H locs 291 6240 Q (F0 m 633 ls []) := by
  obtain ⟨hx, hb, hml, hown, hts, hr, hlk, hK, hZ⟩ := id CX
  have hbA : ¬ bA s.heap.size b := Nat.not_le.mpr hbl
  have hi1 : vp_in (nI (6 * t) + 1) L := by rw [show (1 : Int32) = nI 1 from rfl, nI_add]; exact vp_in_nI (by omega) (by omega)
  obtain ⟨r, hx1, hm1⟩ := op_stand hI (xs (nI (6 * t) + 1).toNatClampNeg)
  refine lv_aload_n hx hb dL_law_633 rfl (lv_at hl 1 rfl) ?_
  refine lv_aload_n hx hb dL_law_634 rfl (lv_at hl 0 rfl) ?_
  refine lv_iload_n hx hb dL_law_635 rfl (lv_at hl 3 rfl) ?_
  refine lv_iconst (v := 1) hx hb dL_law_636 (by decide) ?_
  refine lv_iadd hx hb dL_law_637 ?_
  refine va_sld hx hb hX hbl hbA hS hi1 dL_law_638 ?_
  refine law_ci (As := [.int (xs (nI (6 * t) + 1).toNatClampNeg)]) (rest := []) CX ca_X9_stand (ctX9_stand (xs (nI (6 * t) + 1).toNatClampNeg) hx1) cf_9 sx_0 kx_0 tw_604 ⟨Nat.le_of_ble_eq_true rfl, Nat.le_of_ble_eq_true rfl⟩ rfl hl.1 (Nat.le_of_ble_eq_true rfl) ⟨Nat.le_of_ble_eq_true rfl, Nat.le_of_ble_eq_true rfl⟩ hP hP2 hS hAX hd1 dL_law_639 (fun H locs hP hP2 hS => ?_)
  refine lv_aload_n hx hb dL_law_642 rfl (lv_at hl 2 rfl) ?_
  refine lv_aload_n hx hb dL_law_643 rfl (lv_at hl 0 rfl) ?_
  refine lv_iload_n hx hb dL_law_644 rfl (lv_at hl 3 rfl) ?_
  refine lv_iconst (v := 1) hx hb dL_law_645 (by decide) ?_
  refine lv_iadd hx hb dL_law_646 ?_
  refine va_sld hx hb hX hbl hbA hS hi1 dL_law_647 ?_
  refine law_ci (As := [.int (xs (nI (6 * t) + 1).toNatClampNeg)]) (rest := [.int r]) CM ca_X10_stand (ctX10_stand (xs (nI (6 * t) + 1).toNatClampNeg) hm1) cf_10 sm_0 km_0 tw_613 ⟨Nat.le_of_ble_eq_true rfl, Nat.le_of_ble_eq_true rfl⟩ rfl hl.1 (Nat.le_of_ble_eq_true rfl) ⟨Nat.le_of_ble_eq_true rfl, Nat.le_of_ble_eq_true rfl⟩ hP2 hP hS hAM hd2 dL_law_648 (fun H locs hP2 hP hS => ?_)
  refine lv_icmp_eq (tgt := 1479) hx hb dL_law_651 (by decide) (fun _ => ?_) (fun c_ => absurd rfl c_)
  exact hk _ _ H locs ls hI hP hP2 hS hl
set_option maxRecDepth 100000 in
set_option maxHeartbeats 4000000 in
theorem lc_ahead {p : Program} {l : Launch} {e : Env} {s : State} {m : MethodId} {below : List Frame} {meth : Method} {c : Code} {gX gM : Gw} {b L t : Nat} {xs : Nat → Int32} (hL : L ≤ 3072) (ht : 6 * t + 6 ≤ L) (hX : va_X b L xs s s.heap) (hbl : b < s.heap.size) (CX : Cx wkX gX p s m #[Value.ref b] meth c cL_law 4 RL ret) (CM : Cx wkM gM p s m #[Value.ref b] meth c cL_law 4 RL ret) (hAX : ∀ q, AS wkX gX q → s.heap.size ≤ q) (hAM : ∀ q, AS wkM gM q → s.heap.size ≤ q) (hd1 : ∀ q, AS wkX gX q → ¬ AS wkM gM q) (hd2 : ∀ q, AS wkM gM q → ¬ AS wkX gX q) {σx σm : Sto} (hI : Inv σx σm) {H : Heap} {locs : List Loc} {ls : Array Slot} (hP : wS wkX gX σx H) (hP2 : wS wkM gM σm H) (hS : va_S (bA s.heap.size) s.heap H locs) (hl : lv_has ls 4 [(0, .ref b), (1, .ref (adG gX 0)), (2, .ref (adG gM 0)), (3, .int (nI (6 * t)))]) {Q : State → Prop} (hk : ∀ (σx σm : Sto) (H : Heap) (locs : List Loc) (ls : Array Slot), Inv σx σm → wS wkX gX σx H → wS wkM gM σm H → va_S (bA s.heap.size) s.heap H locs → lv_has ls 4 [(0, .ref b), (1, .ref (adG gX 0)), (2, .ref (adG gM 0)), (3, .int (nI (6 * t)))] → W p l e room_1 s m #[Value.ref b] below meth c H locs 291 6240 Q (F0 m 1479 ls [])) : W p l e room_1 s m #[Value.ref b] below meth c H locs 291 6240 Q (F0 m 656 ls []) := by
  obtain ⟨hx, hb, hml, hown, hts, hr, hlk, hK, hZ⟩ := id CX
  have hbA : ¬ bA s.heap.size b := Nat.not_le.mpr hbl
  have hi1 : vp_in (nI (6 * t) + 1) L := by rw [show (1 : Int32) = nI 1 from rfl, nI_add]; exact vp_in_nI (by omega) (by omega)
  have hi2 : vp_in (nI (6 * t) + 2) L := by rw [show (2 : Int32) = nI 2 from rfl, nI_add]; exact vp_in_nI (by omega) (by omega)
  obtain ⟨qx, qm, hx1, hm1, he, hI2⟩ := op_ahead hI (xs (nI (6 * t) + 1).toNatClampNeg) (xs (nI (6 * t) + 2).toNatClampNeg)
  refine lv_aload_n hx hb dL_law_656 rfl (lv_at hl 1 rfl) ?_
  refine lv_aload_n hx hb dL_law_657 rfl (lv_at hl 0 rfl) ?_
  refine lv_iload_n hx hb dL_law_658 rfl (lv_at hl 3 rfl) ?_
  refine lv_iconst (v := 1) hx hb dL_law_659 (by decide) ?_
  refine lv_iadd hx hb dL_law_660 ?_
  refine va_sld hx hb hX hbl hbA hS hi1 dL_law_661 ?_
  refine lv_aload_n hx hb dL_law_662 rfl (lv_at hl 0 rfl) ?_
  refine lv_iload_n hx hb dL_law_663 rfl (lv_at hl 3 rfl) ?_
  refine lv_iconst (v := 2) hx hb dL_law_664 (by decide) ?_
  refine lv_iadd hx hb dL_law_665 ?_
  refine va_sld hx hb hX hbl hbA hS hi2 dL_law_666 ?_
  refine law_ci (As := [.int (xs (nI (6 * t) + 1).toNatClampNeg), .int (xs (nI (6 * t) + 2).toNatClampNeg)]) (rest := []) CX ca_X9_ahead (ctX9_ahead (xs (nI (6 * t) + 1).toNatClampNeg) (xs (nI (6 * t) + 2).toNatClampNeg) hx1) cf_9 sx_0 kx_0 tw_617 ⟨Nat.le_of_ble_eq_true rfl, Nat.le_of_ble_eq_true rfl⟩ rfl hl.1 (Nat.le_of_ble_eq_true rfl) ⟨Nat.le_of_ble_eq_true rfl, Nat.le_of_ble_eq_true rfl⟩ hP hP2 hS hAX hd1 dL_law_667 (fun H locs hP hP2 hS => ?_)
  refine lv_aload_n hx hb dL_law_670 rfl (lv_at hl 2 rfl) ?_
  refine lv_aload_n hx hb dL_law_671 rfl (lv_at hl 0 rfl) ?_
  refine lv_iload_n hx hb dL_law_672 rfl (lv_at hl 3 rfl) ?_
  refine lv_iconst (v := 1) hx hb dL_law_673 (by decide) ?_
  refine lv_iadd hx hb dL_law_674 ?_
  refine va_sld hx hb hX hbl hbA hS hi1 dL_law_675 ?_
  refine lv_aload_n hx hb dL_law_676 rfl (lv_at hl 0 rfl) ?_
  refine lv_iload_n hx hb dL_law_677 rfl (lv_at hl 3 rfl) ?_
  refine lv_iconst (v := 2) hx hb dL_law_678 (by decide) ?_
  refine lv_iadd hx hb dL_law_679 ?_
  refine va_sld hx hb hX hbl hbA hS hi2 dL_law_680 ?_
  refine law_ci (As := [.int (xs (nI (6 * t) + 1).toNatClampNeg), .int (xs (nI (6 * t) + 2).toNatClampNeg)]) (rest := [.int qx.2]) CM ca_X10_ahead (ctX10_ahead (xs (nI (6 * t) + 1).toNatClampNeg) (xs (nI (6 * t) + 2).toNatClampNeg) hm1) cf_10 sm_0 km_0 tw_645 ⟨Nat.le_of_ble_eq_true rfl, Nat.le_of_ble_eq_true rfl⟩ rfl hl.1 (Nat.le_of_ble_eq_true rfl) ⟨Nat.le_of_ble_eq_true rfl, Nat.le_of_ble_eq_true rfl⟩ hP2 hP hS hAM hd2 dL_law_681 (fun H locs hP2 hP hS => ?_)
  refine lv_icmp_eq (tgt := 1479) hx hb dL_law_684 (by decide) (fun _ => ?_) (fun c_ => absurd he c_)
  exact hk _ _ H locs ls hI2 hP hP2 hS hl
set_option maxRecDepth 100000 in
set_option maxHeartbeats 4000000 in
theorem lc_lava {p : Program} {l : Launch} {e : Env} {s : State} {m : MethodId} {below : List Frame} {meth : Method} {c : Code} {gX gM : Gw} {b L t : Nat} {xs : Nat → Int32} (hL : L ≤ 3072) (ht : 6 * t + 6 ≤ L) (hX : va_X b L xs s s.heap) (hbl : b < s.heap.size) (CX : Cx wkX gX p s m #[Value.ref b] meth c cL_law 4 RL ret) (CM : Cx wkM gM p s m #[Value.ref b] meth c cL_law 4 RL ret) (hAX : ∀ q, AS wkX gX q → s.heap.size ≤ q) (hAM : ∀ q, AS wkM gM q → s.heap.size ≤ q) (hd1 : ∀ q, AS wkX gX q → ¬ AS wkM gM q) (hd2 : ∀ q, AS wkM gM q → ¬ AS wkX gX q) {σx σm : Sto} (hI : Inv σx σm) {H : Heap} {locs : List Loc} {ls : Array Slot} (hP : wS wkX gX σx H) (hP2 : wS wkM gM σm H) (hS : va_S (bA s.heap.size) s.heap H locs) (hl : lv_has ls 4 [(0, .ref b), (1, .ref (adG gX 0)), (2, .ref (adG gM 0)), (3, .int (nI (6 * t)))]) {Q : State → Prop} (hk : ∀ (σx σm : Sto) (H : Heap) (locs : List Loc) (ls : Array Slot), Inv σx σm → wS wkX gX σx H → wS wkM gM σm H → va_S (bA s.heap.size) s.heap H locs → lv_has ls 4 [(0, .ref b), (1, .ref (adG gX 0)), (2, .ref (adG gM 0)), (3, .int (nI (6 * t)))] → W p l e room_1 s m #[Value.ref b] below meth c H locs 291 6240 Q (F0 m 1479 ls [])) : W p l e room_1 s m #[Value.ref b] below meth c H locs 291 6240 Q (F0 m 689 ls []) := by
  obtain ⟨hx, hb, hml, hown, hts, hr, hlk, hK, hZ⟩ := id CX
  have hbA : ¬ bA s.heap.size b := Nat.not_le.mpr hbl
  have hi1 : vp_in (nI (6 * t) + 1) L := by rw [show (1 : Int32) = nI 1 from rfl, nI_add]; exact vp_in_nI (by omega) (by omega)
  have hi2 : vp_in (nI (6 * t) + 2) L := by rw [show (2 : Int32) = nI 2 from rfl, nI_add]; exact vp_in_nI (by omega) (by omega)
  obtain ⟨qx, qm, hx1, hm1, he, hI2⟩ := op_lava hI (xs (nI (6 * t) + 1).toNatClampNeg) (xs (nI (6 * t) + 2).toNatClampNeg)
  refine lv_aload_n hx hb dL_law_689 rfl (lv_at hl 1 rfl) ?_
  refine lv_aload_n hx hb dL_law_690 rfl (lv_at hl 0 rfl) ?_
  refine lv_iload_n hx hb dL_law_691 rfl (lv_at hl 3 rfl) ?_
  refine lv_iconst (v := 1) hx hb dL_law_692 (by decide) ?_
  refine lv_iadd hx hb dL_law_693 ?_
  refine va_sld hx hb hX hbl hbA hS hi1 dL_law_694 ?_
  refine lv_aload_n hx hb dL_law_695 rfl (lv_at hl 0 rfl) ?_
  refine lv_iload_n hx hb dL_law_696 rfl (lv_at hl 3 rfl) ?_
  refine lv_iconst (v := 2) hx hb dL_law_697 (by decide) ?_
  refine lv_iadd hx hb dL_law_698 ?_
  refine va_sld hx hb hX hbl hbA hS hi2 dL_law_699 ?_
  refine law_ci (As := [.int (xs (nI (6 * t) + 1).toNatClampNeg), .int (xs (nI (6 * t) + 2).toNatClampNeg)]) (rest := []) CX ca_X9_lava (ctX9_lava (xs (nI (6 * t) + 1).toNatClampNeg) (xs (nI (6 * t) + 2).toNatClampNeg) hx1) cf_9 sx_0 kx_0 tw_657 ⟨Nat.le_of_ble_eq_true rfl, Nat.le_of_ble_eq_true rfl⟩ rfl hl.1 (Nat.le_of_ble_eq_true rfl) ⟨Nat.le_of_ble_eq_true rfl, Nat.le_of_ble_eq_true rfl⟩ hP hP2 hS hAX hd1 dL_law_700 (fun H locs hP hP2 hS => ?_)
  refine lv_aload_n hx hb dL_law_703 rfl (lv_at hl 2 rfl) ?_
  refine lv_aload_n hx hb dL_law_704 rfl (lv_at hl 0 rfl) ?_
  refine lv_iload_n hx hb dL_law_705 rfl (lv_at hl 3 rfl) ?_
  refine lv_iconst (v := 1) hx hb dL_law_706 (by decide) ?_
  refine lv_iadd hx hb dL_law_707 ?_
  refine va_sld hx hb hX hbl hbA hS hi1 dL_law_708 ?_
  refine lv_aload_n hx hb dL_law_709 rfl (lv_at hl 0 rfl) ?_
  refine lv_iload_n hx hb dL_law_710 rfl (lv_at hl 3 rfl) ?_
  refine lv_iconst (v := 2) hx hb dL_law_711 (by decide) ?_
  refine lv_iadd hx hb dL_law_712 ?_
  refine va_sld hx hb hX hbl hbA hS hi2 dL_law_713 ?_
  refine law_ci (As := [.int (xs (nI (6 * t) + 1).toNatClampNeg), .int (xs (nI (6 * t) + 2).toNatClampNeg)]) (rest := [.int qx.2]) CM ca_X10_lava (ctX10_lava (xs (nI (6 * t) + 1).toNatClampNeg) (xs (nI (6 * t) + 2).toNatClampNeg) hm1) cf_10 sm_0 km_0 tw_669 ⟨Nat.le_of_ble_eq_true rfl, Nat.le_of_ble_eq_true rfl⟩ rfl hl.1 (Nat.le_of_ble_eq_true rfl) ⟨Nat.le_of_ble_eq_true rfl, Nat.le_of_ble_eq_true rfl⟩ hP2 hP hS hAM hd2 dL_law_714 (fun H locs hP2 hP hS => ?_)
  refine lv_icmp_eq (tgt := 1479) hx hb dL_law_717 (by decide) (fun _ => ?_) (fun c_ => absurd he c_)
  exact hk _ _ H locs ls hI2 hP hP2 hS hl
set_option maxRecDepth 100000 in
set_option maxHeartbeats 4000000 in
theorem lc_kept {p : Program} {l : Launch} {e : Env} {s : State} {m : MethodId} {below : List Frame} {meth : Method} {c : Code} {gX gM : Gw} {b L t : Nat} {xs : Nat → Int32} (hL : L ≤ 3072) (ht : 6 * t + 6 ≤ L) (hX : va_X b L xs s s.heap) (hbl : b < s.heap.size) (CX : Cx wkX gX p s m #[Value.ref b] meth c cL_law 4 RL ret) (CM : Cx wkM gM p s m #[Value.ref b] meth c cL_law 4 RL ret) (hAX : ∀ q, AS wkX gX q → s.heap.size ≤ q) (hAM : ∀ q, AS wkM gM q → s.heap.size ≤ q) (hd1 : ∀ q, AS wkX gX q → ¬ AS wkM gM q) (hd2 : ∀ q, AS wkM gM q → ¬ AS wkX gX q) {σx σm : Sto} (hI : Inv σx σm) {H : Heap} {locs : List Loc} {ls : Array Slot} (hP : wS wkX gX σx H) (hP2 : wS wkM gM σm H) (hS : va_S (bA s.heap.size) s.heap H locs) (hl : lv_has ls 4 [(0, .ref b), (1, .ref (adG gX 0)), (2, .ref (adG gM 0)), (3, .int (nI (6 * t)))]) {Q : State → Prop} (hk : ∀ (σx σm : Sto) (H : Heap) (locs : List Loc) (ls : Array Slot), Inv σx σm → wS wkX gX σx H → wS wkM gM σm H → va_S (bA s.heap.size) s.heap H locs → lv_has ls 4 [(0, .ref b), (1, .ref (adG gX 0)), (2, .ref (adG gM 0)), (3, .int (nI (6 * t)))] → W p l e room_1 s m #[Value.ref b] below meth c H locs 291 6240 Q (F0 m 1479 ls [])) : W p l e room_1 s m #[Value.ref b] below meth c H locs 291 6240 Q (F0 m 722 ls []) := by
  obtain ⟨hx, hb, hml, hown, hts, hr, hlk, hK, hZ⟩ := id CX
  have hbA : ¬ bA s.heap.size b := Nat.not_le.mpr hbl
  have hi1 : vp_in (nI (6 * t) + 1) L := by rw [show (1 : Int32) = nI 1 from rfl, nI_add]; exact vp_in_nI (by omega) (by omega)
  have hi2 : vp_in (nI (6 * t) + 2) L := by rw [show (2 : Int32) = nI 2 from rfl, nI_add]; exact vp_in_nI (by omega) (by omega)
  obtain ⟨qx, qm, hx1, hm1, he, hI2⟩ := op_kept hI (xs (nI (6 * t) + 1).toNatClampNeg) (xs (nI (6 * t) + 2).toNatClampNeg)
  refine lv_aload_n hx hb dL_law_722 rfl (lv_at hl 1 rfl) ?_
  refine lv_aload_n hx hb dL_law_723 rfl (lv_at hl 0 rfl) ?_
  refine lv_iload_n hx hb dL_law_724 rfl (lv_at hl 3 rfl) ?_
  refine lv_iconst (v := 1) hx hb dL_law_725 (by decide) ?_
  refine lv_iadd hx hb dL_law_726 ?_
  refine va_sld hx hb hX hbl hbA hS hi1 dL_law_727 ?_
  refine lv_aload_n hx hb dL_law_728 rfl (lv_at hl 0 rfl) ?_
  refine lv_iload_n hx hb dL_law_729 rfl (lv_at hl 3 rfl) ?_
  refine lv_iconst (v := 2) hx hb dL_law_730 (by decide) ?_
  refine lv_iadd hx hb dL_law_731 ?_
  refine va_sld hx hb hX hbl hbA hS hi2 dL_law_732 ?_
  refine law_ci (As := [.int (xs (nI (6 * t) + 1).toNatClampNeg), .int (xs (nI (6 * t) + 2).toNatClampNeg)]) (rest := []) CX ca_X9_kept (ctX9_kept (xs (nI (6 * t) + 1).toNatClampNeg) (xs (nI (6 * t) + 2).toNatClampNeg) hx1) cf_9 sx_0 kx_0 tw_673 ⟨Nat.le_of_ble_eq_true rfl, Nat.le_of_ble_eq_true rfl⟩ rfl hl.1 (Nat.le_of_ble_eq_true rfl) ⟨Nat.le_of_ble_eq_true rfl, Nat.le_of_ble_eq_true rfl⟩ hP hP2 hS hAX hd1 dL_law_733 (fun H locs hP hP2 hS => ?_)
  refine lv_aload_n hx hb dL_law_736 rfl (lv_at hl 2 rfl) ?_
  refine lv_aload_n hx hb dL_law_737 rfl (lv_at hl 0 rfl) ?_
  refine lv_iload_n hx hb dL_law_738 rfl (lv_at hl 3 rfl) ?_
  refine lv_iconst (v := 1) hx hb dL_law_739 (by decide) ?_
  refine lv_iadd hx hb dL_law_740 ?_
  refine va_sld hx hb hX hbl hbA hS hi1 dL_law_741 ?_
  refine lv_aload_n hx hb dL_law_742 rfl (lv_at hl 0 rfl) ?_
  refine lv_iload_n hx hb dL_law_743 rfl (lv_at hl 3 rfl) ?_
  refine lv_iconst (v := 2) hx hb dL_law_744 (by decide) ?_
  refine lv_iadd hx hb dL_law_745 ?_
  refine va_sld hx hb hX hbl hbA hS hi2 dL_law_746 ?_
  refine law_ci (As := [.int (xs (nI (6 * t) + 1).toNatClampNeg), .int (xs (nI (6 * t) + 2).toNatClampNeg)]) (rest := [.int qx.2]) CM ca_X10_kept (ctX10_kept (xs (nI (6 * t) + 1).toNatClampNeg) (xs (nI (6 * t) + 2).toNatClampNeg) hm1) cf_10 sm_0 km_0 tw_693 ⟨Nat.le_of_ble_eq_true rfl, Nat.le_of_ble_eq_true rfl⟩ rfl hl.1 (Nat.le_of_ble_eq_true rfl) ⟨Nat.le_of_ble_eq_true rfl, Nat.le_of_ble_eq_true rfl⟩ hP2 hP hS hAM hd2 dL_law_747 (fun H locs hP2 hP hS => ?_)
  refine lv_icmp_eq (tgt := 1479) hx hb dL_law_750 (by decide) (fun _ => ?_) (fun c_ => absurd he c_)
  exact hk _ _ H locs ls hI2 hP hP2 hS hl
set_option maxRecDepth 100000 in
set_option maxHeartbeats 4000000 in
theorem lc_when {p : Program} {l : Launch} {e : Env} {s : State} {m : MethodId} {below : List Frame} {meth : Method} {c : Code} {gX gM : Gw} {b L t : Nat} {xs : Nat → Int32} (hL : L ≤ 3072) (ht : 6 * t + 6 ≤ L) (hX : va_X b L xs s s.heap) (hbl : b < s.heap.size) (CX : Cx wkX gX p s m #[Value.ref b] meth c cL_law 4 RL ret) (CM : Cx wkM gM p s m #[Value.ref b] meth c cL_law 4 RL ret) (hAX : ∀ q, AS wkX gX q → s.heap.size ≤ q) (hAM : ∀ q, AS wkM gM q → s.heap.size ≤ q) (hd1 : ∀ q, AS wkX gX q → ¬ AS wkM gM q) (hd2 : ∀ q, AS wkM gM q → ¬ AS wkX gX q) {σx σm : Sto} (hI : Inv σx σm) {H : Heap} {locs : List Loc} {ls : Array Slot} (hP : wS wkX gX σx H) (hP2 : wS wkM gM σm H) (hS : va_S (bA s.heap.size) s.heap H locs) (hl : lv_has ls 4 [(0, .ref b), (1, .ref (adG gX 0)), (2, .ref (adG gM 0)), (3, .int (nI (6 * t)))]) {Q : State → Prop} (hk : ∀ (σx σm : Sto) (H : Heap) (locs : List Loc) (ls : Array Slot), Inv σx σm → wS wkX gX σx H → wS wkM gM σm H → va_S (bA s.heap.size) s.heap H locs → lv_has ls 4 [(0, .ref b), (1, .ref (adG gX 0)), (2, .ref (adG gM 0)), (3, .int (nI (6 * t)))] → W p l e room_1 s m #[Value.ref b] below meth c H locs 291 6240 Q (F0 m 1479 ls [])) : W p l e room_1 s m #[Value.ref b] below meth c H locs 291 6240 Q (F0 m 755 ls []) := by
  obtain ⟨hx, hb, hml, hown, hts, hr, hlk, hK, hZ⟩ := id CX
  have hbA : ¬ bA s.heap.size b := Nat.not_le.mpr hbl
  have hi1 : vp_in (nI (6 * t) + 1) L := by rw [show (1 : Int32) = nI 1 from rfl, nI_add]; exact vp_in_nI (by omega) (by omega)
  have hi2 : vp_in (nI (6 * t) + 2) L := by rw [show (2 : Int32) = nI 2 from rfl, nI_add]; exact vp_in_nI (by omega) (by omega)
  obtain ⟨qx, qm, hx1, hm1, he, hI2⟩ := op_when hI (xs (nI (6 * t) + 1).toNatClampNeg) (xs (nI (6 * t) + 2).toNatClampNeg)
  refine lv_aload_n hx hb dL_law_755 rfl (lv_at hl 1 rfl) ?_
  refine lv_aload_n hx hb dL_law_756 rfl (lv_at hl 0 rfl) ?_
  refine lv_iload_n hx hb dL_law_757 rfl (lv_at hl 3 rfl) ?_
  refine lv_iconst (v := 1) hx hb dL_law_758 (by decide) ?_
  refine lv_iadd hx hb dL_law_759 ?_
  refine va_sld hx hb hX hbl hbA hS hi1 dL_law_760 ?_
  refine lv_aload_n hx hb dL_law_761 rfl (lv_at hl 0 rfl) ?_
  refine lv_iload_n hx hb dL_law_762 rfl (lv_at hl 3 rfl) ?_
  refine lv_iconst (v := 2) hx hb dL_law_763 (by decide) ?_
  refine lv_iadd hx hb dL_law_764 ?_
  refine va_sld hx hb hX hbl hbA hS hi2 dL_law_765 ?_
  refine law_ci (As := [.int (xs (nI (6 * t) + 1).toNatClampNeg), .int (xs (nI (6 * t) + 2).toNatClampNeg)]) (rest := []) CX ca_X9_when (ctX9_when (xs (nI (6 * t) + 1).toNatClampNeg) (xs (nI (6 * t) + 2).toNatClampNeg) hx1) cf_9 sx_0 kx_0 tw_700 ⟨Nat.le_of_ble_eq_true rfl, Nat.le_of_ble_eq_true rfl⟩ rfl hl.1 (Nat.le_of_ble_eq_true rfl) ⟨Nat.le_of_ble_eq_true rfl, Nat.le_of_ble_eq_true rfl⟩ hP hP2 hS hAX hd1 dL_law_766 (fun H locs hP hP2 hS => ?_)
  refine lv_aload_n hx hb dL_law_769 rfl (lv_at hl 2 rfl) ?_
  refine lv_aload_n hx hb dL_law_770 rfl (lv_at hl 0 rfl) ?_
  refine lv_iload_n hx hb dL_law_771 rfl (lv_at hl 3 rfl) ?_
  refine lv_iconst (v := 1) hx hb dL_law_772 (by decide) ?_
  refine lv_iadd hx hb dL_law_773 ?_
  refine va_sld hx hb hX hbl hbA hS hi1 dL_law_774 ?_
  refine lv_aload_n hx hb dL_law_775 rfl (lv_at hl 0 rfl) ?_
  refine lv_iload_n hx hb dL_law_776 rfl (lv_at hl 3 rfl) ?_
  refine lv_iconst (v := 2) hx hb dL_law_777 (by decide) ?_
  refine lv_iadd hx hb dL_law_778 ?_
  refine va_sld hx hb hX hbl hbA hS hi2 dL_law_779 ?_
  refine law_ci (As := [.int (xs (nI (6 * t) + 1).toNatClampNeg), .int (xs (nI (6 * t) + 2).toNatClampNeg)]) (rest := [.int qx.2]) CM ca_X10_when (ctX10_when (xs (nI (6 * t) + 1).toNatClampNeg) (xs (nI (6 * t) + 2).toNatClampNeg) hm1) cf_10 sm_0 km_0 tw_714 ⟨Nat.le_of_ble_eq_true rfl, Nat.le_of_ble_eq_true rfl⟩ rfl hl.1 (Nat.le_of_ble_eq_true rfl) ⟨Nat.le_of_ble_eq_true rfl, Nat.le_of_ble_eq_true rfl⟩ hP2 hP hS hAM hd2 dL_law_780 (fun H locs hP2 hP hS => ?_)
  refine lv_icmp_eq (tgt := 1479) hx hb dL_law_783 (by decide) (fun _ => ?_) (fun c_ => absurd he c_)
  exact hk _ _ H locs ls hI2 hP hP2 hS hl
