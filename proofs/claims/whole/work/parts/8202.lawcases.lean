set_option maxRecDepth 100000 in
set_option maxHeartbeats 4000000 in
theorem lc_front {p : Program} {l : Launch} {e : Env} {s : State} {m : MethodId} {below : List Frame} {meth : Method} {c : Code} {gX gM : Gw} {b L t : Nat} {xs : Nat → Int32} (hL : L ≤ 3072) (ht : 6 * t + 6 ≤ L) (hX : va_X b L xs s s.heap) (hbl : b < s.heap.size) (CX : Cx wkX gX p s m #[Value.ref b] meth c cL_law 4 RL ret) (CM : Cx wkM gM p s m #[Value.ref b] meth c cL_law 4 RL ret) (hAX : ∀ q, AS wkX gX q → s.heap.size ≤ q) (hAM : ∀ q, AS wkM gM q → s.heap.size ≤ q) (hd1 : ∀ q, AS wkX gX q → ¬ AS wkM gM q) (hd2 : ∀ q, AS wkM gM q → ¬ AS wkX gX q) {σx σm : Sto} (hI : Inv σx σm) {H : Heap} {locs : List Loc} {ls : Array Slot} (hP : wS wkX gX σx H) (hP2 : wS wkM gM σm H) (hS : va_S (bA s.heap.size) s.heap H locs) (hl : lv_has ls 4 [(0, .ref b), (1, .ref (adG gX 0)), (2, .ref (adG gM 0)), (3, .int (nI (6 * t)))]) {Q : State → Prop} (hk : ∀ (σx σm : Sto) (H : Heap) (locs : List Loc) (ls : Array Slot), Inv σx σm → wS wkX gX σx H → wS wkM gM σm H → va_S (bA s.heap.size) s.heap H locs → lv_has ls 4 [(0, .ref b), (1, .ref (adG gX 0)), (2, .ref (adG gM 0)), (3, .int (nI (6 * t)))] → W p l e room_1 s m #[Value.ref b] below meth c H locs 291 6240 Q (F0 m 1479 ls [])) : W p l e room_1 s m #[Value.ref b] below meth c H locs 291 6240 Q (F0 m 788 ls []) := by
  obtain ⟨hx, hb, hml, hown, hts, hr, hlk, hK, hZ⟩ := id CX
  have hbA : ¬ bA s.heap.size b := Nat.not_le.mpr hbl
  have hi1 : vp_in (nI (6 * t) + 1) L := by rw [show (1 : Int32) = nI 1 from rfl, nI_add]; exact vp_in_nI (by omega) (by omega)
  obtain ⟨qx, qm, hx1, hm1, he, hI2⟩ := op_front hI (xs (nI (6 * t) + 1).toNatClampNeg)
  refine lv_aload_n hx hb dL_law_788 rfl (lv_at hl 1 rfl) ?_
  refine lv_aload_n hx hb dL_law_789 rfl (lv_at hl 0 rfl) ?_
  refine lv_iload_n hx hb dL_law_790 rfl (lv_at hl 3 rfl) ?_
  refine lv_iconst (v := 1) hx hb dL_law_791 (by decide) ?_
  refine lv_iadd hx hb dL_law_792 ?_
  refine va_sld hx hb hX hbl hbA hS hi1 dL_law_793 ?_
  refine law_ci (As := [.int (xs (nI (6 * t) + 1).toNatClampNeg)]) (rest := []) CX ca_X9_front (ctX9_front (xs (nI (6 * t) + 1).toNatClampNeg) hx1) cf_9 sx_0 kx_0 tw_723 ⟨Nat.le_of_ble_eq_true rfl, Nat.le_of_ble_eq_true rfl⟩ rfl hl.1 (Nat.le_of_ble_eq_true rfl) ⟨Nat.le_of_ble_eq_true rfl, Nat.le_of_ble_eq_true rfl⟩ hP hP2 hS hAX hd1 dL_law_794 (fun H locs hP hP2 hS => ?_)
  refine lv_aload_n hx hb dL_law_797 rfl (lv_at hl 2 rfl) ?_
  refine lv_aload_n hx hb dL_law_798 rfl (lv_at hl 0 rfl) ?_
  refine lv_iload_n hx hb dL_law_799 rfl (lv_at hl 3 rfl) ?_
  refine lv_iconst (v := 1) hx hb dL_law_800 (by decide) ?_
  refine lv_iadd hx hb dL_law_801 ?_
  refine va_sld hx hb hX hbl hbA hS hi1 dL_law_802 ?_
  refine law_ci (As := [.int (xs (nI (6 * t) + 1).toNatClampNeg)]) (rest := [.int qx.2]) CM ca_X10_front (ctX10_front (xs (nI (6 * t) + 1).toNatClampNeg) hm1) cf_10 sm_0 km_0 tw_732 ⟨Nat.le_of_ble_eq_true rfl, Nat.le_of_ble_eq_true rfl⟩ rfl hl.1 (Nat.le_of_ble_eq_true rfl) ⟨Nat.le_of_ble_eq_true rfl, Nat.le_of_ble_eq_true rfl⟩ hP2 hP hS hAM hd2 dL_law_803 (fun H locs hP2 hP hS => ?_)
  refine lv_icmp_eq (tgt := 1479) hx hb dL_law_806 (by decide) (fun _ => ?_) (fun c_ => absurd he c_)
  exact hk _ _ H locs ls hI2 hP hP2 hS hl
set_option maxRecDepth 100000 in
set_option maxHeartbeats 4000000 in
theorem lc_carries {p : Program} {l : Launch} {e : Env} {s : State} {m : MethodId} {below : List Frame} {meth : Method} {c : Code} {gX gM : Gw} {b L t : Nat} {xs : Nat → Int32} (hL : L ≤ 3072) (ht : 6 * t + 6 ≤ L) (hX : va_X b L xs s s.heap) (hbl : b < s.heap.size) (CX : Cx wkX gX p s m #[Value.ref b] meth c cL_law 4 RL ret) (CM : Cx wkM gM p s m #[Value.ref b] meth c cL_law 4 RL ret) (hAX : ∀ q, AS wkX gX q → s.heap.size ≤ q) (hAM : ∀ q, AS wkM gM q → s.heap.size ≤ q) (hd1 : ∀ q, AS wkX gX q → ¬ AS wkM gM q) (hd2 : ∀ q, AS wkM gM q → ¬ AS wkX gX q) {σx σm : Sto} (hI : Inv σx σm) {H : Heap} {locs : List Loc} {ls : Array Slot} (hP : wS wkX gX σx H) (hP2 : wS wkM gM σm H) (hS : va_S (bA s.heap.size) s.heap H locs) (hl : lv_has ls 4 [(0, .ref b), (1, .ref (adG gX 0)), (2, .ref (adG gM 0)), (3, .int (nI (6 * t)))]) {Q : State → Prop} (hk : ∀ (σx σm : Sto) (H : Heap) (locs : List Loc) (ls : Array Slot), Inv σx σm → wS wkX gX σx H → wS wkM gM σm H → va_S (bA s.heap.size) s.heap H locs → lv_has ls 4 [(0, .ref b), (1, .ref (adG gX 0)), (2, .ref (adG gM 0)), (3, .int (nI (6 * t)))] → W p l e room_1 s m #[Value.ref b] below meth c H locs 291 6240 Q (F0 m 1479 ls [])) : W p l e room_1 s m #[Value.ref b] below meth c H locs 291 6240 Q (F0 m 811 ls []) := by
  obtain ⟨hx, hb, hml, hown, hts, hr, hlk, hK, hZ⟩ := id CX
  have hbA : ¬ bA s.heap.size b := Nat.not_le.mpr hbl
  have hi1 : vp_in (nI (6 * t) + 1) L := by rw [show (1 : Int32) = nI 1 from rfl, nI_add]; exact vp_in_nI (by omega) (by omega)
  have hi2 : vp_in (nI (6 * t) + 2) L := by rw [show (2 : Int32) = nI 2 from rfl, nI_add]; exact vp_in_nI (by omega) (by omega)
  have hi3 : vp_in (nI (6 * t) + 3) L := by rw [show (3 : Int32) = nI 3 from rfl, nI_add]; exact vp_in_nI (by omega) (by omega)
  obtain ⟨qx, qm, hx1, hm1, he, hI2⟩ := op_carries hI (xs (nI (6 * t) + 1).toNatClampNeg) (xs (nI (6 * t) + 2).toNatClampNeg) (xs (nI (6 * t) + 3).toNatClampNeg)
  refine lv_aload_n hx hb dL_law_811 rfl (lv_at hl 1 rfl) ?_
  refine lv_aload_n hx hb dL_law_812 rfl (lv_at hl 0 rfl) ?_
  refine lv_iload_n hx hb dL_law_813 rfl (lv_at hl 3 rfl) ?_
  refine lv_iconst (v := 1) hx hb dL_law_814 (by decide) ?_
  refine lv_iadd hx hb dL_law_815 ?_
  refine va_sld hx hb hX hbl hbA hS hi1 dL_law_816 ?_
  refine lv_aload_n hx hb dL_law_817 rfl (lv_at hl 0 rfl) ?_
  refine lv_iload_n hx hb dL_law_818 rfl (lv_at hl 3 rfl) ?_
  refine lv_iconst (v := 2) hx hb dL_law_819 (by decide) ?_
  refine lv_iadd hx hb dL_law_820 ?_
  refine va_sld hx hb hX hbl hbA hS hi2 dL_law_821 ?_
  refine lv_aload_n hx hb dL_law_822 rfl (lv_at hl 0 rfl) ?_
  refine lv_iload_n hx hb dL_law_823 rfl (lv_at hl 3 rfl) ?_
  refine lv_iconst (v := 3) hx hb dL_law_824 (by decide) ?_
  refine lv_iadd hx hb dL_law_825 ?_
  refine va_sld hx hb hX hbl hbA hS hi3 dL_law_826 ?_
  refine law_ci (As := [.int (xs (nI (6 * t) + 1).toNatClampNeg), .int (xs (nI (6 * t) + 2).toNatClampNeg), .int (xs (nI (6 * t) + 3).toNatClampNeg)]) (rest := []) CX ca_X9_carries (ctX9_carries (xs (nI (6 * t) + 1).toNatClampNeg) (xs (nI (6 * t) + 2).toNatClampNeg) (xs (nI (6 * t) + 3).toNatClampNeg) hx1) cf_9 sx_0 kx_0 tw_736 ⟨Nat.le_of_ble_eq_true rfl, Nat.le_of_ble_eq_true rfl⟩ rfl hl.1 (Nat.le_of_ble_eq_true rfl) ⟨Nat.le_of_ble_eq_true rfl, Nat.le_of_ble_eq_true rfl⟩ hP hP2 hS hAX hd1 dL_law_827 (fun H locs hP hP2 hS => ?_)
  refine lv_aload_n hx hb dL_law_830 rfl (lv_at hl 2 rfl) ?_
  refine lv_aload_n hx hb dL_law_831 rfl (lv_at hl 0 rfl) ?_
  refine lv_iload_n hx hb dL_law_832 rfl (lv_at hl 3 rfl) ?_
  refine lv_iconst (v := 1) hx hb dL_law_833 (by decide) ?_
  refine lv_iadd hx hb dL_law_834 ?_
  refine va_sld hx hb hX hbl hbA hS hi1 dL_law_835 ?_
  refine lv_aload_n hx hb dL_law_836 rfl (lv_at hl 0 rfl) ?_
  refine lv_iload_n hx hb dL_law_837 rfl (lv_at hl 3 rfl) ?_
  refine lv_iconst (v := 2) hx hb dL_law_838 (by decide) ?_
  refine lv_iadd hx hb dL_law_839 ?_
  refine va_sld hx hb hX hbl hbA hS hi2 dL_law_840 ?_
  refine lv_aload_n hx hb dL_law_841 rfl (lv_at hl 0 rfl) ?_
  refine lv_iload_n hx hb dL_law_842 rfl (lv_at hl 3 rfl) ?_
  refine lv_iconst (v := 3) hx hb dL_law_843 (by decide) ?_
  refine lv_iadd hx hb dL_law_844 ?_
  refine va_sld hx hb hX hbl hbA hS hi3 dL_law_845 ?_
  refine law_ci (As := [.int (xs (nI (6 * t) + 1).toNatClampNeg), .int (xs (nI (6 * t) + 2).toNatClampNeg), .int (xs (nI (6 * t) + 3).toNatClampNeg)]) (rest := [.int qx.2]) CM ca_X10_carries (ctX10_carries (xs (nI (6 * t) + 1).toNatClampNeg) (xs (nI (6 * t) + 2).toNatClampNeg) (xs (nI (6 * t) + 3).toNatClampNeg) hm1) cf_10 sm_0 km_0 tw_773 ⟨Nat.le_of_ble_eq_true rfl, Nat.le_of_ble_eq_true rfl⟩ rfl hl.1 (Nat.le_of_ble_eq_true rfl) ⟨Nat.le_of_ble_eq_true rfl, Nat.le_of_ble_eq_true rfl⟩ hP2 hP hS hAM hd2 dL_law_846 (fun H locs hP2 hP hS => ?_)
  refine lv_icmp_eq (tgt := 1479) hx hb dL_law_849 (by decide) (fun _ => ?_) (fun c_ => absurd he c_)
  exact hk _ _ H locs ls hI2 hP hP2 hS hl
set_option maxRecDepth 100000 in
set_option maxHeartbeats 4000000 in
theorem lc_dam {p : Program} {l : Launch} {e : Env} {s : State} {m : MethodId} {below : List Frame} {meth : Method} {c : Code} {gX gM : Gw} {b L t : Nat} {xs : Nat → Int32} (hL : L ≤ 3072) (ht : 6 * t + 6 ≤ L) (hX : va_X b L xs s s.heap) (hbl : b < s.heap.size) (CX : Cx wkX gX p s m #[Value.ref b] meth c cL_law 4 RL ret) (CM : Cx wkM gM p s m #[Value.ref b] meth c cL_law 4 RL ret) (hAX : ∀ q, AS wkX gX q → s.heap.size ≤ q) (hAM : ∀ q, AS wkM gM q → s.heap.size ≤ q) (hd1 : ∀ q, AS wkX gX q → ¬ AS wkM gM q) (hd2 : ∀ q, AS wkM gM q → ¬ AS wkX gX q) {σx σm : Sto} (hI : Inv σx σm) {H : Heap} {locs : List Loc} {ls : Array Slot} (hP : wS wkX gX σx H) (hP2 : wS wkM gM σm H) (hS : va_S (bA s.heap.size) s.heap H locs) (hl : lv_has ls 4 [(0, .ref b), (1, .ref (adG gX 0)), (2, .ref (adG gM 0)), (3, .int (nI (6 * t)))]) {Q : State → Prop} (hk : ∀ (σx σm : Sto) (H : Heap) (locs : List Loc) (ls : Array Slot), Inv σx σm → wS wkX gX σx H → wS wkM gM σm H → va_S (bA s.heap.size) s.heap H locs → lv_has ls 4 [(0, .ref b), (1, .ref (adG gX 0)), (2, .ref (adG gM 0)), (3, .int (nI (6 * t)))] → W p l e room_1 s m #[Value.ref b] below meth c H locs 291 6240 Q (F0 m 1479 ls [])) : W p l e room_1 s m #[Value.ref b] below meth c H locs 291 6240 Q (F0 m 854 ls []) := by
  obtain ⟨hx, hb, hml, hown, hts, hr, hlk, hK, hZ⟩ := id CX
  have hbA : ¬ bA s.heap.size b := Nat.not_le.mpr hbl
  have hi1 : vp_in (nI (6 * t) + 1) L := by rw [show (1 : Int32) = nI 1 from rfl, nI_add]; exact vp_in_nI (by omega) (by omega)
  have hi2 : vp_in (nI (6 * t) + 2) L := by rw [show (2 : Int32) = nI 2 from rfl, nI_add]; exact vp_in_nI (by omega) (by omega)
  have hi3 : vp_in (nI (6 * t) + 3) L := by rw [show (3 : Int32) = nI 3 from rfl, nI_add]; exact vp_in_nI (by omega) (by omega)
  obtain ⟨qx, qm, hx1, hm1, he, hI2⟩ := op_dam hI (xs (nI (6 * t) + 1).toNatClampNeg) (xs (nI (6 * t) + 2).toNatClampNeg) (xs (nI (6 * t) + 3).toNatClampNeg)
  refine lv_aload_n hx hb dL_law_854 rfl (lv_at hl 1 rfl) ?_
  refine lv_aload_n hx hb dL_law_855 rfl (lv_at hl 0 rfl) ?_
  refine lv_iload_n hx hb dL_law_856 rfl (lv_at hl 3 rfl) ?_
  refine lv_iconst (v := 1) hx hb dL_law_857 (by decide) ?_
  refine lv_iadd hx hb dL_law_858 ?_
  refine va_sld hx hb hX hbl hbA hS hi1 dL_law_859 ?_
  refine lv_aload_n hx hb dL_law_860 rfl (lv_at hl 0 rfl) ?_
  refine lv_iload_n hx hb dL_law_861 rfl (lv_at hl 3 rfl) ?_
  refine lv_iconst (v := 2) hx hb dL_law_862 (by decide) ?_
  refine lv_iadd hx hb dL_law_863 ?_
  refine va_sld hx hb hX hbl hbA hS hi2 dL_law_864 ?_
  refine lv_aload_n hx hb dL_law_865 rfl (lv_at hl 0 rfl) ?_
  refine lv_iload_n hx hb dL_law_866 rfl (lv_at hl 3 rfl) ?_
  refine lv_iconst (v := 3) hx hb dL_law_867 (by decide) ?_
  refine lv_iadd hx hb dL_law_868 ?_
  refine va_sld hx hb hX hbl hbA hS hi3 dL_law_869 ?_
  refine law_ci (As := [.int (xs (nI (6 * t) + 1).toNatClampNeg), .int (xs (nI (6 * t) + 2).toNatClampNeg), .int (xs (nI (6 * t) + 3).toNatClampNeg)]) (rest := []) CX ca_X9_dam (ctX9_dam (xs (nI (6 * t) + 1).toNatClampNeg) (xs (nI (6 * t) + 2).toNatClampNeg) (xs (nI (6 * t) + 3).toNatClampNeg) hx1) cf_9 sx_0 kx_0 tw_791 ⟨Nat.le_of_ble_eq_true rfl, Nat.le_of_ble_eq_true rfl⟩ rfl hl.1 (Nat.le_of_ble_eq_true rfl) ⟨Nat.le_of_ble_eq_true rfl, Nat.le_of_ble_eq_true rfl⟩ hP hP2 hS hAX hd1 dL_law_870 (fun H locs hP hP2 hS => ?_)
  refine lv_aload_n hx hb dL_law_873 rfl (lv_at hl 2 rfl) ?_
  refine lv_aload_n hx hb dL_law_874 rfl (lv_at hl 0 rfl) ?_
  refine lv_iload_n hx hb dL_law_875 rfl (lv_at hl 3 rfl) ?_
  refine lv_iconst (v := 1) hx hb dL_law_876 (by decide) ?_
  refine lv_iadd hx hb dL_law_877 ?_
  refine va_sld hx hb hX hbl hbA hS hi1 dL_law_878 ?_
  refine lv_aload_n hx hb dL_law_879 rfl (lv_at hl 0 rfl) ?_
  refine lv_iload_n hx hb dL_law_880 rfl (lv_at hl 3 rfl) ?_
  refine lv_iconst (v := 2) hx hb dL_law_881 (by decide) ?_
  refine lv_iadd hx hb dL_law_882 ?_
  refine va_sld hx hb hX hbl hbA hS hi2 dL_law_883 ?_
  refine lv_aload_n hx hb dL_law_884 rfl (lv_at hl 0 rfl) ?_
  refine lv_iload_n hx hb dL_law_885 rfl (lv_at hl 3 rfl) ?_
  refine lv_iconst (v := 3) hx hb dL_law_886 (by decide) ?_
  refine lv_iadd hx hb dL_law_887 ?_
  refine va_sld hx hb hX hbl hbA hS hi3 dL_law_888 ?_
  refine law_ci (As := [.int (xs (nI (6 * t) + 1).toNatClampNeg), .int (xs (nI (6 * t) + 2).toNatClampNeg), .int (xs (nI (6 * t) + 3).toNatClampNeg)]) (rest := [.int qx.2]) CM ca_X10_dam (ctX10_dam (xs (nI (6 * t) + 1).toNatClampNeg) (xs (nI (6 * t) + 2).toNatClampNeg) (xs (nI (6 * t) + 3).toNatClampNeg) hm1) cf_10 sm_0 km_0 tw_812 ⟨Nat.le_of_ble_eq_true rfl, Nat.le_of_ble_eq_true rfl⟩ rfl hl.1 (Nat.le_of_ble_eq_true rfl) ⟨Nat.le_of_ble_eq_true rfl, Nat.le_of_ble_eq_true rfl⟩ hP2 hP hS hAM hd2 dL_law_889 (fun H locs hP2 hP hS => ?_)
  refine lv_icmp_eq (tgt := 1479) hx hb dL_law_892 (by decide) (fun _ => ?_) (fun c_ => absurd he c_)
  exact hk _ _ H locs ls hI2 hP hP2 hS hl
set_option maxRecDepth 100000 in
set_option maxHeartbeats 4000000 in
theorem lc_hold {p : Program} {l : Launch} {e : Env} {s : State} {m : MethodId} {below : List Frame} {meth : Method} {c : Code} {gX gM : Gw} {b L t : Nat} {xs : Nat → Int32} (hL : L ≤ 3072) (ht : 6 * t + 6 ≤ L) (hX : va_X b L xs s s.heap) (hbl : b < s.heap.size) (CX : Cx wkX gX p s m #[Value.ref b] meth c cL_law 4 RL ret) (CM : Cx wkM gM p s m #[Value.ref b] meth c cL_law 4 RL ret) (hAX : ∀ q, AS wkX gX q → s.heap.size ≤ q) (hAM : ∀ q, AS wkM gM q → s.heap.size ≤ q) (hd1 : ∀ q, AS wkX gX q → ¬ AS wkM gM q) (hd2 : ∀ q, AS wkM gM q → ¬ AS wkX gX q) {σx σm : Sto} (hI : Inv σx σm) {H : Heap} {locs : List Loc} {ls : Array Slot} (hP : wS wkX gX σx H) (hP2 : wS wkM gM σm H) (hS : va_S (bA s.heap.size) s.heap H locs) (hl : lv_has ls 4 [(0, .ref b), (1, .ref (adG gX 0)), (2, .ref (adG gM 0)), (3, .int (nI (6 * t)))]) {Q : State → Prop} (hk : ∀ (σx σm : Sto) (H : Heap) (locs : List Loc) (ls : Array Slot), Inv σx σm → wS wkX gX σx H → wS wkM gM σm H → va_S (bA s.heap.size) s.heap H locs → lv_has ls 4 [(0, .ref b), (1, .ref (adG gX 0)), (2, .ref (adG gM 0)), (3, .int (nI (6 * t)))] → W p l e room_1 s m #[Value.ref b] below meth c H locs 291 6240 Q (F0 m 1479 ls [])) : W p l e room_1 s m #[Value.ref b] below meth c H locs 291 6240 Q (F0 m 897 ls []) := by
  obtain ⟨hx, hb, hml, hown, hts, hr, hlk, hK, hZ⟩ := id CX
  have hbA : ¬ bA s.heap.size b := Nat.not_le.mpr hbl
  have hi1 : vp_in (nI (6 * t) + 1) L := by rw [show (1 : Int32) = nI 1 from rfl, nI_add]; exact vp_in_nI (by omega) (by omega)
  have hi2 : vp_in (nI (6 * t) + 2) L := by rw [show (2 : Int32) = nI 2 from rfl, nI_add]; exact vp_in_nI (by omega) (by omega)
  have hi3 : vp_in (nI (6 * t) + 3) L := by rw [show (3 : Int32) = nI 3 from rfl, nI_add]; exact vp_in_nI (by omega) (by omega)
  obtain ⟨qx, qm, hx1, hm1, he, hI2⟩ := op_hold hI (xs (nI (6 * t) + 1).toNatClampNeg) (xs (nI (6 * t) + 2).toNatClampNeg) (xs (nI (6 * t) + 3).toNatClampNeg)
  refine lv_aload_n hx hb dL_law_897 rfl (lv_at hl 1 rfl) ?_
  refine lv_aload_n hx hb dL_law_898 rfl (lv_at hl 0 rfl) ?_
  refine lv_iload_n hx hb dL_law_899 rfl (lv_at hl 3 rfl) ?_
  refine lv_iconst (v := 1) hx hb dL_law_900 (by decide) ?_
  refine lv_iadd hx hb dL_law_901 ?_
  refine va_sld hx hb hX hbl hbA hS hi1 dL_law_902 ?_
  refine lv_aload_n hx hb dL_law_903 rfl (lv_at hl 0 rfl) ?_
  refine lv_iload_n hx hb dL_law_904 rfl (lv_at hl 3 rfl) ?_
  refine lv_iconst (v := 2) hx hb dL_law_905 (by decide) ?_
  refine lv_iadd hx hb dL_law_906 ?_
  refine va_sld hx hb hX hbl hbA hS hi2 dL_law_907 ?_
  refine lv_aload_n hx hb dL_law_908 rfl (lv_at hl 0 rfl) ?_
  refine lv_iload_n hx hb dL_law_909 rfl (lv_at hl 3 rfl) ?_
  refine lv_iconst (v := 3) hx hb dL_law_910 (by decide) ?_
  refine lv_iadd hx hb dL_law_911 ?_
  refine va_sld hx hb hX hbl hbA hS hi3 dL_law_912 ?_
  refine law_ci (As := [.int (xs (nI (6 * t) + 1).toNatClampNeg), .int (xs (nI (6 * t) + 2).toNatClampNeg), .int (xs (nI (6 * t) + 3).toNatClampNeg)]) (rest := []) CX ca_X9_hold (ctX9_hold (xs (nI (6 * t) + 1).toNatClampNeg) (xs (nI (6 * t) + 2).toNatClampNeg) (xs (nI (6 * t) + 3).toNatClampNeg) hx1) cf_9 sx_0 kx_0 tw_817 ⟨Nat.le_of_ble_eq_true rfl, Nat.le_of_ble_eq_true rfl⟩ rfl hl.1 (Nat.le_of_ble_eq_true rfl) ⟨Nat.le_of_ble_eq_true rfl, Nat.le_of_ble_eq_true rfl⟩ hP hP2 hS hAX hd1 dL_law_913 (fun H locs hP hP2 hS => ?_)
  refine lv_aload_n hx hb dL_law_916 rfl (lv_at hl 2 rfl) ?_
  refine lv_aload_n hx hb dL_law_917 rfl (lv_at hl 0 rfl) ?_
  refine lv_iload_n hx hb dL_law_918 rfl (lv_at hl 3 rfl) ?_
  refine lv_iconst (v := 1) hx hb dL_law_919 (by decide) ?_
  refine lv_iadd hx hb dL_law_920 ?_
  refine va_sld hx hb hX hbl hbA hS hi1 dL_law_921 ?_
  refine lv_aload_n hx hb dL_law_922 rfl (lv_at hl 0 rfl) ?_
  refine lv_iload_n hx hb dL_law_923 rfl (lv_at hl 3 rfl) ?_
  refine lv_iconst (v := 2) hx hb dL_law_924 (by decide) ?_
  refine lv_iadd hx hb dL_law_925 ?_
  refine va_sld hx hb hX hbl hbA hS hi2 dL_law_926 ?_
  refine lv_aload_n hx hb dL_law_927 rfl (lv_at hl 0 rfl) ?_
  refine lv_iload_n hx hb dL_law_928 rfl (lv_at hl 3 rfl) ?_
  refine lv_iconst (v := 3) hx hb dL_law_929 (by decide) ?_
  refine lv_iadd hx hb dL_law_930 ?_
  refine va_sld hx hb hX hbl hbA hS hi3 dL_law_931 ?_
  refine law_ci (As := [.int (xs (nI (6 * t) + 1).toNatClampNeg), .int (xs (nI (6 * t) + 2).toNatClampNeg), .int (xs (nI (6 * t) + 3).toNatClampNeg)]) (rest := [.int qx.2]) CM ca_X10_hold (ctX10_hold (xs (nI (6 * t) + 1).toNatClampNeg) (xs (nI (6 * t) + 2).toNatClampNeg) (xs (nI (6 * t) + 3).toNatClampNeg) hm1) cf_10 sm_0 km_0 tw_825 ⟨Nat.le_of_ble_eq_true rfl, Nat.le_of_ble_eq_true rfl⟩ rfl hl.1 (Nat.le_of_ble_eq_true rfl) ⟨Nat.le_of_ble_eq_true rfl, Nat.le_of_ble_eq_true rfl⟩ hP2 hP hS hAM hd2 dL_law_932 (fun H locs hP2 hP hS => ?_)
  refine lv_icmp_eq (tgt := 1479) hx hb dL_law_935 (by decide) (fun _ => ?_) (fun c_ => absurd he c_)
  exact hk _ _ H locs ls hI2 hP hP2 hS hl
set_option maxRecDepth 100000 in
set_option maxHeartbeats 4000000 in
theorem lc_spare {p : Program} {l : Launch} {e : Env} {s : State} {m : MethodId} {below : List Frame} {meth : Method} {c : Code} {gX gM : Gw} {b L t : Nat} {xs : Nat → Int32} (hL : L ≤ 3072) (ht : 6 * t + 6 ≤ L) (hX : va_X b L xs s s.heap) (hbl : b < s.heap.size) (CX : Cx wkX gX p s m #[Value.ref b] meth c cL_law 4 RL ret) (CM : Cx wkM gM p s m #[Value.ref b] meth c cL_law 4 RL ret) (hAX : ∀ q, AS wkX gX q → s.heap.size ≤ q) (hAM : ∀ q, AS wkM gM q → s.heap.size ≤ q) (hd1 : ∀ q, AS wkX gX q → ¬ AS wkM gM q) (hd2 : ∀ q, AS wkM gM q → ¬ AS wkX gX q) {σx σm : Sto} (hI : Inv σx σm) {H : Heap} {locs : List Loc} {ls : Array Slot} (hP : wS wkX gX σx H) (hP2 : wS wkM gM σm H) (hS : va_S (bA s.heap.size) s.heap H locs) (hl : lv_has ls 4 [(0, .ref b), (1, .ref (adG gX 0)), (2, .ref (adG gM 0)), (3, .int (nI (6 * t)))]) {Q : State → Prop} (hk : ∀ (σx σm : Sto) (H : Heap) (locs : List Loc) (ls : Array Slot), Inv σx σm → wS wkX gX σx H → wS wkM gM σm H → va_S (bA s.heap.size) s.heap H locs → lv_has ls 4 [(0, .ref b), (1, .ref (adG gX 0)), (2, .ref (adG gM 0)), (3, .int (nI (6 * t)))] → W p l e room_1 s m #[Value.ref b] below meth c H locs 291 6240 Q (F0 m 1479 ls [])) : W p l e room_1 s m #[Value.ref b] below meth c H locs 291 6240 Q (F0 m 940 ls []) := by
  obtain ⟨hx, hb, hml, hown, hts, hr, hlk, hK, hZ⟩ := id CX
  have hbA : ¬ bA s.heap.size b := Nat.not_le.mpr hbl
  have hi1 : vp_in (nI (6 * t) + 1) L := by rw [show (1 : Int32) = nI 1 from rfl, nI_add]; exact vp_in_nI (by omega) (by omega)
  obtain ⟨qx, qm, hx1, hm1, he, hI2⟩ := op_spare hI (xs (nI (6 * t) + 1).toNatClampNeg)
  refine lv_aload_n hx hb dL_law_940 rfl (lv_at hl 1 rfl) ?_
  refine lv_aload_n hx hb dL_law_941 rfl (lv_at hl 0 rfl) ?_
  refine lv_iload_n hx hb dL_law_942 rfl (lv_at hl 3 rfl) ?_
  refine lv_iconst (v := 1) hx hb dL_law_943 (by decide) ?_
  refine lv_iadd hx hb dL_law_944 ?_
  refine va_sld hx hb hX hbl hbA hS hi1 dL_law_945 ?_
  refine law_ci (As := [.int (xs (nI (6 * t) + 1).toNatClampNeg)]) (rest := []) CX ca_X9_spare (ctX9_spare (xs (nI (6 * t) + 1).toNatClampNeg) hx1) cf_9 sx_0 kx_0 tw_829 ⟨Nat.le_of_ble_eq_true rfl, Nat.le_of_ble_eq_true rfl⟩ rfl hl.1 (Nat.le_of_ble_eq_true rfl) ⟨Nat.le_of_ble_eq_true rfl, Nat.le_of_ble_eq_true rfl⟩ hP hP2 hS hAX hd1 dL_law_946 (fun H locs hP hP2 hS => ?_)
  refine lv_aload_n hx hb dL_law_949 rfl (lv_at hl 2 rfl) ?_
  refine lv_aload_n hx hb dL_law_950 rfl (lv_at hl 0 rfl) ?_
  refine lv_iload_n hx hb dL_law_951 rfl (lv_at hl 3 rfl) ?_
  refine lv_iconst (v := 1) hx hb dL_law_952 (by decide) ?_
  refine lv_iadd hx hb dL_law_953 ?_
  refine va_sld hx hb hX hbl hbA hS hi1 dL_law_954 ?_
  refine law_ci (As := [.int (xs (nI (6 * t) + 1).toNatClampNeg)]) (rest := [.int qx.2]) CM ca_X10_spare (ctX10_spare (xs (nI (6 * t) + 1).toNatClampNeg) hm1) cf_10 sm_0 km_0 tw_838 ⟨Nat.le_of_ble_eq_true rfl, Nat.le_of_ble_eq_true rfl⟩ rfl hl.1 (Nat.le_of_ble_eq_true rfl) ⟨Nat.le_of_ble_eq_true rfl, Nat.le_of_ble_eq_true rfl⟩ hP2 hP hS hAM hd2 dL_law_955 (fun H locs hP2 hP hS => ?_)
  refine lv_icmp_eq (tgt := 1479) hx hb dL_law_958 (by decide) (fun _ => ?_) (fun c_ => absurd he c_)
  exact hk _ _ H locs ls hI2 hP hP2 hS hl
set_option maxRecDepth 100000 in
set_option maxHeartbeats 4000000 in
theorem lc_sets {p : Program} {l : Launch} {e : Env} {s : State} {m : MethodId} {below : List Frame} {meth : Method} {c : Code} {gX gM : Gw} {b L t : Nat} {xs : Nat → Int32} (hL : L ≤ 3072) (ht : 6 * t + 6 ≤ L) (hX : va_X b L xs s s.heap) (hbl : b < s.heap.size) (CX : Cx wkX gX p s m #[Value.ref b] meth c cL_law 4 RL ret) (CM : Cx wkM gM p s m #[Value.ref b] meth c cL_law 4 RL ret) (hAX : ∀ q, AS wkX gX q → s.heap.size ≤ q) (hAM : ∀ q, AS wkM gM q → s.heap.size ≤ q) (hd1 : ∀ q, AS wkX gX q → ¬ AS wkM gM q) (hd2 : ∀ q, AS wkM gM q → ¬ AS wkX gX q) {σx σm : Sto} (hI : Inv σx σm) {H : Heap} {locs : List Loc} {ls : Array Slot} (hP : wS wkX gX σx H) (hP2 : wS wkM gM σm H) (hS : va_S (bA s.heap.size) s.heap H locs) (hl : lv_has ls 4 [(0, .ref b), (1, .ref (adG gX 0)), (2, .ref (adG gM 0)), (3, .int (nI (6 * t)))]) {Q : State → Prop} (hk : ∀ (σx σm : Sto) (H : Heap) (locs : List Loc) (ls : Array Slot), Inv σx σm → wS wkX gX σx H → wS wkM gM σm H → va_S (bA s.heap.size) s.heap H locs → lv_has ls 4 [(0, .ref b), (1, .ref (adG gX 0)), (2, .ref (adG gM 0)), (3, .int (nI (6 * t)))] → W p l e room_1 s m #[Value.ref b] below meth c H locs 291 6240 Q (F0 m 1479 ls [])) : W p l e room_1 s m #[Value.ref b] below meth c H locs 291 6240 Q (F0 m 963 ls []) := by
  obtain ⟨hx, hb, hml, hown, hts, hr, hlk, hK, hZ⟩ := id CX
  have hbA : ¬ bA s.heap.size b := Nat.not_le.mpr hbl
  have hi1 : vp_in (nI (6 * t) + 1) L := by rw [show (1 : Int32) = nI 1 from rfl, nI_add]; exact vp_in_nI (by omega) (by omega)
  have hi2 : vp_in (nI (6 * t) + 2) L := by rw [show (2 : Int32) = nI 2 from rfl, nI_add]; exact vp_in_nI (by omega) (by omega)
  obtain ⟨r, hx1, hm1⟩ := op_sets hI (xs (nI (6 * t) + 1).toNatClampNeg) (xs (nI (6 * t) + 2).toNatClampNeg)
  refine lv_aload_n hx hb dL_law_963 rfl (lv_at hl 1 rfl) ?_
  refine lv_aload_n hx hb dL_law_964 rfl (lv_at hl 0 rfl) ?_
  refine lv_iload_n hx hb dL_law_965 rfl (lv_at hl 3 rfl) ?_
  refine lv_iconst (v := 1) hx hb dL_law_966 (by decide) ?_
  refine lv_iadd hx hb dL_law_967 ?_
  refine va_sld hx hb hX hbl hbA hS hi1 dL_law_968 ?_
  refine lv_aload_n hx hb dL_law_969 rfl (lv_at hl 0 rfl) ?_
  refine lv_iload_n hx hb dL_law_970 rfl (lv_at hl 3 rfl) ?_
  refine lv_iconst (v := 2) hx hb dL_law_971 (by decide) ?_
  refine lv_iadd hx hb dL_law_972 ?_
  refine va_sld hx hb hX hbl hbA hS hi2 dL_law_973 ?_
  refine law_ci (As := [.int (xs (nI (6 * t) + 1).toNatClampNeg), .int (xs (nI (6 * t) + 2).toNatClampNeg)]) (rest := []) CX ca_X9_sets (ctX9_sets (xs (nI (6 * t) + 1).toNatClampNeg) (xs (nI (6 * t) + 2).toNatClampNeg) hx1) cf_9 sx_0 kx_0 tw_842 ⟨Nat.le_of_ble_eq_true rfl, Nat.le_of_ble_eq_true rfl⟩ rfl hl.1 (Nat.le_of_ble_eq_true rfl) ⟨Nat.le_of_ble_eq_true rfl, Nat.le_of_ble_eq_true rfl⟩ hP hP2 hS hAX hd1 dL_law_974 (fun H locs hP hP2 hS => ?_)
  refine lv_aload_n hx hb dL_law_977 rfl (lv_at hl 2 rfl) ?_
  refine lv_aload_n hx hb dL_law_978 rfl (lv_at hl 0 rfl) ?_
  refine lv_iload_n hx hb dL_law_979 rfl (lv_at hl 3 rfl) ?_
  refine lv_iconst (v := 1) hx hb dL_law_980 (by decide) ?_
  refine lv_iadd hx hb dL_law_981 ?_
  refine va_sld hx hb hX hbl hbA hS hi1 dL_law_982 ?_
  refine lv_aload_n hx hb dL_law_983 rfl (lv_at hl 0 rfl) ?_
  refine lv_iload_n hx hb dL_law_984 rfl (lv_at hl 3 rfl) ?_
  refine lv_iconst (v := 2) hx hb dL_law_985 (by decide) ?_
  refine lv_iadd hx hb dL_law_986 ?_
  refine va_sld hx hb hX hbl hbA hS hi2 dL_law_987 ?_
  refine law_ci (As := [.int (xs (nI (6 * t) + 1).toNatClampNeg), .int (xs (nI (6 * t) + 2).toNatClampNeg)]) (rest := [.int r]) CM ca_X10_sets (ctX10_sets (xs (nI (6 * t) + 1).toNatClampNeg) (xs (nI (6 * t) + 2).toNatClampNeg) hm1) cf_10 sm_0 km_0 tw_856 ⟨Nat.le_of_ble_eq_true rfl, Nat.le_of_ble_eq_true rfl⟩ rfl hl.1 (Nat.le_of_ble_eq_true rfl) ⟨Nat.le_of_ble_eq_true rfl, Nat.le_of_ble_eq_true rfl⟩ hP2 hP hS hAM hd2 dL_law_988 (fun H locs hP2 hP hS => ?_)
  refine lv_icmp_eq (tgt := 1479) hx hb dL_law_991 (by decide) (fun _ => ?_) (fun c_ => absurd rfl c_)
  exact hk _ _ H locs ls hI hP hP2 hS hl
set_option maxRecDepth 100000 in
set_option maxHeartbeats 4000000 in
theorem lc_share {p : Program} {l : Launch} {e : Env} {s : State} {m : MethodId} {below : List Frame} {meth : Method} {c : Code} {gX gM : Gw} {b L t : Nat} {xs : Nat → Int32} (hL : L ≤ 3072) (ht : 6 * t + 6 ≤ L) (hX : va_X b L xs s s.heap) (hbl : b < s.heap.size) (CX : Cx wkX gX p s m #[Value.ref b] meth c cL_law 4 RL ret) (CM : Cx wkM gM p s m #[Value.ref b] meth c cL_law 4 RL ret) (hAX : ∀ q, AS wkX gX q → s.heap.size ≤ q) (hAM : ∀ q, AS wkM gM q → s.heap.size ≤ q) (hd1 : ∀ q, AS wkX gX q → ¬ AS wkM gM q) (hd2 : ∀ q, AS wkM gM q → ¬ AS wkX gX q) {σx σm : Sto} (hI : Inv σx σm) {H : Heap} {locs : List Loc} {ls : Array Slot} (hP : wS wkX gX σx H) (hP2 : wS wkM gM σm H) (hS : va_S (bA s.heap.size) s.heap H locs) (hl : lv_has ls 4 [(0, .ref b), (1, .ref (adG gX 0)), (2, .ref (adG gM 0)), (3, .int (nI (6 * t)))]) {Q : State → Prop} (hk : ∀ (σx σm : Sto) (H : Heap) (locs : List Loc) (ls : Array Slot), Inv σx σm → wS wkX gX σx H → wS wkM gM σm H → va_S (bA s.heap.size) s.heap H locs → lv_has ls 4 [(0, .ref b), (1, .ref (adG gX 0)), (2, .ref (adG gM 0)), (3, .int (nI (6 * t)))] → W p l e room_1 s m #[Value.ref b] below meth c H locs 291 6240 Q (F0 m 1479 ls [])) : W p l e room_1 s m #[Value.ref b] below meth c H locs 291 6240 Q (F0 m 996 ls []) := by
  obtain ⟨hx, hb, hml, hown, hts, hr, hlk, hK, hZ⟩ := id CX
  have hbA : ¬ bA s.heap.size b := Nat.not_le.mpr hbl
  have hi1 : vp_in (nI (6 * t) + 1) L := by rw [show (1 : Int32) = nI 1 from rfl, nI_add]; exact vp_in_nI (by omega) (by omega)
  have hi2 : vp_in (nI (6 * t) + 2) L := by rw [show (2 : Int32) = nI 2 from rfl, nI_add]; exact vp_in_nI (by omega) (by omega)
  obtain ⟨r, hx1, hm1⟩ := op_share hI (xs (nI (6 * t) + 1).toNatClampNeg) (xs (nI (6 * t) + 2).toNatClampNeg)
  refine lv_aload_n hx hb dL_law_996 rfl (lv_at hl 1 rfl) ?_
  refine lv_aload_n hx hb dL_law_997 rfl (lv_at hl 0 rfl) ?_
  refine lv_iload_n hx hb dL_law_998 rfl (lv_at hl 3 rfl) ?_
  refine lv_iconst (v := 1) hx hb dL_law_999 (by decide) ?_
  refine lv_iadd hx hb dL_law_1000 ?_
  refine va_sld hx hb hX hbl hbA hS hi1 dL_law_1001 ?_
  refine lv_aload_n hx hb dL_law_1002 rfl (lv_at hl 0 rfl) ?_
  refine lv_iload_n hx hb dL_law_1003 rfl (lv_at hl 3 rfl) ?_
  refine lv_iconst (v := 2) hx hb dL_law_1004 (by decide) ?_
  refine lv_iadd hx hb dL_law_1005 ?_
  refine va_sld hx hb hX hbl hbA hS hi2 dL_law_1006 ?_
  refine law_ci (As := [.int (xs (nI (6 * t) + 1).toNatClampNeg), .int (xs (nI (6 * t) + 2).toNatClampNeg)]) (rest := []) CX ca_X9_share (ctX9_share (xs (nI (6 * t) + 1).toNatClampNeg) (xs (nI (6 * t) + 2).toNatClampNeg) hx1) cf_9 sx_0 kx_0 tw_868 ⟨Nat.le_of_ble_eq_true rfl, Nat.le_of_ble_eq_true rfl⟩ rfl hl.1 (Nat.le_of_ble_eq_true rfl) ⟨Nat.le_of_ble_eq_true rfl, Nat.le_of_ble_eq_true rfl⟩ hP hP2 hS hAX hd1 dL_law_1007 (fun H locs hP hP2 hS => ?_)
  refine lv_aload_n hx hb dL_law_1010 rfl (lv_at hl 2 rfl) ?_
  refine lv_aload_n hx hb dL_law_1011 rfl (lv_at hl 0 rfl) ?_
  refine lv_iload_n hx hb dL_law_1012 rfl (lv_at hl 3 rfl) ?_
  refine lv_iconst (v := 1) hx hb dL_law_1013 (by decide) ?_
  refine lv_iadd hx hb dL_law_1014 ?_
  refine va_sld hx hb hX hbl hbA hS hi1 dL_law_1015 ?_
  refine lv_aload_n hx hb dL_law_1016 rfl (lv_at hl 0 rfl) ?_
  refine lv_iload_n hx hb dL_law_1017 rfl (lv_at hl 3 rfl) ?_
  refine lv_iconst (v := 2) hx hb dL_law_1018 (by decide) ?_
  refine lv_iadd hx hb dL_law_1019 ?_
  refine va_sld hx hb hX hbl hbA hS hi2 dL_law_1020 ?_
  refine law_ci (As := [.int (xs (nI (6 * t) + 1).toNatClampNeg), .int (xs (nI (6 * t) + 2).toNatClampNeg)]) (rest := [.int r]) CM ca_X10_share (ctX10_share (xs (nI (6 * t) + 1).toNatClampNeg) (xs (nI (6 * t) + 2).toNatClampNeg) hm1) cf_10 sm_0 km_0 tw_876 ⟨Nat.le_of_ble_eq_true rfl, Nat.le_of_ble_eq_true rfl⟩ rfl hl.1 (Nat.le_of_ble_eq_true rfl) ⟨Nat.le_of_ble_eq_true rfl, Nat.le_of_ble_eq_true rfl⟩ hP2 hP hS hAM hd2 dL_law_1021 (fun H locs hP2 hP hS => ?_)
  refine lv_icmp_eq (tgt := 1479) hx hb dL_law_1024 (by decide) (fun _ => ?_) (fun c_ => absurd rfl c_)
  exact hk _ _ H locs ls hI hP hP2 hS hl
set_option maxRecDepth 100000 in
set_option maxHeartbeats 4000000 in
theorem lc_byTurns {p : Program} {l : Launch} {e : Env} {s : State} {m : MethodId} {below : List Frame} {meth : Method} {c : Code} {gX gM : Gw} {b L t : Nat} {xs : Nat → Int32} (hL : L ≤ 3072) (ht : 6 * t + 6 ≤ L) (hX : va_X b L xs s s.heap) (hbl : b < s.heap.size) (CX : Cx wkX gX p s m #[Value.ref b] meth c cL_law 4 RL ret) (CM : Cx wkM gM p s m #[Value.ref b] meth c cL_law 4 RL ret) (hAX : ∀ q, AS wkX gX q → s.heap.size ≤ q) (hAM : ∀ q, AS wkM gM q → s.heap.size ≤ q) (hd1 : ∀ q, AS wkX gX q → ¬ AS wkM gM q) (hd2 : ∀ q, AS wkM gM q → ¬ AS wkX gX q) {σx σm : Sto} (hI : Inv σx σm) {H : Heap} {locs : List Loc} {ls : Array Slot} (hP : wS wkX gX σx H) (hP2 : wS wkM gM σm H) (hS : va_S (bA s.heap.size) s.heap H locs) (hl : lv_has ls 4 [(0, .ref b), (1, .ref (adG gX 0)), (2, .ref (adG gM 0)), (3, .int (nI (6 * t)))]) {Q : State → Prop} (hk : ∀ (σx σm : Sto) (H : Heap) (locs : List Loc) (ls : Array Slot), Inv σx σm → wS wkX gX σx H → wS wkM gM σm H → va_S (bA s.heap.size) s.heap H locs → lv_has ls 4 [(0, .ref b), (1, .ref (adG gX 0)), (2, .ref (adG gM 0)), (3, .int (nI (6 * t)))] → W p l e room_1 s m #[Value.ref b] below meth c H locs 291 6240 Q (F0 m 1479 ls [])) : W p l e room_1 s m #[Value.ref b] below meth c H locs 291 6240 Q (F0 m 1029 ls []) := by
  obtain ⟨hx, hb, hml, hown, hts, hr, hlk, hK, hZ⟩ := id CX
  have hbA : ¬ bA s.heap.size b := Nat.not_le.mpr hbl
  have hi1 : vp_in (nI (6 * t) + 1) L := by rw [show (1 : Int32) = nI 1 from rfl, nI_add]; exact vp_in_nI (by omega) (by omega)
  have hi2 : vp_in (nI (6 * t) + 2) L := by rw [show (2 : Int32) = nI 2 from rfl, nI_add]; exact vp_in_nI (by omega) (by omega)
  obtain ⟨qx, qm, hx1, hm1, he, hI2⟩ := op_byTurns hI (xs (nI (6 * t) + 1).toNatClampNeg) (xs (nI (6 * t) + 2).toNatClampNeg)
  refine lv_aload_n hx hb dL_law_1029 rfl (lv_at hl 1 rfl) ?_
  refine lv_aload_n hx hb dL_law_1030 rfl (lv_at hl 0 rfl) ?_
  refine lv_iload_n hx hb dL_law_1031 rfl (lv_at hl 3 rfl) ?_
  refine lv_iconst (v := 1) hx hb dL_law_1032 (by decide) ?_
  refine lv_iadd hx hb dL_law_1033 ?_
  refine va_sld hx hb hX hbl hbA hS hi1 dL_law_1034 ?_
  refine lv_aload_n hx hb dL_law_1035 rfl (lv_at hl 0 rfl) ?_
  refine lv_iload_n hx hb dL_law_1036 rfl (lv_at hl 3 rfl) ?_
  refine lv_iconst (v := 2) hx hb dL_law_1037 (by decide) ?_
  refine lv_iadd hx hb dL_law_1038 ?_
  refine va_sld hx hb hX hbl hbA hS hi2 dL_law_1039 ?_
  refine law_ci (As := [.int (xs (nI (6 * t) + 1).toNatClampNeg), .int (xs (nI (6 * t) + 2).toNatClampNeg)]) (rest := []) CX ca_X9_byTurns (ctX9_byTurns (xs (nI (6 * t) + 1).toNatClampNeg) (xs (nI (6 * t) + 2).toNatClampNeg) hx1) cf_9 sx_0 kx_0 tw_881 ⟨Nat.le_of_ble_eq_true rfl, Nat.le_of_ble_eq_true rfl⟩ rfl hl.1 (Nat.le_of_ble_eq_true rfl) ⟨Nat.le_of_ble_eq_true rfl, Nat.le_of_ble_eq_true rfl⟩ hP hP2 hS hAX hd1 dL_law_1040 (fun H locs hP hP2 hS => ?_)
  refine lv_aload_n hx hb dL_law_1043 rfl (lv_at hl 2 rfl) ?_
  refine lv_aload_n hx hb dL_law_1044 rfl (lv_at hl 0 rfl) ?_
  refine lv_iload_n hx hb dL_law_1045 rfl (lv_at hl 3 rfl) ?_
  refine lv_iconst (v := 1) hx hb dL_law_1046 (by decide) ?_
  refine lv_iadd hx hb dL_law_1047 ?_
  refine va_sld hx hb hX hbl hbA hS hi1 dL_law_1048 ?_
  refine lv_aload_n hx hb dL_law_1049 rfl (lv_at hl 0 rfl) ?_
  refine lv_iload_n hx hb dL_law_1050 rfl (lv_at hl 3 rfl) ?_
  refine lv_iconst (v := 2) hx hb dL_law_1051 (by decide) ?_
  refine lv_iadd hx hb dL_law_1052 ?_
  refine va_sld hx hb hX hbl hbA hS hi2 dL_law_1053 ?_
  refine law_ci (As := [.int (xs (nI (6 * t) + 1).toNatClampNeg), .int (xs (nI (6 * t) + 2).toNatClampNeg)]) (rest := [.int qx.2]) CM ca_X10_byTurns (ctX10_byTurns (xs (nI (6 * t) + 1).toNatClampNeg) (xs (nI (6 * t) + 2).toNatClampNeg) hm1) cf_10 sm_0 km_0 tw_921 ⟨Nat.le_of_ble_eq_true rfl, Nat.le_of_ble_eq_true rfl⟩ rfl hl.1 (Nat.le_of_ble_eq_true rfl) ⟨Nat.le_of_ble_eq_true rfl, Nat.le_of_ble_eq_true rfl⟩ hP2 hP hS hAM hd2 dL_law_1054 (fun H locs hP2 hP hS => ?_)
  refine lv_icmp_eq (tgt := 1479) hx hb dL_law_1057 (by decide) (fun _ => ?_) (fun c_ => absurd he c_)
  exact hk _ _ H locs ls hI2 hP hP2 hS hl
set_option maxRecDepth 100000 in
set_option maxHeartbeats 4000000 in
theorem lc_who {p : Program} {l : Launch} {e : Env} {s : State} {m : MethodId} {below : List Frame} {meth : Method} {c : Code} {gX gM : Gw} {b L t : Nat} {xs : Nat → Int32} (hL : L ≤ 3072) (ht : 6 * t + 6 ≤ L) (hX : va_X b L xs s s.heap) (hbl : b < s.heap.size) (CX : Cx wkX gX p s m #[Value.ref b] meth c cL_law 4 RL ret) (CM : Cx wkM gM p s m #[Value.ref b] meth c cL_law 4 RL ret) (hAX : ∀ q, AS wkX gX q → s.heap.size ≤ q) (hAM : ∀ q, AS wkM gM q → s.heap.size ≤ q) (hd1 : ∀ q, AS wkX gX q → ¬ AS wkM gM q) (hd2 : ∀ q, AS wkM gM q → ¬ AS wkX gX q) {σx σm : Sto} (hI : Inv σx σm) {H : Heap} {locs : List Loc} {ls : Array Slot} (hP : wS wkX gX σx H) (hP2 : wS wkM gM σm H) (hS : va_S (bA s.heap.size) s.heap H locs) (hl : lv_has ls 4 [(0, .ref b), (1, .ref (adG gX 0)), (2, .ref (adG gM 0)), (3, .int (nI (6 * t)))]) {Q : State → Prop} (hk : ∀ (σx σm : Sto) (H : Heap) (locs : List Loc) (ls : Array Slot), Inv σx σm → wS wkX gX σx H → wS wkM gM σm H → va_S (bA s.heap.size) s.heap H locs → lv_has ls 4 [(0, .ref b), (1, .ref (adG gX 0)), (2, .ref (adG gM 0)), (3, .int (nI (6 * t)))] → W p l e room_1 s m #[Value.ref b] below meth c H locs 291 6240 Q (F0 m 1479 ls [])) : W p l e room_1 s m #[Value.ref b] below meth c H locs 291 6240 Q (F0 m 1062 ls []) := by
  obtain ⟨hx, hb, hml, hown, hts, hr, hlk, hK, hZ⟩ := id CX
  have hbA : ¬ bA s.heap.size b := Nat.not_le.mpr hbl
  have hi1 : vp_in (nI (6 * t) + 1) L := by rw [show (1 : Int32) = nI 1 from rfl, nI_add]; exact vp_in_nI (by omega) (by omega)
  have hi2 : vp_in (nI (6 * t) + 2) L := by rw [show (2 : Int32) = nI 2 from rfl, nI_add]; exact vp_in_nI (by omega) (by omega)
  have hi3 : vp_in (nI (6 * t) + 3) L := by rw [show (3 : Int32) = nI 3 from rfl, nI_add]; exact vp_in_nI (by omega) (by omega)
  have hi4 : vp_in (nI (6 * t) + 4) L := by rw [show (4 : Int32) = nI 4 from rfl, nI_add]; exact vp_in_nI (by omega) (by omega)
  have hi5 : vp_in (nI (6 * t) + 5) L := by rw [show (5 : Int32) = nI 5 from rfl, nI_add]; exact vp_in_nI (by omega) (by omega)
  obtain ⟨qx, qm, hx1, hm1, he, hI2⟩ := op_who hI (xs (nI (6 * t) + 1).toNatClampNeg) (xs (nI (6 * t) + 2).toNatClampNeg) (xs (nI (6 * t) + 3).toNatClampNeg) (xs (nI (6 * t) + 4).toNatClampNeg) (xs (nI (6 * t) + 5).toNatClampNeg)
  refine lv_aload_n hx hb dL_law_1062 rfl (lv_at hl 1 rfl) ?_
  refine lv_aload_n hx hb dL_law_1063 rfl (lv_at hl 0 rfl) ?_
  refine lv_iload_n hx hb dL_law_1064 rfl (lv_at hl 3 rfl) ?_
  refine lv_iconst (v := 1) hx hb dL_law_1065 (by decide) ?_
  refine lv_iadd hx hb dL_law_1066 ?_
  refine va_sld hx hb hX hbl hbA hS hi1 dL_law_1067 ?_
  refine lv_aload_n hx hb dL_law_1068 rfl (lv_at hl 0 rfl) ?_
  refine lv_iload_n hx hb dL_law_1069 rfl (lv_at hl 3 rfl) ?_
  refine lv_iconst (v := 2) hx hb dL_law_1070 (by decide) ?_
  refine lv_iadd hx hb dL_law_1071 ?_
  refine va_sld hx hb hX hbl hbA hS hi2 dL_law_1072 ?_
  refine lv_aload_n hx hb dL_law_1073 rfl (lv_at hl 0 rfl) ?_
  refine lv_iload_n hx hb dL_law_1074 rfl (lv_at hl 3 rfl) ?_
  refine lv_iconst (v := 3) hx hb dL_law_1075 (by decide) ?_
  refine lv_iadd hx hb dL_law_1076 ?_
  refine va_sld hx hb hX hbl hbA hS hi3 dL_law_1077 ?_
  refine lv_aload_n hx hb dL_law_1078 rfl (lv_at hl 0 rfl) ?_
  refine lv_iload_n hx hb dL_law_1079 rfl (lv_at hl 3 rfl) ?_
  refine lv_iconst (v := 4) hx hb dL_law_1080 (by decide) ?_
  refine lv_iadd hx hb dL_law_1081 ?_
  refine va_sld hx hb hX hbl hbA hS hi4 dL_law_1082 ?_
  refine lv_aload_n hx hb dL_law_1083 rfl (lv_at hl 0 rfl) ?_
  refine lv_iload_n hx hb dL_law_1084 rfl (lv_at hl 3 rfl) ?_
  refine lv_iconst (v := 5) hx hb dL_law_1085 (by decide) ?_
  refine lv_iadd hx hb dL_law_1086 ?_
  refine va_sld hx hb hX hbl hbA hS hi5 dL_law_1087 ?_
  refine law_ci (As := [.int (xs (nI (6 * t) + 1).toNatClampNeg), .int (xs (nI (6 * t) + 2).toNatClampNeg), .int (xs (nI (6 * t) + 3).toNatClampNeg), .int (xs (nI (6 * t) + 4).toNatClampNeg), .int (xs (nI (6 * t) + 5).toNatClampNeg)]) (rest := []) CX ca_X9_who (ctX9_who (xs (nI (6 * t) + 1).toNatClampNeg) (xs (nI (6 * t) + 2).toNatClampNeg) (xs (nI (6 * t) + 3).toNatClampNeg) (xs (nI (6 * t) + 4).toNatClampNeg) (xs (nI (6 * t) + 5).toNatClampNeg) hx1) cf_9 sx_0 kx_0 tw_933 ⟨Nat.le_of_ble_eq_true rfl, Nat.le_of_ble_eq_true rfl⟩ rfl hl.1 (Nat.le_of_ble_eq_true rfl) ⟨Nat.le_of_ble_eq_true rfl, Nat.le_of_ble_eq_true rfl⟩ hP hP2 hS hAX hd1 dL_law_1088 (fun H locs hP hP2 hS => ?_)
  refine lv_aload_n hx hb dL_law_1091 rfl (lv_at hl 2 rfl) ?_
  refine lv_aload_n hx hb dL_law_1092 rfl (lv_at hl 0 rfl) ?_
  refine lv_iload_n hx hb dL_law_1093 rfl (lv_at hl 3 rfl) ?_
  refine lv_iconst (v := 1) hx hb dL_law_1094 (by decide) ?_
  refine lv_iadd hx hb dL_law_1095 ?_
  refine va_sld hx hb hX hbl hbA hS hi1 dL_law_1096 ?_
  refine lv_aload_n hx hb dL_law_1097 rfl (lv_at hl 0 rfl) ?_
  refine lv_iload_n hx hb dL_law_1098 rfl (lv_at hl 3 rfl) ?_
  refine lv_iconst (v := 2) hx hb dL_law_1099 (by decide) ?_
  refine lv_iadd hx hb dL_law_1100 ?_
  refine va_sld hx hb hX hbl hbA hS hi2 dL_law_1101 ?_
  refine lv_aload_n hx hb dL_law_1102 rfl (lv_at hl 0 rfl) ?_
  refine lv_iload_n hx hb dL_law_1103 rfl (lv_at hl 3 rfl) ?_
  refine lv_iconst (v := 3) hx hb dL_law_1104 (by decide) ?_
  refine lv_iadd hx hb dL_law_1105 ?_
  refine va_sld hx hb hX hbl hbA hS hi3 dL_law_1106 ?_
  refine lv_aload_n hx hb dL_law_1107 rfl (lv_at hl 0 rfl) ?_
  refine lv_iload_n hx hb dL_law_1108 rfl (lv_at hl 3 rfl) ?_
  refine lv_iconst (v := 4) hx hb dL_law_1109 (by decide) ?_
  refine lv_iadd hx hb dL_law_1110 ?_
  refine va_sld hx hb hX hbl hbA hS hi4 dL_law_1111 ?_
  refine lv_aload_n hx hb dL_law_1112 rfl (lv_at hl 0 rfl) ?_
  refine lv_iload_n hx hb dL_law_1113 rfl (lv_at hl 3 rfl) ?_
  refine lv_iconst (v := 5) hx hb dL_law_1114 (by decide) ?_
  refine lv_iadd hx hb dL_law_1115 ?_
  refine va_sld hx hb hX hbl hbA hS hi5 dL_law_1116 ?_
  refine law_ci (As := [.int (xs (nI (6 * t) + 1).toNatClampNeg), .int (xs (nI (6 * t) + 2).toNatClampNeg), .int (xs (nI (6 * t) + 3).toNatClampNeg), .int (xs (nI (6 * t) + 4).toNatClampNeg), .int (xs (nI (6 * t) + 5).toNatClampNeg)]) (rest := [.int qx.2]) CM ca_X10_who (ctX10_who (xs (nI (6 * t) + 1).toNatClampNeg) (xs (nI (6 * t) + 2).toNatClampNeg) (xs (nI (6 * t) + 3).toNatClampNeg) (xs (nI (6 * t) + 4).toNatClampNeg) (xs (nI (6 * t) + 5).toNatClampNeg) hm1) cf_10 sm_0 km_0 tw_963 ⟨Nat.le_of_ble_eq_true rfl, Nat.le_of_ble_eq_true rfl⟩ rfl hl.1 (Nat.le_of_ble_eq_true rfl) ⟨Nat.le_of_ble_eq_true rfl, Nat.le_of_ble_eq_true rfl⟩ hP2 hP hS hAM hd2 dL_law_1117 (fun H locs hP2 hP hS => ?_)
  refine lv_icmp_eq (tgt := 1479) hx hb dL_law_1120 (by decide) (fun _ => ?_) (fun c_ => absurd he c_)
  exact hk _ _ H locs ls hI2 hP hP2 hS hl
set_option maxRecDepth 100000 in
set_option maxHeartbeats 4000000 in
theorem lc_feeds {p : Program} {l : Launch} {e : Env} {s : State} {m : MethodId} {below : List Frame} {meth : Method} {c : Code} {gX gM : Gw} {b L t : Nat} {xs : Nat → Int32} (hL : L ≤ 3072) (ht : 6 * t + 6 ≤ L) (hX : va_X b L xs s s.heap) (hbl : b < s.heap.size) (CX : Cx wkX gX p s m #[Value.ref b] meth c cL_law 4 RL ret) (CM : Cx wkM gM p s m #[Value.ref b] meth c cL_law 4 RL ret) (hAX : ∀ q, AS wkX gX q → s.heap.size ≤ q) (hAM : ∀ q, AS wkM gM q → s.heap.size ≤ q) (hd1 : ∀ q, AS wkX gX q → ¬ AS wkM gM q) (hd2 : ∀ q, AS wkM gM q → ¬ AS wkX gX q) {σx σm : Sto} (hI : Inv σx σm) {H : Heap} {locs : List Loc} {ls : Array Slot} (hP : wS wkX gX σx H) (hP2 : wS wkM gM σm H) (hS : va_S (bA s.heap.size) s.heap H locs) (hl : lv_has ls 4 [(0, .ref b), (1, .ref (adG gX 0)), (2, .ref (adG gM 0)), (3, .int (nI (6 * t)))]) {Q : State → Prop} (hk : ∀ (σx σm : Sto) (H : Heap) (locs : List Loc) (ls : Array Slot), Inv σx σm → wS wkX gX σx H → wS wkM gM σm H → va_S (bA s.heap.size) s.heap H locs → lv_has ls 4 [(0, .ref b), (1, .ref (adG gX 0)), (2, .ref (adG gM 0)), (3, .int (nI (6 * t)))] → W p l e room_1 s m #[Value.ref b] below meth c H locs 291 6240 Q (F0 m 1479 ls [])) : W p l e room_1 s m #[Value.ref b] below meth c H locs 291 6240 Q (F0 m 1125 ls []) := by
  obtain ⟨hx, hb, hml, hown, hts, hr, hlk, hK, hZ⟩ := id CX
  have hbA : ¬ bA s.heap.size b := Nat.not_le.mpr hbl
  have hi1 : vp_in (nI (6 * t) + 1) L := by rw [show (1 : Int32) = nI 1 from rfl, nI_add]; exact vp_in_nI (by omega) (by omega)
  have hi2 : vp_in (nI (6 * t) + 2) L := by rw [show (2 : Int32) = nI 2 from rfl, nI_add]; exact vp_in_nI (by omega) (by omega)
  have hi3 : vp_in (nI (6 * t) + 3) L := by rw [show (3 : Int32) = nI 3 from rfl, nI_add]; exact vp_in_nI (by omega) (by omega)
  have hi4 : vp_in (nI (6 * t) + 4) L := by rw [show (4 : Int32) = nI 4 from rfl, nI_add]; exact vp_in_nI (by omega) (by omega)
  have hi5 : vp_in (nI (6 * t) + 5) L := by rw [show (5 : Int32) = nI 5 from rfl, nI_add]; exact vp_in_nI (by omega) (by omega)
  obtain ⟨qx, qm, hx1, hm1, he, hI2⟩ := op_feeds hI (xs (nI (6 * t) + 1).toNatClampNeg) (xs (nI (6 * t) + 2).toNatClampNeg) (xs (nI (6 * t) + 3).toNatClampNeg) (xs (nI (6 * t) + 4).toNatClampNeg) (xs (nI (6 * t) + 5).toNatClampNeg)
  refine lv_aload_n hx hb dL_law_1125 rfl (lv_at hl 1 rfl) ?_
  refine lv_aload_n hx hb dL_law_1126 rfl (lv_at hl 0 rfl) ?_
  refine lv_iload_n hx hb dL_law_1127 rfl (lv_at hl 3 rfl) ?_
  refine lv_iconst (v := 1) hx hb dL_law_1128 (by decide) ?_
  refine lv_iadd hx hb dL_law_1129 ?_
  refine va_sld hx hb hX hbl hbA hS hi1 dL_law_1130 ?_
  refine lv_aload_n hx hb dL_law_1131 rfl (lv_at hl 0 rfl) ?_
  refine lv_iload_n hx hb dL_law_1132 rfl (lv_at hl 3 rfl) ?_
  refine lv_iconst (v := 2) hx hb dL_law_1133 (by decide) ?_
  refine lv_iadd hx hb dL_law_1134 ?_
  refine va_sld hx hb hX hbl hbA hS hi2 dL_law_1135 ?_
  refine lv_aload_n hx hb dL_law_1136 rfl (lv_at hl 0 rfl) ?_
  refine lv_iload_n hx hb dL_law_1137 rfl (lv_at hl 3 rfl) ?_
  refine lv_iconst (v := 3) hx hb dL_law_1138 (by decide) ?_
  refine lv_iadd hx hb dL_law_1139 ?_
  refine va_sld hx hb hX hbl hbA hS hi3 dL_law_1140 ?_
  refine lv_aload_n hx hb dL_law_1141 rfl (lv_at hl 0 rfl) ?_
  refine lv_iload_n hx hb dL_law_1142 rfl (lv_at hl 3 rfl) ?_
  refine lv_iconst (v := 4) hx hb dL_law_1143 (by decide) ?_
  refine lv_iadd hx hb dL_law_1144 ?_
  refine va_sld hx hb hX hbl hbA hS hi4 dL_law_1145 ?_
  refine lv_aload_n hx hb dL_law_1146 rfl (lv_at hl 0 rfl) ?_
  refine lv_iload_n hx hb dL_law_1147 rfl (lv_at hl 3 rfl) ?_
  refine lv_iconst (v := 5) hx hb dL_law_1148 (by decide) ?_
  refine lv_iadd hx hb dL_law_1149 ?_
  refine va_sld hx hb hX hbl hbA hS hi5 dL_law_1150 ?_
  refine law_ci (As := [.int (xs (nI (6 * t) + 1).toNatClampNeg), .int (xs (nI (6 * t) + 2).toNatClampNeg), .int (xs (nI (6 * t) + 3).toNatClampNeg), .int (xs (nI (6 * t) + 4).toNatClampNeg), .int (xs (nI (6 * t) + 5).toNatClampNeg)]) (rest := []) CX ca_X9_feeds (ctX9_feeds (xs (nI (6 * t) + 1).toNatClampNeg) (xs (nI (6 * t) + 2).toNatClampNeg) (xs (nI (6 * t) + 3).toNatClampNeg) (xs (nI (6 * t) + 4).toNatClampNeg) (xs (nI (6 * t) + 5).toNatClampNeg) hx1) cf_9 sx_0 kx_0 tw_976 ⟨Nat.le_of_ble_eq_true rfl, Nat.le_of_ble_eq_true rfl⟩ rfl hl.1 (Nat.le_of_ble_eq_true rfl) ⟨Nat.le_of_ble_eq_true rfl, Nat.le_of_ble_eq_true rfl⟩ hP hP2 hS hAX hd1 dL_law_1151 (fun H locs hP hP2 hS => ?_)
  refine lv_aload_n hx hb dL_law_1154 rfl (lv_at hl 2 rfl) ?_
  refine lv_aload_n hx hb dL_law_1155 rfl (lv_at hl 0 rfl) ?_
  refine lv_iload_n hx hb dL_law_1156 rfl (lv_at hl 3 rfl) ?_
  refine lv_iconst (v := 1) hx hb dL_law_1157 (by decide) ?_
  refine lv_iadd hx hb dL_law_1158 ?_
  refine va_sld hx hb hX hbl hbA hS hi1 dL_law_1159 ?_
  refine lv_aload_n hx hb dL_law_1160 rfl (lv_at hl 0 rfl) ?_
  refine lv_iload_n hx hb dL_law_1161 rfl (lv_at hl 3 rfl) ?_
  refine lv_iconst (v := 2) hx hb dL_law_1162 (by decide) ?_
  refine lv_iadd hx hb dL_law_1163 ?_
  refine va_sld hx hb hX hbl hbA hS hi2 dL_law_1164 ?_
  refine lv_aload_n hx hb dL_law_1165 rfl (lv_at hl 0 rfl) ?_
  refine lv_iload_n hx hb dL_law_1166 rfl (lv_at hl 3 rfl) ?_
  refine lv_iconst (v := 3) hx hb dL_law_1167 (by decide) ?_
  refine lv_iadd hx hb dL_law_1168 ?_
  refine va_sld hx hb hX hbl hbA hS hi3 dL_law_1169 ?_
  refine lv_aload_n hx hb dL_law_1170 rfl (lv_at hl 0 rfl) ?_
  refine lv_iload_n hx hb dL_law_1171 rfl (lv_at hl 3 rfl) ?_
  refine lv_iconst (v := 4) hx hb dL_law_1172 (by decide) ?_
  refine lv_iadd hx hb dL_law_1173 ?_
  refine va_sld hx hb hX hbl hbA hS hi4 dL_law_1174 ?_
  refine lv_aload_n hx hb dL_law_1175 rfl (lv_at hl 0 rfl) ?_
  refine lv_iload_n hx hb dL_law_1176 rfl (lv_at hl 3 rfl) ?_
  refine lv_iconst (v := 5) hx hb dL_law_1177 (by decide) ?_
  refine lv_iadd hx hb dL_law_1178 ?_
  refine va_sld hx hb hX hbl hbA hS hi5 dL_law_1179 ?_
  refine law_ci (As := [.int (xs (nI (6 * t) + 1).toNatClampNeg), .int (xs (nI (6 * t) + 2).toNatClampNeg), .int (xs (nI (6 * t) + 3).toNatClampNeg), .int (xs (nI (6 * t) + 4).toNatClampNeg), .int (xs (nI (6 * t) + 5).toNatClampNeg)]) (rest := [.int qx.2]) CM ca_X10_feeds (ctX10_feeds (xs (nI (6 * t) + 1).toNatClampNeg) (xs (nI (6 * t) + 2).toNatClampNeg) (xs (nI (6 * t) + 3).toNatClampNeg) (xs (nI (6 * t) + 4).toNatClampNeg) (xs (nI (6 * t) + 5).toNatClampNeg) hm1) cf_10 sm_0 km_0 tw_999 ⟨Nat.le_of_ble_eq_true rfl, Nat.le_of_ble_eq_true rfl⟩ rfl hl.1 (Nat.le_of_ble_eq_true rfl) ⟨Nat.le_of_ble_eq_true rfl, Nat.le_of_ble_eq_true rfl⟩ hP2 hP hS hAM hd2 dL_law_1180 (fun H locs hP2 hP hS => ?_)
  refine lv_icmp_eq (tgt := 1479) hx hb dL_law_1183 (by decide) (fun _ => ?_) (fun c_ => absurd he c_)
  exact hk _ _ H locs ls hI2 hP hP2 hS hl
