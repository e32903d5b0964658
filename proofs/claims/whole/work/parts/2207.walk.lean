set_option maxRecDepth 100000 in
set_option maxHeartbeats 4000000 in
theorem ctX10_drawn {l : Launch} {g : Gw} {σ : Sto} (x1 : Int32) (x2 : Int32) (x3 : Int32) {Rz : (Sto × Int32)} (h : fX10_drawn σ x1 x2 x3 = some Rz) : MtG l yX10_drawn cX10_drawn 11 (some .int) 5 wkM g [.ref (adG g 0), .int x1, .int x2, .int x3] σ (QiS wkM g Rz.1 Rz.2) := by
  refine mt_of (by decide) (Nat.le_of_ble_eq_true rfl) (fun p e s m below meth c ls H locs C hP hS hl => ?_)
  have C : Cx wkM g p s m _ meth c cX10_drawn 11 RX10 (some .int) := C
  have hl : lv_has ls 11 [(0, .ref (adG g 0)), (1, .int x1), (2, .int x2), (3, .int x3)] := hl
  obtain ⟨hx, hb, hml, hown, hts, hr, hlk, hK, hZ⟩ := id C
  unfold fX10_drawn at h
  refine lv_aload_n hx hb dX10_drawn_0 rfl (lv_at hl 0 rfl) ?_
  refine end_i (run_v (As := []) (rest := []) C ca_X10_isThere (ctX10_isThere rfl) cf_10 sm_0 km_0 tw_482 ⟨Nat.le_of_ble_eq_true rfl, Nat.le_of_ble_eq_true rfl⟩ rfl hl.1 (Nat.le_of_ble_eq_true rfl) ⟨Nat.le_refl _, Nat.le_refl _⟩ hP hS dX10_drawn_1) hS (fun H locs hP hS => ?_)
  refine lv_if_ne (tgt := 10) hx hb dX10_drawn_4 (by decide) (fun c_ => ?_) (fun c_ => ?_)
  · replace h := if_f c_ h
    refine lv_iload_n hx hb dX10_drawn_10 rfl (lv_at hl 1 rfl) ?_
    refine lv_i2l hx hb dX10_drawn_11 rfl ?_
    refine lv_lconst (v := 0) hx hb dX10_drawn_12 (by decide) ?_
    refine lv_ldc2 hx hb hown (hts _ tw_649) dX10_drawn_13 ?_
    refine end_i (run_s (As := [.long x1.toInt64, .long (0 : Int64), .long (60 : Int64)]) (rest := []) C ca_X10_in (ctX10_in x1.toInt64 (0 : Int64) (60 : Int64) rfl) tw_193 ⟨Nat.le_of_ble_eq_true rfl, Nat.le_of_ble_eq_true rfl⟩ rfl hl.1 (Nat.le_of_ble_eq_true rfl) ⟨Nat.le_refl _, Nat.le_refl _⟩ hP hS dX10_drawn_16) hS (fun H locs hP hS => ?_)
    refine lv_if_eq (tgt := 41) hx hb dX10_drawn_19 (by decide) (fun c_ => ?_) (fun c_ => ?_)
    · replace h := if_t c_ h
      refine lv_ldc hx hb hown (hts _ tw_188) dX10_drawn_41 ?_
      exact r_reti C hP hS (rt_ow1 h) (rt_ow2 h) dX10_drawn_43
    · replace h := if_f c_ h
      refine lv_iload_n hx hb dX10_drawn_22 rfl (lv_at hl 2 rfl) ?_
      refine lv_i2l hx hb dX10_drawn_23 rfl ?_
      refine lv_lconst (v := 1) hx hb dX10_drawn_24 (by decide) ?_
      refine lv_ldc2 hx hb hown (hts _ tw_1061) dX10_drawn_25 ?_
      refine end_i (run_s (As := [.long x2.toInt64, .long (1 : Int64), .long (999999 : Int64)]) (rest := []) C ca_X10_in (ctX10_in x2.toInt64 (1 : Int64) (999999 : Int64) rfl) tw_193 ⟨Nat.le_of_ble_eq_true rfl, Nat.le_of_ble_eq_true rfl⟩ rfl hl.1 (Nat.le_of_ble_eq_true rfl) ⟨Nat.le_refl _, Nat.le_refl _⟩ hP hS dX10_drawn_28) hS (fun H locs hP hS => ?_)
      refine lv_if_eq (tgt := 41) hx hb dX10_drawn_31 (by decide) (fun c_ => ?_) (fun c_ => ?_)
      · replace h := if_t c_ h
        refine lv_ldc hx hb hown (hts _ tw_188) dX10_drawn_41 ?_
        exact r_reti C hP hS (rt_ow1 h) (rt_ow2 h) dX10_drawn_43
      · replace h := if_f c_ h
        refine lv_iload_n hx hb dX10_drawn_34 rfl (lv_at hl 3 rfl) ?_
        refine end_i (run_s (As := [.int x3]) (rest := []) C ca_X10_isTwo (ctX10_isTwo x3 rfl) tw_697 ⟨Nat.le_of_ble_eq_true rfl, Nat.le_of_ble_eq_true rfl⟩ rfl hl.1 (Nat.le_of_ble_eq_true rfl) ⟨Nat.le_refl _, Nat.le_refl _⟩ hP hS dX10_drawn_35) hS (fun H locs hP hS => ?_)
        refine lv_if_ne (tgt := 44) hx hb dX10_drawn_38 (by decide) (fun c_ => ?_) (fun c_ => ?_)
        · replace h := if_f c_ h
          refine lv_aload_n hx hb dX10_drawn_44 rfl (lv_at hl 0 rfl) ?_
          refine lv_iconst (v := 0) hx hb dX10_drawn_45 (by decide) ?_
          obtain ⟨q_5, hq_5, h⟩ := bd_inv h
          refine end_v (run_v (As := [.int (0 : Int32)]) (rest := []) C ca_X10_laysAside (ctX10_laysAside (0 : Int32) hq_5) cf_10 sm_0 km_0 tw_650 ⟨Nat.le_of_ble_eq_true rfl, Nat.le_of_ble_eq_true rfl⟩ rfl hl.1 (Nat.le_of_ble_eq_true rfl) ⟨Nat.le_refl _, Nat.le_refl _⟩ hP hS dX10_drawn_46) hS (fun H locs hP hS => ?_)
          refine lv_iload_n hx hb dX10_drawn_49 rfl (lv_at hl 3 rfl) ?_
          refine lv_if_ne (tgt := 57) hx hb dX10_drawn_50 (by decide) (fun c_ => ?_) (fun c_ => ?_)
          · replace h := if_f c_ h
            refine lv_iconst (v := 1) hx hb dX10_drawn_57 (by decide) ?_
            exact wfX10_drawn_j58 C q_5 x1 x2 (1 : Int32) H locs ls h hP hS (lv_sub hl [0, 1, 2] rfl)
          · replace h := if_t c_ h
            refine lv_iconst (v := 2) hx hb dX10_drawn_53 (by decide) ?_
            refine lv_goto (tgt := 58) hx hb dX10_drawn_54 (by decide) ?_
            exact wfX10_drawn_j58 C q_5 x1 x2 (2 : Int32) H locs ls h hP hS (lv_sub hl [0, 1, 2] rfl)
        · replace h := if_t c_ h
          refine lv_ldc hx hb hown (hts _ tw_188) dX10_drawn_41 ?_
          exact r_reti C hP hS (rt_ow1 h) (rt_ow2 h) dX10_drawn_43
  · replace h := if_t c_ h
    refine lv_ldc hx hb hown (hts _ tw_436) dX10_drawn_7 ?_
    exact r_reti C hP hS (rt_ow1 h) (rt_ow2 h) dX10_drawn_9

set_option maxRecDepth 100000 in
set_option maxHeartbeats 4000000 in
theorem ctX10_image {l : Launch} {g : Gw} {σ : Sto} (x1 : Int32) {Rz : (Sto × Int32)} (h : fX10_image σ x1 = some Rz) : MtG l yX10_image cX10_image 2 (some .int) 2 wkM g [.ref (adG g 0), .int x1] σ (QiS wkM g Rz.1 Rz.2) := by
  refine mt_of (by decide) (Nat.le_of_ble_eq_true rfl) (fun p e s m below meth c ls H locs C hP hS hl => ?_)
  have C : Cx wkM g p s m _ meth c cX10_image 2 RX10 (some .int) := C
  have hl : lv_has ls 2 [(0, .ref (adG g 0)), (1, .int x1)] := hl
  obtain ⟨hx, hb, hml, hown, hts, hr, hlk, hK, hZ⟩ := id C
  unfold fX10_image at h
  refine lv_iload_n hx hb dX10_image_0 rfl (lv_at hl 1 rfl) ?_
  refine end_i (run_s (As := [.int x1]) (rest := []) C ca_X10_isTwo (ctX10_isTwo x1 rfl) tw_697 ⟨Nat.le_of_ble_eq_true rfl, Nat.le_of_ble_eq_true rfl⟩ rfl hl.1 (Nat.le_of_ble_eq_true rfl) ⟨Nat.le_refl _, Nat.le_refl _⟩ hP hS dX10_image_1) hS (fun H locs hP hS => ?_)
  refine lv_if_ne (tgt := 10) hx hb dX10_image_4 (by decide) (fun c_ => ?_) (fun c_ => ?_)
  · replace h := if_f c_ h
    refine lv_aload_n hx hb dX10_image_10 rfl (lv_at hl 0 rfl) ?_
    refine end_i (run_v (As := []) (rest := []) C ca_X10_isThere (ctX10_isThere rfl) cf_10 sm_0 km_0 tw_482 ⟨Nat.le_of_ble_eq_true rfl, Nat.le_of_ble_eq_true rfl⟩ rfl hl.1 (Nat.le_of_ble_eq_true rfl) ⟨Nat.le_refl _, Nat.le_refl _⟩ hP hS dX10_image_11) hS (fun H locs hP hS => ?_)
    refine lv_if_ne (tgt := 20) hx hb dX10_image_14 (by decide) (fun c_ => ?_) (fun c_ => ?_)
    · replace h := if_f c_ h
      refine lv_aload_n hx hb dX10_image_20 rfl (lv_at hl 0 rfl) ?_
      refine r_getr C cf_10 hP sm_0 km_0 4 (by decide) rfl tw_147 dX10_image_21 ?_
      refine lv_iconst (v := 0) hx hb dX10_image_24 (by decide) ?_
      refine lv_aload_n hx hb dX10_image_25 rfl (lv_at hl 0 rfl) ?_
      refine r_getr C cf_10 hP sm_0 km_0 9 (by decide) rfl tw_151 dX10_image_26 ?_
      refine lv_bipush (v := 59) hx hb dX10_image_29 (by decide) ?_
      refine lv_iload_n hx hb dX10_image_31 rfl (lv_at hl 1 rfl) ?_
      refine lv_imul hx hb dX10_image_32 ?_
      obtain ⟨q_3, hq_3, h⟩ := bd_inv h
      refine end_v (run_s (As := [.ref (adG g 4), .int (0 : Int32), .ref (adG g 8), .int ((59 : Int32) * x1)]) (rest := []) C ca_X10_copies (ctX10_copies 4 (isT_of sm_4 km_4) (0 : Int32) 8 (isT_of sm_8 km_8) ((59 : Int32) * x1) hq_3) tw_409 ⟨Nat.le_of_ble_eq_true rfl, Nat.le_of_ble_eq_true rfl⟩ rfl hl.1 (Nat.le_of_ble_eq_true rfl) ⟨Nat.le_refl _, Nat.le_refl _⟩ hP hS dX10_image_33) hS (fun H locs hP hS => ?_)
      refine lv_aload_n hx hb dX10_image_36 rfl (lv_at hl 0 rfl) ?_
      refine r_getr C cf_10 hP sm_0 km_0 10 (by decide) rfl tw_152 dX10_image_37 ?_
      refine lv_iload_n hx hb dX10_image_40 rfl (lv_at hl 1 rfl) ?_
      refine lv_iconst (v := 1) hx hb dX10_image_41 (by decide) ?_
      obtain ⟨g_4, h⟩ := gd_inv h
      refine r_zast C hP hS sm_9 km_9 rfl g_4 dX10_image_42 (fun H locs σ_5 eσ_5 hP hS => ?_)
      replace h := un_at eσ_5 h
      refine lv_iconst (v := 1) hx hb dX10_image_43 (by decide) ?_
      exact r_reti C hP hS (rt_ow1 h) (rt_ow2 h) dX10_image_44
    · replace h := if_t c_ h
      refine lv_ldc hx hb hown (hts _ tw_436) dX10_image_17 ?_
      exact r_reti C hP hS (rt_ow1 h) (rt_ow2 h) dX10_image_19
  · replace h := if_t c_ h
    refine lv_ldc hx hb hown (hts _ tw_188) dX10_image_7 ?_
    exact r_reti C hP hS (rt_ow1 h) (rt_ow2 h) dX10_image_9

set_option maxRecDepth 100000 in
set_option maxHeartbeats 4000000 in
theorem ctX10_restore {l : Launch} {g : Gw} {σ : Sto} (x1 : Int32) {Rz : (Sto × Int32)} (h : fX10_restore σ x1 = some Rz) : MtG l yX10_restore cX10_restore 2 (some .int) 2 wkM g [.ref (adG g 0), .int x1] σ (QiS wkM g Rz.1 Rz.2) := by
  refine mt_of (by decide) (Nat.le_of_ble_eq_true rfl) (fun p e s m below meth c ls H locs C hP hS hl => ?_)
  have C : Cx wkM g p s m _ meth c cX10_restore 2 RX10 (some .int) := C
  have hl : lv_has ls 2 [(0, .ref (adG g 0)), (1, .int x1)] := hl
  obtain ⟨hx, hb, hml, hown, hts, hr, hlk, hK, hZ⟩ := id C
  unfold fX10_restore at h
  refine lv_iload_n hx hb dX10_restore_0 rfl (lv_at hl 1 rfl) ?_
  refine end_i (run_s (As := [.int x1]) (rest := []) C ca_X10_isTwo (ctX10_isTwo x1 rfl) tw_697 ⟨Nat.le_of_ble_eq_true rfl, Nat.le_of_ble_eq_true rfl⟩ rfl hl.1 (Nat.le_of_ble_eq_true rfl) ⟨Nat.le_refl _, Nat.le_refl _⟩ hP hS dX10_restore_1) hS (fun H locs hP hS => ?_)
  refine lv_if_ne (tgt := 10) hx hb dX10_restore_4 (by decide) (fun c_ => ?_) (fun c_ => ?_)
  · replace h := if_f c_ h
    refine lv_aload_n hx hb dX10_restore_10 rfl (lv_at hl 0 rfl) ?_
    refine r_getr C cf_10 hP sm_0 km_0 10 (by decide) rfl tw_152 dX10_restore_11 ?_
    refine lv_iload_n hx hb dX10_restore_14 rfl (lv_at hl 1 rfl) ?_
    obtain ⟨g_2, h⟩ := gd_inv h
    refine r_zald C hP sm_9 km_9 rfl g_2 dX10_restore_15 ?_
    refine lv_if_ne (tgt := 22) hx hb dX10_restore_16 (by decide) (fun c_ => ?_) (fun c_ => ?_)
    · replace h := if_f c_ h
      refine lv_aload_n hx hb dX10_restore_22 rfl (lv_at hl 0 rfl) ?_
      refine r_getr C cf_10 hP sm_0 km_0 9 (by decide) rfl tw_151 dX10_restore_23 ?_
      refine lv_bipush (v := 59) hx hb dX10_restore_26 (by decide) ?_
      refine lv_iload_n hx hb dX10_restore_28 rfl (lv_at hl 1 rfl) ?_
      refine lv_imul hx hb dX10_restore_29 ?_
      refine lv_aload_n hx hb dX10_restore_30 rfl (lv_at hl 0 rfl) ?_
      refine r_getr C cf_10 hP sm_0 km_0 4 (by decide) rfl tw_147 dX10_restore_31 ?_
      refine lv_iconst (v := 0) hx hb dX10_restore_34 (by decide) ?_
      obtain ⟨q_3, hq_3, h⟩ := bd_inv h
      refine end_v (run_s (As := [.ref (adG g 8), .int ((59 : Int32) * x1), .ref (adG g 4), .int (0 : Int32)]) (rest := []) C ca_X10_copies (ctX10_copies 8 (isT_of sm_8 km_8) ((59 : Int32) * x1) 4 (isT_of sm_4 km_4) (0 : Int32) hq_3) tw_409 ⟨Nat.le_of_ble_eq_true rfl, Nat.le_of_ble_eq_true rfl⟩ rfl hl.1 (Nat.le_of_ble_eq_true rfl) ⟨Nat.le_refl _, Nat.le_refl _⟩ hP hS dX10_restore_35) hS (fun H locs hP hS => ?_)
      refine lv_aload_n hx hb dX10_restore_38 rfl (lv_at hl 0 rfl) ?_
      refine lv_iconst (v := 0) hx hb dX10_restore_39 (by decide) ?_
      refine r_puti C cf_10 hP hS sm_0 km_0 8 (by decide) rfl rfl rfl tw_370 dX10_restore_40 (fun H locs σ_4 eσ_4 hP hS => ?_)
      replace h := un_at eσ_4 h
      refine lv_iconst (v := 1) hx hb dX10_restore_43 (by decide) ?_
      exact r_reti C hP hS (rt_ow1 h) (rt_ow2 h) dX10_restore_44
    · replace h := if_t c_ h
      refine lv_ldc hx hb hown (hts _ tw_436) dX10_restore_19 ?_
      exact r_reti C hP hS (rt_ow1 h) (rt_ow2 h) dX10_restore_21
  · replace h := if_t c_ h
    refine lv_ldc hx hb hown (hts _ tw_188) dX10_restore_7 ?_
    exact r_reti C hP hS (rt_ow1 h) (rt_ow2 h) dX10_restore_9

set_option maxRecDepth 100000 in
set_option maxHeartbeats 4000000 in
theorem ctX10_kind {l : Launch} {g : Gw} {σ : Sto} (x1 : Int32) {Rz : Int32} (h : fX10_kind σ x1 = some Rz) : MtG l yX10_kind cX10_kind 2 (some .int) 2 wkM g [.ref (adG g 0), .int x1] σ (QiS wkM g σ Rz) := by
  refine mt_of (by decide) (Nat.le_of_ble_eq_true rfl) (fun p e s m below meth c ls H locs C hP hS hl => ?_)
  have C : Cx wkM g p s m _ meth c cX10_kind 2 RX10 (some .int) := C
  have hl : lv_has ls 2 [(0, .ref (adG g 0)), (1, .int x1)] := hl
  obtain ⟨hx, hb, hml, hown, hts, hr, hlk, hK, hZ⟩ := id C
  unfold fX10_kind at h
  refine lv_aload_n hx hb dX10_kind_0 rfl (lv_at hl 0 rfl) ?_
  refine lv_iload_n hx hb dX10_kind_1 rfl (lv_at hl 1 rfl) ?_
  refine end_i (run_v (As := [.int x1]) (rest := []) C ca_X10_isThing (ctX10_isThing x1 rfl) cf_10 sm_0 km_0 tw_551 ⟨Nat.le_of_ble_eq_true rfl, Nat.le_of_ble_eq_true rfl⟩ rfl hl.1 (Nat.le_of_ble_eq_true rfl) ⟨Nat.le_refl _, Nat.le_refl _⟩ hP hS dX10_kind_2) hS (fun H locs hP hS => ?_)
  refine lv_if_eq (tgt := 20) hx hb dX10_kind_5 (by decide) (fun c_ => ?_) (fun c_ => ?_)
  · replace h := if_t c_ h
    refine lv_ldc hx hb hown (hts _ tw_188) dX10_kind_20 ?_
    exact r_reti C hP hS rfl (rt_o h) dX10_kind_22
  · replace h := if_f c_ h
    refine lv_aload_n hx hb dX10_kind_8 rfl (lv_at hl 0 rfl) ?_
    refine r_getr C cf_10 hP sm_0 km_0 4 (by decide) rfl tw_147 dX10_kind_9 ?_
    refine lv_bipush (v := 35) hx hb dX10_kind_12 (by decide) ?_
    refine lv_iload_n hx hb dX10_kind_14 rfl (lv_at hl 1 rfl) ?_
    refine lv_iadd hx hb dX10_kind_15 ?_
    obtain ⟨g_2, h⟩ := gd_inv h
    refine r_iald C hP sm_4 km_4 rfl g_2 dX10_kind_16 ?_
    refine lv_goto (tgt := 22) hx hb dX10_kind_17 (by decide) ?_
    exact r_reti C hP hS rfl (rt_o h) dX10_kind_22

set_option maxRecDepth 100000 in
set_option maxHeartbeats 4000000 in
theorem wfX10_isOf_j24 {l : Launch} {g : Gw} {p : Program} {e : Env} {s : State} {m : MethodId} {args : Array Value} {below : List Frame} {meth : Method} {c : Code} {σ : Sto} (C : Cx wkM g p s m args meth c cX10_isOf 2 RX10 (some .boolean)) {Rz : Int32} : ∀ (x0 : Int32) (x1 : Int32) (H : Heap) (locs : List Loc) (ls : Array Slot), fX10_isOf_j24 x0 x1 = Rz → wS wkM g σ H → va_S (AS wkM g) s.heap H locs → lv_has ls 2 [(0, .int x0), (1, .int x1)] → W p l e (rmS 0) s m args below meth c H locs 0 0 (MQ below (QiS wkM g σ Rz) args s 0 0 (AS wkM g)) (F0 m 24 ls []) := by
  intro x0 x1 H locs ls h hP hS hl
  obtain ⟨hx, hb, hml, hown, hts, hr, hlk, hK, hZ⟩ := id C
  unfold fX10_isOf_j24 at h
  refine lv_iload_n hx hb dX10_isOf_24 rfl (lv_at hl 1 rfl) ?_
  refine lv_iconst (v := 4) hx hb dX10_isOf_25 (by decide) ?_
  refine lv_icmp_ne (tgt := 38) hx hb dX10_isOf_26 (by decide) (fun c_ => ?_) (fun c_ => ?_)
  · replace h := if_f c_ h
    refine lv_iconst (v := 0) hx hb dX10_isOf_38 (by decide) ?_
    exact r_retz C hP hS rfl h rfl dX10_isOf_39
  · replace h := if_t c_ h
    refine lv_iload_n hx hb dX10_isOf_29 rfl (lv_at hl 0 rfl) ?_
    refine lv_iconst (v := 5) hx hb dX10_isOf_30 (by decide) ?_
    refine lv_icmp_ne (tgt := 38) hx hb dX10_isOf_31 (by decide) (fun c_ => ?_) (fun c_ => ?_)
    · replace h := if_f c_ h
      refine lv_iconst (v := 0) hx hb dX10_isOf_38 (by decide) ?_
      exact r_retz C hP hS rfl h rfl dX10_isOf_39
    · replace h := if_t c_ h
      refine lv_iconst (v := 1) hx hb dX10_isOf_34 (by decide) ?_
      refine lv_goto (tgt := 39) hx hb dX10_isOf_35 (by decide) ?_
      exact r_retz C hP hS rfl h rfl dX10_isOf_39

set_option maxRecDepth 100000 in
set_option maxHeartbeats 4000000 in
theorem ctX10_isOf {l : Launch} {g : Gw} {σ : Sto} (x0 : Int32) (x1 : Int32) {Rz : Int32} (h : fX10_isOf x0 x1 = Rz) : MtG l yX10_isOf cX10_isOf 2 (some .boolean) 0 wkM g [.int x0, .int x1] σ (QiS wkM g σ Rz) := by
  refine mt_of (by decide) (Nat.le_of_ble_eq_true rfl) (fun p e s m below meth c ls H locs C hP hS hl => ?_)
  have C : Cx wkM g p s m _ meth c cX10_isOf 2 RX10 (some .boolean) := C
  have hl : lv_has ls 2 [(0, .int x0), (1, .int x1)] := hl
  obtain ⟨hx, hb, hml, hown, hts, hr, hlk, hK, hZ⟩ := id C
  unfold fX10_isOf at h
  refine lv_iload_n hx hb dX10_isOf_0 rfl (lv_at hl 1 rfl) ?_
  refine lv_if_eq (tgt := 34) hx hb dX10_isOf_1 (by decide) (fun c_ => ?_) (fun c_ => ?_)
  · replace h := if_t c_ h
    refine lv_iconst (v := 1) hx hb dX10_isOf_34 (by decide) ?_
    refine lv_goto (tgt := 39) hx hb dX10_isOf_35 (by decide) ?_
    exact r_retz C hP hS rfl h rfl dX10_isOf_39
  · replace h := if_f c_ h
    refine lv_iload_n hx hb dX10_isOf_4 rfl (lv_at hl 0 rfl) ?_
    refine lv_iload_n hx hb dX10_isOf_5 rfl (lv_at hl 1 rfl) ?_
    refine lv_icmp_eq (tgt := 34) hx hb dX10_isOf_6 (by decide) (fun c_ => ?_) (fun c_ => ?_)
    · replace h := if_t c_ h
      refine lv_iconst (v := 1) hx hb dX10_isOf_34 (by decide) ?_
      refine lv_goto (tgt := 39) hx hb dX10_isOf_35 (by decide) ?_
      exact r_retz C hP hS rfl h rfl dX10_isOf_39
    · replace h := if_f c_ h
      refine lv_iload_n hx hb dX10_isOf_9 rfl (lv_at hl 1 rfl) ?_
      refine lv_iconst (v := 1) hx hb dX10_isOf_10 (by decide) ?_
      refine lv_icmp_ne (tgt := 24) hx hb dX10_isOf_11 (by decide) (fun c_ => ?_) (fun c_ => ?_)
      · replace h := if_f c_ h
        exact wfX10_isOf_j24 C x0 x1 H locs ls h hP hS (lv_sub hl [0, 1] rfl)
      · replace h := if_t c_ h
        refine lv_iload_n hx hb dX10_isOf_14 rfl (lv_at hl 0 rfl) ?_
        refine lv_iconst (v := 2) hx hb dX10_isOf_15 (by decide) ?_
        refine lv_icmp_eq (tgt := 34) hx hb dX10_isOf_16 (by decide) (fun c_ => ?_) (fun c_ => ?_)
        · replace h := if_t c_ h
          refine lv_iconst (v := 1) hx hb dX10_isOf_34 (by decide) ?_
          refine lv_goto (tgt := 39) hx hb dX10_isOf_35 (by decide) ?_
          exact r_retz C hP hS rfl h rfl dX10_isOf_39
        · replace h := if_f c_ h
          refine lv_iload_n hx hb dX10_isOf_19 rfl (lv_at hl 0 rfl) ?_
          refine lv_iconst (v := 3) hx hb dX10_isOf_20 (by decide) ?_
          refine lv_icmp_eq (tgt := 34) hx hb dX10_isOf_21 (by decide) (fun c_ => ?_) (fun c_ => ?_)
          · replace h := if_t c_ h
            refine lv_iconst (v := 1) hx hb dX10_isOf_34 (by decide) ?_
            refine lv_goto (tgt := 39) hx hb dX10_isOf_35 (by decide) ?_
            exact r_retz C hP hS rfl h rfl dX10_isOf_39
          · replace h := if_f c_ h
            exact wfX10_isOf_j24 C x0 x1 H locs ls h hP hS (lv_sub hl [0, 1] rfl)

set_option maxRecDepth 100000 in
set_option maxHeartbeats 4000000 in
theorem ctX10_as {l : Launch} {g : Gw} {σ : Sto} (x1 : Int32) (x2 : Int32) {Rz : (Sto × Int32)} (h : fX10_as σ x1 x2 = some Rz) : MtG l yX10_as cX10_as 3 (some .int) 2 wkM g [.ref (adG g 0), .int x1, .int x2] σ (QiS wkM g Rz.1 Rz.2) := by
  refine mt_of (by decide) (Nat.le_of_ble_eq_true rfl) (fun p e s m below meth c ls H locs C hP hS hl => ?_)
  have C : Cx wkM g p s m _ meth c cX10_as 3 RX10 (some .int) := C
  have hl : lv_has ls 3 [(0, .ref (adG g 0)), (1, .int x1), (2, .int x2)] := hl
  obtain ⟨hx, hb, hml, hown, hts, hr, hlk, hK, hZ⟩ := id C
  unfold fX10_as at h
  refine lv_aload_n hx hb dX10_as_0 rfl (lv_at hl 0 rfl) ?_
  refine lv_iload_n hx hb dX10_as_1 rfl (lv_at hl 1 rfl) ?_
  refine end_i (run_v (As := [.int x1]) (rest := []) C ca_X10_isThing (ctX10_isThing x1 rfl) cf_10 sm_0 km_0 tw_551 ⟨Nat.le_of_ble_eq_true rfl, Nat.le_of_ble_eq_true rfl⟩ rfl hl.1 (Nat.le_of_ble_eq_true rfl) ⟨Nat.le_refl _, Nat.le_refl _⟩ hP hS dX10_as_2) hS (fun H locs hP hS => ?_)
  refine lv_if_eq (tgt := 20) hx hb dX10_as_5 (by decide) (fun c_ => ?_) (fun c_ => ?_)
  · replace h := if_t c_ h
    refine lv_ldc hx hb hown (hts _ tw_188) dX10_as_20 ?_
    exact r_reti C hP hS (rt_ow1 h) (rt_ow2 h) dX10_as_22
  · replace h := if_f c_ h
    refine lv_iload_n hx hb dX10_as_8 rfl (lv_at hl 2 rfl) ?_
    refine lv_i2l hx hb dX10_as_9 rfl ?_
    refine lv_lconst (v := 0) hx hb dX10_as_10 (by decide) ?_
    refine lv_ldc2 hx hb hown (hts _ tw_1102) dX10_as_11 ?_
    refine end_i (run_s (As := [.long x2.toInt64, .long (0 : Int64), .long (5 : Int64)]) (rest := []) C ca_X10_in (ctX10_in x2.toInt64 (0 : Int64) (5 : Int64) rfl) tw_193 ⟨Nat.le_of_ble_eq_true rfl, Nat.le_of_ble_eq_true rfl⟩ rfl hl.1 (Nat.le_of_ble_eq_true rfl) ⟨Nat.le_refl _, Nat.le_refl _⟩ hP hS dX10_as_14) hS (fun H locs hP hS => ?_)
    refine lv_if_ne (tgt := 23) hx hb dX10_as_17 (by decide) (fun c_ => ?_) (fun c_ => ?_)
    · replace h := if_f c_ h
      refine lv_aload_n hx hb dX10_as_23 rfl (lv_at hl 0 rfl) ?_
      refine r_getr C cf_10 hP sm_0 km_0 4 (by decide) rfl tw_147 dX10_as_24 ?_
      refine lv_bipush (v := 35) hx hb dX10_as_27 (by decide) ?_
      refine lv_iload_n hx hb dX10_as_29 rfl (lv_at hl 1 rfl) ?_
      refine lv_iadd hx hb dX10_as_30 ?_
      obtain ⟨g_3, h⟩ := gd_inv h
      refine r_iald C hP sm_4 km_4 rfl g_3 dX10_as_31 ?_
      refine lv_iload_n hx hb dX10_as_32 rfl (lv_at hl 2 rfl) ?_
      refine end_i (run_s (As := [.int (σ 4 ((35 : Int32) + x1).toNatClampNeg), .int x2]) (rest := []) C ca_X10_isOf (ctX10_isOf (σ 4 ((35 : Int32) + x1).toNatClampNeg) x2 rfl) tw_1103 ⟨Nat.le_of_ble_eq_true rfl, Nat.le_of_ble_eq_true rfl⟩ rfl hl.1 (Nat.le_of_ble_eq_true rfl) ⟨Nat.le_refl _, Nat.le_refl _⟩ hP hS dX10_as_33) hS (fun H locs hP hS => ?_)
      refine lv_if_eq (tgt := 47) hx hb dX10_as_36 (by decide) (fun c_ => ?_) (fun c_ => ?_)
      · replace h := if_t c_ h
        refine lv_aload_n hx hb dX10_as_47 rfl (lv_at hl 0 rfl) ?_
        refine lv_iconst (v := 3) hx hb dX10_as_48 (by decide) ?_
        obtain ⟨q_5, eq_5⟩ : ∃ z, z = fX10_found σ (3 : Int32) := ⟨_, rfl⟩
        replace h := un_at eq_5 h
        refine end_i (run_v (As := [.int (3 : Int32)]) (rest := []) C ca_X10_found (ctX10_found (3 : Int32) eq_5.symm) cf_10 sm_0 km_0 tw_196 ⟨Nat.le_of_ble_eq_true rfl, Nat.le_of_ble_eq_true rfl⟩ rfl hl.1 (Nat.le_of_ble_eq_true rfl) ⟨Nat.le_refl _, Nat.le_refl _⟩ hP hS dX10_as_49) hS (fun H locs hP hS => ?_)
        exact r_reti C hP hS (rt_ow1 h) (rt_ow2 h) dX10_as_52
      · replace h := if_f c_ h
        refine lv_aload_n hx hb dX10_as_39 rfl (lv_at hl 0 rfl) ?_
        refine lv_iload_n hx hb dX10_as_40 rfl (lv_at hl 1 rfl) ?_
        obtain ⟨q_6, eq_6⟩ : ∃ z, z = fX10_well σ x1 := ⟨_, rfl⟩
        replace h := un_at eq_6 h
        refine end_i (run_v (As := [.int x1]) (rest := []) C ca_X10_well (ctX10_well x1 eq_6.symm) cf_10 sm_0 km_0 tw_202 ⟨Nat.le_of_ble_eq_true rfl, Nat.le_of_ble_eq_true rfl⟩ rfl hl.1 (Nat.le_of_ble_eq_true rfl) ⟨Nat.le_refl _, Nat.le_refl _⟩ hP hS dX10_as_41) hS (fun H locs hP hS => ?_)
        refine lv_goto (tgt := 52) hx hb dX10_as_44 (by decide) ?_
        exact r_reti C hP hS (rt_ow1 h) (rt_ow2 h) dX10_as_52
    · replace h := if_t c_ h
      refine lv_ldc hx hb hown (hts _ tw_188) dX10_as_20 ?_
      exact r_reti C hP hS (rt_ow1 h) (rt_ow2 h) dX10_as_22

set_option maxRecDepth 100000 in
set_option maxHeartbeats 4000000 in
theorem wfX10_leave_L2 {l : Launch} {g : Gw} {p : Program} {e : Env} {s : State} {m : MethodId} {args : Array Value} {below : List Frame} {meth : Method} {c : Code} (C : Cx wkM g p s m args meth c cX10_leave 7 RX10 none) {Rz : Sto} {k_21 : Sto → Int64 → Int64 → Option Sto} : ∀ (n : Nat) (σ : Sto) (x1 : Int64) (x3 : Int64) (H : Heap) (locs : List Loc) (ls : Array Slot), fX10_leave_L2 k_21 n σ x1 x3 = some Rz → wS wkM g σ H → va_S (AS wkM g) s.heap H locs → lv_has ls 7 [(0, .ref (adG g 0)), (1, .long x1), (3, .long x3)] → (∀ (σ : Sto) (x1 : Int64) (x3 : Int64) (H : Heap) (locs : List Loc) (ls : Array Slot), k_21 σ x1 x3 = some Rz → wS wkM g σ H → va_S (AS wkM g) s.heap H locs → lv_has ls 7 [(0, .ref (adG g 0)), (1, .long x1), (3, .long x3)] → W p l e (rmS 0) s m args below meth c H locs 0 0 (MQ below (QvS wkM g Rz) args s 0 0 (AS wkM g)) (F0 m 21 ls [])) → W p l e (rmS 0) s m args below meth c H locs 0 0 (MQ below (QvS wkM g Rz) args s 0 0 (AS wkM g)) (F0 m 2 ls []) := by
  intro n
  induction n with
  | zero =>
    intro σ x1 x3 H locs ls h
    cases h
  | succ n ih =>
    intro σ x1 x3 H locs ls h hP hS hl hk_21
    obtain ⟨hx, hb, hml, hown, hts, hr, hlk, hK, hZ⟩ := id C
    rw [fX10_leave_L2] at h
    refine lv_lload_n hx hb dX10_leave_2 rfl (lv_at hl 2 rfl) ?_
    refine lv_ldc2 hx hb hown (hts _ tw_1153) dX10_leave_3 ?_
    refine lv_lmul hx hb dX10_leave_6 ?_
    refine lv_lload_n hx hb dX10_leave_7 rfl (lv_at hl 1 rfl) ?_
    refine W.lcmp hx hb dX10_leave_8 ?_
    refine lv_if_gt (tgt := 21) hx hb dX10_leave_9 (by decide) (fun c_ => ?_) (fun c_ => ?_)
    · replace h := if_t c_ h
      exact hk_21 σ x1 x3 H locs ls h hP hS (lv_sub hl [0, 1, 2] rfl)
    · replace h := if_f c_ h
      refine lv_lload_n hx hb dX10_leave_12 rfl (lv_at hl 2 rfl) ?_
      refine lv_ldc2 hx hb hown (hts _ tw_1153) dX10_leave_13 ?_
      refine lv_lmul hx hb dX10_leave_16 ?_
      refine lv_topl (fun x_1 ex_1 => ?_)
      replace h := un_at ex_1 h
      refine lv_lstore_n (lv' := [(3, .long x_1), (0, .ref (adG g 0)), (1, .long x1)]) hx hb dX10_leave_17 rfl hl (by decide) rfl (fun ls hl => ?_)
      refine lv_goto (tgt := 2) hx hb dX10_leave_18 (by decide) ?_
      exact ih σ x1 x_1 H locs ls h hP hS (lv_sub hl [1, 2, 0] rfl) hk_21

set_option maxRecDepth 100000 in
set_option maxHeartbeats 4000000 in
theorem wfX10_leave_L24 {l : Launch} {g : Gw} {p : Program} {e : Env} {s : State} {m : MethodId} {args : Array Value} {below : List Frame} {meth : Method} {c : Code} (C : Cx wkM g p s m args meth c cX10_leave 7 RX10 none) {Rz : Sto} : ∀ (n : Nat) (σ : Sto) (x3 : Int64) (x5 : Int64) (H : Heap) (locs : List Loc) (ls : Array Slot), fX10_leave_L24 n σ x3 x5 = some Rz → wS wkM g σ H → va_S (AS wkM g) s.heap H locs → lv_has ls 7 [(0, .ref (adG g 0)), (3, .long x3), (5, .long x5)] → W p l e (rmS 0) s m args below meth c H locs 0 0 (MQ below (QvS wkM g Rz) args s 0 0 (AS wkM g)) (F0 m 24 ls []) := by
  intro n
  induction n with
  | zero =>
    intro σ x3 x5 H locs ls h
    cases h
  | succ n ih =>
    intro σ x3 x5 H locs ls h hP hS hl
    obtain ⟨hx, hb, hml, hown, hts, hr, hlk, hK, hZ⟩ := id C
    rw [fX10_leave_L24] at h
    refine lv_lload_n hx hb dX10_leave_24 rfl (lv_at hl 1 rfl) ?_
    refine lv_lconst (v := 0) hx hb dX10_leave_25 (by decide) ?_
    refine W.lcmp hx hb dX10_leave_26 ?_
    refine lv_if_le (tgt := 69) hx hb dX10_leave_27 (by decide) (fun c_ => ?_) (fun c_ => ?_)
    · replace h := if_t c_ h
      exact r_retv C hP hS (rt_o h) dX10_leave_69
    · replace h := if_f c_ h
      refine lv_aload_n hx hb dX10_leave_30 rfl (lv_at hl 0 rfl) ?_
      refine r_getr C cf_10 hP sm_0 km_0 14 (by decide) rfl tw_154 dX10_leave_31 ?_
      refine lv_aload_n hx hb dX10_leave_34 rfl (lv_at hl 0 rfl) ?_
      refine r_geti C cf_10 hP sm_0 km_0 15 (by decide) rfl tw_1138 dX10_leave_35 ?_
      refine lv_lload hx hb dX10_leave_38 (lv_at hl 2 rfl) ?_
      refine lv_lload_n hx hb dX10_leave_40 rfl (lv_at hl 1 rfl) ?_
      obtain ⟨g_1, h⟩ := gd_inv h
      refine lv_ldiv hx hb dX10_leave_41 (nzL_ne g_1) ?_
      refine lv_l2i hx hb dX10_leave_42 rfl ?_
      obtain ⟨g_2, h⟩ := gd_inv h
      refine r_iast C hP hS sm_11 km_11 rfl g_2 dX10_leave_43 (fun H locs σ_3 eσ_3 hP hS => ?_)
      replace h := un_at eσ_3 h
      refine lv_lload hx hb dX10_leave_44 (lv_at hl 2 rfl) ?_
      refine lv_lload_n hx hb dX10_leave_46 rfl (lv_at hl 1 rfl) ?_
      refine lv_lrem hx hb dX10_leave_47 (nzL_ne g_1) ?_
      refine lv_topl (fun x_4 ex_4 => ?_)
      replace h := un_at ex_4 h
      refine lv_lstore (lv' := [(5, .long x_4), (0, .ref (adG g 0)), (3, .long x3)]) hx hb dX10_leave_48 hl (by decide) rfl (fun ls hl => ?_)
      refine lv_aload_n hx hb dX10_leave_50 rfl (lv_at hl 1 rfl) ?_
      refine lv_dup hx hb dX10_leave_51 rfl ?_
      refine r_geti C cf_10 hP sm_0 km_0 15 (by decide) rfl tw_1138 dX10_leave_52 ?_
      refine lv_iconst (v := 1) hx hb dX10_leave_55 (by decide) ?_
      refine lv_iadd hx hb dX10_leave_56 ?_
      refine r_puti C cf_10 hP hS sm_0 km_0 15 (by decide) rfl rfl rfl tw_1138 dX10_leave_57 (fun H locs σ_5 eσ_5 hP hS => ?_)
      replace h := un_at eσ_5 h
      refine lv_lload_n hx hb dX10_leave_60 rfl (lv_at hl 2 rfl) ?_
      refine lv_ldc2 hx hb hown (hts _ tw_1153) dX10_leave_61 ?_
      refine lv_ldiv hx hb dX10_leave_64 (by decide) ?_
      refine lv_topl (fun x_6 ex_6 => ?_)
      replace h := un_at ex_6 h
      refine lv_lstore_n (lv' := [(3, .long x_6), (5, .long x_4), (0, .ref (adG g 0))]) hx hb dX10_leave_65 rfl hl (by decide) rfl (fun ls hl => ?_)
      refine lv_goto (tgt := 24) hx hb dX10_leave_66 (by decide) ?_
      exact ih σ_5 x_6 x_4 H locs ls h hP hS (lv_sub hl [2, 0, 1] rfl)

set_option maxRecDepth 100000 in
set_option maxHeartbeats 4000000 in
theorem ctX10_leave {l : Launch} {g : Gw} {σ : Sto} (x1 : Int64) {Rz : Sto} (h : fX10_leave σ x1 = some Rz) : MtG l yX10_leave cX10_leave 7 none 0 wkM g [.ref (adG g 0), .long x1] σ (QvS wkM g Rz) := by
  refine mt_of (by decide) (Nat.le_of_ble_eq_true rfl) (fun p e s m below meth c ls H locs C hP hS hl => ?_)
  have C : Cx wkM g p s m _ meth c cX10_leave 7 RX10 none := C
  have hl : lv_has ls 7 [(0, .ref (adG g 0)), (1, .long x1)] := hl
  obtain ⟨hx, hb, hml, hown, hts, hr, hlk, hK, hZ⟩ := id C
  unfold fX10_leave at h
  refine lv_lconst (v := 1) hx hb dX10_leave_0 (by decide) ?_
  refine lv_lstore_n (lv' := [(3, .long (1 : Int64)), (0, .ref (adG g 0)), (1, .long x1)]) hx hb dX10_leave_1 rfl hl (by decide) rfl (fun ls hl => ?_)
  refine wfX10_leave_L2 C fu σ x1 (1 : Int64) H locs ls h hP hS (lv_sub hl [1, 2, 0] rfl) (fun σ_1 z_2 z_3 H locs ls h hP hS hl => ?_)
  refine lv_lload_n hx hb dX10_leave_21 rfl (lv_at hl 1 rfl) ?_
  refine lv_lstore (lv' := [(5, .long z_2), (0, .ref (adG g 0)), (1, .long z_2), (3, .long z_3)]) hx hb dX10_leave_22 hl (by decide) rfl (fun ls hl => ?_)
  exact wfX10_leave_L24 C fu σ_1 z_3 z_2 H locs ls h hP hS (lv_sub hl [1, 3, 0] rfl)

set_option maxRecDepth 100000 in
set_option maxHeartbeats 4000000 in
theorem wfX10_mark_j48 {l : Launch} {g : Gw} {p : Program} {e : Env} {s : State} {m : MethodId} {args : Array Value} {below : List Frame} {meth : Method} {c : Code} (C : Cx wkM g p s m args meth c cX10_mark 4 RX10 (some .int)) {Rz : (Sto × Int32)} : ∀ (σ : Sto) (x2 : Int32) (x3 : Int32) (y1 : Int64) (H : Heap) (locs : List Loc) (ls : Array Slot), fX10_mark_j48 σ x2 x3 y1 = some Rz → wS wkM g σ H → va_S (AS wkM g) s.heap H locs → lv_has ls 4 [(2, .int x2), (3, .int x3)] → W p l e (rmS 1) s m args below meth c H locs 0 0 (MQ below (QiS wkM g Rz.1 Rz.2) args s 0 0 (AS wkM g)) (F0 m 48 ls [.long y1, .ref (adG g 0)]) := by
  intro σ x2 x3 y1 H locs ls h hP hS hl
  obtain ⟨hx, hb, hml, hown, hts, hr, hlk, hK, hZ⟩ := id C
  unfold fX10_mark_j48 at h
  obtain ⟨q_1, hq_1, h⟩ := bd_inv h
  refine end_v (run_v (As := [.long y1]) (rest := []) C ca_X10_leave (ctX10_leave y1 hq_1) cf_10 sm_0 km_0 tw_1149 ⟨Nat.le_of_ble_eq_true rfl, Nat.le_of_ble_eq_true rfl⟩ rfl hl.1 (Nat.le_of_ble_eq_true rfl) ⟨Nat.le_refl _, Nat.le_refl _⟩ hP hS dX10_mark_48) hS (fun H locs hP hS => ?_)
  refine lv_iload_n hx hb dX10_mark_51 rfl (lv_at hl 0 rfl) ?_
  refine lv_iconst (v := 2) hx hb dX10_mark_52 (by decide) ?_
  refine lv_icmp_ne (tgt := 62) hx hb dX10_mark_53 (by decide) (fun c_ => ?_) (fun c_ => ?_)
  · replace h := if_f c_ h
    refine lv_iload_n hx hb dX10_mark_62 rfl (lv_at hl 0 rfl) ?_
    refine lv_iconst (v := 3) hx hb dX10_mark_63 (by decide) ?_
    refine lv_icmp_ne (tgt := 75) hx hb dX10_mark_64 (by decide) (fun c_ => ?_) (fun c_ => ?_)
    · replace h := if_f c_ h
      refine lv_iload_n hx hb dX10_mark_75 rfl (lv_at hl 1 rfl) ?_
      exact r_reti C hP hS (rt_ow1 h) (rt_ow2 h) dX10_mark_76
    · replace h := if_t c_ h
      refine lv_iload_n hx hb dX10_mark_67 rfl (lv_at hl 1 rfl) ?_
      refine lv_sipush (v := 1000) hx hb dX10_mark_68 (by decide) ?_
      refine lv_isub hx hb dX10_mark_71 ?_
      refine lv_goto (tgt := 76) hx hb dX10_mark_72 (by decide) ?_
      exact r_reti C hP hS (rt_ow1 h) (rt_ow2 h) dX10_mark_76
  · replace h := if_t c_ h
    refine lv_iconst (v := 2) hx hb dX10_mark_56 (by decide) ?_
    refine lv_iload_n hx hb dX10_mark_57 rfl (lv_at hl 1 rfl) ?_
    refine lv_imul hx hb dX10_mark_58 ?_
    refine lv_goto (tgt := 76) hx hb dX10_mark_59 (by decide) ?_
    exact r_reti C hP hS (rt_ow1 h) (rt_ow2 h) dX10_mark_76

set_option maxRecDepth 100000 in
set_option maxHeartbeats 4000000 in
theorem ctX10_mark {l : Launch} {g : Gw} {σ : Sto} (x1 : Int32) {Rz : (Sto × Int32)} (h : fX10_mark σ x1 = some Rz) : MtG l yX10_mark cX10_mark 4 (some .int) 1 wkM g [.ref (adG g 0), .int x1] σ (QiS wkM g Rz.1 Rz.2) := by
  refine mt_of (by decide) (Nat.le_of_ble_eq_true rfl) (fun p e s m below meth c ls H locs C hP hS hl => ?_)
  have C : Cx wkM g p s m _ meth c cX10_mark 4 RX10 (some .int) := C
  have hl : lv_has ls 4 [(0, .ref (adG g 0)), (1, .int x1)] := hl
  obtain ⟨hx, hb, hml, hown, hts, hr, hlk, hK, hZ⟩ := id C
  unfold fX10_mark at h
  refine lv_aload_n hx hb dX10_mark_0 rfl (lv_at hl 0 rfl) ?_
  refine r_getr C cf_10 hP sm_0 km_0 4 (by decide) rfl tw_147 dX10_mark_1 ?_
  refine lv_bipush (v := 35) hx hb dX10_mark_4 (by decide) ?_
  refine lv_iload_n hx hb dX10_mark_6 rfl (lv_at hl 1 rfl) ?_
  refine lv_iadd hx hb dX10_mark_7 ?_
  obtain ⟨g_1, h⟩ := gd_inv h
  refine r_iald C hP sm_4 km_4 rfl g_1 dX10_mark_8 ?_
  refine lv_topi (fun x_2 ex_2 => ?_)
  replace h := un_at ex_2 h
  refine lv_istore_n (lv' := [(2, .int x_2), (0, .ref (adG g 0)), (1, .int x1)]) hx hb dX10_mark_9 rfl hl (by decide) rfl (fun ls hl => ?_)
  refine lv_iload_n hx hb dX10_mark_10 rfl (lv_at hl 2 rfl) ?_
  refine lv_aload_n hx hb dX10_mark_11 rfl (lv_at hl 1 rfl) ?_
  refine r_getr C cf_10 hP sm_0 km_0 4 (by decide) rfl tw_147 dX10_mark_12 ?_
  refine lv_bipush (v := 47) hx hb dX10_mark_15 (by decide) ?_
  refine lv_iload_n hx hb dX10_mark_17 rfl (lv_at hl 2 rfl) ?_
  refine lv_iadd hx hb dX10_mark_18 ?_
  obtain ⟨g_3, h⟩ := gd_inv h
  refine r_iald C hP sm_4 km_4 rfl g_3 dX10_mark_19 ?_
  refine lv_iadd hx hb dX10_mark_20 ?_
  refine lv_topi (fun x_4 ex_4 => ?_)
  replace h := un_at ex_4 h
  refine lv_istore_n (lv' := [(3, .int x_4), (2, .int x_2), (0, .ref (adG g 0)), (1, .int x1)]) hx hb dX10_mark_21 rfl hl (by decide) rfl (fun ls hl => ?_)
  refine lv_aload_n hx hb dX10_mark_22 rfl (lv_at hl 2 rfl) ?_
  refine lv_iload_n hx hb dX10_mark_23 rfl (lv_at hl 1 rfl) ?_
  refine lv_iconst (v := 2) hx hb dX10_mark_24 (by decide) ?_
  refine lv_icmp_ne (tgt := 34) hx hb dX10_mark_25 (by decide) (fun c_ => ?_) (fun c_ => ?_)
  · replace h := if_f c_ h
    refine lv_iload_n hx hb dX10_mark_34 rfl (lv_at hl 1 rfl) ?_
    refine lv_iconst (v := 3) hx hb dX10_mark_35 (by decide) ?_
    refine lv_icmp_ne (tgt := 45) hx hb dX10_mark_36 (by decide) (fun c_ => ?_) (fun c_ => ?_)
    · replace h := if_f c_ h
      refine lv_ldc2 hx hb hown (hts _ tw_1148) dX10_mark_45 ?_
      exact wfX10_mark_j48 C σ x_2 x_4 (2120 : Int64) H locs ls h hP hS (lv_sub hl [1, 0] rfl)
    · replace h := if_t c_ h
      refine lv_ldc2 hx hb hown (hts _ tw_1147) dX10_mark_39 ?_
      refine lv_goto (tgt := 48) hx hb dX10_mark_42 (by decide) ?_
      exact wfX10_mark_j48 C σ x_2 x_4 (222120 : Int64) H locs ls h hP hS (lv_sub hl [1, 0] rfl)
  · replace h := if_t c_ h
    refine lv_ldc2 hx hb hown (hts _ tw_1146) dX10_mark_28 ?_
    refine lv_goto (tgt := 48) hx hb dX10_mark_31 (by decide) ?_
    exact wfX10_mark_j48 C σ x_2 x_4 (242120 : Int64) H locs ls h hP hS (lv_sub hl [1, 0] rfl)

set_option maxRecDepth 100000 in
set_option maxHeartbeats 4000000 in
theorem wfX10_sizeOf_j46 {l : Launch} {g : Gw} {p : Program} {e : Env} {s : State} {m : MethodId} {args : Array Value} {below : List Frame} {meth : Method} {c : Code} (C : Cx wkM g p s m args meth c cX10_sizeOf 4 RX10 (some .int)) {Rz : (Sto × Int32)} : ∀ (σ : Sto) (x2 : Int32) (x3 : Int32) (y1 : Int64) (H : Heap) (locs : List Loc) (ls : Array Slot), fX10_sizeOf_j46 σ x2 x3 y1 = some Rz → wS wkM g σ H → va_S (AS wkM g) s.heap H locs → lv_has ls 4 [(2, .int x2), (3, .int x3)] → W p l e (rmS 1) s m args below meth c H locs 0 0 (MQ below (QiS wkM g Rz.1 Rz.2) args s 0 0 (AS wkM g)) (F0 m 46 ls [.long y1, .ref (adG g 0)]) := by
  intro σ x2 x3 y1 H locs ls h hP hS hl
  obtain ⟨hx, hb, hml, hown, hts, hr, hlk, hK, hZ⟩ := id C
  unfold fX10_sizeOf_j46 at h
  obtain ⟨q_1, hq_1, h⟩ := bd_inv h
  refine end_v (run_v (As := [.long y1]) (rest := []) C ca_X10_leave (ctX10_leave y1 hq_1) cf_10 sm_0 km_0 tw_1149 ⟨Nat.le_of_ble_eq_true rfl, Nat.le_of_ble_eq_true rfl⟩ rfl hl.1 (Nat.le_of_ble_eq_true rfl) ⟨Nat.le_refl _, Nat.le_refl _⟩ hP hS dX10_sizeOf_46) hS (fun H locs hP hS => ?_)
  refine lv_iload_n hx hb dX10_sizeOf_49 rfl (lv_at hl 1 rfl) ?_
  refine lv_if_eq (tgt := 59) hx hb dX10_sizeOf_50 (by decide) (fun c_ => ?_) (fun c_ => ?_)
  · replace h := if_t c_ h
    refine lv_iload_n hx hb dX10_sizeOf_59 rfl (lv_at hl 0 rfl) ?_
    exact r_reti C hP hS (rt_ow1 h) (rt_ow2 h) dX10_sizeOf_60
  · replace h := if_f c_ h
    refine lv_iconst (v := 2) hx hb dX10_sizeOf_53 (by decide) ?_
    refine lv_iload_n hx hb dX10_sizeOf_54 rfl (lv_at hl 0 rfl) ?_
    refine lv_imul hx hb dX10_sizeOf_55 ?_
    refine lv_goto (tgt := 60) hx hb dX10_sizeOf_56 (by decide) ?_
    exact r_reti C hP hS (rt_ow1 h) (rt_ow2 h) dX10_sizeOf_60

set_option maxRecDepth 100000 in
set_option maxHeartbeats 4000000 in
theorem wfX10_sizeOf_j31 {l : Launch} {g : Gw} {p : Program} {e : Env} {s : State} {m : MethodId} {args : Array Value} {below : List Frame} {meth : Method} {c : Code} (C : Cx wkM g p s m args meth c cX10_sizeOf 4 RX10 (some .int)) {Rz : (Sto × Int32)} : ∀ (σ : Sto) (x2 : Int32) (y0 : Int32) (H : Heap) (locs : List Loc) (ls : Array Slot), fX10_sizeOf_j31 σ x2 y0 = some Rz → wS wkM g σ H → va_S (AS wkM g) s.heap H locs → lv_has ls 4 [(0, .ref (adG g 0)), (2, .int x2)] → W p l e (rmS 1) s m args below meth c H locs 0 0 (MQ below (QiS wkM g Rz.1 Rz.2) args s 0 0 (AS wkM g)) (F0 m 31 ls [.int y0]) := by
  intro σ x2 y0 H locs ls h hP hS hl
  obtain ⟨hx, hb, hml, hown, hts, hr, hlk, hK, hZ⟩ := id C
  unfold fX10_sizeOf_j31 at h
  refine lv_istore_n (lv' := [(3, .int y0), (0, .ref (adG g 0)), (2, .int x2)]) hx hb dX10_sizeOf_31 rfl hl (by decide) rfl (fun ls hl => ?_)
  refine lv_aload_n hx hb dX10_sizeOf_32 rfl (lv_at hl 1 rfl) ?_
  refine lv_iload_n hx hb dX10_sizeOf_33 rfl (lv_at hl 0 rfl) ?_
  refine lv_if_eq (tgt := 43) hx hb dX10_sizeOf_34 (by decide) (fun c_ => ?_) (fun c_ => ?_)
  · replace h := if_t c_ h
    refine lv_ldc2 hx hb hown (hts _ tw_1159) dX10_sizeOf_43 ?_
    exact wfX10_sizeOf_j46 C σ x2 y0 (1310 : Int64) H locs ls h hP hS (lv_sub hl [2, 0] rfl)
  · replace h := if_f c_ h
    refine lv_ldc2 hx hb hown (hts _ tw_1158) dX10_sizeOf_37 ?_
    refine lv_goto (tgt := 46) hx hb dX10_sizeOf_40 (by decide) ?_
    exact wfX10_sizeOf_j46 C σ x2 y0 (141310 : Int64) H locs ls h hP hS (lv_sub hl [2, 0] rfl)

set_option maxRecDepth 100000 in
set_option maxHeartbeats 4000000 in
theorem ctX10_sizeOf {l : Launch} {g : Gw} {σ : Sto} (x1 : Int32) {Rz : (Sto × Int32)} (h : fX10_sizeOf σ x1 = some Rz) : MtG l yX10_sizeOf cX10_sizeOf 4 (some .int) 1 wkM g [.ref (adG g 0), .int x1] σ (QiS wkM g Rz.1 Rz.2) := by
  refine mt_of (by decide) (Nat.le_of_ble_eq_true rfl) (fun p e s m below meth c ls H locs C hP hS hl => ?_)
  have C : Cx wkM g p s m _ meth c cX10_sizeOf 4 RX10 (some .int) := C
  have hl : lv_has ls 4 [(0, .ref (adG g 0)), (1, .int x1)] := hl
  obtain ⟨hx, hb, hml, hown, hts, hr, hlk, hK, hZ⟩ := id C
  unfold fX10_sizeOf at h
  refine lv_aload_n hx hb dX10_sizeOf_0 rfl (lv_at hl 0 rfl) ?_
  refine r_getr C cf_10 hP sm_0 km_0 4 (by decide) rfl tw_147 dX10_sizeOf_1 ?_
  refine lv_bipush (v := 41) hx hb dX10_sizeOf_4 (by decide) ?_
  refine lv_iload_n hx hb dX10_sizeOf_6 rfl (lv_at hl 1 rfl) ?_
  refine lv_iadd hx hb dX10_sizeOf_7 ?_
  obtain ⟨g_1, h⟩ := gd_inv h
  refine r_iald C hP sm_4 km_4 rfl g_1 dX10_sizeOf_8 ?_
  refine lv_bipush (v := 100) hx hb dX10_sizeOf_9 (by decide) ?_
  refine lv_isub hx hb dX10_sizeOf_11 ?_
  refine lv_topi (fun x_2 ex_2 => ?_)
  replace h := un_at ex_2 h
  refine lv_istore_n (lv' := [(2, .int x_2), (0, .ref (adG g 0)), (1, .int x1)]) hx hb dX10_sizeOf_12 rfl hl (by decide) rfl (fun ls hl => ?_)
  refine lv_aload_n hx hb dX10_sizeOf_13 rfl (lv_at hl 1 rfl) ?_
  refine r_getr C cf_10 hP sm_0 km_0 4 (by decide) rfl tw_147 dX10_sizeOf_14 ?_
  refine lv_bipush (v := 35) hx hb dX10_sizeOf_17 (by decide) ?_
  refine lv_iload_n hx hb dX10_sizeOf_19 rfl (lv_at hl 2 rfl) ?_
  refine lv_iadd hx hb dX10_sizeOf_20 ?_
  obtain ⟨g_3, h⟩ := gd_inv h
  refine r_iald C hP sm_4 km_4 rfl g_3 dX10_sizeOf_21 ?_
  refine lv_iconst (v := 5) hx hb dX10_sizeOf_22 (by decide) ?_
  refine lv_icmp_ne (tgt := 30) hx hb dX10_sizeOf_23 (by decide) (fun c_ => ?_) (fun c_ => ?_)
  · replace h := if_f c_ h
    refine lv_iconst (v := 0) hx hb dX10_sizeOf_30 (by decide) ?_
    exact wfX10_sizeOf_j31 C σ x_2 (0 : Int32) H locs ls h hP hS (lv_sub hl [1, 0] rfl)
  · replace h := if_t c_ h
    refine lv_iconst (v := 1) hx hb dX10_sizeOf_26 (by decide) ?_
    refine lv_goto (tgt := 31) hx hb dX10_sizeOf_27 (by decide) ?_
    exact wfX10_sizeOf_j31 C σ x_2 (1 : Int32) H locs ls h hP hS (lv_sub hl [1, 0] rfl)

set_option maxRecDepth 100000 in
set_option maxHeartbeats 4000000 in
theorem wfX10_ask_j64 {l : Launch} {g : Gw} {p : Program} {e : Env} {s : State} {m : MethodId} {args : Array Value} {below : List Frame} {meth : Method} {c : Code} (C : Cx wkM g p s m args meth c cX10_ask 5 RX10 (some .int)) {Rz : (Sto × Int32)} : ∀ (σ : Sto) (x1 : Int32) (x3 : Int32) (y1 : Int64) (H : Heap) (locs : List Loc) (ls : Array Slot), fX10_ask_j64 σ x1 x3 y1 = some Rz → wS wkM g σ H → va_S (AS wkM g) s.heap H locs → lv_has ls 5 [(0, .ref (adG g 0)), (1, .int x1), (3, .int x3)] → W p l e (rmS 2) s m args below meth c H locs 0 0 (MQ below (QiS wkM g Rz.1 Rz.2) args s 0 0 (AS wkM g)) (F0 m 64 ls [.long y1, .ref (adG g 0)]) := by
  intro σ x1 x3 y1 H locs ls h hP hS hl
  obtain ⟨hx, hb, hml, hown, hts, hr, hlk, hK, hZ⟩ := id C
  unfold fX10_ask_j64 at h
  obtain ⟨q_1, hq_1, h⟩ := bd_inv h
  refine end_v (run_v (As := [.long y1]) (rest := []) C ca_X10_leave (ctX10_leave y1 hq_1) cf_10 sm_0 km_0 tw_1149 ⟨Nat.le_of_ble_eq_true rfl, Nat.le_of_ble_eq_true rfl⟩ rfl hl.1 (Nat.le_of_ble_eq_true rfl) ⟨Nat.le_refl _, Nat.le_refl _⟩ hP hS dX10_ask_64) hS (fun H locs hP hS => ?_)
  refine lv_aload_n hx hb dX10_ask_67 rfl (lv_at hl 0 rfl) ?_
  refine r_getr C cf_10 hP sm_0 km_0 4 (by decide) rfl tw_147 dX10_ask_68 ?_
  refine lv_bipush (v := 41) hx hb dX10_ask_71 (by decide) ?_
  refine lv_iload_n hx hb dX10_ask_73 rfl (lv_at hl 1 rfl) ?_
  refine lv_iadd hx hb dX10_ask_74 ?_
  obtain ⟨g_2, h⟩ := gd_inv h
  refine r_iald C hP sm_4 km_4 rfl g_2 dX10_ask_75 ?_
  refine lv_aload_n hx hb dX10_ask_76 rfl (lv_at hl 0 rfl) ?_
  refine lv_iload_n hx hb dX10_ask_77 rfl (lv_at hl 1 rfl) ?_
  obtain ⟨q_3, hq_3, h⟩ := bd_inv h
  refine end_i (run_v (As := [.int x1]) (rest := [.int (q_1 4 ((41 : Int32) + x1).toNatClampNeg)]) C ca_X10_mark (ctX10_mark x1 hq_3) cf_10 sm_0 km_0 tw_1142 ⟨Nat.le_of_ble_eq_true rfl, Nat.le_of_ble_eq_true rfl⟩ rfl hl.1 (Nat.le_of_ble_eq_true rfl) ⟨Nat.le_refl _, Nat.le_refl _⟩ hP hS dX10_ask_78) hS (fun H locs hP hS => ?_)
  refine lv_iadd hx hb dX10_ask_81 ?_
  refine lv_topi (fun x_4 ex_4 => ?_)
  replace h := un_at ex_4 h
  refine lv_istore (lv' := [(4, .int x_4), (0, .ref (adG g 0)), (1, .int x1), (3, .int x3)]) hx hb dX10_ask_82 hl (by decide) rfl (fun ls hl => ?_)
  refine lv_iload_n hx hb dX10_ask_84 rfl (lv_at hl 3 rfl) ?_
  refine lv_iconst (v := 2) hx hb dX10_ask_85 (by decide) ?_
  refine lv_icmp_ne (tgt := 95) hx hb dX10_ask_86 (by decide) (fun c_ => ?_) (fun c_ => ?_)
  · replace h := if_f c_ h
    refine lv_iload hx hb dX10_ask_95 (lv_at hl 0 rfl) ?_
    exact r_reti C hP hS (rt_ow1 h) (rt_ow2 h) dX10_ask_97
  · replace h := if_t c_ h
    refine lv_iload hx hb dX10_ask_89 (lv_at hl 0 rfl) ?_
    refine lv_ineg hx hb dX10_ask_91 ?_
    refine lv_goto (tgt := 97) hx hb dX10_ask_92 (by decide) ?_
    exact r_reti C hP hS (rt_ow1 h) (rt_ow2 h) dX10_ask_97

set_option maxRecDepth 100000 in
set_option maxHeartbeats 4000000 in
theorem ctX10_ask {l : Launch} {g : Gw} {σ : Sto} (x1 : Int32) (x2 : Int32) {Rz : (Sto × Int32)} (h : fX10_ask σ x1 x2 = some Rz) : MtG l yX10_ask cX10_ask 5 (some .int) 2 wkM g [.ref (adG g 0), .int x1, .int x2] σ (QiS wkM g Rz.1 Rz.2) := by
  refine mt_of (by decide) (Nat.le_of_ble_eq_true rfl) (fun p e s m below meth c ls H locs C hP hS hl => ?_)
  have C : Cx wkM g p s m _ meth c cX10_ask 5 RX10 (some .int) := C
  have hl : lv_has ls 5 [(0, .ref (adG g 0)), (1, .int x1), (2, .int x2)] := hl
  obtain ⟨hx, hb, hml, hown, hts, hr, hlk, hK, hZ⟩ := id C
  unfold fX10_ask at h
  refine lv_aload_n hx hb dX10_ask_0 rfl (lv_at hl 0 rfl) ?_
  refine lv_iload_n hx hb dX10_ask_1 rfl (lv_at hl 1 rfl) ?_
  refine end_i (run_v (As := [.int x1]) (rest := []) C ca_X10_isThing (ctX10_isThing x1 rfl) cf_10 sm_0 km_0 tw_551 ⟨Nat.le_of_ble_eq_true rfl, Nat.le_of_ble_eq_true rfl⟩ rfl hl.1 (Nat.le_of_ble_eq_true rfl) ⟨Nat.le_refl _, Nat.le_refl _⟩ hP hS dX10_ask_2) hS (fun H locs hP hS => ?_)
  refine lv_if_eq (tgt := 15) hx hb dX10_ask_5 (by decide) (fun c_ => ?_) (fun c_ => ?_)
  · replace h := if_t c_ h
    refine lv_ldc hx hb hown (hts _ tw_188) dX10_ask_15 ?_
    exact r_reti C hP hS (rt_ow1 h) (rt_ow2 h) dX10_ask_17
  · replace h := if_f c_ h
    refine lv_iload_n hx hb dX10_ask_8 rfl (lv_at hl 2 rfl) ?_
    refine end_i (run_s (As := [.int x2]) (rest := []) C ca_X10_isTwo (ctX10_isTwo x2 rfl) tw_697 ⟨Nat.le_of_ble_eq_true rfl, Nat.le_of_ble_eq_true rfl⟩ rfl hl.1 (Nat.le_of_ble_eq_true rfl) ⟨Nat.le_refl _, Nat.le_refl _⟩ hP hS dX10_ask_9) hS (fun H locs hP hS => ?_)
    refine lv_if_ne (tgt := 18) hx hb dX10_ask_12 (by decide) (fun c_ => ?_) (fun c_ => ?_)
    · replace h := if_f c_ h
      refine lv_aload_n hx hb dX10_ask_18 rfl (lv_at hl 0 rfl) ?_
      refine lv_iconst (v := 0) hx hb dX10_ask_19 (by decide) ?_
      refine r_puti C cf_10 hP hS sm_0 km_0 15 (by decide) rfl rfl rfl tw_1138 dX10_ask_20 (fun H locs σ_3 eσ_3 hP hS => ?_)
      replace h := un_at eσ_3 h
      refine lv_aload_n hx hb dX10_ask_23 rfl (lv_at hl 0 rfl) ?_
      refine r_getr C cf_10 hP sm_0 km_0 4 (by decide) rfl tw_147 dX10_ask_24 ?_
      refine lv_bipush (v := 35) hx hb dX10_ask_27 (by decide) ?_
      refine lv_iload_n hx hb dX10_ask_29 rfl (lv_at hl 1 rfl) ?_
      refine lv_iadd hx hb dX10_ask_30 ?_
      obtain ⟨g_4, h⟩ := gd_inv h
      refine r_iald C hP sm_4 km_4 rfl g_4 dX10_ask_31 ?_
      refine lv_topi (fun x_5 ex_5 => ?_)
      replace h := un_at ex_5 h
      refine lv_istore_n (lv' := [(3, .int x_5), (0, .ref (adG g 0)), (1, .int x1), (2, .int x2)]) hx hb dX10_ask_32 rfl hl (by decide) rfl (fun ls hl => ?_)
      refine lv_iload_n hx hb dX10_ask_33 rfl (lv_at hl 0 rfl) ?_
      refine lv_iconst (v := 4) hx hb dX10_ask_34 (by decide) ?_
      refine lv_icmp_ge (tgt := 98) hx hb dX10_ask_35 (by decide) (fun c_ => ?_) (fun c_ => ?_)
      · replace h := if_t c_ h
        refine lv_iload_n hx hb dX10_ask_98 rfl (lv_at hl 3 rfl) ?_
        refine lv_if_ne (tgt := 108) hx hb dX10_ask_99 (by decide) (fun c_ => ?_) (fun c_ => ?_)
        · replace h := if_f c_ h
          refine lv_aload_n hx hb dX10_ask_108 rfl (lv_at hl 1 rfl) ?_
          refine lv_ldc2 hx hb hown (hts _ tw_1141) dX10_ask_109 ?_
          obtain ⟨q_6, hq_6, h⟩ := bd_inv h
          refine end_v (run_v (As := [.long (2320 : Int64)]) (rest := []) C ca_X10_leave (ctX10_leave (2320 : Int64) hq_6) cf_10 sm_0 km_0 tw_1149 ⟨Nat.le_of_ble_eq_true rfl, Nat.le_of_ble_eq_true rfl⟩ rfl hl.1 (Nat.le_of_ble_eq_true rfl) ⟨Nat.le_refl _, Nat.le_refl _⟩ hP hS dX10_ask_112) hS (fun H locs hP hS => ?_)
          refine lv_iload_n hx hb dX10_ask_115 rfl (lv_at hl 2 rfl) ?_
          refine lv_aload_n hx hb dX10_ask_116 rfl (lv_at hl 1 rfl) ?_
          refine lv_iload_n hx hb dX10_ask_117 rfl (lv_at hl 2 rfl) ?_
          obtain ⟨q_7, hq_7, h⟩ := bd_inv h
          refine end_i (run_v (As := [.int x1]) (rest := [.int x1]) C ca_X10_sizeOf (ctX10_sizeOf x1 hq_7) cf_10 sm_0 km_0 tw_1154 ⟨Nat.le_of_ble_eq_true rfl, Nat.le_of_ble_eq_true rfl⟩ rfl hl.1 (Nat.le_of_ble_eq_true rfl) ⟨Nat.le_refl _, Nat.le_refl _⟩ hP hS dX10_ask_118) hS (fun H locs hP hS => ?_)
          refine lv_isub hx hb dX10_ask_121 ?_
          exact r_reti C hP hS (rt_ow1 h) (rt_ow2 h) dX10_ask_122
        · replace h := if_t c_ h
          refine lv_aload_n hx hb dX10_ask_102 rfl (lv_at hl 1 rfl) ?_
          refine lv_iload_n hx hb dX10_ask_103 rfl (lv_at hl 2 rfl) ?_
          obtain ⟨q_8, hq_8, h⟩ := bd_inv h
          refine end_i (run_v (As := [.int x1]) (rest := []) C ca_X10_sizeOf (ctX10_sizeOf x1 hq_8) cf_10 sm_0 km_0 tw_1154 ⟨Nat.le_of_ble_eq_true rfl, Nat.le_of_ble_eq_true rfl⟩ rfl hl.1 (Nat.le_of_ble_eq_true rfl) ⟨Nat.le_refl _, Nat.le_refl _⟩ hP hS dX10_ask_104) hS (fun H locs hP hS => ?_)
          exact r_reti C hP hS (rt_ow1 h) (rt_ow2 h) dX10_ask_107
      · replace h := if_f c_ h
        refine lv_iload_n hx hb dX10_ask_38 rfl (lv_at hl 3 rfl) ?_
        refine lv_iconst (v := 1) hx hb dX10_ask_39 (by decide) ?_
        refine lv_icmp_ne (tgt := 49) hx hb dX10_ask_40 (by decide) (fun c_ => ?_) (fun c_ => ?_)
        · replace h := if_f c_ h
          refine lv_aload_n hx hb dX10_ask_49 rfl (lv_at hl 1 rfl) ?_
          refine lv_iload_n hx hb dX10_ask_50 rfl (lv_at hl 0 rfl) ?_
          refine lv_iconst (v := 2) hx hb dX10_ask_51 (by decide) ?_
          refine lv_icmp_ne (tgt := 61) hx hb dX10_ask_52 (by decide) (fun c_ => ?_) (fun c_ => ?_)
          · replace h := if_f c_ h
            refine lv_ldc2 hx hb hown (hts _ tw_1140) dX10_ask_61 ?_
            exact wfX10_ask_j64 C σ_3 x1 x_5 (1110 : Int64) H locs ls h hP hS (lv_sub hl [1, 2, 0] rfl)
          · replace h := if_t c_ h
            refine lv_ldc2 hx hb hown (hts _ tw_1139) dX10_ask_55 ?_
            refine lv_goto (tgt := 64) hx hb dX10_ask_58 (by decide) ?_
            exact wfX10_ask_j64 C σ_3 x1 x_5 (121110 : Int64) H locs ls h hP hS (lv_sub hl [1, 2, 0] rfl)
        · replace h := if_t c_ h
          refine lv_aload_n hx hb dX10_ask_43 rfl (lv_at hl 1 rfl) ?_
          refine lv_iload_n hx hb dX10_ask_44 rfl (lv_at hl 2 rfl) ?_
          obtain ⟨q_9, hq_9, h⟩ := bd_inv h
          refine end_i (run_v (As := [.int x1]) (rest := []) C ca_X10_mark (ctX10_mark x1 hq_9) cf_10 sm_0 km_0 tw_1142 ⟨Nat.le_of_ble_eq_true rfl, Nat.le_of_ble_eq_true rfl⟩ rfl hl.1 (Nat.le_of_ble_eq_true rfl) ⟨Nat.le_refl _, Nat.le_refl _⟩ hP hS dX10_ask_45) hS (fun H locs hP hS => ?_)
          exact r_reti C hP hS (rt_ow1 h) (rt_ow2 h) dX10_ask_48
    · replace h := if_t c_ h
      refine lv_ldc hx hb hown (hts _ tw_188) dX10_ask_15 ?_
      exact r_reti C hP hS (rt_ow1 h) (rt_ow2 h) dX10_ask_17

set_option maxRecDepth 100000 in
set_option maxHeartbeats 4000000 in
theorem ctX10_trace {l : Launch} {g : Gw} {σ : Sto} (x1 : Int32) {Rz : Int32} (h : fX10_trace σ x1 = some Rz) : MtG l yX10_trace cX10_trace 2 (some .int) 1 wkM g [.ref (adG g 0), .int x1] σ (QiS wkM g σ Rz) := by
  refine mt_of (by decide) (Nat.le_of_ble_eq_true rfl) (fun p e s m below meth c ls H locs C hP hS hl => ?_)
  have C : Cx wkM g p s m _ meth c cX10_trace 2 RX10 (some .int) := C
  have hl : lv_has ls 2 [(0, .ref (adG g 0)), (1, .int x1)] := hl
  obtain ⟨hx, hb, hml, hown, hts, hr, hlk, hK, hZ⟩ := id C
  unfold fX10_trace at h
  refine lv_iload_n hx hb dX10_trace_0 rfl (lv_at hl 1 rfl) ?_
  refine lv_i2l hx hb dX10_trace_1 rfl ?_
  refine lv_lconst (v := 0) hx hb dX10_trace_2 (by decide) ?_
  refine lv_aload_n hx hb dX10_trace_3 rfl (lv_at hl 0 rfl) ?_
  refine r_geti C cf_10 hP sm_0 km_0 15 (by decide) rfl tw_1138 dX10_trace_4 ?_
  refine lv_iconst (v := 1) hx hb dX10_trace_7 (by decide) ?_
  refine lv_isub hx hb dX10_trace_8 ?_
  refine lv_i2l hx hb dX10_trace_9 rfl ?_
  refine end_i (run_s (As := [.long x1.toInt64, .long (0 : Int64), .long (((σ 0 15) - (1 : Int32)).toInt64)]) (rest := []) C ca_X10_in (ctX10_in x1.toInt64 (0 : Int64) (((σ 0 15) - (1 : Int32)).toInt64) rfl) tw_193 ⟨Nat.le_of_ble_eq_true rfl, Nat.le_of_ble_eq_true rfl⟩ rfl hl.1 (Nat.le_of_ble_eq_true rfl) ⟨Nat.le_refl _, Nat.le_refl _⟩ hP hS dX10_trace_10) hS (fun H locs hP hS => ?_)
  refine lv_if_eq (tgt := 25) hx hb dX10_trace_13 (by decide) (fun c_ => ?_) (fun c_ => ?_)
  · replace h := if_t c_ h
    refine lv_ldc hx hb hown (hts _ tw_718) dX10_trace_25 ?_
    exact r_reti C hP hS rfl (rt_o h) dX10_trace_27
  · replace h := if_f c_ h
    refine lv_aload_n hx hb dX10_trace_16 rfl (lv_at hl 0 rfl) ?_
    refine r_getr C cf_10 hP sm_0 km_0 14 (by decide) rfl tw_154 dX10_trace_17 ?_
    refine lv_iload_n hx hb dX10_trace_20 rfl (lv_at hl 1 rfl) ?_
    obtain ⟨g_2, h⟩ := gd_inv h
    refine r_iald C hP sm_11 km_11 rfl g_2 dX10_trace_21 ?_
    refine lv_goto (tgt := 27) hx hb dX10_trace_22 (by decide) ?_
    exact r_reti C hP hS rfl (rt_o h) dX10_trace_27

set_option maxRecDepth 100000 in
set_option maxHeartbeats 4000000 in
theorem wfX10_count_L7 {l : Launch} {g : Gw} {p : Program} {e : Env} {s : State} {m : MethodId} {args : Array Value} {below : List Frame} {meth : Method} {c : Code} {σ : Sto} (C : Cx wkM g p s m args meth c cX10_count 5 RX10 (some .int)) {Rz : Int32} {k_38 : Int32 → Int32 → Int32 → Option Int32} : ∀ (n : Nat) (x1 : Int32) (x2 : Int32) (x3 : Int32) (x4 : Int32) (H : Heap) (locs : List Loc) (ls : Array Slot), fX10_count_L7 k_38 σ n x1 x2 x3 x4 = some Rz → wS wkM g σ H → va_S (AS wkM g) s.heap H locs → lv_has ls 5 [(0, .ref (adG g 0)), (1, .int x1), (2, .int x2), (3, .int x3), (4, .int x4)] → (∀ (x1 : Int32) (x2 : Int32) (x3 : Int32) (H : Heap) (locs : List Loc) (ls : Array Slot), k_38 x1 x2 x3 = some Rz → wS wkM g σ H → va_S (AS wkM g) s.heap H locs → lv_has ls 5 [(0, .ref (adG g 0)), (1, .int x1), (2, .int x2), (3, .int x3)] → W p l e (rmS 2) s m args below meth c H locs 0 0 (MQ below (QiS wkM g σ Rz) args s 0 0 (AS wkM g)) (F0 m 38 ls [])) → W p l e (rmS 2) s m args below meth c H locs 0 0 (MQ below (QiS wkM g σ Rz) args s 0 0 (AS wkM g)) (F0 m 7 ls []) := by
  intro n
  induction n with
  | zero =>
    intro x1 x2 x3 x4 H locs ls h
    cases h
  | succ n ih =>
    intro x1 x2 x3 x4 H locs ls h hP hS hl hk_38
    obtain ⟨hx, hb, hml, hown, hts, hr, hlk, hK, hZ⟩ := id C
    rw [fX10_count_L7] at h
    refine lv_iload hx hb dX10_count_7 (lv_at hl 4 rfl) ?_
    refine lv_bipush (v := 8) hx hb dX10_count_9 (by decide) ?_
    refine lv_icmp_ge (tgt := 38) hx hb dX10_count_11 (by decide) (fun c_ => ?_) (fun c_ => ?_)
    · replace h := if_t c_ h
      exact hk_38 x1 x2 x3 H locs ls h hP hS (lv_sub hl [0, 1, 2, 3] rfl)
    · replace h := if_f c_ h
      refine lv_iload_n hx hb dX10_count_14 rfl (lv_at hl 2 rfl) ?_
      refine lv_aload_n hx hb dX10_count_15 rfl (lv_at hl 0 rfl) ?_
      refine r_getr C cf_10 hP sm_0 km_0 1 (by decide) rfl tw_145 dX10_count_16 ?_
      refine lv_iload hx hb dX10_count_19 (lv_at hl 4 rfl) ?_
      obtain ⟨g_1, h⟩ := gd_inv h
      refine r_iald C hP sm_2 km_2 rfl g_1 dX10_count_21 ?_
      refine lv_if_ge (tgt := 29) hx hb dX10_count_22 (by decide) (fun c_ => ?_) (fun c_ => ?_)
      · replace h := if_t c_ h
        refine lv_iconst (v := 1) hx hb dX10_count_29 (by decide) ?_
        refine lv_iadd hx hb dX10_count_30 ?_
        refine lv_topi (fun x_2 ex_2 => ?_)
        replace h := un_at ex_2 h
        refine lv_istore_n (lv' := [(2, .int x_2), (0, .ref (adG g 0)), (1, .int x1), (3, .int x3), (4, .int x4)]) hx hb dX10_count_31 rfl hl (by decide) rfl (fun ls hl => ?_)
        obtain ⟨x_3, ex_3⟩ : ∃ y : Int32, y = x4 + (1 : Int32) := ⟨_, rfl⟩
        replace h := un_at ex_3 h
        refine lv_iinc (v := x_3) (lv' := [(4, .int x_3), (2, .int x_2), (0, .ref (adG g 0)), (1, .int x1), (3, .int x3)]) hx hb dX10_count_32 hl (k := 4) rfl (by rw [ex_3]; rfl) (by decide) rfl (fun ls hl => ?_)
        refine lv_goto (tgt := 7) hx hb dX10_count_35 (by decide) ?_
        exact ih x1 x_2 x3 x_3 H locs ls h hP hS (lv_sub hl [2, 3, 1, 4, 0] rfl) hk_38
      · replace h := if_f c_ h
        refine lv_iconst (v := 0) hx hb dX10_count_25 (by decide) ?_
        refine lv_goto (tgt := 30) hx hb dX10_count_26 (by decide) ?_
        refine lv_iadd hx hb dX10_count_30 ?_
        refine lv_topi (fun x_4 ex_4 => ?_)
        replace h := un_at ex_4 h
        refine lv_istore_n (lv' := [(2, .int x_4), (0, .ref (adG g 0)), (1, .int x1), (3, .int x3), (4, .int x4)]) hx hb dX10_count_31 rfl hl (by decide) rfl (fun ls hl => ?_)
        obtain ⟨x_5, ex_5⟩ : ∃ y : Int32, y = x4 + (1 : Int32) := ⟨_, rfl⟩
        replace h := un_at ex_5 h
        refine lv_iinc (v := x_5) (lv' := [(4, .int x_5), (2, .int x_4), (0, .ref (adG g 0)), (1, .int x1), (3, .int x3)]) hx hb dX10_count_32 hl (k := 4) rfl (by rw [ex_5]; rfl) (by decide) rfl (fun ls hl => ?_)
        refine lv_goto (tgt := 7) hx hb dX10_count_35 (by decide) ?_
        exact ih x1 x_4 x3 x_5 H locs ls h hP hS (lv_sub hl [2, 3, 1, 4, 0] rfl) hk_38

set_option maxRecDepth 100000 in
set_option maxHeartbeats 4000000 in
theorem wfX10_count_L41 {l : Launch} {g : Gw} {p : Program} {e : Env} {s : State} {m : MethodId} {args : Array Value} {below : List Frame} {meth : Method} {c : Code} {σ : Sto} (C : Cx wkM g p s m args meth c cX10_count 5 RX10 (some .int)) {Rz : Int32} {k_67 : Int32 → Int32 → Int32 → Option Int32} : ∀ (n : Nat) (x1 : Int32) (x2 : Int32) (x3 : Int32) (x4 : Int32) (H : Heap) (locs : List Loc) (ls : Array Slot), fX10_count_L41 k_67 σ n x1 x2 x3 x4 = some Rz → wS wkM g σ H → va_S (AS wkM g) s.heap H locs → lv_has ls 5 [(0, .ref (adG g 0)), (1, .int x1), (2, .int x2), (3, .int x3), (4, .int x4)] → (∀ (x1 : Int32) (x2 : Int32) (x3 : Int32) (H : Heap) (locs : List Loc) (ls : Array Slot), k_67 x1 x2 x3 = some Rz → wS wkM g σ H → va_S (AS wkM g) s.heap H locs → lv_has ls 5 [(0, .ref (adG g 0)), (1, .int x1), (2, .int x2), (3, .int x3)] → W p l e (rmS 2) s m args below meth c H locs 0 0 (MQ below (QiS wkM g σ Rz) args s 0 0 (AS wkM g)) (F0 m 67 ls [])) → W p l e (rmS 2) s m args below meth c H locs 0 0 (MQ below (QiS wkM g σ Rz) args s 0 0 (AS wkM g)) (F0 m 41 ls []) := by
  intro n
  induction n with
  | zero =>
    intro x1 x2 x3 x4 H locs ls h
    cases h
  | succ n ih =>
    intro x1 x2 x3 x4 H locs ls h hP hS hl hk_67
    obtain ⟨hx, hb, hml, hown, hts, hr, hlk, hK, hZ⟩ := id C
    rw [fX10_count_L41] at h
    refine lv_iload hx hb dX10_count_41 (lv_at hl 4 rfl) ?_
    refine lv_bipush (v := 10) hx hb dX10_count_43 (by decide) ?_
    refine lv_icmp_ge (tgt := 67) hx hb dX10_count_45 (by decide) (fun c_ => ?_) (fun c_ => ?_)
    · replace h := if_t c_ h
      exact hk_67 x1 x2 x3 H locs ls h hP hS (lv_sub hl [0, 1, 2, 3] rfl)
    · replace h := if_f c_ h
      refine lv_iload_n hx hb dX10_count_48 rfl (lv_at hl 3 rfl) ?_
      refine lv_aload_n hx hb dX10_count_49 rfl (lv_at hl 0 rfl) ?_
      refine r_getr C cf_10 hP sm_0 km_0 4 (by decide) rfl tw_147 dX10_count_50 ?_
      refine lv_bipush (v := 15) hx hb dX10_count_53 (by decide) ?_
      refine lv_iload hx hb dX10_count_55 (lv_at hl 4 rfl) ?_
      refine lv_iadd hx hb dX10_count_57 ?_
      obtain ⟨g_1, h⟩ := gd_inv h
      refine r_iald C hP sm_4 km_4 rfl g_1 dX10_count_58 ?_
      refine lv_iadd hx hb dX10_count_59 ?_
      refine lv_topi (fun x_2 ex_2 => ?_)
      replace h := un_at ex_2 h
      refine lv_istore_n (lv' := [(3, .int x_2), (0, .ref (adG g 0)), (1, .int x1), (2, .int x2), (4, .int x4)]) hx hb dX10_count_60 rfl hl (by decide) rfl (fun ls hl => ?_)
      obtain ⟨x_3, ex_3⟩ : ∃ y : Int32, y = x4 + (1 : Int32) := ⟨_, rfl⟩
      replace h := un_at ex_3 h
      refine lv_iinc (v := x_3) (lv' := [(4, .int x_3), (3, .int x_2), (0, .ref (adG g 0)), (1, .int x1), (2, .int x2)]) hx hb dX10_count_61 hl (k := 4) rfl (by rw [ex_3]; rfl) (by decide) rfl (fun ls hl => ?_)
      refine lv_goto (tgt := 41) hx hb dX10_count_64 (by decide) ?_
      exact ih x1 x2 x_2 x_3 H locs ls h hP hS (lv_sub hl [2, 3, 4, 1, 0] rfl) hk_67

set_option maxRecDepth 100000 in
set_option maxHeartbeats 4000000 in
theorem ctX10_count {l : Launch} {g : Gw} {σ : Sto} (x1 : Int32) {Rz : Int32} (h : fX10_count σ x1 = some Rz) : MtG l yX10_count cX10_count 5 (some .int) 2 wkM g [.ref (adG g 0), .int x1] σ (QiS wkM g σ Rz) := by
  refine mt_of (by decide) (Nat.le_of_ble_eq_true rfl) (fun p e s m below meth c ls H locs C hP hS hl => ?_)
  have C : Cx wkM g p s m _ meth c cX10_count 5 RX10 (some .int) := C
  have hl : lv_has ls 5 [(0, .ref (adG g 0)), (1, .int x1)] := hl
  obtain ⟨hx, hb, hml, hown, hts, hr, hlk, hK, hZ⟩ := id C
  unfold fX10_count at h
  refine lv_iconst (v := 0) hx hb dX10_count_0 (by decide) ?_
  refine lv_istore_n (lv' := [(2, .int (0 : Int32)), (0, .ref (adG g 0)), (1, .int x1)]) hx hb dX10_count_1 rfl hl (by decide) rfl (fun ls hl => ?_)
  refine lv_iconst (v := 0) hx hb dX10_count_2 (by decide) ?_
  refine lv_istore_n (lv' := [(3, .int (0 : Int32)), (2, .int (0 : Int32)), (0, .ref (adG g 0)), (1, .int x1)]) hx hb dX10_count_3 rfl hl (by decide) rfl (fun ls hl => ?_)
  refine lv_iconst (v := 0) hx hb dX10_count_4 (by decide) ?_
  refine lv_istore (lv' := [(4, .int (0 : Int32)), (3, .int (0 : Int32)), (2, .int (0 : Int32)), (0, .ref (adG g 0)), (1, .int x1)]) hx hb dX10_count_5 hl (by decide) rfl (fun ls hl => ?_)
  refine wfX10_count_L7 C fu x1 (0 : Int32) (0 : Int32) (0 : Int32) H locs ls h hP hS (lv_sub hl [3, 4, 2, 1, 0] rfl) (fun z_1 z_2 z_3 H locs ls h hP hS hl => ?_)
  refine lv_iconst (v := 0) hx hb dX10_count_38 (by decide) ?_
  refine lv_istore (lv' := [(4, .int (0 : Int32)), (0, .ref (adG g 0)), (1, .int z_1), (2, .int z_2), (3, .int z_3)]) hx hb dX10_count_39 hl (by decide) rfl (fun ls hl => ?_)
  refine wfX10_count_L41 C fu z_1 z_2 z_3 (0 : Int32) H locs ls h hP hS (lv_sub hl [1, 2, 3, 4, 0] rfl) (fun z_4 z_5 z_6 H locs ls h hP hS hl => ?_)
  refine lv_iload_n hx hb dX10_count_67 rfl (lv_at hl 1 rfl) ?_
  by_cases c_7 : z_4 = (0 : Int32)
  · replace h := if_t c_7 h
    refine r_tin (tgt := 120) hx hb dX10_count_68 c_7 (by decide) (by decide) rfl (by decide) ?_
    refine lv_iload_n hx hb dX10_count_120 rfl (lv_at hl 2 rfl) ?_
    exact r_reti C hP hS rfl (rt_o h) dX10_count_121
  replace h := if_f c_7 h
  by_cases c_8 : z_4 = (1 : Int32)
  · replace h := if_t c_8 h
    refine r_tin (tgt := 122) hx hb dX10_count_68 c_8 (by decide) (by decide) rfl (by decide) ?_
    refine lv_aload_n hx hb dX10_count_122 rfl (lv_at hl 0 rfl) ?_
    refine r_getr C cf_10 hP sm_0 km_0 4 (by decide) rfl tw_147 dX10_count_123 ?_
    refine lv_iconst (v := 1) hx hb dX10_count_126 (by decide) ?_
    refine r_iald C hP sm_4 km_4 (j := 1) (by decide) (by decide) dX10_count_127 ?_
    exact r_reti C hP hS rfl (rt_o h) dX10_count_128
  replace h := if_f c_8 h
  by_cases c_9 : z_4 = (2 : Int32)
  · replace h := if_t c_9 h
    refine r_tin (tgt := 129) hx hb dX10_count_68 c_9 (by decide) (by decide) rfl (by decide) ?_
    refine lv_aload_n hx hb dX10_count_129 rfl (lv_at hl 0 rfl) ?_
    refine r_getr C cf_10 hP sm_0 km_0 4 (by decide) rfl tw_147 dX10_count_130 ?_
    refine lv_iconst (v := 0) hx hb dX10_count_133 (by decide) ?_
    refine r_iald C hP sm_4 km_4 (j := 0) (by decide) (by decide) dX10_count_134 ?_
    exact r_reti C hP hS rfl (rt_o h) dX10_count_135
  replace h := if_f c_9 h
  by_cases c_10 : z_4 = (3 : Int32)
  · replace h := if_t c_10 h
    refine r_tin (tgt := 136) hx hb dX10_count_68 c_10 (by decide) (by decide) rfl (by decide) ?_
    refine lv_aload_n hx hb dX10_count_136 rfl (lv_at hl 0 rfl) ?_
    refine r_getr C cf_10 hP sm_0 km_0 4 (by decide) rfl tw_147 dX10_count_137 ?_
    refine lv_iconst (v := 4) hx hb dX10_count_140 (by decide) ?_
    refine r_iald C hP sm_4 km_4 (j := 4) (by decide) (by decide) dX10_count_141 ?_
    exact r_reti C hP hS rfl (rt_o h) dX10_count_142
  replace h := if_f c_10 h
  by_cases c_11 : z_4 = (4 : Int32)
  · replace h := if_t c_11 h
    refine r_tin (tgt := 143) hx hb dX10_count_68 c_11 (by decide) (by decide) rfl (by decide) ?_
    refine lv_iload_n hx hb dX10_count_143 rfl (lv_at hl 3 rfl) ?_
    exact r_reti C hP hS rfl (rt_o h) dX10_count_144
  replace h := if_f c_11 h
  by_cases c_12 : z_4 = (5 : Int32)
  · replace h := if_t c_12 h
    refine r_tin (tgt := 145) hx hb dX10_count_68 c_12 (by decide) (by decide) rfl (by decide) ?_
    refine lv_aload_n hx hb dX10_count_145 rfl (lv_at hl 0 rfl) ?_
    refine r_getr C cf_10 hP sm_0 km_0 4 (by decide) rfl tw_147 dX10_count_146 ?_
    obtain ⟨q_13, hq_13, h⟩ := bd_inv h
    refine end_i (run_s (As := [.ref (adG g 4)]) (rest := []) C ca_X10_stones (ctX10_stones 4 ⟨sm_4, km_4⟩ hq_13) tw_785 ⟨Nat.le_of_ble_eq_true rfl, Nat.le_of_ble_eq_true rfl⟩ rfl hl.1 (Nat.le_of_ble_eq_true rfl) ⟨Nat.le_refl _, Nat.le_refl _⟩ hP hS dX10_count_149) hS (fun H locs hP hS => ?_)
    exact r_reti C hP hS rfl (rt_o h) dX10_count_152
  replace h := if_f c_12 h
  by_cases c_14 : z_4 = (6 : Int32)
  · replace h := if_t c_14 h
    refine r_tin (tgt := 153) hx hb dX10_count_68 c_14 (by decide) (by decide) rfl (by decide) ?_
    refine lv_aload_n hx hb dX10_count_153 rfl (lv_at hl 0 rfl) ?_
    refine r_getr C cf_10 hP sm_0 km_0 4 (by decide) rfl tw_147 dX10_count_154 ?_
    refine lv_iconst (v := 1) hx hb dX10_count_157 (by decide) ?_
    obtain ⟨q_15, hq_15, h⟩ := bd_inv h
    refine end_i (run_s (As := [.ref (adG g 4), .int (1 : Int32)]) (rest := []) C ca_X10_those (ctX10_those 4 ⟨sm_4, km_4⟩ (1 : Int32) hq_15) tw_508 ⟨Nat.le_of_ble_eq_true rfl, Nat.le_of_ble_eq_true rfl⟩ rfl hl.1 (Nat.le_of_ble_eq_true rfl) ⟨Nat.le_refl _, Nat.le_refl _⟩ hP hS dX10_count_158) hS (fun H locs hP hS => ?_)
    obtain ⟨q_16, hq_16, h⟩ := bd_inv h
    refine end_i (run_s (As := [.int q_15]) (rest := []) C ca_X10_bits (ctX10_bits q_15 hq_16) tw_788 ⟨Nat.le_of_ble_eq_true rfl, Nat.le_of_ble_eq_true rfl⟩ rfl hl.1 (Nat.le_of_ble_eq_true rfl) ⟨Nat.le_refl _, Nat.le_refl _⟩ hP hS dX10_count_161) hS (fun H locs hP hS => ?_)
    exact r_reti C hP hS rfl (rt_o h) dX10_count_164
  replace h := if_f c_14 h
  by_cases c_17 : z_4 = (7 : Int32)
  · replace h := if_t c_17 h
    refine r_tin (tgt := 165) hx hb dX10_count_68 c_17 (by decide) (by decide) rfl (by decide) ?_
    refine lv_aload_n hx hb dX10_count_165 rfl (lv_at hl 0 rfl) ?_
    refine r_geti C cf_10 hP sm_0 km_0 8 (by decide) rfl tw_370 dX10_count_166 ?_
    exact r_reti C hP hS rfl (rt_o h) dX10_count_169
  replace h := if_f c_17 h
  by_cases c_18 : z_4 = (8 : Int32)
  · replace h := if_t c_18 h
    refine r_tin (tgt := 170) hx hb dX10_count_68 c_18 (by decide) (by decide) rfl (by decide) ?_
    refine lv_aload_n hx hb dX10_count_170 rfl (lv_at hl 0 rfl) ?_
    refine r_geti C cf_10 hP sm_0 km_0 12 (by decide) rfl tw_281 dX10_count_171 ?_
    exact r_reti C hP hS rfl (rt_o h) dX10_count_174
  replace h := if_f c_18 h
  refine lv_tableOut (tgt := 175) hx hb dX10_count_68 (by have qc_7 := lv_neT (a := 0) c_7 rfl; have qc_8 := lv_neT (a := 1) c_8 rfl; have qc_9 := lv_neT (a := 2) c_9 rfl; have qc_10 := lv_neT (a := 3) c_10 rfl; have qc_11 := lv_neT (a := 4) c_11 rfl; have qc_12 := lv_neT (a := 5) c_12 rfl; have qc_14 := lv_neT (a := 6) c_14 rfl; have qc_17 := lv_neT (a := 7) c_17 rfl; have qc_18 := lv_neT (a := 8) c_18 rfl; omega) (by decide) ?_
  refine lv_ldc hx hb hown (hts _ tw_188) dX10_count_175 ?_
  exact r_reti C hP hS rfl (rt_o h) dX10_count_177

set_option maxRecDepth 100000 in
set_option maxHeartbeats 4000000 in
theorem ctX10_status {l : Launch} {g : Gw} {σ : Sto} {Rz : Int32} (h : fX10_status σ = Rz) : MtG l yX10_status cX10_status 1 (some .int) 0 wkM g [.ref (adG g 0)] σ (QiS wkM g σ Rz) := by
  refine mt_of (by decide) (Nat.le_of_ble_eq_true rfl) (fun p e s m below meth c ls H locs C hP hS hl => ?_)
  have C : Cx wkM g p s m _ meth c cX10_status 1 RX10 (some .int) := C
  have hl : lv_has ls 1 [(0, .ref (adG g 0))] := hl
  obtain ⟨hx, hb, hml, hown, hts, hr, hlk, hK, hZ⟩ := id C
  unfold fX10_status at h
  refine lv_aload_n hx hb dX10_status_0 rfl (lv_at hl 0 rfl) ?_
  refine r_geti C cf_10 hP sm_0 km_0 3 (by decide) rfl tw_200 dX10_status_1 ?_
  exact r_reti C hP hS rfl h dX10_status_4
