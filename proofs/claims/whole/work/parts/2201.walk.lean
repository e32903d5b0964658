set_option maxRecDepth 100000 in
set_option maxHeartbeats 4000000 in
theorem ctX10_step {l : Launch} {g : Gw} {σ : Sto} {Rz : Sto} (h : fX10_step σ = some Rz) : MtG l yX10_step cX10_step 1 none 1 wkM g [.ref (adG g 0)] σ (QvS wkM g Rz) := by
  refine mt_of (by decide) (Nat.le_of_ble_eq_true rfl) (fun p e s m below meth c ls H locs C hP hS hl => ?_)
  have C : Cx wkM g p s m _ meth c cX10_step 1 RX10 none := C
  have hl : lv_has ls 1 [(0, .ref (adG g 0))] := hl
  obtain ⟨hx, hb, hml, hown, hts, hr, hlk, hK, hZ⟩ := id C
  unfold fX10_step at h
  refine lv_aload_n hx hb dX10_step_0 rfl (lv_at hl 0 rfl) ?_
  refine lv_aload_n hx hb dX10_step_1 rfl (lv_at hl 0 rfl) ?_
  refine r_geti C cf_10 hP sm_0 km_0 16 (by decide) rfl tw_375 dX10_step_2 ?_
  refine r_puti C cf_10 hP hS sm_0 km_0 17 (by decide) rfl rfl rfl tw_369 dX10_step_5 (fun H locs σ_1 eσ_1 hP hS => ?_)
  replace h := un_at eσ_1 h
  refine lv_aload_n hx hb dX10_step_8 rfl (lv_at hl 0 rfl) ?_
  refine lv_aload_n hx hb dX10_step_9 rfl (lv_at hl 0 rfl) ?_
  obtain ⟨q_2, hq_2, h⟩ := bd_inv h
  refine end_i (run_v (As := []) (rest := [.ref (adG g 0)]) C ca_X10_here (ctX10_here hq_2) cf_10 sm_0 km_0 tw_386 ⟨Nat.le_of_ble_eq_true rfl, Nat.le_of_ble_eq_true rfl⟩ rfl hl.1 (Nat.le_of_ble_eq_true rfl) ⟨Nat.le_refl _, Nat.le_refl _⟩ hP hS dX10_step_10) hS (fun H locs hP hS => ?_)
  refine r_puti C cf_10 hP hS sm_0 km_0 19 (by decide) rfl rfl rfl tw_377 dX10_step_13 (fun H locs σ_3 eσ_3 hP hS => ?_)
  replace h := un_at eσ_3 h
  refine lv_aload_n hx hb dX10_step_16 rfl (lv_at hl 0 rfl) ?_
  refine lv_aload_n hx hb dX10_step_17 rfl (lv_at hl 0 rfl) ?_
  refine r_geti C cf_10 hP sm_0 km_0 19 (by decide) rfl tw_377 dX10_step_18 ?_
  refine lv_if_ge (tgt := 28) hx hb dX10_step_21 (by decide) (fun c_ => ?_) (fun c_ => ?_)
  · replace h := if_t c_ h
    refine lv_aload_n hx hb dX10_step_28 rfl (lv_at hl 0 rfl) ?_
    refine r_geti C cf_10 hP sm_0 km_0 19 (by decide) rfl tw_377 dX10_step_29 ?_
    refine lv_i2l hx hb dX10_step_32 rfl ?_
    refine lv_ldc2 hx hb hown (hts _ tw_382) dX10_step_33 ?_
    refine lv_ldc2 hx hb hown (hts _ tw_383) dX10_step_36 ?_
    refine end_i (run_s (As := [.long ((σ_3 0 19).toInt64), .long (97 : Int64), .long (122 : Int64)]) (rest := [.ref (adG g 0)]) C ca_X10_in (ctX10_in ((σ_3 0 19).toInt64) (97 : Int64) (122 : Int64) rfl) tw_193 ⟨Nat.le_of_ble_eq_true rfl, Nat.le_of_ble_eq_true rfl⟩ rfl hl.1 (Nat.le_of_ble_eq_true rfl) ⟨Nat.le_refl _, Nat.le_refl _⟩ hP hS dX10_step_39) hS (fun H locs hP hS => ?_)
    refine lv_if_eq (tgt := 49) hx hb dX10_step_42 (by decide) (fun c_ => ?_) (fun c_ => ?_)
    · replace h := if_t c_ h
      refine lv_aload_n hx hb dX10_step_49 rfl (lv_at hl 0 rfl) ?_
      refine r_geti C cf_10 hP sm_0 km_0 19 (by decide) rfl tw_377 dX10_step_50 ?_
      refine lv_i2l hx hb dX10_step_53 rfl ?_
      refine lv_ldc2 hx hb hown (hts _ tw_384) dX10_step_54 ?_
      refine lv_ldc2 hx hb hown (hts _ tw_385) dX10_step_57 ?_
      refine end_i (run_s (As := [.long ((σ_3 0 19).toInt64), .long (48 : Int64), .long (57 : Int64)]) (rest := [.ref (adG g 0)]) C ca_X10_in (ctX10_in ((σ_3 0 19).toInt64) (48 : Int64) (57 : Int64) rfl) tw_193 ⟨Nat.le_of_ble_eq_true rfl, Nat.le_of_ble_eq_true rfl⟩ rfl hl.1 (Nat.le_of_ble_eq_true rfl) ⟨Nat.le_refl _, Nat.le_refl _⟩ hP hS dX10_step_60) hS (fun H locs hP hS => ?_)
      refine lv_if_eq (tgt := 70) hx hb dX10_step_63 (by decide) (fun c_ => ?_) (fun c_ => ?_)
      · replace h := if_t c_ h
        refine lv_aload_n hx hb dX10_step_70 rfl (lv_at hl 0 rfl) ?_
        refine r_geti C cf_10 hP sm_0 km_0 19 (by decide) rfl tw_377 dX10_step_71 ?_
        refine lv_bipush (v := 44) hx hb dX10_step_74 (by decide) ?_
        refine lv_icmp_eq (tgt := 88) hx hb dX10_step_76 (by decide) (fun c_ => ?_) (fun c_ => ?_)
        · replace h := if_t c_ h
          exact wfX10_step_j88 C σ_3 H locs ls h hP hS (lv_sub hl [0] rfl)
        · replace h := if_f c_ h
          refine lv_aload_n hx hb dX10_step_79 rfl (lv_at hl 0 rfl) ?_
          refine r_geti C cf_10 hP sm_0 km_0 19 (by decide) rfl tw_377 dX10_step_80 ?_
          refine lv_bipush (v := 59) hx hb dX10_step_83 (by decide) ?_
          refine lv_icmp_ne (tgt := 92) hx hb dX10_step_85 (by decide) (fun c_ => ?_) (fun c_ => ?_)
          · replace h := if_f c_ h
            refine lv_iconst (v := 4) hx hb dX10_step_92 (by decide) ?_
            exact wfX10_step_j93 C σ_3 (4 : Int32) H locs ls h hP hS (lv_sub hl [0] rfl)
          · replace h := if_t c_ h
            exact wfX10_step_j88 C σ_3 H locs ls h hP hS (lv_sub hl [0] rfl)
      · replace h := if_f c_ h
        refine lv_iconst (v := 2) hx hb dX10_step_66 (by decide) ?_
        refine lv_goto (tgt := 93) hx hb dX10_step_67 (by decide) ?_
        exact wfX10_step_j93 C σ_3 (2 : Int32) H locs ls h hP hS (lv_sub hl [0] rfl)
    · replace h := if_f c_ h
      refine lv_iconst (v := 1) hx hb dX10_step_45 (by decide) ?_
      refine lv_goto (tgt := 93) hx hb dX10_step_46 (by decide) ?_
      exact wfX10_step_j93 C σ_3 (1 : Int32) H locs ls h hP hS (lv_sub hl [0] rfl)
  · replace h := if_f c_ h
    refine lv_iconst (v := 0) hx hb dX10_step_24 (by decide) ?_
    refine lv_goto (tgt := 93) hx hb dX10_step_25 (by decide) ?_
    exact wfX10_step_j93 C σ_3 (0 : Int32) H locs ls h hP hS (lv_sub hl [0] rfl)

set_option maxRecDepth 100000 in
set_option maxHeartbeats 4000000 in
theorem ctX10_fails {l : Launch} {g : Gw} {σ : Sto} (x1 : Int32) {Rz : (Sto × Int32)} (h : fX10_fails σ x1 = Rz) : MtG l yX10_fails cX10_fails 2 (some .boolean) 0 wkM g [.ref (adG g 0), .int x1] σ (QiS wkM g Rz.1 Rz.2) := by
  refine mt_of (by decide) (Nat.le_of_ble_eq_true rfl) (fun p e s m below meth c ls H locs C hP hS hl => ?_)
  have C : Cx wkM g p s m _ meth c cX10_fails 2 RX10 (some .boolean) := C
  have hl : lv_has ls 2 [(0, .ref (adG g 0)), (1, .int x1)] := hl
  obtain ⟨hx, hb, hml, hown, hts, hr, hlk, hK, hZ⟩ := id C
  unfold fX10_fails at h
  refine lv_aload_n hx hb dX10_fails_0 rfl (lv_at hl 0 rfl) ?_
  refine lv_iload_n hx hb dX10_fails_1 rfl (lv_at hl 1 rfl) ?_
  refine r_puti C cf_10 hP hS sm_0 km_0 20 (by decide) rfl rfl rfl tw_366 dX10_fails_2 (fun H locs σ_1 eσ_1 hP hS => ?_)
  replace h := un_at eσ_1 h
  refine lv_iconst (v := 0) hx hb dX10_fails_5 (by decide) ?_
  exact r_retz C hP hS (rt_tw1 h) (rt_tw2 h) rfl dX10_fails_6

set_option maxRecDepth 100000 in
set_option maxHeartbeats 4000000 in
theorem wfX10_number_j70 {l : Launch} {g : Gw} {p : Program} {e : Env} {s : State} {m : MethodId} {args : Array Value} {below : List Frame} {meth : Method} {c : Code} (C : Cx wkM g p s m args meth c cX10_number 5 RX10 (some .boolean)) {Rz : (Sto × Int32)} : ∀ (σ : Sto) (H : Heap) (locs : List Loc) (ls : Array Slot), fX10_number_j70 σ = some Rz → wS wkM g σ H → va_S (AS wkM g) s.heap H locs → lv_has ls 5 [(0, .ref (adG g 0))] → W p l e (rmS 2) s m args below meth c H locs 0 0 (MQ below (QiS wkM g Rz.1 Rz.2) args s 0 0 (AS wkM g)) (F0 m 70 ls []) := by
  intro σ H locs ls h hP hS hl
  obtain ⟨hx, hb, hml, hown, hts, hr, hlk, hK, hZ⟩ := id C
  unfold fX10_number_j70 at h
  refine lv_aload_n hx hb dX10_number_70 rfl (lv_at hl 0 rfl) ?_
  refine lv_iconst (v := 1) hx hb dX10_number_71 (by decide) ?_
  obtain ⟨q_1, eq_1⟩ : ∃ z, z = fX10_fails σ (1 : Int32) := ⟨_, rfl⟩
  replace h := un_at eq_1 h
  refine end_i (run_v (As := [.int (1 : Int32)]) (rest := []) C ca_X10_fails (ctX10_fails (1 : Int32) eq_1.symm) cf_10 sm_0 km_0 tw_390 ⟨Nat.le_of_ble_eq_true rfl, Nat.le_of_ble_eq_true rfl⟩ rfl hl.1 (Nat.le_of_ble_eq_true rfl) ⟨Nat.le_refl _, Nat.le_refl _⟩ hP hS dX10_number_72) hS (fun H locs hP hS => ?_)
  refine lv_if_eq (tgt := 82) hx hb dX10_number_75 (by decide) (fun c_ => ?_) (fun c_ => ?_)
  · replace h := if_t c_ h
    refine lv_iconst (v := 0) hx hb dX10_number_82 (by decide) ?_
    exact r_retz C hP hS (rt_ow1 h) (rt_ow2 h) rfl dX10_number_83
  · replace h := if_f c_ h
    refine lv_iconst (v := 1) hx hb dX10_number_78 (by decide) ?_
    refine lv_goto (tgt := 83) hx hb dX10_number_79 (by decide) ?_
    exact r_retz C hP hS (rt_ow1 h) (rt_ow2 h) rfl dX10_number_83

set_option maxRecDepth 100000 in
set_option maxHeartbeats 4000000 in
theorem ctX10_number {l : Launch} {g : Gw} {σ : Sto} (x1 : Int32) (x2 : Int32) (x3 : Int32) (x4 : Int32) {Rz : (Sto × Int32)} (h : fX10_number σ x1 x2 x3 x4 = some Rz) : MtG l yX10_number cX10_number 5 (some .boolean) 2 wkM g [.ref (adG g 0), .int x1, .int x2, .int x3, .int x4] σ (QiS wkM g Rz.1 Rz.2) := by
  refine mt_of (by decide) (Nat.le_of_ble_eq_true rfl) (fun p e s m below meth c ls H locs C hP hS hl => ?_)
  have C : Cx wkM g p s m _ meth c cX10_number 5 RX10 (some .boolean) := C
  have hl : lv_has ls 5 [(0, .ref (adG g 0)), (1, .int x1), (2, .int x2), (3, .int x3), (4, .int x4)] := hl
  obtain ⟨hx, hb, hml, hown, hts, hr, hlk, hK, hZ⟩ := id C
  unfold fX10_number at h
  refine lv_aload_n hx hb dX10_number_0 rfl (lv_at hl 0 rfl) ?_
  obtain ⟨q_1, hq_1, h⟩ := bd_inv h
  refine end_v (run_v (As := []) (rest := []) C ca_X10_step (ctX10_step hq_1) cf_10 sm_0 km_0 tw_378 ⟨Nat.le_of_ble_eq_true rfl, Nat.le_of_ble_eq_true rfl⟩ rfl hl.1 (Nat.le_of_ble_eq_true rfl) ⟨Nat.le_refl _, Nat.le_refl _⟩ hP hS dX10_number_1) hS (fun H locs hP hS => ?_)
  refine lv_aload_n hx hb dX10_number_4 rfl (lv_at hl 0 rfl) ?_
  refine r_geti C cf_10 hP sm_0 km_0 18 (by decide) rfl tw_376 dX10_number_5 ?_
  refine lv_iconst (v := 2) hx hb dX10_number_8 (by decide) ?_
  refine lv_icmp_eq (tgt := 18) hx hb dX10_number_9 (by decide) (fun c_ => ?_) (fun c_ => ?_)
  · replace h := if_t c_ h
    refine lv_aload_n hx hb dX10_number_18 rfl (lv_at hl 0 rfl) ?_
    refine r_geti C cf_10 hP sm_0 km_0 19 (by decide) rfl tw_377 dX10_number_19 ?_
    refine lv_i2l hx hb dX10_number_22 rfl ?_
    refine lv_iload_n hx hb dX10_number_23 rfl (lv_at hl 2 rfl) ?_
    refine lv_i2l hx hb dX10_number_24 rfl ?_
    refine lv_iload_n hx hb dX10_number_25 rfl (lv_at hl 3 rfl) ?_
    refine lv_i2l hx hb dX10_number_26 rfl ?_
    refine end_i (run_s (As := [.long ((q_1 0 19).toInt64), .long x2.toInt64, .long x3.toInt64]) (rest := []) C ca_X10_in (ctX10_in ((q_1 0 19).toInt64) x2.toInt64 x3.toInt64 rfl) tw_193 ⟨Nat.le_of_ble_eq_true rfl, Nat.le_of_ble_eq_true rfl⟩ rfl hl.1 (Nat.le_of_ble_eq_true rfl) ⟨Nat.le_refl _, Nat.le_refl _⟩ hP hS dX10_number_27) hS (fun H locs hP hS => ?_)
    refine lv_if_ne (tgt := 39) hx hb dX10_number_30 (by decide) (fun c_ => ?_) (fun c_ => ?_)
    · replace h := if_f c_ h
      refine lv_aload_n hx hb dX10_number_39 rfl (lv_at hl 0 rfl) ?_
      refine r_getr C cf_10 hP sm_0 km_0 5 (by decide) rfl tw_148 dX10_number_40 ?_
      refine lv_iload_n hx hb dX10_number_43 rfl (lv_at hl 1 rfl) ?_
      refine lv_aload_n hx hb dX10_number_44 rfl (lv_at hl 0 rfl) ?_
      refine r_geti C cf_10 hP sm_0 km_0 19 (by decide) rfl tw_377 dX10_number_45 ?_
      obtain ⟨g_3, h⟩ := gd_inv h
      refine r_iast C hP hS sm_5 km_5 rfl g_3 dX10_number_48 (fun H locs σ_4 eσ_4 hP hS => ?_)
      replace h := un_at eσ_4 h
      refine lv_aload_n hx hb dX10_number_49 rfl (lv_at hl 0 rfl) ?_
      obtain ⟨q_5, hq_5, h⟩ := bd_inv h
      refine end_v (run_v (As := []) (rest := []) C ca_X10_step (ctX10_step hq_5) cf_10 sm_0 km_0 tw_378 ⟨Nat.le_of_ble_eq_true rfl, Nat.le_of_ble_eq_true rfl⟩ rfl hl.1 (Nat.le_of_ble_eq_true rfl) ⟨Nat.le_refl _, Nat.le_refl _⟩ hP hS dX10_number_50) hS (fun H locs hP hS => ?_)
      refine lv_aload_n hx hb dX10_number_53 rfl (lv_at hl 0 rfl) ?_
      refine r_geti C cf_10 hP sm_0 km_0 18 (by decide) rfl tw_376 dX10_number_54 ?_
      refine lv_iconst (v := 3) hx hb dX10_number_57 (by decide) ?_
      refine lv_icmp_ne (tgt := 70) hx hb dX10_number_58 (by decide) (fun c_ => ?_) (fun c_ => ?_)
      · replace h := if_f c_ h
        exact wfX10_number_j70 C q_5 H locs ls h hP hS (lv_sub hl [0] rfl)
      · replace h := if_t c_ h
        refine lv_aload_n hx hb dX10_number_61 rfl (lv_at hl 0 rfl) ?_
        refine r_geti C cf_10 hP sm_0 km_0 19 (by decide) rfl tw_377 dX10_number_62 ?_
        refine lv_iload hx hb dX10_number_65 (lv_at hl 4 rfl) ?_
        refine lv_icmp_eq (tgt := 78) hx hb dX10_number_67 (by decide) (fun c_ => ?_) (fun c_ => ?_)
        · replace h := if_t c_ h
          refine lv_iconst (v := 1) hx hb dX10_number_78 (by decide) ?_
          refine lv_goto (tgt := 83) hx hb dX10_number_79 (by decide) ?_
          exact r_retz C hP hS (rt_ow1 h) (rt_ow2 h) rfl dX10_number_83
        · replace h := if_f c_ h
          exact wfX10_number_j70 C q_5 H locs ls h hP hS (lv_sub hl [0] rfl)
    · replace h := if_t c_ h
      refine lv_aload_n hx hb dX10_number_33 rfl (lv_at hl 0 rfl) ?_
      refine lv_iconst (v := 2) hx hb dX10_number_34 (by decide) ?_
      obtain ⟨q_6, eq_6⟩ : ∃ z, z = fX10_fails q_1 (2 : Int32) := ⟨_, rfl⟩
      replace h := un_at eq_6 h
      refine end_i (run_v (As := [.int (2 : Int32)]) (rest := []) C ca_X10_fails (ctX10_fails (2 : Int32) eq_6.symm) cf_10 sm_0 km_0 tw_390 ⟨Nat.le_of_ble_eq_true rfl, Nat.le_of_ble_eq_true rfl⟩ rfl hl.1 (Nat.le_of_ble_eq_true rfl) ⟨Nat.le_refl _, Nat.le_refl _⟩ hP hS dX10_number_35) hS (fun H locs hP hS => ?_)
      obtain ⟨g_7, h⟩ := gd_inv h
      exact r_retz C hP hS (rt_ow1 h) (rt_ow2 h) (isB_nar g_7) dX10_number_38
  · replace h := if_f c_ h
    refine lv_aload_n hx hb dX10_number_12 rfl (lv_at hl 0 rfl) ?_
    refine lv_iconst (v := 1) hx hb dX10_number_13 (by decide) ?_
    obtain ⟨q_8, eq_8⟩ : ∃ z, z = fX10_fails q_1 (1 : Int32) := ⟨_, rfl⟩
    replace h := un_at eq_8 h
    refine end_i (run_v (As := [.int (1 : Int32)]) (rest := []) C ca_X10_fails (ctX10_fails (1 : Int32) eq_8.symm) cf_10 sm_0 km_0 tw_390 ⟨Nat.le_of_ble_eq_true rfl, Nat.le_of_ble_eq_true rfl⟩ rfl hl.1 (Nat.le_of_ble_eq_true rfl) ⟨Nat.le_refl _, Nat.le_refl _⟩ hP hS dX10_number_14) hS (fun H locs hP hS => ?_)
    obtain ⟨g_9, h⟩ := gd_inv h
    exact r_retz C hP hS (rt_ow1 h) (rt_ow2 h) (isB_nar g_9) dX10_number_17

set_option maxRecDepth 100000 in
set_option maxHeartbeats 4000000 in
theorem ctX10_sortOf {l : Launch} {g : Gw} {σ : Sto} (x0 : Int32) {Rz : Int32} (h : fX10_sortOf x0 = Rz) : MtG l yX10_sortOf cX10_sortOf 1 (some .int) 0 wkM g [.int x0] σ (QiS wkM g σ Rz) := by
  refine mt_of (by decide) (Nat.le_of_ble_eq_true rfl) (fun p e s m below meth c ls H locs C hP hS hl => ?_)
  have C : Cx wkM g p s m _ meth c cX10_sortOf 1 RX10 (some .int) := C
  have hl : lv_has ls 1 [(0, .int x0)] := hl
  obtain ⟨hx, hb, hml, hown, hts, hr, hlk, hK, hZ⟩ := id C
  unfold fX10_sortOf at h
  refine lv_iload_n hx hb dX10_sortOf_0 rfl (lv_at hl 0 rfl) ?_
  refine lv_bipush (v := 99) hx hb dX10_sortOf_1 (by decide) ?_
  refine lv_icmp_ne (tgt := 10) hx hb dX10_sortOf_3 (by decide) (fun c_ => ?_) (fun c_ => ?_)
  · replace h := if_f c_ h
    refine lv_iload_n hx hb dX10_sortOf_10 rfl (lv_at hl 0 rfl) ?_
    refine lv_bipush (v := 108) hx hb dX10_sortOf_11 (by decide) ?_
    refine lv_icmp_ne (tgt := 20) hx hb dX10_sortOf_13 (by decide) (fun c_ => ?_) (fun c_ => ?_)
    · replace h := if_f c_ h
      refine lv_iload_n hx hb dX10_sortOf_20 rfl (lv_at hl 0 rfl) ?_
      refine lv_bipush (v := 116) hx hb dX10_sortOf_21 (by decide) ?_
      refine lv_icmp_ne (tgt := 30) hx hb dX10_sortOf_23 (by decide) (fun c_ => ?_) (fun c_ => ?_)
      · replace h := if_f c_ h
        refine lv_iload_n hx hb dX10_sortOf_30 rfl (lv_at hl 0 rfl) ?_
        refine lv_bipush (v := 112) hx hb dX10_sortOf_31 (by decide) ?_
        refine lv_icmp_ne (tgt := 40) hx hb dX10_sortOf_33 (by decide) (fun c_ => ?_) (fun c_ => ?_)
        · replace h := if_f c_ h
          refine lv_iload_n hx hb dX10_sortOf_40 rfl (lv_at hl 0 rfl) ?_
          refine lv_bipush (v := 97) hx hb dX10_sortOf_41 (by decide) ?_
          refine lv_icmp_ne (tgt := 50) hx hb dX10_sortOf_43 (by decide) (fun c_ => ?_) (fun c_ => ?_)
          · replace h := if_f c_ h
            refine lv_iconst (v := 0) hx hb dX10_sortOf_50 (by decide) ?_
            exact r_reti C hP hS rfl h dX10_sortOf_51
          · replace h := if_t c_ h
            refine lv_iconst (v := 5) hx hb dX10_sortOf_46 (by decide) ?_
            refine lv_goto (tgt := 51) hx hb dX10_sortOf_47 (by decide) ?_
            exact r_reti C hP hS rfl h dX10_sortOf_51
        · replace h := if_t c_ h
          refine lv_iconst (v := 4) hx hb dX10_sortOf_36 (by decide) ?_
          refine lv_goto (tgt := 51) hx hb dX10_sortOf_37 (by decide) ?_
          exact r_reti C hP hS rfl h dX10_sortOf_51
      · replace h := if_t c_ h
        refine lv_iconst (v := 3) hx hb dX10_sortOf_26 (by decide) ?_
        refine lv_goto (tgt := 51) hx hb dX10_sortOf_27 (by decide) ?_
        exact r_reti C hP hS rfl h dX10_sortOf_51
    · replace h := if_t c_ h
      refine lv_iconst (v := 2) hx hb dX10_sortOf_16 (by decide) ?_
      refine lv_goto (tgt := 51) hx hb dX10_sortOf_17 (by decide) ?_
      exact r_reti C hP hS rfl h dX10_sortOf_51
  · replace h := if_t c_ h
    refine lv_iconst (v := 1) hx hb dX10_sortOf_6 (by decide) ?_
    refine lv_goto (tgt := 51) hx hb dX10_sortOf_7 (by decide) ?_
    exact r_reti C hP hS rfl h dX10_sortOf_51

set_option maxRecDepth 100000 in
set_option maxHeartbeats 4000000 in
theorem ctX10_readsRoom {l : Launch} {g : Gw} {σ : Sto} {Rz : (Sto × Int32)} (h : fX10_readsRoom σ = some Rz) : MtG l yX10_readsRoom cX10_readsRoom 2 (some .boolean) 3 wkM g [.ref (adG g 0)] σ (QiS wkM g Rz.1 Rz.2) := by
  refine mt_of (by decide) (Nat.le_of_ble_eq_true rfl) (fun p e s m below meth c ls H locs C hP hS hl => ?_)
  have C : Cx wkM g p s m _ meth c cX10_readsRoom 2 RX10 (some .boolean) := C
  have hl : lv_has ls 2 [(0, .ref (adG g 0))] := hl
  obtain ⟨hx, hb, hml, hown, hts, hr, hlk, hK, hZ⟩ := id C
  unfold fX10_readsRoom at h
  refine lv_aload_n hx hb dX10_readsRoom_0 rfl (lv_at hl 0 rfl) ?_
  refine r_getr C cf_10 hP sm_0 km_0 5 (by decide) rfl tw_148 dX10_readsRoom_1 ?_
  refine lv_iconst (v := 0) hx hb dX10_readsRoom_4 (by decide) ?_
  refine r_iald C hP sm_5 km_5 (j := 0) (by decide) (by decide) dX10_readsRoom_5 ?_
  refine lv_topi (fun x_1 ex_1 => ?_)
  replace h := un_at ex_1 h
  refine lv_istore_n (lv' := [(1, .int x_1), (0, .ref (adG g 0))]) hx hb dX10_readsRoom_6 rfl hl (by decide) rfl (fun ls hl => ?_)
  refine lv_iload_n hx hb dX10_readsRoom_7 rfl (lv_at hl 0 rfl) ?_
  refine lv_bipush (v := 10) hx hb dX10_readsRoom_8 (by decide) ?_
  refine lv_icmp_ne (tgt := 19) hx hb dX10_readsRoom_10 (by decide) (fun c_ => ?_) (fun c_ => ?_)
  · replace h := if_f c_ h
    refine lv_aload_n hx hb dX10_readsRoom_19 rfl (lv_at hl 1 rfl) ?_
    refine r_getr C cf_10 hP sm_0 km_0 5 (by decide) rfl tw_148 dX10_readsRoom_20 ?_
    refine lv_iconst (v := 0) hx hb dX10_readsRoom_23 (by decide) ?_
    refine lv_dup2_11 hx hb dX10_readsRoom_24 rfl rfl ?_
    refine r_iald C hP sm_5 km_5 (j := 0) (by decide) (by decide) dX10_readsRoom_25 ?_
    refine lv_iconst (v := 1) hx hb dX10_readsRoom_26 (by decide) ?_
    refine lv_iadd hx hb dX10_readsRoom_27 ?_
    refine r_iast C hP hS sm_5 km_5 (j := 0) (by decide) (by decide) dX10_readsRoom_28 (fun H locs σ_2 eσ_2 hP hS => ?_)
    replace h := un_at eσ_2 h
    refine lv_aload_n hx hb dX10_readsRoom_29 rfl (lv_at hl 1 rfl) ?_
    refine lv_iconst (v := 5) hx hb dX10_readsRoom_30 (by decide) ?_
    refine lv_iload_n hx hb dX10_readsRoom_31 rfl (lv_at hl 0 rfl) ?_
    refine lv_iadd hx hb dX10_readsRoom_32 ?_
    refine lv_iconst (v := 0) hx hb dX10_readsRoom_33 (by decide) ?_
    refine lv_bipush (v := 9) hx hb dX10_readsRoom_34 (by decide) ?_
    refine lv_bipush (v := 59) hx hb dX10_readsRoom_36 (by decide) ?_
    obtain ⟨q_3, hq_3, h⟩ := bd_inv h
    refine end_i (run_v (As := [.int ((5 : Int32) + x_1), .int (0 : Int32), .int (9 : Int32), .int (59 : Int32)]) (rest := []) C ca_X10_number (ctX10_number ((5 : Int32) + x_1) (0 : Int32) (9 : Int32) (59 : Int32) hq_3) cf_10 sm_0 km_0 tw_394 ⟨Nat.le_of_ble_eq_true rfl, Nat.le_of_ble_eq_true rfl⟩ rfl hl.1 (Nat.le_of_ble_eq_true rfl) ⟨Nat.le_refl _, Nat.le_refl _⟩ hP hS dX10_readsRoom_38) hS (fun H locs hP hS => ?_)
    obtain ⟨g_4, h⟩ := gd_inv h
    exact r_retz C hP hS (rt_ow1 h) (rt_ow2 h) (isB_nar g_4) dX10_readsRoom_41
  · replace h := if_t c_ h
    refine lv_aload_n hx hb dX10_readsRoom_13 rfl (lv_at hl 1 rfl) ?_
    refine lv_iconst (v := 3) hx hb dX10_readsRoom_14 (by decide) ?_
    obtain ⟨q_5, eq_5⟩ : ∃ z, z = fX10_fails σ (3 : Int32) := ⟨_, rfl⟩
    replace h := un_at eq_5 h
    refine end_i (run_v (As := [.int (3 : Int32)]) (rest := []) C ca_X10_fails (ctX10_fails (3 : Int32) eq_5.symm) cf_10 sm_0 km_0 tw_390 ⟨Nat.le_of_ble_eq_true rfl, Nat.le_of_ble_eq_true rfl⟩ rfl hl.1 (Nat.le_of_ble_eq_true rfl) ⟨Nat.le_refl _, Nat.le_refl _⟩ hP hS dX10_readsRoom_15) hS (fun H locs hP hS => ?_)
    obtain ⟨g_6, h⟩ := gd_inv h
    exact r_retz C hP hS (rt_ow1 h) (rt_ow2 h) (isB_nar g_6) dX10_readsRoom_18

set_option maxRecDepth 100000 in
set_option maxHeartbeats 4000000 in
theorem wfX10_readsThing_j36 {l : Launch} {g : Gw} {p : Program} {e : Env} {s : State} {m : MethodId} {args : Array Value} {below : List Frame} {meth : Method} {c : Code} (C : Cx wkM g p s m args meth c cX10_readsThing 3 RX10 (some .boolean)) {Rz : (Sto × Int32)} : ∀ (σ : Sto) (x1 : Int32) (y0 : Int32) (H : Heap) (locs : List Loc) (ls : Array Slot), fX10_readsThing_j36 σ x1 y0 = some Rz → wS wkM g σ H → va_S (AS wkM g) s.heap H locs → lv_has ls 3 [(0, .ref (adG g 0)), (1, .int x1)] → W p l e (rmS 3) s m args below meth c H locs 0 0 (MQ below (QiS wkM g Rz.1 Rz.2) args s 0 0 (AS wkM g)) (F0 m 36 ls [.int y0]) := by
  intro σ x1 y0 H locs ls h hP hS hl
  obtain ⟨hx, hb, hml, hown, hts, hr, hlk, hK, hZ⟩ := id C
  unfold fX10_readsThing_j36 at h
  refine lv_istore_n (lv' := [(2, .int y0), (0, .ref (adG g 0)), (1, .int x1)]) hx hb dX10_readsThing_36 rfl hl (by decide) rfl (fun ls hl => ?_)
  refine lv_iload_n hx hb dX10_readsThing_37 rfl (lv_at hl 0 rfl) ?_
  refine lv_if_ne (tgt := 47) hx hb dX10_readsThing_38 (by decide) (fun c_ => ?_) (fun c_ => ?_)
  · replace h := if_f c_ h
    refine lv_iload_n hx hb dX10_readsThing_47 rfl (lv_at hl 2 rfl) ?_
    refine lv_bipush (v := 6) hx hb dX10_readsThing_48 (by decide) ?_
    refine lv_icmp_ne (tgt := 59) hx hb dX10_readsThing_50 (by decide) (fun c_ => ?_) (fun c_ => ?_)
    · replace h := if_f c_ h
      refine lv_aload_n hx hb dX10_readsThing_59 rfl (lv_at hl 1 rfl) ?_
      refine r_getr C cf_10 hP sm_0 km_0 5 (by decide) rfl tw_148 dX10_readsThing_60 ?_
      refine lv_bipush (v := 35) hx hb dX10_readsThing_63 (by decide) ?_
      refine lv_iload_n hx hb dX10_readsThing_65 rfl (lv_at hl 2 rfl) ?_
      refine lv_iadd hx hb dX10_readsThing_66 ?_
      refine lv_iload_n hx hb dX10_readsThing_67 rfl (lv_at hl 0 rfl) ?_
      obtain ⟨g_1, h⟩ := gd_inv h
      refine r_iast C hP hS sm_5 km_5 rfl g_1 dX10_readsThing_68 (fun H locs σ_2 eσ_2 hP hS => ?_)
      replace h := un_at eσ_2 h
      refine lv_aload_n hx hb dX10_readsThing_69 rfl (lv_at hl 1 rfl) ?_
      refine r_getr C cf_10 hP sm_0 km_0 5 (by decide) rfl tw_148 dX10_readsThing_70 ?_
      refine lv_iconst (v := 1) hx hb dX10_readsThing_73 (by decide) ?_
      refine lv_dup2_11 hx hb dX10_readsThing_74 rfl rfl ?_
      refine r_iald C hP sm_5 km_5 (j := 1) (by decide) (by decide) dX10_readsThing_75 ?_
      refine lv_iconst (v := 1) hx hb dX10_readsThing_76 (by decide) ?_
      refine lv_iadd hx hb dX10_readsThing_77 ?_
      refine r_iast C hP hS sm_5 km_5 (j := 1) (by decide) (by decide) dX10_readsThing_78 (fun H locs σ_3 eσ_3 hP hS => ?_)
      replace h := un_at eσ_3 h
      refine lv_aload_n hx hb dX10_readsThing_79 rfl (lv_at hl 1 rfl) ?_
      refine lv_bipush (v := 47) hx hb dX10_readsThing_80 (by decide) ?_
      refine lv_iload_n hx hb dX10_readsThing_82 rfl (lv_at hl 2 rfl) ?_
      refine lv_iadd hx hb dX10_readsThing_83 ?_
      refine lv_iconst (v := 0) hx hb dX10_readsThing_84 (by decide) ?_
      refine lv_aload_n hx hb dX10_readsThing_85 rfl (lv_at hl 1 rfl) ?_
      refine r_getr C cf_10 hP sm_0 km_0 5 (by decide) rfl tw_148 dX10_readsThing_86 ?_
      refine lv_iconst (v := 0) hx hb dX10_readsThing_89 (by decide) ?_
      refine r_iald C hP sm_5 km_5 (j := 0) (by decide) (by decide) dX10_readsThing_90 ?_
      refine lv_iconst (v := 1) hx hb dX10_readsThing_91 (by decide) ?_
      refine lv_isub hx hb dX10_readsThing_92 ?_
      refine lv_bipush (v := 44) hx hb dX10_readsThing_93 (by decide) ?_
      obtain ⟨q_4, hq_4, h⟩ := bd_inv h
      refine end_i (run_v (As := [.int ((47 : Int32) + x1), .int (0 : Int32), .int ((σ_3 5 0) - (1 : Int32)), .int (44 : Int32)]) (rest := []) C ca_X10_number (ctX10_number ((47 : Int32) + x1) (0 : Int32) ((σ_3 5 0) - (1 : Int32)) (44 : Int32) hq_4) cf_10 sm_0 km_0 tw_394 ⟨Nat.le_of_ble_eq_true rfl, Nat.le_of_ble_eq_true rfl⟩ rfl hl.1 (Nat.le_of_ble_eq_true rfl) ⟨Nat.le_refl _, Nat.le_refl _⟩ hP hS dX10_readsThing_95) hS (fun H locs hP hS => ?_)
      refine lv_if_eq (tgt := 121) hx hb dX10_readsThing_98 (by decide) (fun c_ => ?_) (fun c_ => ?_)
      · replace h := if_t c_ h
        refine lv_iconst (v := 0) hx hb dX10_readsThing_121 (by decide) ?_
        exact r_retz C hP hS (rt_ow1 h) (rt_ow2 h) rfl dX10_readsThing_122
      · replace h := if_f c_ h
        refine lv_aload_n hx hb dX10_readsThing_101 rfl (lv_at hl 1 rfl) ?_
        refine lv_bipush (v := 41) hx hb dX10_readsThing_102 (by decide) ?_
        refine lv_iload_n hx hb dX10_readsThing_104 rfl (lv_at hl 2 rfl) ?_
        refine lv_iadd hx hb dX10_readsThing_105 ?_
        refine lv_iconst (v := 1) hx hb dX10_readsThing_106 (by decide) ?_
        refine lv_bipush (v := 9) hx hb dX10_readsThing_107 (by decide) ?_
        refine lv_bipush (v := 59) hx hb dX10_readsThing_109 (by decide) ?_
        obtain ⟨q_5, hq_5, h⟩ := bd_inv h
        refine end_i (run_v (As := [.int ((41 : Int32) + x1), .int (1 : Int32), .int (9 : Int32), .int (59 : Int32)]) (rest := []) C ca_X10_number (ctX10_number ((41 : Int32) + x1) (1 : Int32) (9 : Int32) (59 : Int32) hq_5) cf_10 sm_0 km_0 tw_394 ⟨Nat.le_of_ble_eq_true rfl, Nat.le_of_ble_eq_true rfl⟩ rfl hl.1 (Nat.le_of_ble_eq_true rfl) ⟨Nat.le_refl _, Nat.le_refl _⟩ hP hS dX10_readsThing_111) hS (fun H locs hP hS => ?_)
        refine lv_if_eq (tgt := 121) hx hb dX10_readsThing_114 (by decide) (fun c_ => ?_) (fun c_ => ?_)
        · replace h := if_t c_ h
          refine lv_iconst (v := 0) hx hb dX10_readsThing_121 (by decide) ?_
          exact r_retz C hP hS (rt_ow1 h) (rt_ow2 h) rfl dX10_readsThing_122
        · replace h := if_f c_ h
          refine lv_iconst (v := 1) hx hb dX10_readsThing_117 (by decide) ?_
          refine lv_goto (tgt := 122) hx hb dX10_readsThing_118 (by decide) ?_
          exact r_retz C hP hS (rt_ow1 h) (rt_ow2 h) rfl dX10_readsThing_122
    · replace h := if_t c_ h
      refine lv_aload_n hx hb dX10_readsThing_53 rfl (lv_at hl 1 rfl) ?_
      refine lv_iconst (v := 3) hx hb dX10_readsThing_54 (by decide) ?_
      obtain ⟨q_6, eq_6⟩ : ∃ z, z = fX10_fails σ (3 : Int32) := ⟨_, rfl⟩
      replace h := un_at eq_6 h
      refine end_i (run_v (As := [.int (3 : Int32)]) (rest := []) C ca_X10_fails (ctX10_fails (3 : Int32) eq_6.symm) cf_10 sm_0 km_0 tw_390 ⟨Nat.le_of_ble_eq_true rfl, Nat.le_of_ble_eq_true rfl⟩ rfl hl.1 (Nat.le_of_ble_eq_true rfl) ⟨Nat.le_refl _, Nat.le_refl _⟩ hP hS dX10_readsThing_55) hS (fun H locs hP hS => ?_)
      obtain ⟨g_7, h⟩ := gd_inv h
      exact r_retz C hP hS (rt_ow1 h) (rt_ow2 h) (isB_nar g_7) dX10_readsThing_58
  · replace h := if_t c_ h
    refine lv_aload_n hx hb dX10_readsThing_41 rfl (lv_at hl 1 rfl) ?_
    refine lv_iconst (v := 1) hx hb dX10_readsThing_42 (by decide) ?_
    obtain ⟨q_8, eq_8⟩ : ∃ z, z = fX10_fails σ (1 : Int32) := ⟨_, rfl⟩
    replace h := un_at eq_8 h
    refine end_i (run_v (As := [.int (1 : Int32)]) (rest := []) C ca_X10_fails (ctX10_fails (1 : Int32) eq_8.symm) cf_10 sm_0 km_0 tw_390 ⟨Nat.le_of_ble_eq_true rfl, Nat.le_of_ble_eq_true rfl⟩ rfl hl.1 (Nat.le_of_ble_eq_true rfl) ⟨Nat.le_refl _, Nat.le_refl _⟩ hP hS dX10_readsThing_43) hS (fun H locs hP hS => ?_)
    obtain ⟨g_9, h⟩ := gd_inv h
    exact r_retz C hP hS (rt_ow1 h) (rt_ow2 h) (isB_nar g_9) dX10_readsThing_46

set_option maxRecDepth 100000 in
set_option maxHeartbeats 4000000 in
theorem wfX10_readsThing_j35 {l : Launch} {g : Gw} {p : Program} {e : Env} {s : State} {m : MethodId} {args : Array Value} {below : List Frame} {meth : Method} {c : Code} (C : Cx wkM g p s m args meth c cX10_readsThing 3 RX10 (some .boolean)) {Rz : (Sto × Int32)} : ∀ (σ : Sto) (x1 : Int32) (H : Heap) (locs : List Loc) (ls : Array Slot), fX10_readsThing_j35 σ x1 = some Rz → wS wkM g σ H → va_S (AS wkM g) s.heap H locs → lv_has ls 3 [(0, .ref (adG g 0)), (1, .int x1)] → W p l e (rmS 3) s m args below meth c H locs 0 0 (MQ below (QiS wkM g Rz.1 Rz.2) args s 0 0 (AS wkM g)) (F0 m 35 ls []) := by
  intro σ x1 H locs ls h hP hS hl
  obtain ⟨hx, hb, hml, hown, hts, hr, hlk, hK, hZ⟩ := id C
  unfold fX10_readsThing_j35 at h
  refine lv_iconst (v := 0) hx hb dX10_readsThing_35 (by decide) ?_
  exact wfX10_readsThing_j36 C σ x1 (0 : Int32) H locs ls h hP hS (lv_sub hl [0, 1] rfl)

set_option maxRecDepth 100000 in
set_option maxHeartbeats 4000000 in
theorem ctX10_readsThing {l : Launch} {g : Gw} {σ : Sto} {Rz : (Sto × Int32)} (h : fX10_readsThing σ = some Rz) : MtG l yX10_readsThing cX10_readsThing 3 (some .boolean) 3 wkM g [.ref (adG g 0)] σ (QiS wkM g Rz.1 Rz.2) := by
  refine mt_of (by decide) (Nat.le_of_ble_eq_true rfl) (fun p e s m below meth c ls H locs C hP hS hl => ?_)
  have C : Cx wkM g p s m _ meth c cX10_readsThing 3 RX10 (some .boolean) := C
  have hl : lv_has ls 3 [(0, .ref (adG g 0))] := hl
  obtain ⟨hx, hb, hml, hown, hts, hr, hlk, hK, hZ⟩ := id C
  unfold fX10_readsThing at h
  refine lv_aload_n hx hb dX10_readsThing_0 rfl (lv_at hl 0 rfl) ?_
  refine r_getr C cf_10 hP sm_0 km_0 5 (by decide) rfl tw_148 dX10_readsThing_1 ?_
  refine lv_iconst (v := 1) hx hb dX10_readsThing_4 (by decide) ?_
  refine r_iald C hP sm_5 km_5 (j := 1) (by decide) (by decide) dX10_readsThing_5 ?_
  refine lv_topi (fun x_1 ex_1 => ?_)
  replace h := un_at ex_1 h
  refine lv_istore_n (lv' := [(1, .int x_1), (0, .ref (adG g 0))]) hx hb dX10_readsThing_6 rfl hl (by decide) rfl (fun ls hl => ?_)
  refine lv_aload_n hx hb dX10_readsThing_7 rfl (lv_at hl 1 rfl) ?_
  refine r_geti C cf_10 hP sm_0 km_0 18 (by decide) rfl tw_376 dX10_readsThing_8 ?_
  refine lv_iconst (v := 1) hx hb dX10_readsThing_11 (by decide) ?_
  refine lv_icmp_ne (tgt := 35) hx hb dX10_readsThing_12 (by decide) (fun c_ => ?_) (fun c_ => ?_)
  · replace h := if_f c_ h
    exact wfX10_readsThing_j35 C σ x_1 H locs ls h hP hS (lv_sub hl [1, 0] rfl)
  · replace h := if_t c_ h
    refine lv_aload_n hx hb dX10_readsThing_15 rfl (lv_at hl 1 rfl) ?_
    refine r_getr C cf_10 hP sm_0 km_0 5 (by decide) rfl tw_148 dX10_readsThing_16 ?_
    refine lv_iconst (v := 0) hx hb dX10_readsThing_19 (by decide) ?_
    refine r_iald C hP sm_5 km_5 (j := 0) (by decide) (by decide) dX10_readsThing_20 ?_
    refine lv_iconst (v := 2) hx hb dX10_readsThing_21 (by decide) ?_
    refine lv_icmp_le (tgt := 35) hx hb dX10_readsThing_22 (by decide) (fun c_ => ?_) (fun c_ => ?_)
    · replace h := if_t c_ h
      exact wfX10_readsThing_j35 C σ x_1 H locs ls h hP hS (lv_sub hl [1, 0] rfl)
    · replace h := if_f c_ h
      refine lv_aload_n hx hb dX10_readsThing_25 rfl (lv_at hl 1 rfl) ?_
      refine r_geti C cf_10 hP sm_0 km_0 19 (by decide) rfl tw_377 dX10_readsThing_26 ?_
      refine end_i (run_s (As := [.int (σ 0 19)]) (rest := []) C ca_X10_sortOf (ctX10_sortOf (σ 0 19) rfl) tw_406 ⟨Nat.le_of_ble_eq_true rfl, Nat.le_of_ble_eq_true rfl⟩ rfl hl.1 (Nat.le_of_ble_eq_true rfl) ⟨Nat.le_refl _, Nat.le_refl _⟩ hP hS dX10_readsThing_29) hS (fun H locs hP hS => ?_)
      refine lv_goto (tgt := 36) hx hb dX10_readsThing_32 (by decide) ?_
      exact wfX10_readsThing_j36 C σ x_1 (fX10_sortOf (σ 0 19)) H locs ls h hP hS (lv_sub hl [1, 0] rfl)

set_option maxRecDepth 100000 in
set_option maxHeartbeats 4000000 in
theorem wfX10_reads_L2 {l : Launch} {g : Gw} {p : Program} {e : Env} {s : State} {m : MethodId} {args : Array Value} {below : List Frame} {meth : Method} {c : Code} (C : Cx wkM g p s m args meth c cX10_reads 2 RX10 (some .boolean)) {Rz : (Sto × Int32)} {k_21 : Sto → Option (Sto × Int32)} : ∀ (n : Nat) (σ : Sto) (x1 : Int32) (H : Heap) (locs : List Loc) (ls : Array Slot), fX10_reads_L2 k_21 n σ x1 = some Rz → wS wkM g σ H → va_S (AS wkM g) s.heap H locs → lv_has ls 2 [(0, .ref (adG g 0)), (1, .int x1)] → (∀ (σ : Sto) (H : Heap) (locs : List Loc) (ls : Array Slot), k_21 σ = some Rz → wS wkM g σ H → va_S (AS wkM g) s.heap H locs → lv_has ls 2 [(0, .ref (adG g 0))] → W p l e (rmS 4) s m args below meth c H locs 0 0 (MQ below (QiS wkM g Rz.1 Rz.2) args s 0 0 (AS wkM g)) (F0 m 21 ls [])) → W p l e (rmS 4) s m args below meth c H locs 0 0 (MQ below (QiS wkM g Rz.1 Rz.2) args s 0 0 (AS wkM g)) (F0 m 2 ls []) := by
  intro n
  induction n with
  | zero =>
    intro σ x1 H locs ls h
    cases h
  | succ n ih =>
    intro σ x1 H locs ls h hP hS hl hk_21
    obtain ⟨hx, hb, hml, hown, hts, hr, hlk, hK, hZ⟩ := id C
    rw [fX10_reads_L2] at h
    refine lv_iload_n hx hb dX10_reads_2 rfl (lv_at hl 1 rfl) ?_
    refine lv_bipush (v := 59) hx hb dX10_reads_3 (by decide) ?_
    refine lv_icmp_ge (tgt := 21) hx hb dX10_reads_5 (by decide) (fun c_ => ?_) (fun c_ => ?_)
    · replace h := if_t c_ h
      exact hk_21 σ H locs ls h hP hS (lv_sub hl [0] rfl)
    · replace h := if_f c_ h
      refine lv_aload_n hx hb dX10_reads_8 rfl (lv_at hl 0 rfl) ?_
      refine r_getr C cf_10 hP sm_0 km_0 5 (by decide) rfl tw_148 dX10_reads_9 ?_
      refine lv_iload_n hx hb dX10_reads_12 rfl (lv_at hl 1 rfl) ?_
      refine lv_iconst (v := 0) hx hb dX10_reads_13 (by decide) ?_
      obtain ⟨g_1, h⟩ := gd_inv h
      refine r_iast C hP hS sm_5 km_5 rfl g_1 dX10_reads_14 (fun H locs σ_2 eσ_2 hP hS => ?_)
      replace h := un_at eσ_2 h
      obtain ⟨x_3, ex_3⟩ : ∃ y : Int32, y = x1 + (1 : Int32) := ⟨_, rfl⟩
      replace h := un_at ex_3 h
      refine lv_iinc (v := x_3) (lv' := [(1, .int x_3), (0, .ref (adG g 0))]) hx hb dX10_reads_15 hl (k := 1) rfl (by rw [ex_3]; rfl) (by decide) rfl (fun ls hl => ?_)
      refine lv_goto (tgt := 2) hx hb dX10_reads_18 (by decide) ?_
      exact ih σ_2 x_3 H locs ls h hP hS (lv_sub hl [1, 0] rfl) hk_21

set_option maxRecDepth 100000 in
set_option maxHeartbeats 4000000 in
theorem wfX10_reads_j132 {l : Launch} {g : Gw} {p : Program} {e : Env} {s : State} {m : MethodId} {args : Array Value} {below : List Frame} {meth : Method} {c : Code} (C : Cx wkM g p s m args meth c cX10_reads 2 RX10 (some .boolean)) {Rz : (Sto × Int32)} {k_85 : Sto → Option (Sto × Int32)} : ∀ (σ : Sto) (y0 : Int32) (H : Heap) (locs : List Loc) (ls : Array Slot), fX10_reads_j132 k_85 σ y0 = some Rz → wS wkM g σ H → va_S (AS wkM g) s.heap H locs → lv_has ls 2 [(0, .ref (adG g 0))] → (∀ (σ : Sto) (H : Heap) (locs : List Loc) (ls : Array Slot), k_85 σ = some Rz → wS wkM g σ H → va_S (AS wkM g) s.heap H locs → lv_has ls 2 [(0, .ref (adG g 0))] → W p l e (rmS 4) s m args below meth c H locs 0 0 (MQ below (QiS wkM g Rz.1 Rz.2) args s 0 0 (AS wkM g)) (F0 m 85 ls [])) → W p l e (rmS 4) s m args below meth c H locs 0 0 (MQ below (QiS wkM g Rz.1 Rz.2) args s 0 0 (AS wkM g)) (F0 m 132 ls [.int y0]) := by
  intro σ y0 H locs ls h hP hS hl hk_85
  obtain ⟨hx, hb, hml, hown, hts, hr, hlk, hK, hZ⟩ := id C
  unfold fX10_reads_j132 at h
  refine lv_istore_n (lv' := [(1, .int y0), (0, .ref (adG g 0))]) hx hb dX10_reads_132 rfl hl (by decide) rfl (fun ls hl => ?_)
  refine lv_iload_n hx hb dX10_reads_133 rfl (lv_at hl 0 rfl) ?_
  refine lv_if_eq (tgt := 147) hx hb dX10_reads_134 (by decide) (fun c_ => ?_) (fun c_ => ?_)
  · replace h := if_t c_ h
    refine lv_aload_n hx hb dX10_reads_147 rfl (lv_at hl 1 rfl) ?_
    obtain ⟨q_1, hq_1, h⟩ := bd_inv h
    refine end_i (run_v (As := []) (rest := []) C ca_X10_readsThing (ctX10_readsThing hq_1) cf_10 sm_0 km_0 tw_402 ⟨Nat.le_of_ble_eq_true rfl, Nat.le_of_ble_eq_true rfl⟩ rfl hl.1 (Nat.le_of_ble_eq_true rfl) ⟨Nat.le_refl _, Nat.le_refl _⟩ hP hS dX10_reads_148) hS (fun H locs hP hS => ?_)
    refine lv_if_ne (tgt := 156) hx hb dX10_reads_151 (by decide) (fun c_ => ?_) (fun c_ => ?_)
    · replace h := if_f c_ h
      refine lv_aload_n hx hb dX10_reads_156 rfl (lv_at hl 1 rfl) ?_
      obtain ⟨q_2, hq_2, h⟩ := bd_inv h
      refine end_v (run_v (As := []) (rest := []) C ca_X10_step (ctX10_step hq_2) cf_10 sm_0 km_0 tw_378 ⟨Nat.le_of_ble_eq_true rfl, Nat.le_of_ble_eq_true rfl⟩ rfl hl.1 (Nat.le_of_ble_eq_true rfl) ⟨Nat.le_refl _, Nat.le_refl _⟩ hP hS dX10_reads_157) hS (fun H locs hP hS => ?_)
      refine lv_goto (tgt := 85) hx hb dX10_reads_160 (by decide) ?_
      exact hk_85 q_2 H locs ls h hP hS (lv_sub hl [1] rfl)
    · replace h := if_t c_ h
      refine lv_iconst (v := 0) hx hb dX10_reads_154 (by decide) ?_
      exact r_retz C hP hS (rt_ow1 h) (rt_ow2 h) rfl dX10_reads_155
  · replace h := if_f c_ h
    refine lv_aload_n hx hb dX10_reads_137 rfl (lv_at hl 1 rfl) ?_
    obtain ⟨q_3, hq_3, h⟩ := bd_inv h
    refine end_i (run_v (As := []) (rest := []) C ca_X10_readsRoom (ctX10_readsRoom hq_3) cf_10 sm_0 km_0 tw_398 ⟨Nat.le_of_ble_eq_true rfl, Nat.le_of_ble_eq_true rfl⟩ rfl hl.1 (Nat.le_of_ble_eq_true rfl) ⟨Nat.le_refl _, Nat.le_refl _⟩ hP hS dX10_reads_138) hS (fun H locs hP hS => ?_)
    refine lv_if_ne (tgt := 156) hx hb dX10_reads_141 (by decide) (fun c_ => ?_) (fun c_ => ?_)
    · replace h := if_f c_ h
      refine lv_aload_n hx hb dX10_reads_156 rfl (lv_at hl 1 rfl) ?_
      obtain ⟨q_4, hq_4, h⟩ := bd_inv h
      refine end_v (run_v (As := []) (rest := []) C ca_X10_step (ctX10_step hq_4) cf_10 sm_0 km_0 tw_378 ⟨Nat.le_of_ble_eq_true rfl, Nat.le_of_ble_eq_true rfl⟩ rfl hl.1 (Nat.le_of_ble_eq_true rfl) ⟨Nat.le_refl _, Nat.le_refl _⟩ hP hS dX10_reads_157) hS (fun H locs hP hS => ?_)
      refine lv_goto (tgt := 85) hx hb dX10_reads_160 (by decide) ?_
      exact hk_85 q_4 H locs ls h hP hS (lv_sub hl [1] rfl)
    · replace h := if_t c_ h
      refine lv_goto (tgt := 154) hx hb dX10_reads_144 (by decide) ?_
      refine lv_iconst (v := 0) hx hb dX10_reads_154 (by decide) ?_
      exact r_retz C hP hS (rt_ow1 h) (rt_ow2 h) rfl dX10_reads_155

set_option maxRecDepth 100000 in
set_option maxHeartbeats 4000000 in
theorem wfX10_reads_j131 {l : Launch} {g : Gw} {p : Program} {e : Env} {s : State} {m : MethodId} {args : Array Value} {below : List Frame} {meth : Method} {c : Code} (C : Cx wkM g p s m args meth c cX10_reads 2 RX10 (some .boolean)) {Rz : (Sto × Int32)} {k_85 : Sto → Option (Sto × Int32)} : ∀ (σ : Sto) (H : Heap) (locs : List Loc) (ls : Array Slot), fX10_reads_j131 k_85 σ = some Rz → wS wkM g σ H → va_S (AS wkM g) s.heap H locs → lv_has ls 2 [(0, .ref (adG g 0))] → (∀ (σ : Sto) (H : Heap) (locs : List Loc) (ls : Array Slot), k_85 σ = some Rz → wS wkM g σ H → va_S (AS wkM g) s.heap H locs → lv_has ls 2 [(0, .ref (adG g 0))] → W p l e (rmS 4) s m args below meth c H locs 0 0 (MQ below (QiS wkM g Rz.1 Rz.2) args s 0 0 (AS wkM g)) (F0 m 85 ls [])) → W p l e (rmS 4) s m args below meth c H locs 0 0 (MQ below (QiS wkM g Rz.1 Rz.2) args s 0 0 (AS wkM g)) (F0 m 131 ls []) := by
  intro σ H locs ls h hP hS hl hk_85
  obtain ⟨hx, hb, hml, hown, hts, hr, hlk, hK, hZ⟩ := id C
  unfold fX10_reads_j131 at h
  refine lv_iconst (v := 0) hx hb dX10_reads_131 (by decide) ?_
  refine wfX10_reads_j132 C σ (0 : Int32) H locs ls h hP hS (lv_sub hl [0] rfl) (fun σ_1 H locs ls h hP hS hl => ?_)
  exact hk_85 σ_1 H locs ls h hP hS (lv_sub hl [0] rfl)

set_option maxRecDepth 100000 in
set_option maxHeartbeats 4000000 in
theorem wfX10_reads_j101 {l : Launch} {g : Gw} {p : Program} {e : Env} {s : State} {m : MethodId} {args : Array Value} {below : List Frame} {meth : Method} {c : Code} (C : Cx wkM g p s m args meth c cX10_reads 2 RX10 (some .boolean)) {Rz : (Sto × Int32)} {k_85 : Sto → Option (Sto × Int32)} : ∀ (σ : Sto) (H : Heap) (locs : List Loc) (ls : Array Slot), fX10_reads_j101 k_85 σ = some Rz → wS wkM g σ H → va_S (AS wkM g) s.heap H locs → lv_has ls 2 [(0, .ref (adG g 0))] → (∀ (σ : Sto) (H : Heap) (locs : List Loc) (ls : Array Slot), k_85 σ = some Rz → wS wkM g σ H → va_S (AS wkM g) s.heap H locs → lv_has ls 2 [(0, .ref (adG g 0))] → W p l e (rmS 4) s m args below meth c H locs 0 0 (MQ below (QiS wkM g Rz.1 Rz.2) args s 0 0 (AS wkM g)) (F0 m 85 ls [])) → W p l e (rmS 4) s m args below meth c H locs 0 0 (MQ below (QiS wkM g Rz.1 Rz.2) args s 0 0 (AS wkM g)) (F0 m 101 ls []) := by
  intro σ H locs ls h hP hS hl hk_85
  obtain ⟨hx, hb, hml, hown, hts, hr, hlk, hK, hZ⟩ := id C
  unfold fX10_reads_j101 at h
  refine lv_aload_n hx hb dX10_reads_101 rfl (lv_at hl 0 rfl) ?_
  refine r_geti C cf_10 hP sm_0 km_0 18 (by decide) rfl tw_376 dX10_reads_102 ?_
  refine lv_iconst (v := 1) hx hb dX10_reads_105 (by decide) ?_
  refine lv_icmp_ne (tgt := 131) hx hb dX10_reads_106 (by decide) (fun c_ => ?_) (fun c_ => ?_)
  · replace h := if_f c_ h
    refine wfX10_reads_j131 C σ H locs ls h hP hS (lv_sub hl [0] rfl) (fun σ_1 H locs ls h hP hS hl => ?_)
    exact hk_85 σ_1 H locs ls h hP hS (lv_sub hl [0] rfl)
  · replace h := if_t c_ h
    refine lv_aload_n hx hb dX10_reads_109 rfl (lv_at hl 0 rfl) ?_
    refine r_geti C cf_10 hP sm_0 km_0 19 (by decide) rfl tw_377 dX10_reads_110 ?_
    refine lv_bipush (v := 114) hx hb dX10_reads_113 (by decide) ?_
    refine lv_icmp_ne (tgt := 131) hx hb dX10_reads_115 (by decide) (fun c_ => ?_) (fun c_ => ?_)
    · replace h := if_f c_ h
      refine wfX10_reads_j131 C σ H locs ls h hP hS (lv_sub hl [0] rfl) (fun σ_2 H locs ls h hP hS hl => ?_)
      exact hk_85 σ_2 H locs ls h hP hS (lv_sub hl [0] rfl)
    · replace h := if_t c_ h
      refine lv_aload_n hx hb dX10_reads_118 rfl (lv_at hl 0 rfl) ?_
      refine r_getr C cf_10 hP sm_0 km_0 5 (by decide) rfl tw_148 dX10_reads_119 ?_
      refine lv_iconst (v := 1) hx hb dX10_reads_122 (by decide) ?_
      refine r_iald C hP sm_5 km_5 (j := 1) (by decide) (by decide) dX10_reads_123 ?_
      refine lv_if_ne (tgt := 131) hx hb dX10_reads_124 (by decide) (fun c_ => ?_) (fun c_ => ?_)
      · replace h := if_f c_ h
        refine wfX10_reads_j131 C σ H locs ls h hP hS (lv_sub hl [0] rfl) (fun σ_3 H locs ls h hP hS hl => ?_)
        exact hk_85 σ_3 H locs ls h hP hS (lv_sub hl [0] rfl)
      · replace h := if_t c_ h
        refine lv_iconst (v := 1) hx hb dX10_reads_127 (by decide) ?_
        refine lv_goto (tgt := 132) hx hb dX10_reads_128 (by decide) ?_
        refine wfX10_reads_j132 C σ (1 : Int32) H locs ls h hP hS (lv_sub hl [0] rfl) (fun σ_4 H locs ls h hP hS hl => ?_)
        exact hk_85 σ_4 H locs ls h hP hS (lv_sub hl [0] rfl)

set_option maxRecDepth 100000 in
set_option maxHeartbeats 4000000 in
theorem wfX10_reads_L85 {l : Launch} {g : Gw} {p : Program} {e : Env} {s : State} {m : MethodId} {args : Array Value} {below : List Frame} {meth : Method} {c : Code} (C : Cx wkM g p s m args meth c cX10_reads 2 RX10 (some .boolean)) {Rz : (Sto × Int32)} : ∀ (n : Nat) (σ : Sto) (H : Heap) (locs : List Loc) (ls : Array Slot), fX10_reads_L85 n σ = some Rz → wS wkM g σ H → va_S (AS wkM g) s.heap H locs → lv_has ls 2 [(0, .ref (adG g 0))] → W p l e (rmS 4) s m args below meth c H locs 0 0 (MQ below (QiS wkM g Rz.1 Rz.2) args s 0 0 (AS wkM g)) (F0 m 85 ls []) := by
  intro n
  induction n with
  | zero =>
    intro σ H locs ls h
    cases h
  | succ n ih =>
    intro σ H locs ls h hP hS hl
    obtain ⟨hx, hb, hml, hown, hts, hr, hlk, hK, hZ⟩ := id C
    rw [fX10_reads_L85] at h
    refine lv_aload_n hx hb dX10_reads_85 rfl (lv_at hl 0 rfl) ?_
    refine r_geti C cf_10 hP sm_0 km_0 18 (by decide) rfl tw_376 dX10_reads_86 ?_
    refine lv_if_ne (tgt := 101) hx hb dX10_reads_89 (by decide) (fun c_ => ?_) (fun c_ => ?_)
    · replace h := if_f c_ h
      refine wfX10_reads_j101 C σ H locs ls h hP hS (lv_sub hl [0] rfl) (fun σ_1 H locs ls h hP hS hl => ?_)
      exact ih σ_1 H locs ls h hP hS (lv_sub hl [0] rfl)
    · replace h := if_t c_ h
      refine lv_aload_n hx hb dX10_reads_92 rfl (lv_at hl 0 rfl) ?_
      refine r_getr C cf_10 hP sm_0 km_0 5 (by decide) rfl tw_148 dX10_reads_93 ?_
      refine lv_iconst (v := 1) hx hb dX10_reads_96 (by decide) ?_
      refine r_iald C hP sm_5 km_5 (j := 1) (by decide) (by decide) dX10_reads_97 ?_
      refine lv_if_ne (tgt := 163) hx hb dX10_reads_98 (by decide) (fun c_ => ?_) (fun c_ => ?_)
      · replace h := if_f c_ h
        refine lv_iconst (v := 1) hx hb dX10_reads_163 (by decide) ?_
        exact r_retz C hP hS (rt_ow1 h) (rt_ow2 h) rfl dX10_reads_164
      · replace h := if_t c_ h
        refine wfX10_reads_j101 C σ H locs ls h hP hS (lv_sub hl [0] rfl) (fun σ_2 H locs ls h hP hS hl => ?_)
        exact ih σ_2 H locs ls h hP hS (lv_sub hl [0] rfl)

set_option maxRecDepth 100000 in
set_option maxHeartbeats 4000000 in
theorem ctX10_reads {l : Launch} {g : Gw} {σ : Sto} {Rz : (Sto × Int32)} (h : fX10_reads σ = some Rz) : MtG l yX10_reads cX10_reads 2 (some .boolean) 4 wkM g [.ref (adG g 0)] σ (QiS wkM g Rz.1 Rz.2) := by
  refine mt_of (by decide) (Nat.le_of_ble_eq_true rfl) (fun p e s m below meth c ls H locs C hP hS hl => ?_)
  have C : Cx wkM g p s m _ meth c cX10_reads 2 RX10 (some .boolean) := C
  have hl : lv_has ls 2 [(0, .ref (adG g 0))] := hl
  obtain ⟨hx, hb, hml, hown, hts, hr, hlk, hK, hZ⟩ := id C
  unfold fX10_reads at h
  refine lv_iconst (v := 0) hx hb dX10_reads_0 (by decide) ?_
  refine lv_istore_n (lv' := [(1, .int (0 : Int32)), (0, .ref (adG g 0))]) hx hb dX10_reads_1 rfl hl (by decide) rfl (fun ls hl => ?_)
  refine wfX10_reads_L2 C fu σ (0 : Int32) H locs ls h hP hS (lv_sub hl [1, 0] rfl) (fun σ_1 H locs ls h hP hS hl => ?_)
  refine lv_aload_n hx hb dX10_reads_21 rfl (lv_at hl 0 rfl) ?_
  refine lv_iconst (v := 0) hx hb dX10_reads_22 (by decide) ?_
  refine r_puti C cf_10 hP hS sm_0 km_0 16 (by decide) rfl rfl rfl tw_375 dX10_reads_23 (fun H locs σ_2 eσ_2 hP hS => ?_)
  replace h := un_at eσ_2 h
  refine lv_aload_n hx hb dX10_reads_26 rfl (lv_at hl 0 rfl) ?_
  obtain ⟨q_3, hq_3, h⟩ := bd_inv h
  refine end_v (run_v (As := []) (rest := []) C ca_X10_step (ctX10_step hq_3) cf_10 sm_0 km_0 tw_378 ⟨Nat.le_of_ble_eq_true rfl, Nat.le_of_ble_eq_true rfl⟩ rfl hl.1 (Nat.le_of_ble_eq_true rfl) ⟨Nat.le_refl _, Nat.le_refl _⟩ hP hS dX10_reads_27) hS (fun H locs hP hS => ?_)
  refine lv_aload_n hx hb dX10_reads_30 rfl (lv_at hl 0 rfl) ?_
  refine r_geti C cf_10 hP sm_0 km_0 18 (by decide) rfl tw_376 dX10_reads_31 ?_
  refine lv_iconst (v := 1) hx hb dX10_reads_34 (by decide) ?_
  refine lv_icmp_ne (tgt := 47) hx hb dX10_reads_35 (by decide) (fun c_ => ?_) (fun c_ => ?_)
  · replace h := if_f c_ h
    refine lv_aload_n hx hb dX10_reads_47 rfl (lv_at hl 0 rfl) ?_
    refine lv_iconst (v := 1) hx hb dX10_reads_48 (by decide) ?_
    obtain ⟨q_4, eq_4⟩ : ∃ z, z = fX10_fails q_3 (1 : Int32) := ⟨_, rfl⟩
    replace h := un_at eq_4 h
    refine end_i (run_v (As := [.int (1 : Int32)]) (rest := []) C ca_X10_fails (ctX10_fails (1 : Int32) eq_4.symm) cf_10 sm_0 km_0 tw_390 ⟨Nat.le_of_ble_eq_true rfl, Nat.le_of_ble_eq_true rfl⟩ rfl hl.1 (Nat.le_of_ble_eq_true rfl) ⟨Nat.le_refl _, Nat.le_refl _⟩ hP hS dX10_reads_49) hS (fun H locs hP hS => ?_)
    obtain ⟨g_5, h⟩ := gd_inv h
    exact r_retz C hP hS (rt_ow1 h) (rt_ow2 h) (isB_nar g_5) dX10_reads_52
  · replace h := if_t c_ h
    refine lv_aload_n hx hb dX10_reads_38 rfl (lv_at hl 0 rfl) ?_
    refine r_geti C cf_10 hP sm_0 km_0 19 (by decide) rfl tw_377 dX10_reads_39 ?_
    refine lv_bipush (v := 118) hx hb dX10_reads_42 (by decide) ?_
    refine lv_icmp_eq (tgt := 53) hx hb dX10_reads_44 (by decide) (fun c_ => ?_) (fun c_ => ?_)
    · replace h := if_t c_ h
      refine lv_aload_n hx hb dX10_reads_53 rfl (lv_at hl 0 rfl) ?_
      refine lv_iconst (v := 2) hx hb dX10_reads_54 (by decide) ?_
      refine lv_iconst (v := 0) hx hb dX10_reads_55 (by decide) ?_
      refine lv_bipush (v := 20) hx hb dX10_reads_56 (by decide) ?_
      refine lv_bipush (v := 44) hx hb dX10_reads_58 (by decide) ?_
      obtain ⟨q_6, hq_6, h⟩ := bd_inv h
      refine end_i (run_v (As := [.int (2 : Int32), .int (0 : Int32), .int (20 : Int32), .int (44 : Int32)]) (rest := []) C ca_X10_number (ctX10_number (2 : Int32) (0 : Int32) (20 : Int32) (44 : Int32) hq_6) cf_10 sm_0 km_0 tw_394 ⟨Nat.le_of_ble_eq_true rfl, Nat.le_of_ble_eq_true rfl⟩ rfl hl.1 (Nat.le_of_ble_eq_true rfl) ⟨Nat.le_refl _, Nat.le_refl _⟩ hP hS dX10_reads_60) hS (fun H locs hP hS => ?_)
      refine lv_if_eq (tgt := 79) hx hb dX10_reads_63 (by decide) (fun c_ => ?_) (fun c_ => ?_)
      · replace h := if_t c_ h
        refine lv_iconst (v := 0) hx hb dX10_reads_79 (by decide) ?_
        exact r_retz C hP hS (rt_ow1 h) (rt_ow2 h) rfl dX10_reads_80
      · replace h := if_f c_ h
        refine lv_aload_n hx hb dX10_reads_66 rfl (lv_at hl 0 rfl) ?_
        refine lv_iconst (v := 3) hx hb dX10_reads_67 (by decide) ?_
        refine lv_iconst (v := 0) hx hb dX10_reads_68 (by decide) ?_
        refine lv_bipush (v := 60) hx hb dX10_reads_69 (by decide) ?_
        refine lv_bipush (v := 59) hx hb dX10_reads_71 (by decide) ?_
        obtain ⟨q_7, hq_7, h⟩ := bd_inv h
        refine end_i (run_v (As := [.int (3 : Int32), .int (0 : Int32), .int (60 : Int32), .int (59 : Int32)]) (rest := []) C ca_X10_number (ctX10_number (3 : Int32) (0 : Int32) (60 : Int32) (59 : Int32) hq_7) cf_10 sm_0 km_0 tw_394 ⟨Nat.le_of_ble_eq_true rfl, Nat.le_of_ble_eq_true rfl⟩ rfl hl.1 (Nat.le_of_ble_eq_true rfl) ⟨Nat.le_refl _, Nat.le_refl _⟩ hP hS dX10_reads_73) hS (fun H locs hP hS => ?_)
        refine lv_if_ne (tgt := 81) hx hb dX10_reads_76 (by decide) (fun c_ => ?_) (fun c_ => ?_)
        · replace h := if_f c_ h
          refine lv_aload_n hx hb dX10_reads_81 rfl (lv_at hl 0 rfl) ?_
          obtain ⟨q_8, hq_8, h⟩ := bd_inv h
          refine end_v (run_v (As := []) (rest := []) C ca_X10_step (ctX10_step hq_8) cf_10 sm_0 km_0 tw_378 ⟨Nat.le_of_ble_eq_true rfl, Nat.le_of_ble_eq_true rfl⟩ rfl hl.1 (Nat.le_of_ble_eq_true rfl) ⟨Nat.le_refl _, Nat.le_refl _⟩ hP hS dX10_reads_82) hS (fun H locs hP hS => ?_)
          exact wfX10_reads_L85 C fu q_8 H locs ls h hP hS (lv_sub hl [0] rfl)
        · replace h := if_t c_ h
          refine lv_iconst (v := 0) hx hb dX10_reads_79 (by decide) ?_
          exact r_retz C hP hS (rt_ow1 h) (rt_ow2 h) rfl dX10_reads_80
    · replace h := if_f c_ h
      refine lv_aload_n hx hb dX10_reads_47 rfl (lv_at hl 0 rfl) ?_
      refine lv_iconst (v := 1) hx hb dX10_reads_48 (by decide) ?_
      obtain ⟨q_9, eq_9⟩ : ∃ z, z = fX10_fails q_3 (1 : Int32) := ⟨_, rfl⟩
      replace h := un_at eq_9 h
      refine end_i (run_v (As := [.int (1 : Int32)]) (rest := []) C ca_X10_fails (ctX10_fails (1 : Int32) eq_9.symm) cf_10 sm_0 km_0 tw_390 ⟨Nat.le_of_ble_eq_true rfl, Nat.le_of_ble_eq_true rfl⟩ rfl hl.1 (Nat.le_of_ble_eq_true rfl) ⟨Nat.le_refl _, Nat.le_refl _⟩ hP hS dX10_reads_49) hS (fun H locs hP hS => ?_)
      obtain ⟨g_10, h⟩ := gd_inv h
      exact r_retz C hP hS (rt_ow1 h) (rt_ow2 h) (isB_nar g_10) dX10_reads_52

set_option maxRecDepth 100000 in
set_option maxHeartbeats 4000000 in
theorem ctX10_street {l : Launch} {g : Gw} {σ : Sto} {Rz : (Sto × Int32)} (h : fX10_street σ = some Rz) : MtG l yX10_street cX10_street 2 (some .int) 5 wkM g [.ref (adG g 0)] σ (QiS wkM g Rz.1 Rz.2) := by
  refine mt_of (by decide) (Nat.le_of_ble_eq_true rfl) (fun p e s m below meth c ls H locs C hP hS hl => ?_)
  have C : Cx wkM g p s m _ meth c cX10_street 2 RX10 (some .int) := C
  have hl : lv_has ls 2 [(0, .ref (adG g 0))] := hl
  obtain ⟨hx, hb, hml, hown, hts, hr, hlk, hK, hZ⟩ := id C
  unfold fX10_street at h
  refine lv_aload_n hx hb dX10_street_0 rfl (lv_at hl 0 rfl) ?_
  obtain ⟨q_1, hq_1, h⟩ := bd_inv h
  refine end_i (run_v (As := []) (rest := []) C ca_X10_reads (ctX10_reads hq_1) cf_10 sm_0 km_0 tw_371 ⟨Nat.le_of_ble_eq_true rfl, Nat.le_of_ble_eq_true rfl⟩ rfl hl.1 (Nat.le_of_ble_eq_true rfl) ⟨Nat.le_refl _, Nat.le_refl _⟩ hP hS dX10_street_1) hS (fun H locs hP hS => ?_)
  refine lv_istore_n (lv' := [(1, .int q_1.2), (0, .ref (adG g 0))]) hx hb dX10_street_4 rfl hl (by decide) rfl (fun ls hl => ?_)
  refine lv_aload_n hx hb dX10_street_5 rfl (lv_at hl 1 rfl) ?_
  refine lv_iconst (v := 0) hx hb dX10_street_6 (by decide) ?_
  refine r_puti C cf_10 hP hS sm_0 km_0 12 (by decide) rfl rfl rfl tw_281 dX10_street_7 (fun H locs σ_2 eσ_2 hP hS => ?_)
  replace h := un_at eσ_2 h
  refine lv_iload_n hx hb dX10_street_10 rfl (lv_at hl 0 rfl) ?_
  refine lv_if_ne (tgt := 30) hx hb dX10_street_11 (by decide) (fun c_ => ?_) (fun c_ => ?_)
  · replace h := if_f c_ h
    refine lv_aload_n hx hb dX10_street_30 rfl (lv_at hl 1 rfl) ?_
    refine r_getr C cf_10 hP sm_0 km_0 5 (by decide) rfl tw_148 dX10_street_31 ?_
    refine lv_iconst (v := 0) hx hb dX10_street_34 (by decide) ?_
    refine lv_aload_n hx hb dX10_street_35 rfl (lv_at hl 1 rfl) ?_
    refine r_getr C cf_10 hP sm_0 km_0 4 (by decide) rfl tw_147 dX10_street_36 ?_
    refine lv_iconst (v := 0) hx hb dX10_street_39 (by decide) ?_
    obtain ⟨q_3, hq_3, h⟩ := bd_inv h
    refine end_v (run_s (As := [.ref (adG g 5), .int (0 : Int32), .ref (adG g 4), .int (0 : Int32)]) (rest := []) C ca_X10_copies (ctX10_copies 5 (isT_of sm_5 km_5) (0 : Int32) 4 (isT_of sm_4 km_4) (0 : Int32) hq_3) tw_409 ⟨Nat.le_of_ble_eq_true rfl, Nat.le_of_ble_eq_true rfl⟩ rfl hl.1 (Nat.le_of_ble_eq_true rfl) ⟨Nat.le_refl _, Nat.le_refl _⟩ hP hS dX10_street_40) hS (fun H locs hP hS => ?_)
    refine lv_aload_n hx hb dX10_street_43 rfl (lv_at hl 1 rfl) ?_
    refine lv_iconst (v := 0) hx hb dX10_street_44 (by decide) ?_
    refine r_puti C cf_10 hP hS sm_0 km_0 8 (by decide) rfl rfl rfl tw_370 dX10_street_45 (fun H locs σ_4 eσ_4 hP hS => ?_)
    replace h := un_at eσ_4 h
    refine lv_aload_n hx hb dX10_street_48 rfl (lv_at hl 1 rfl) ?_
    refine r_getr C cf_10 hP sm_0 km_0 4 (by decide) rfl tw_147 dX10_street_49 ?_
    refine lv_iconst (v := 1) hx hb dX10_street_52 (by decide) ?_
    refine r_iald C hP sm_4 km_4 (j := 1) (by decide) (by decide) dX10_street_53 ?_
    exact r_reti C hP hS (rt_ow1 h) (rt_ow2 h) dX10_street_54
  · replace h := if_t c_ h
    refine lv_aload_n hx hb dX10_street_14 rfl (lv_at hl 1 rfl) ?_
    refine lv_aload_n hx hb dX10_street_15 rfl (lv_at hl 1 rfl) ?_
    refine r_geti C cf_10 hP sm_0 km_0 20 (by decide) rfl tw_366 dX10_street_16 ?_
    refine r_puti C cf_10 hP hS sm_0 km_0 13 (by decide) rfl rfl rfl tw_367 dX10_street_19 (fun H locs σ_5 eσ_5 hP hS => ?_)
    replace h := un_at eσ_5 h
    refine lv_ldc hx hb hown (hts _ tw_368) dX10_street_22 ?_
    refine lv_aload_n hx hb dX10_street_24 rfl (lv_at hl 1 rfl) ?_
    refine r_geti C cf_10 hP sm_0 km_0 17 (by decide) rfl tw_369 dX10_street_25 ?_
    refine lv_isub hx hb dX10_street_28 ?_
    exact r_reti C hP hS (rt_ow1 h) (rt_ow2 h) dX10_street_29

set_option maxRecDepth 100000 in
set_option maxHeartbeats 4000000 in
theorem ctX10_fault {l : Launch} {g : Gw} {σ : Sto} {Rz : Int32} (h : fX10_fault σ = Rz) : MtG l yX10_fault cX10_fault 1 (some .int) 0 wkM g [.ref (adG g 0)] σ (QiS wkM g σ Rz) := by
  refine mt_of (by decide) (Nat.le_of_ble_eq_true rfl) (fun p e s m below meth c ls H locs C hP hS hl => ?_)
  have C : Cx wkM g p s m _ meth c cX10_fault 1 RX10 (some .int) := C
  have hl : lv_has ls 1 [(0, .ref (adG g 0))] := hl
  obtain ⟨hx, hb, hml, hown, hts, hr, hlk, hK, hZ⟩ := id C
  unfold fX10_fault at h
  refine lv_aload_n hx hb dX10_fault_0 rfl (lv_at hl 0 rfl) ?_
  refine r_geti C cf_10 hP sm_0 km_0 13 (by decide) rfl tw_367 dX10_fault_1 ?_
  exact r_reti C hP hS rfl h dX10_fault_4

set_option maxRecDepth 100000 in
set_option maxHeartbeats 4000000 in
theorem wfX10_flows_j57 {l : Launch} {g : Gw} {p : Program} {e : Env} {s : State} {m : MethodId} {args : Array Value} {below : List Frame} {meth : Method} {c : Code} (C : Cx wkM g p s m args meth c cX10_flows 6 RX10 none) (a0 : Nat) (hv0 : isU a0) {Rz : Sto} {k_27 : Sto → Int32 → Int32 → Option Sto} : ∀ (σ : Sto) (x1 : Int32) (x2 : Int32) (y0 : Int32) (H : Heap) (locs : List Loc) (ls : Array Slot), fX10_flows_j57 k_27 a0 σ x1 x2 y0 = some Rz → wS wkM g σ H → va_S (AS wkM g) s.heap H locs → lv_has ls 6 [(0, .ref (adG g a0)), (1, .int x1), (2, .int x2)] → (∀ (σ : Sto) (x1 : Int32) (x2 : Int32) (H : Heap) (locs : List Loc) (ls : Array Slot), k_27 σ x1 x2 = some Rz → wS wkM g σ H → va_S (AS wkM g) s.heap H locs → lv_has ls 6 [(0, .ref (adG g a0)), (1, .int x1), (2, .int x2)] → W p l e (rmS 1) s m args below meth c H locs 0 0 (MQ below (QvS wkM g Rz) args s 0 0 (AS wkM g)) (F0 m 27 ls [])) → W p l e (rmS 1) s m args below meth c H locs 0 0 (MQ below (QvS wkM g Rz) args s 0 0 (AS wkM g)) (F0 m 57 ls [.int y0]) := by
  intro σ x1 x2 y0 H locs ls h hP hS hl hk_27
  obtain ⟨hx, hb, hml, hown, hts, hr, hlk, hK, hZ⟩ := id C
  unfold fX10_flows_j57 at h
  refine lv_istore_n (lv' := [(3, .int y0), (0, .ref (adG g a0)), (1, .int x1), (2, .int x2)]) hx hb dX10_flows_57 rfl hl (by decide) rfl (fun ls hl => ?_)
  refine lv_aload_n hx hb dX10_flows_58 rfl (lv_at hl 1 rfl) ?_
  refine lv_iconst (v := 5) hx hb dX10_flows_59 (by decide) ?_
  refine lv_iload_n hx hb dX10_flows_60 rfl (lv_at hl 3 rfl) ?_
  refine lv_iadd hx hb dX10_flows_61 ?_
  obtain ⟨g_1, h⟩ := gd_inv h
  refine r_iald C hP hv0.1 hv0.2 rfl g_1 dX10_flows_62 ?_
  refine lv_aload_n hx hb dX10_flows_63 rfl (lv_at hl 1 rfl) ?_
  refine lv_bipush (v := 15) hx hb dX10_flows_64 (by decide) ?_
  refine lv_iload_n hx hb dX10_flows_66 rfl (lv_at hl 3 rfl) ?_
  refine lv_iadd hx hb dX10_flows_67 ?_
  obtain ⟨g_2, h⟩ := gd_inv h
  refine r_iald C hP hv0.1 hv0.2 rfl g_2 dX10_flows_68 ?_
  refine lv_iadd hx hb dX10_flows_69 ?_
  refine lv_aload_n hx hb dX10_flows_70 rfl (lv_at hl 1 rfl) ?_
  refine lv_bipush (v := 25) hx hb dX10_flows_71 (by decide) ?_
  refine lv_iload_n hx hb dX10_flows_73 rfl (lv_at hl 3 rfl) ?_
  refine lv_iadd hx hb dX10_flows_74 ?_
  obtain ⟨g_3, h⟩ := gd_inv h
  refine r_iald C hP hv0.1 hv0.2 rfl g_3 dX10_flows_75 ?_
  refine lv_isub hx hb dX10_flows_76 ?_
  refine lv_iload_n hx hb dX10_flows_77 rfl (lv_at hl 0 rfl) ?_
  refine lv_isub hx hb dX10_flows_78 ?_
  refine lv_topi (fun x_4 ex_4 => ?_)
  replace h := un_at ex_4 h
  refine lv_istore (lv' := [(4, .int x_4), (3, .int y0), (0, .ref (adG g a0)), (1, .int x1), (2, .int x2)]) hx hb dX10_flows_79 hl (by decide) rfl (fun ls hl => ?_)
  refine lv_iload hx hb dX10_flows_81 (lv_at hl 0 rfl) ?_
  refine lv_iconst (v := 2) hx hb dX10_flows_83 (by decide) ?_
  refine lv_icmp_lt (tgt := 135) hx hb dX10_flows_84 (by decide) (fun c_ => ?_) (fun c_ => ?_)
  · replace h := if_t c_ h
    obtain ⟨x_5, ex_5⟩ : ∃ y : Int32, y = x2 + (1 : Int32) := ⟨_, rfl⟩
    replace h := un_at ex_5 h
    refine lv_iinc (v := x_5) (lv' := [(2, .int x_5), (4, .int x_4), (3, .int y0), (0, .ref (adG g a0)), (1, .int x1)]) hx hb dX10_flows_135 hl (k := 4) rfl (by rw [ex_5]; rfl) (by decide) rfl (fun ls hl => ?_)
    refine lv_goto (tgt := 27) hx hb dX10_flows_138 (by decide) ?_
    exact hk_27 σ x1 x_5 H locs ls h hP hS (lv_sub hl [3, 4, 0] rfl)
  · replace h := if_f c_ h
    refine lv_iload hx hb dX10_flows_87 (lv_at hl 0 rfl) ?_
    refine lv_iconst (v := 2) hx hb dX10_flows_89 (by decide) ?_
    refine lv_idiv hx hb dX10_flows_90 (by decide) ?_
    refine lv_aload_n hx hb dX10_flows_91 rfl (lv_at hl 2 rfl) ?_
    refine lv_bipush (v := 15) hx hb dX10_flows_92 (by decide) ?_
    refine lv_iload_n hx hb dX10_flows_94 rfl (lv_at hl 4 rfl) ?_
    refine lv_iadd hx hb dX10_flows_95 ?_
    refine r_iald C hP hv0.1 hv0.2 rfl g_2 dX10_flows_96 ?_
    refine end_i (run_s (As := [.int (x_4 / (2 : Int32)), .int (σ a0 ((15 : Int32) + x2).toNatClampNeg)]) (rest := []) C ca_X10_less (ctX10_less (x_4 / (2 : Int32)) (σ a0 ((15 : Int32) + x2).toNatClampNeg) rfl) tw_496 ⟨Nat.le_of_ble_eq_true rfl, Nat.le_of_ble_eq_true rfl⟩ rfl hl.1 (Nat.le_of_ble_eq_true rfl) ⟨Nat.le_refl _, Nat.le_refl _⟩ hP hS dX10_flows_97) hS (fun H locs hP hS => ?_)
    refine lv_topi (fun x_7 ex_7 => ?_)
    replace h := un_at ex_7 h
    refine lv_istore (lv' := [(5, .int x_7), (4, .int x_4), (3, .int y0), (0, .ref (adG g a0)), (1, .int x1), (2, .int x2)]) hx hb dX10_flows_100 hl (by decide) rfl (fun ls hl => ?_)
    refine lv_aload_n hx hb dX10_flows_102 rfl (lv_at hl 3 rfl) ?_
    refine lv_bipush (v := 15) hx hb dX10_flows_103 (by decide) ?_
    refine lv_iload_n hx hb dX10_flows_105 rfl (lv_at hl 5 rfl) ?_
    refine lv_iadd hx hb dX10_flows_106 ?_
    refine lv_dup2_11 hx hb dX10_flows_107 rfl rfl ?_
    refine r_iald C hP hv0.1 hv0.2 rfl g_2 dX10_flows_108 ?_
    refine lv_iload hx hb dX10_flows_109 (lv_at hl 0 rfl) ?_
    refine lv_isub hx hb dX10_flows_111 ?_
    refine r_iast C hP hS hv0.1 hv0.2 rfl g_2 dX10_flows_112 (fun H locs σ_8 eσ_8 hP hS => ?_)
    replace h := un_at eσ_8 h
    refine lv_aload_n hx hb dX10_flows_113 rfl (lv_at hl 3 rfl) ?_
    refine lv_bipush (v := 15) hx hb dX10_flows_114 (by decide) ?_
    refine lv_iload_n hx hb dX10_flows_116 rfl (lv_at hl 5 rfl) ?_
    refine lv_iadd hx hb dX10_flows_117 ?_
    refine lv_iconst (v := 1) hx hb dX10_flows_118 (by decide) ?_
    refine lv_iadd hx hb dX10_flows_119 ?_
    refine lv_dup2_11 hx hb dX10_flows_120 rfl rfl ?_
    obtain ⟨g_9, h⟩ := gd_inv h
    refine r_iald C hP hv0.1 hv0.2 rfl g_9 dX10_flows_121 ?_
    refine lv_iload_n hx hb dX10_flows_122 rfl (lv_at hl 5 rfl) ?_
    refine lv_iload_n hx hb dX10_flows_123 rfl (lv_at hl 4 rfl) ?_
    refine lv_icmp_ne (tgt := 131) hx hb dX10_flows_124 (by decide) (fun c_ => ?_) (fun c_ => ?_)
    · replace h := if_f c_ h
      refine lv_iload hx hb dX10_flows_131 (lv_at hl 0 rfl) ?_
      refine lv_iadd hx hb dX10_flows_133 ?_
      refine r_iast C hP hS hv0.1 hv0.2 rfl g_9 dX10_flows_134 (fun H locs σ_10 eσ_10 hP hS => ?_)
      replace h := un_at eσ_10 h
      obtain ⟨x_11, ex_11⟩ : ∃ y : Int32, y = x2 + (1 : Int32) := ⟨_, rfl⟩
      replace h := un_at ex_11 h
      refine lv_iinc (v := x_11) (lv' := [(2, .int x_11), (5, .int x_7), (4, .int x_4), (3, .int y0), (0, .ref (adG g a0)), (1, .int x1)]) hx hb dX10_flows_135 hl (k := 5) rfl (by rw [ex_11]; rfl) (by decide) rfl (fun ls hl => ?_)
      refine lv_goto (tgt := 27) hx hb dX10_flows_138 (by decide) ?_
      exact hk_27 σ_10 x1 x_11 H locs ls h hP hS (lv_sub hl [4, 5, 0] rfl)
    · replace h := if_t c_ h
      refine lv_iconst (v := 0) hx hb dX10_flows_127 (by decide) ?_
      refine lv_goto (tgt := 133) hx hb dX10_flows_128 (by decide) ?_
      refine lv_iadd hx hb dX10_flows_133 ?_
      refine r_iast C hP hS hv0.1 hv0.2 rfl g_9 dX10_flows_134 (fun H locs σ_12 eσ_12 hP hS => ?_)
      replace h := un_at eσ_12 h
      obtain ⟨x_13, ex_13⟩ : ∃ y : Int32, y = x2 + (1 : Int32) := ⟨_, rfl⟩
      replace h := un_at ex_13 h
      refine lv_iinc (v := x_13) (lv' := [(2, .int x_13), (5, .int x_7), (4, .int x_4), (3, .int y0), (0, .ref (adG g a0)), (1, .int x1)]) hx hb dX10_flows_135 hl (k := 5) rfl (by rw [ex_13]; rfl) (by decide) rfl (fun ls hl => ?_)
      refine lv_goto (tgt := 27) hx hb dX10_flows_138 (by decide) ?_
      exact hk_27 σ_12 x1 x_13 H locs ls h hP hS (lv_sub hl [4, 5, 0] rfl)

set_option maxRecDepth 100000 in
set_option maxHeartbeats 4000000 in
theorem wfX10_flows_L27 {l : Launch} {g : Gw} {p : Program} {e : Env} {s : State} {m : MethodId} {args : Array Value} {below : List Frame} {meth : Method} {c : Code} (C : Cx wkM g p s m args meth c cX10_flows 6 RX10 none) (a0 : Nat) (hv0 : isU a0) {Rz : Sto} : ∀ (n : Nat) (σ : Sto) (x1 : Int32) (x2 : Int32) (H : Heap) (locs : List Loc) (ls : Array Slot), fX10_flows_L27 a0 n σ x1 x2 = some Rz → wS wkM g σ H → va_S (AS wkM g) s.heap H locs → lv_has ls 6 [(0, .ref (adG g a0)), (1, .int x1), (2, .int x2)] → W p l e (rmS 1) s m args below meth c H locs 0 0 (MQ below (QvS wkM g Rz) args s 0 0 (AS wkM g)) (F0 m 27 ls []) := by
  intro n
  induction n with
  | zero =>
    intro σ x1 x2 H locs ls h
    cases h
  | succ n ih =>
    intro σ x1 x2 H locs ls h hP hS hl
    obtain ⟨hx, hb, hml, hown, hts, hr, hlk, hK, hZ⟩ := id C
    rw [fX10_flows_L27] at h
    refine lv_iload_n hx hb dX10_flows_27 rfl (lv_at hl 2 rfl) ?_
    refine lv_iload_n hx hb dX10_flows_28 rfl (lv_at hl 1 rfl) ?_
    refine lv_icmp_gt (tgt := 141) hx hb dX10_flows_29 (by decide) (fun c_ => ?_) (fun c_ => ?_)
    · replace h := if_t c_ h
      exact r_retv C hP hS (rt_o h) dX10_flows_141
    · replace h := if_f c_ h
      refine lv_iload_n hx hb dX10_flows_32 rfl (lv_at hl 2 rfl) ?_
      refine lv_iload_n hx hb dX10_flows_33 rfl (lv_at hl 1 rfl) ?_
      refine lv_icmp_ne (tgt := 41) hx hb dX10_flows_34 (by decide) (fun c_ => ?_) (fun c_ => ?_)
      · replace h := if_f c_ h
        refine lv_aload_n hx hb dX10_flows_41 rfl (lv_at hl 0 rfl) ?_
        refine lv_iconst (v := 5) hx hb dX10_flows_42 (by decide) ?_
        refine lv_iload_n hx hb dX10_flows_43 rfl (lv_at hl 2 rfl) ?_
        refine lv_iadd hx hb dX10_flows_44 ?_
        refine lv_iconst (v := 1) hx hb dX10_flows_45 (by decide) ?_
        refine lv_iadd hx hb dX10_flows_46 ?_
        obtain ⟨g_1, h⟩ := gd_inv h
        refine r_iald C hP hv0.1 hv0.2 rfl g_1 dX10_flows_47 ?_
        refine lv_aload_n hx hb dX10_flows_48 rfl (lv_at hl 0 rfl) ?_
        refine lv_bipush (v := 15) hx hb dX10_flows_49 (by decide) ?_
        refine lv_iload_n hx hb dX10_flows_51 rfl (lv_at hl 2 rfl) ?_
        refine lv_iadd hx hb dX10_flows_52 ?_
        refine lv_iconst (v := 1) hx hb dX10_flows_53 (by decide) ?_
        refine lv_iadd hx hb dX10_flows_54 ?_
        obtain ⟨g_2, h⟩ := gd_inv h
        refine r_iald C hP hv0.1 hv0.2 rfl g_2 dX10_flows_55 ?_
        refine lv_iadd hx hb dX10_flows_56 ?_
        refine wfX10_flows_j57 C a0 hv0 σ x1 x2 ((σ a0 (((5 : Int32) + x2) + (1 : Int32)).toNatClampNeg) + (σ a0 (((15 : Int32) + x2) + (1 : Int32)).toNatClampNeg)) H locs ls h hP hS (lv_sub hl [0, 1, 2] rfl) (fun σ_3 z_4 z_5 H locs ls h hP hS hl => ?_)
        exact ih σ_3 z_4 z_5 H locs ls h hP hS (lv_sub hl [0, 1, 2] rfl)
      · replace h := if_t c_ h
        refine lv_iconst (v := 0) hx hb dX10_flows_37 (by decide) ?_
        refine lv_goto (tgt := 57) hx hb dX10_flows_38 (by decide) ?_
        refine wfX10_flows_j57 C a0 hv0 σ x1 x2 (0 : Int32) H locs ls h hP hS (lv_sub hl [0, 1, 2] rfl) (fun σ_6 z_7 z_8 H locs ls h hP hS hl => ?_)
        exact ih σ_6 z_7 z_8 H locs ls h hP hS (lv_sub hl [0, 1, 2] rfl)

set_option maxRecDepth 100000 in
set_option maxHeartbeats 4000000 in
theorem wfX10_flows_j19 {l : Launch} {g : Gw} {p : Program} {e : Env} {s : State} {m : MethodId} {args : Array Value} {below : List Frame} {meth : Method} {c : Code} (C : Cx wkM g p s m args meth c cX10_flows 6 RX10 none) (a0 : Nat) (hv0 : isU a0) {Rz : Sto} : ∀ (σ : Sto) (H : Heap) (locs : List Loc) (ls : Array Slot), fX10_flows_j19 a0 σ = some Rz → wS wkM g σ H → va_S (AS wkM g) s.heap H locs → lv_has ls 6 [(0, .ref (adG g a0))] → W p l e (rmS 1) s m args below meth c H locs 0 0 (MQ below (QvS wkM g Rz) args s 0 0 (AS wkM g)) (F0 m 19 ls []) := by
  intro σ H locs ls h hP hS hl
  obtain ⟨hx, hb, hml, hown, hts, hr, hlk, hK, hZ⟩ := id C
  unfold fX10_flows_j19 at h
  refine lv_aload_n hx hb dX10_flows_19 rfl (lv_at hl 0 rfl) ?_
  refine lv_iconst (v := 0) hx hb dX10_flows_20 (by decide) ?_
  refine r_iald C hP hv0.1 hv0.2 (j := 0) (by decide) (by decide) dX10_flows_21 ?_
  refine lv_iconst (v := 1) hx hb dX10_flows_22 (by decide) ?_
  refine lv_isub hx hb dX10_flows_23 ?_
  refine lv_topi (fun x_1 ex_1 => ?_)
  replace h := un_at ex_1 h
  refine lv_istore_n (lv' := [(1, .int x_1), (0, .ref (adG g a0))]) hx hb dX10_flows_24 rfl hl (by decide) rfl (fun ls hl => ?_)
  refine lv_iconst (v := 0) hx hb dX10_flows_25 (by decide) ?_
  refine lv_istore_n (lv' := [(2, .int (0 : Int32)), (1, .int x_1), (0, .ref (adG g a0))]) hx hb dX10_flows_26 rfl hl (by decide) rfl (fun ls hl => ?_)
  exact wfX10_flows_L27 C a0 hv0 fu σ x_1 (0 : Int32) H locs ls h hP hS (lv_sub hl [2, 1, 0] rfl)

set_option maxRecDepth 100000 in
set_option maxHeartbeats 4000000 in
theorem ctX10_flows {l : Launch} {g : Gw} {σ : Sto} (a0 : Nat) (hv0 : isU a0) {Rz : Sto} (h : fX10_flows σ a0 = some Rz) : MtG l yX10_flows cX10_flows 6 none 1 wkM g [.ref (adG g a0)] σ (QvS wkM g Rz) := by
  refine mt_of (by decide) (Nat.le_of_ble_eq_true rfl) (fun p e s m below meth c ls H locs C hP hS hl => ?_)
  have C : Cx wkM g p s m _ meth c cX10_flows 6 RX10 none := C
  have hl : lv_has ls 6 [(0, .ref (adG g a0))] := hl
  obtain ⟨hx, hb, hml, hown, hts, hr, hlk, hK, hZ⟩ := id C
  unfold fX10_flows at h
  refine lv_aload_n hx hb dX10_flows_0 rfl (lv_at hl 0 rfl) ?_
  refine lv_iconst (v := 4) hx hb dX10_flows_1 (by decide) ?_
  refine r_iald C hP hv0.1 hv0.2 (j := 4) (by decide) (by decide) dX10_flows_2 ?_
  refine lv_aload_n hx hb dX10_flows_3 rfl (lv_at hl 0 rfl) ?_
  refine lv_iconst (v := 3) hx hb dX10_flows_4 (by decide) ?_
  refine r_iald C hP hv0.1 hv0.2 (j := 3) (by decide) (by decide) dX10_flows_5 ?_
  refine lv_icmp_ge (tgt := 19) hx hb dX10_flows_6 (by decide) (fun c_ => ?_) (fun c_ => ?_)
  · replace h := if_t c_ h
    exact wfX10_flows_j19 C a0 hv0 σ H locs ls h hP hS (lv_sub hl [0] rfl)
  · replace h := if_f c_ h
    refine lv_aload_n hx hb dX10_flows_9 rfl (lv_at hl 0 rfl) ?_
    refine lv_bipush (v := 15) hx hb dX10_flows_10 (by decide) ?_
    refine lv_dup2_11 hx hb dX10_flows_12 rfl rfl ?_
    refine r_iald C hP hv0.1 hv0.2 (j := 15) (by decide) (by decide) dX10_flows_13 ?_
    refine lv_aload_n hx hb dX10_flows_14 rfl (lv_at hl 0 rfl) ?_
    refine lv_iconst (v := 2) hx hb dX10_flows_15 (by decide) ?_
    refine r_iald C hP hv0.1 hv0.2 (j := 2) (by decide) (by decide) dX10_flows_16 ?_
    refine lv_iadd hx hb dX10_flows_17 ?_
    refine r_iast C hP hS hv0.1 hv0.2 (j := 15) (by decide) (by decide) dX10_flows_18 (fun H locs σ_1 eσ_1 hP hS => ?_)
    replace h := un_at eσ_1 h
    exact wfX10_flows_j19 C a0 hv0 σ_1 H locs ls h hP hS (lv_sub hl [0] rfl)

set_option maxRecDepth 100000 in
set_option maxHeartbeats 4000000 in
theorem ctX10_lies {l : Launch} {g : Gw} {σ : Sto} (a0 : Nat) (hv0 : isU a0) (x1 : Int32) {Rz : Int32} (h : fX10_lies σ a0 x1 = some Rz) : MtG l yX10_lies cX10_lies 2 (some .boolean) 0 wkM g [.ref (adG g a0), .int x1] σ (QiS wkM g σ Rz) := by
  refine mt_of (by decide) (Nat.le_of_ble_eq_true rfl) (fun p e s m below meth c ls H locs C hP hS hl => ?_)
  have C : Cx wkM g p s m _ meth c cX10_lies 2 RX10 (some .boolean) := C
  have hl : lv_has ls 2 [(0, .ref (adG g a0)), (1, .int x1)] := hl
  obtain ⟨hx, hb, hml, hown, hts, hr, hlk, hK, hZ⟩ := id C
  unfold fX10_lies at h
  refine lv_iload_n hx hb dX10_lies_0 rfl (lv_at hl 1 rfl) ?_
  refine lv_if_lt (tgt := 17) hx hb dX10_lies_1 (by decide) (fun c_ => ?_) (fun c_ => ?_)
  · replace h := if_t c_ h
    refine lv_iconst (v := 0) hx hb dX10_lies_17 (by decide) ?_
    exact r_retz C hP hS rfl (rt_o h) rfl dX10_lies_18
  · replace h := if_f c_ h
    refine lv_aload_n hx hb dX10_lies_4 rfl (lv_at hl 0 rfl) ?_
    refine lv_bipush (v := 15) hx hb dX10_lies_5 (by decide) ?_
    refine lv_iload_n hx hb dX10_lies_7 rfl (lv_at hl 1 rfl) ?_
    refine lv_iadd hx hb dX10_lies_8 ?_
    obtain ⟨g_1, h⟩ := gd_inv h
    refine r_iald C hP hv0.1 hv0.2 rfl g_1 dX10_lies_9 ?_
    refine lv_if_le (tgt := 17) hx hb dX10_lies_10 (by decide) (fun c_ => ?_) (fun c_ => ?_)
    · replace h := if_t c_ h
      refine lv_iconst (v := 0) hx hb dX10_lies_17 (by decide) ?_
      exact r_retz C hP hS rfl (rt_o h) rfl dX10_lies_18
    · replace h := if_f c_ h
      refine lv_iconst (v := 1) hx hb dX10_lies_13 (by decide) ?_
      refine lv_goto (tgt := 18) hx hb dX10_lies_14 (by decide) ?_
      exact r_retz C hP hS rfl (rt_o h) rfl dX10_lies_18
