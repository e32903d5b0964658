set_option maxRecDepth 100000 in
set_option maxHeartbeats 4000000 in
theorem ctX9_dig {l : Launch} {g : Gw} {σ : Sto} (x1 : Int32) {Rz : (Sto × Int32)} (h : fX9_dig σ x1 = some Rz) : MtG l yX9_dig cX9_dig 2 (some .int) 4 wkX g [.ref (adG g 0), .int x1] σ (QiS wkX g Rz.1 Rz.2) := by
  refine mt_of (by decide) (Nat.le_of_ble_eq_true rfl) (fun p e s m below meth c ls H locs C hP hS hl => ?_)
  have C : Cx wkX g p s m _ meth c cX9_dig 2 RX9 (some .int) := C
  have hl : lv_has ls 2 [(0, .ref (adG g 0)), (1, .int x1)] := hl
  obtain ⟨hx, hb, hml, hown, hts, hr, hlk, hK, hZ⟩ := id C
  unfold fX9_dig at h
  refine lv_aload_n hx hb dX9_dig_0 rfl (lv_at hl 0 rfl) ?_
  refine lv_iload_n hx hb dX9_dig_1 rfl (lv_at hl 1 rfl) ?_
  refine end_i (run_v (As := [.int x1]) (rest := []) C ca_X9_isThing (ctX9_isThing x1 rfl) cf_9 sx_0 kx_0 tw_534 ⟨Nat.le_of_ble_eq_true rfl, Nat.le_of_ble_eq_true rfl⟩ rfl hl.1 (Nat.le_of_ble_eq_true rfl) ⟨Nat.le_refl _, Nat.le_refl _⟩ hP hS dX9_dig_2) hS (fun H locs hP hS => ?_)
  refine lv_if_ne (tgt := 11) hx hb dX9_dig_5 (by decide) (fun c_ => ?_) (fun c_ => ?_)
  · replace h := if_f c_ h
    refine lv_aload_n hx hb dX9_dig_11 rfl (lv_at hl 0 rfl) ?_
    refine r_getr C cf_9 hP sx_0 kx_0 2 (by decide) rfl tw_23 dX9_dig_12 ?_
    refine r_getr C cf_8 hP (sv_0 iv_36) (kv_0 iv_36) 10 (by decide) rfl tw_533 dX9_dig_15 ?_
    refine lv_iload_n hx hb dX9_dig_18 rfl (lv_at hl 1 rfl) ?_
    obtain ⟨g_2, h⟩ := gd_inv h
    refine r_iald C hP (sv_6 iv_36) (kv_6 iv_36) rfl g_2 dX9_dig_19 ?_
    refine lv_bipush (v := 30) hx hb dX9_dig_20 (by decide) ?_
    refine lv_icmp_ge (tgt := 28) hx hb dX9_dig_22 (by decide) (fun c_ => ?_) (fun c_ => ?_)
    · replace h := if_t c_ h
      refine lv_aload_n hx hb dX9_dig_28 rfl (lv_at hl 0 rfl) ?_
      refine r_getr C cf_9 hP sx_0 kx_0 3 (by decide) rfl tw_27 dX9_dig_29 ?_
      refine lv_aload_n hx hb dX9_dig_32 rfl (lv_at hl 0 rfl) ?_
      refine r_getr C cf_9 hP sx_0 kx_0 2 (by decide) rfl tw_23 dX9_dig_33 ?_
      obtain ⟨q_3, hq_3, h⟩ := bd_inv h
      refine end_v (run_v (As := [.ref (adG g 36)]) (rest := []) C ca_X3_keep (ctX3_keep 36 iv_36 hq_3) cf_3 sx_7 kx_7 tw_447 ⟨Nat.le_of_ble_eq_true rfl, Nat.le_of_ble_eq_true rfl⟩ rfl hl.1 (Nat.le_of_ble_eq_true rfl) ⟨Nat.le_refl _, Nat.le_refl _⟩ hP hS dX9_dig_36) hS (fun H locs hP hS => ?_)
      refine lv_aload_n hx hb dX9_dig_39 rfl (lv_at hl 0 rfl) ?_
      refine r_getr C cf_9 hP sx_0 kx_0 2 (by decide) rfl tw_23 dX9_dig_40 ?_
      refine lv_iload_n hx hb dX9_dig_43 rfl (lv_at hl 1 rfl) ?_
      refine lv_bipush (v := 20) hx hb dX9_dig_44 (by decide) ?_
      obtain ⟨q_4, hq_4, h⟩ := bd_inv h
      refine end_v (run_v (As := [.int x1, .int (20 : Int32)]) (rest := []) C ca_X8_place (ctX8_place 36 iv_36 x1 (20 : Int32) hq_4) cf_8 (sv_0 iv_36) (kv_0 iv_36) tw_546 ⟨Nat.le_of_ble_eq_true rfl, Nat.le_of_ble_eq_true rfl⟩ rfl hl.1 (Nat.le_of_ble_eq_true rfl) ⟨Nat.le_refl _, Nat.le_refl _⟩ hP hS dX9_dig_46) hS (fun H locs hP hS => ?_)
      refine lv_aload_n hx hb dX9_dig_49 rfl (lv_at hl 0 rfl) ?_
      refine r_getr C cf_9 hP sx_0 kx_0 2 (by decide) rfl tw_23 dX9_dig_50 ?_
      obtain ⟨q_5, hq_5, h⟩ := bd_inv h
      refine end_i (run_v (As := []) (rest := []) C ca_X8_stones (ctX8_stones 36 iv_36 hq_5) cf_8 (sv_0 iv_36) (kv_0 iv_36) tw_473 ⟨Nat.le_of_ble_eq_true rfl, Nat.le_of_ble_eq_true rfl⟩ rfl hl.1 (Nat.le_of_ble_eq_true rfl) ⟨Nat.le_refl _, Nat.le_refl _⟩ hP hS dX9_dig_53) hS (fun H locs hP hS => ?_)
      exact r_reti C hP hS (rt_ow1 h) (rt_ow2 h) dX9_dig_56
    · replace h := if_f c_ h
      refine lv_ldc hx hb hown (hts _ tw_426) dX9_dig_25 ?_
      exact r_reti C hP hS (rt_ow1 h) (rt_ow2 h) dX9_dig_27
  · replace h := if_t c_ h
    refine lv_ldc hx hb hown (hts _ tw_162) dX9_dig_8 ?_
    exact r_reti C hP hS (rt_ow1 h) (rt_ow2 h) dX9_dig_10

set_option maxRecDepth 100000 in
set_option maxHeartbeats 4000000 in
theorem ctX9_thing {l : Launch} {g : Gw} {σ : Sto} (x1 : Int32) (x2 : Int32) {Rz : Int32} (h : fX9_thing σ x1 x2 = some Rz) : MtG l yX9_thing cX9_thing 3 (some .int) 1 wkX g [.ref (adG g 0), .int x1, .int x2] σ (QiS wkX g σ Rz) := by
  refine mt_of (by decide) (Nat.le_of_ble_eq_true rfl) (fun p e s m below meth c ls H locs C hP hS hl => ?_)
  have C : Cx wkX g p s m _ meth c cX9_thing 3 RX9 (some .int) := C
  have hl : lv_has ls 3 [(0, .ref (adG g 0)), (1, .int x1), (2, .int x2)] := hl
  obtain ⟨hx, hb, hml, hown, hts, hr, hlk, hK, hZ⟩ := id C
  unfold fX9_thing at h
  refine lv_aload_n hx hb dX9_thing_0 rfl (lv_at hl 0 rfl) ?_
  refine lv_iload_n hx hb dX9_thing_1 rfl (lv_at hl 1 rfl) ?_
  refine end_i (run_v (As := [.int x1]) (rest := []) C ca_X9_isThing (ctX9_isThing x1 rfl) cf_9 sx_0 kx_0 tw_534 ⟨Nat.le_of_ble_eq_true rfl, Nat.le_of_ble_eq_true rfl⟩ rfl hl.1 (Nat.le_of_ble_eq_true rfl) ⟨Nat.le_refl _, Nat.le_refl _⟩ hP hS dX9_thing_2) hS (fun H locs hP hS => ?_)
  refine lv_if_ne (tgt := 11) hx hb dX9_thing_5 (by decide) (fun c_ => ?_) (fun c_ => ?_)
  · replace h := if_f c_ h
    refine lv_iload_n hx hb dX9_thing_11 rfl (lv_at hl 2 rfl) ?_
    by_cases c_2 : x2 = (0 : Int32)
    · replace h := if_t c_2 h
      refine r_tin (tgt := 40) hx hb dX9_thing_12 c_2 (by decide) (by decide) rfl (by decide) ?_
      refine lv_aload_n hx hb dX9_thing_40 rfl (lv_at hl 0 rfl) ?_
      refine r_getr C cf_9 hP sx_0 kx_0 2 (by decide) rfl tw_23 dX9_thing_41 ?_
      refine r_getr C cf_8 hP (sv_0 iv_36) (kv_0 iv_36) 9 (by decide) rfl tw_580 dX9_thing_44 ?_
      refine lv_iload_n hx hb dX9_thing_47 rfl (lv_at hl 1 rfl) ?_
      obtain ⟨g_3, h⟩ := gd_inv h
      refine r_iald C hP (sv_5 iv_36) (kv_5 iv_36) rfl g_3 dX9_thing_48 ?_
      exact r_reti C hP hS rfl (rt_o h) dX9_thing_49
    replace h := if_f c_2 h
    by_cases c_4 : x2 = (1 : Int32)
    · replace h := if_t c_4 h
      refine r_tin (tgt := 50) hx hb dX9_thing_12 c_4 (by decide) (by decide) rfl (by decide) ?_
      refine lv_aload_n hx hb dX9_thing_50 rfl (lv_at hl 0 rfl) ?_
      refine r_getr C cf_9 hP sx_0 kx_0 2 (by decide) rfl tw_23 dX9_thing_51 ?_
      refine r_getr C cf_8 hP (sv_0 iv_36) (kv_0 iv_36) 10 (by decide) rfl tw_533 dX9_thing_54 ?_
      refine lv_iload_n hx hb dX9_thing_57 rfl (lv_at hl 1 rfl) ?_
      obtain ⟨g_5, h⟩ := gd_inv h
      refine r_iald C hP (sv_6 iv_36) (kv_6 iv_36) rfl g_5 dX9_thing_58 ?_
      exact r_reti C hP hS rfl (rt_o h) dX9_thing_59
    replace h := if_f c_4 h
    by_cases c_6 : x2 = (2 : Int32)
    · replace h := if_t c_6 h
      refine r_tin (tgt := 60) hx hb dX9_thing_12 c_6 (by decide) (by decide) rfl (by decide) ?_
      refine lv_aload_n hx hb dX9_thing_60 rfl (lv_at hl 0 rfl) ?_
      refine r_getr C cf_9 hP sx_0 kx_0 2 (by decide) rfl tw_23 dX9_thing_61 ?_
      refine r_getr C cf_8 hP (sv_0 iv_36) (kv_0 iv_36) 10 (by decide) rfl tw_533 dX9_thing_64 ?_
      refine lv_iload_n hx hb dX9_thing_67 rfl (lv_at hl 1 rfl) ?_
      obtain ⟨g_7, h⟩ := gd_inv h
      refine r_iald C hP (sv_6 iv_36) (kv_6 iv_36) rfl g_7 dX9_thing_68 ?_
      refine lv_bipush (v := 20) hx hb dX9_thing_69 (by decide) ?_
      refine lv_icmp_ne (tgt := 78) hx hb dX9_thing_71 (by decide) (fun c_ => ?_) (fun c_ => ?_)
      · replace h := if_f c_ h
        refine lv_aload_n hx hb dX9_thing_78 rfl (lv_at hl 0 rfl) ?_
        refine r_getr C cf_9 hP sx_0 kx_0 2 (by decide) rfl tw_23 dX9_thing_79 ?_
        refine r_getr C cf_8 hP (sv_0 iv_36) (kv_0 iv_36) 6 (by decide) rfl tw_581 dX9_thing_82 ?_
        refine lv_aload_n hx hb dX9_thing_85 rfl (lv_at hl 0 rfl) ?_
        refine r_getr C cf_9 hP sx_0 kx_0 2 (by decide) rfl tw_23 dX9_thing_86 ?_
        refine r_getr C cf_8 hP (sv_0 iv_36) (kv_0 iv_36) 11 (by decide) rfl tw_582 dX9_thing_89 ?_
        refine lv_iload_n hx hb dX9_thing_92 rfl (lv_at hl 1 rfl) ?_
        refine r_iald C hP (sv_7 iv_36) (kv_7 iv_36) rfl g_7 dX9_thing_93 ?_
        obtain ⟨g_8, h⟩ := gd_inv h
        refine r_iald C hP (sv_2 iv_36) (kv_2 iv_36) rfl g_8 dX9_thing_94 ?_
        exact r_reti C hP hS rfl (rt_o h) dX9_thing_95
      · replace h := if_t c_ h
        refine lv_iconst (v := 0) hx hb dX9_thing_74 (by decide) ?_
        refine lv_goto (tgt := 95) hx hb dX9_thing_75 (by decide) ?_
        exact r_reti C hP hS rfl (rt_o h) dX9_thing_95
    replace h := if_f c_6 h
    refine lv_tableOut (tgt := 96) hx hb dX9_thing_12 (by have qc_2 := lv_neT (a := 0) c_2 rfl; have qc_4 := lv_neT (a := 1) c_4 rfl; have qc_6 := lv_neT (a := 2) c_6 rfl; omega) (by decide) ?_
    refine lv_ldc hx hb hown (hts _ tw_162) dX9_thing_96 ?_
    exact r_reti C hP hS rfl (rt_o h) dX9_thing_98
  · replace h := if_t c_ h
    refine lv_ldc hx hb hown (hts _ tw_162) dX9_thing_8 ?_
    exact r_reti C hP hS rfl (rt_o h) dX9_thing_10

set_option maxRecDepth 100000 in
set_option maxHeartbeats 4000000 in
theorem ctX9_roomOf {l : Launch} {g : Gw} {σ : Sto} (x1 : Int32) (x2 : Int32) {Rz : Int32} (h : fX9_roomOf σ x1 x2 = some Rz) : MtG l yX9_roomOf cX9_roomOf 3 (some .int) 1 wkX g [.ref (adG g 0), .int x1, .int x2] σ (QiS wkX g σ Rz) := by
  refine mt_of (by decide) (Nat.le_of_ble_eq_true rfl) (fun p e s m below meth c ls H locs C hP hS hl => ?_)
  have C : Cx wkX g p s m _ meth c cX9_roomOf 3 RX9 (some .int) := C
  have hl : lv_has ls 3 [(0, .ref (adG g 0)), (1, .int x1), (2, .int x2)] := hl
  obtain ⟨hx, hb, hml, hown, hts, hr, hlk, hK, hZ⟩ := id C
  unfold fX9_roomOf at h
  refine lv_aload_n hx hb dX9_roomOf_0 rfl (lv_at hl 0 rfl) ?_
  refine lv_iload_n hx hb dX9_roomOf_1 rfl (lv_at hl 1 rfl) ?_
  refine end_i (run_v (As := [.int x1]) (rest := []) C ca_X9_isRoom (ctX9_isRoom x1 rfl) cf_9 sx_0 kx_0 tw_516 ⟨Nat.le_of_ble_eq_true rfl, Nat.le_of_ble_eq_true rfl⟩ rfl hl.1 (Nat.le_of_ble_eq_true rfl) ⟨Nat.le_refl _, Nat.le_refl _⟩ hP hS dX9_roomOf_2) hS (fun H locs hP hS => ?_)
  refine lv_if_ne (tgt := 11) hx hb dX9_roomOf_5 (by decide) (fun c_ => ?_) (fun c_ => ?_)
  · replace h := if_f c_ h
    refine lv_iload_n hx hb dX9_roomOf_11 rfl (lv_at hl 2 rfl) ?_
    by_cases c_2 : x2 = (0 : Int32)
    · replace h := if_t c_2 h
      refine r_tin (tgt := 48) hx hb dX9_roomOf_12 c_2 (by decide) (by decide) rfl (by decide) ?_
      refine lv_aload_n hx hb dX9_roomOf_48 rfl (lv_at hl 0 rfl) ?_
      refine r_getr C cf_9 hP sx_0 kx_0 2 (by decide) rfl tw_23 dX9_roomOf_49 ?_
      refine r_getr C cf_8 hP (sv_0 iv_36) (kv_0 iv_36) 5 (by decide) rfl tw_591 dX9_roomOf_52 ?_
      refine lv_iload_n hx hb dX9_roomOf_55 rfl (lv_at hl 1 rfl) ?_
      obtain ⟨g_3, h⟩ := gd_inv h
      refine r_iald C hP (sv_1 iv_36) (kv_1 iv_36) rfl g_3 dX9_roomOf_56 ?_
      exact r_reti C hP hS rfl (rt_o h) dX9_roomOf_57
    replace h := if_f c_2 h
    by_cases c_4 : x2 = (1 : Int32)
    · replace h := if_t c_4 h
      refine r_tin (tgt := 58) hx hb dX9_roomOf_12 c_4 (by decide) (by decide) rfl (by decide) ?_
      refine lv_aload_n hx hb dX9_roomOf_58 rfl (lv_at hl 0 rfl) ?_
      refine r_getr C cf_9 hP sx_0 kx_0 2 (by decide) rfl tw_23 dX9_roomOf_59 ?_
      refine r_getr C cf_8 hP (sv_0 iv_36) (kv_0 iv_36) 6 (by decide) rfl tw_581 dX9_roomOf_62 ?_
      refine lv_iload_n hx hb dX9_roomOf_65 rfl (lv_at hl 1 rfl) ?_
      obtain ⟨g_5, h⟩ := gd_inv h
      refine r_iald C hP (sv_2 iv_36) (kv_2 iv_36) rfl g_5 dX9_roomOf_66 ?_
      exact r_reti C hP hS rfl (rt_o h) dX9_roomOf_67
    replace h := if_f c_4 h
    by_cases c_6 : x2 = (2 : Int32)
    · replace h := if_t c_6 h
      refine r_tin (tgt := 68) hx hb dX9_roomOf_12 c_6 (by decide) (by decide) rfl (by decide) ?_
      refine lv_aload_n hx hb dX9_roomOf_68 rfl (lv_at hl 0 rfl) ?_
      refine r_getr C cf_9 hP sx_0 kx_0 2 (by decide) rfl tw_23 dX9_roomOf_69 ?_
      refine r_getr C cf_8 hP (sv_0 iv_36) (kv_0 iv_36) 7 (by decide) rfl tw_515 dX9_roomOf_72 ?_
      refine lv_iload_n hx hb dX9_roomOf_75 rfl (lv_at hl 1 rfl) ?_
      obtain ⟨g_7, h⟩ := gd_inv h
      refine r_iald C hP (sv_3 iv_36) (kv_3 iv_36) rfl g_7 dX9_roomOf_76 ?_
      exact r_reti C hP hS rfl (rt_o h) dX9_roomOf_77
    replace h := if_f c_6 h
    by_cases c_8 : x2 = (3 : Int32)
    · replace h := if_t c_8 h
      refine r_tin (tgt := 78) hx hb dX9_roomOf_12 c_8 (by decide) (by decide) rfl (by decide) ?_
      refine lv_aload_n hx hb dX9_roomOf_78 rfl (lv_at hl 0 rfl) ?_
      refine r_getr C cf_9 hP sx_0 kx_0 2 (by decide) rfl tw_23 dX9_roomOf_79 ?_
      refine lv_iload_n hx hb dX9_roomOf_82 rfl (lv_at hl 1 rfl) ?_
      obtain ⟨q_9, hq_9, h⟩ := bd_inv h
      refine end_i (run_v (As := [.int x1]) (rest := []) C ca_X8_allAt (ctX8_allAt 36 iv_36 x1 hq_9) cf_8 (sv_0 iv_36) (kv_0 iv_36) tw_592 ⟨Nat.le_of_ble_eq_true rfl, Nat.le_of_ble_eq_true rfl⟩ rfl hl.1 (Nat.le_of_ble_eq_true rfl) ⟨Nat.le_refl _, Nat.le_refl _⟩ hP hS dX9_roomOf_83) hS (fun H locs hP hS => ?_)
      exact r_reti C hP hS rfl (rt_o h) dX9_roomOf_86
    replace h := if_f c_8 h
    by_cases c_10 : x2 = (4 : Int32)
    · replace h := if_t c_10 h
      refine r_tin (tgt := 87) hx hb dX9_roomOf_12 c_10 (by decide) (by decide) rfl (by decide) ?_
      refine lv_aload_n hx hb dX9_roomOf_87 rfl (lv_at hl 0 rfl) ?_
      refine r_getr C cf_9 hP sx_0 kx_0 2 (by decide) rfl tw_23 dX9_roomOf_88 ?_
      refine lv_bipush (v := 30) hx hb dX9_roomOf_91 (by decide) ?_
      refine lv_iload_n hx hb dX9_roomOf_93 rfl (lv_at hl 1 rfl) ?_
      refine lv_iadd hx hb dX9_roomOf_94 ?_
      obtain ⟨q_11, hq_11, h⟩ := bd_inv h
      refine end_i (run_v (As := [.int ((30 : Int32) + x1)]) (rest := []) C ca_X8_allAt (ctX8_allAt 36 iv_36 ((30 : Int32) + x1) hq_11) cf_8 (sv_0 iv_36) (kv_0 iv_36) tw_592 ⟨Nat.le_of_ble_eq_true rfl, Nat.le_of_ble_eq_true rfl⟩ rfl hl.1 (Nat.le_of_ble_eq_true rfl) ⟨Nat.le_refl _, Nat.le_refl _⟩ hP hS dX9_roomOf_95) hS (fun H locs hP hS => ?_)
      exact r_reti C hP hS rfl (rt_o h) dX9_roomOf_98
    replace h := if_f c_10 h
    refine lv_tableOut (tgt := 99) hx hb dX9_roomOf_12 (by have qc_2 := lv_neT (a := 0) c_2 rfl; have qc_4 := lv_neT (a := 1) c_4 rfl; have qc_6 := lv_neT (a := 2) c_6 rfl; have qc_8 := lv_neT (a := 3) c_8 rfl; have qc_10 := lv_neT (a := 4) c_10 rfl; omega) (by decide) ?_
    refine lv_ldc hx hb hown (hts _ tw_162) dX9_roomOf_99 ?_
    exact r_reti C hP hS rfl (rt_o h) dX9_roomOf_101
  · replace h := if_t c_ h
    refine lv_ldc hx hb hown (hts _ tw_162) dX9_roomOf_8 ?_
    exact r_reti C hP hS rfl (rt_o h) dX9_roomOf_10

set_option maxRecDepth 100000 in
set_option maxHeartbeats 4000000 in
theorem ctX9_stand {l : Launch} {g : Gw} {σ : Sto} (x1 : Int32) {Rz : Int32} (h : fX9_stand σ x1 = some Rz) : MtG l yX9_stand cX9_stand 2 (some .int) 1 wkX g [.ref (adG g 0), .int x1] σ (QiS wkX g σ Rz) := by
  refine mt_of (by decide) (Nat.le_of_ble_eq_true rfl) (fun p e s m below meth c ls H locs C hP hS hl => ?_)
  have C : Cx wkX g p s m _ meth c cX9_stand 2 RX9 (some .int) := C
  have hl : lv_has ls 2 [(0, .ref (adG g 0)), (1, .int x1)] := hl
  obtain ⟨hx, hb, hml, hown, hts, hr, hlk, hK, hZ⟩ := id C
  unfold fX9_stand at h
  refine lv_aload_n hx hb dX9_stand_0 rfl (lv_at hl 0 rfl) ?_
  refine end_i (run_v (As := []) (rest := []) C ca_X9_isStreet (ctX9_isStreet rfl) cf_9 sx_0 kx_0 tw_442 ⟨Nat.le_of_ble_eq_true rfl, Nat.le_of_ble_eq_true rfl⟩ rfl hl.1 (Nat.le_of_ble_eq_true rfl) ⟨Nat.le_refl _, Nat.le_refl _⟩ hP hS dX9_stand_1) hS (fun H locs hP hS => ?_)
  refine lv_if_ne (tgt := 10) hx hb dX9_stand_4 (by decide) (fun c_ => ?_) (fun c_ => ?_)
  · replace h := if_f c_ h
    refine lv_iload_n hx hb dX9_stand_10 rfl (lv_at hl 1 rfl) ?_
    by_cases c_2 : x1 = (0 : Int32)
    · replace h := if_t c_2 h
      refine r_tin (tgt := 48) hx hb dX9_stand_11 c_2 (by decide) (by decide) rfl (by decide) ?_
      refine lv_aload_n hx hb dX9_stand_48 rfl (lv_at hl 0 rfl) ?_
      refine r_getr C cf_9 hP sx_0 kx_0 2 (by decide) rfl tw_23 dX9_stand_49 ?_
      refine r_geti C cf_8 hP (sv_0 iv_36) (kv_0 iv_36) 0 (by decide) rfl tw_446 dX9_stand_52 ?_
      exact r_reti C hP hS rfl (rt_o h) dX9_stand_55
    replace h := if_f c_2 h
    by_cases c_3 : x1 = (1 : Int32)
    · replace h := if_t c_3 h
      refine r_tin (tgt := 56) hx hb dX9_stand_11 c_3 (by decide) (by decide) rfl (by decide) ?_
      refine lv_aload_n hx hb dX9_stand_56 rfl (lv_at hl 0 rfl) ?_
      refine r_getr C cf_9 hP sx_0 kx_0 2 (by decide) rfl tw_23 dX9_stand_57 ?_
      refine r_geti C cf_8 hP (sv_0 iv_36) (kv_0 iv_36) 2 (by decide) rfl tw_562 dX9_stand_60 ?_
      exact r_reti C hP hS rfl (rt_o h) dX9_stand_63
    replace h := if_f c_3 h
    by_cases c_4 : x1 = (2 : Int32)
    · replace h := if_t c_4 h
      refine r_tin (tgt := 64) hx hb dX9_stand_11 c_4 (by decide) (by decide) rfl (by decide) ?_
      refine lv_aload_n hx hb dX9_stand_64 rfl (lv_at hl 0 rfl) ?_
      refine r_getr C cf_9 hP sx_0 kx_0 2 (by decide) rfl tw_23 dX9_stand_65 ?_
      refine r_geti C cf_8 hP (sv_0 iv_36) (kv_0 iv_36) 3 (by decide) rfl tw_608 dX9_stand_68 ?_
      exact r_reti C hP hS rfl (rt_o h) dX9_stand_71
    replace h := if_f c_4 h
    by_cases c_5 : x1 = (3 : Int32)
    · replace h := if_t c_5 h
      refine r_tin (tgt := 72) hx hb dX9_stand_11 c_5 (by decide) (by decide) rfl (by decide) ?_
      refine lv_aload_n hx hb dX9_stand_72 rfl (lv_at hl 0 rfl) ?_
      refine r_getr C cf_9 hP sx_0 kx_0 2 (by decide) rfl tw_23 dX9_stand_73 ?_
      obtain ⟨q_6, hq_6, h⟩ := bd_inv h
      refine end_i (run_v (As := []) (rest := []) C ca_X8_standing (ctX8_standing 36 iv_36 hq_6) cf_8 (sv_0 iv_36) (kv_0 iv_36) tw_609 ⟨Nat.le_of_ble_eq_true rfl, Nat.le_of_ble_eq_true rfl⟩ rfl hl.1 (Nat.le_of_ble_eq_true rfl) ⟨Nat.le_refl _, Nat.le_refl _⟩ hP hS dX9_stand_76) hS (fun H locs hP hS => ?_)
      exact r_reti C hP hS rfl (rt_o h) dX9_stand_79
    replace h := if_f c_5 h
    by_cases c_7 : x1 = (4 : Int32)
    · replace h := if_t c_7 h
      refine r_tin (tgt := 80) hx hb dX9_stand_11 c_7 (by decide) (by decide) rfl (by decide) ?_
      refine lv_aload_n hx hb dX9_stand_80 rfl (lv_at hl 0 rfl) ?_
      refine r_getr C cf_9 hP sx_0 kx_0 2 (by decide) rfl tw_23 dX9_stand_81 ?_
      obtain ⟨q_8, hq_8, h⟩ := bd_inv h
      refine end_i (run_v (As := []) (rest := []) C ca_X8_stones (ctX8_stones 36 iv_36 hq_8) cf_8 (sv_0 iv_36) (kv_0 iv_36) tw_473 ⟨Nat.le_of_ble_eq_true rfl, Nat.le_of_ble_eq_true rfl⟩ rfl hl.1 (Nat.le_of_ble_eq_true rfl) ⟨Nat.le_refl _, Nat.le_refl _⟩ hP hS dX9_stand_84) hS (fun H locs hP hS => ?_)
      exact r_reti C hP hS rfl (rt_o h) dX9_stand_87
    replace h := if_f c_7 h
    by_cases c_9 : x1 = (5 : Int32)
    · replace h := if_t c_9 h
      refine r_tin (tgt := 88) hx hb dX9_stand_11 c_9 (by decide) (by decide) rfl (by decide) ?_
      refine lv_aload_n hx hb dX9_stand_88 rfl (lv_at hl 0 rfl) ?_
      refine r_getr C cf_9 hP sx_0 kx_0 2 (by decide) rfl tw_23 dX9_stand_89 ?_
      refine lv_bipush (v := 20) hx hb dX9_stand_92 (by decide) ?_
      obtain ⟨q_10, hq_10, h⟩ := bd_inv h
      refine end_i (run_v (As := [.int (20 : Int32)]) (rest := []) C ca_X8_allAt (ctX8_allAt 36 iv_36 (20 : Int32) hq_10) cf_8 (sv_0 iv_36) (kv_0 iv_36) tw_592 ⟨Nat.le_of_ble_eq_true rfl, Nat.le_of_ble_eq_true rfl⟩ rfl hl.1 (Nat.le_of_ble_eq_true rfl) ⟨Nat.le_refl _, Nat.le_refl _⟩ hP hS dX9_stand_94) hS (fun H locs hP hS => ?_)
      exact r_reti C hP hS rfl (rt_o h) dX9_stand_97
    replace h := if_f c_9 h
    refine lv_tableOut (tgt := 98) hx hb dX9_stand_11 (by have qc_2 := lv_neT (a := 0) c_2 rfl; have qc_3 := lv_neT (a := 1) c_3 rfl; have qc_4 := lv_neT (a := 2) c_4 rfl; have qc_5 := lv_neT (a := 3) c_5 rfl; have qc_7 := lv_neT (a := 4) c_7 rfl; have qc_9 := lv_neT (a := 5) c_9 rfl; omega) (by decide) ?_
    refine lv_ldc hx hb hown (hts _ tw_162) dX9_stand_98 ?_
    exact r_reti C hP hS rfl (rt_o h) dX9_stand_100
  · replace h := if_t c_ h
    refine lv_ldc hx hb hown (hts _ tw_426) dX9_stand_7 ?_
    exact r_reti C hP hS rfl (rt_o h) dX9_stand_9

set_option maxRecDepth 100000 in
set_option maxHeartbeats 4000000 in
theorem ctX9_ahead {l : Launch} {g : Gw} {σ : Sto} (x1 : Int32) (x2 : Int32) {Rz : (Sto × Int32)} (h : fX9_ahead σ x1 x2 = some Rz) : MtG l yX9_ahead cX9_ahead 3 (some .int) 5 wkX g [.ref (adG g 0), .int x1, .int x2] σ (QiS wkX g Rz.1 Rz.2) := by
  refine mt_of (by decide) (Nat.le_of_ble_eq_true rfl) (fun p e s m below meth c ls H locs C hP hS hl => ?_)
  have C : Cx wkX g p s m _ meth c cX9_ahead 3 RX9 (some .int) := C
  have hl : lv_has ls 3 [(0, .ref (adG g 0)), (1, .int x1), (2, .int x2)] := hl
  obtain ⟨hx, hb, hml, hown, hts, hr, hlk, hK, hZ⟩ := id C
  unfold fX9_ahead at h
  refine lv_aload_n hx hb dX9_ahead_0 rfl (lv_at hl 0 rfl) ?_
  refine lv_iload_n hx hb dX9_ahead_1 rfl (lv_at hl 1 rfl) ?_
  refine end_i (run_v (As := [.int x1]) (rest := []) C ca_X9_isThing (ctX9_isThing x1 rfl) cf_9 sx_0 kx_0 tw_534 ⟨Nat.le_of_ble_eq_true rfl, Nat.le_of_ble_eq_true rfl⟩ rfl hl.1 (Nat.le_of_ble_eq_true rfl) ⟨Nat.le_refl _, Nat.le_refl _⟩ hP hS dX9_ahead_2) hS (fun H locs hP hS => ?_)
  refine lv_if_eq (tgt := 18) hx hb dX9_ahead_5 (by decide) (fun c_ => ?_) (fun c_ => ?_)
  · replace h := if_t c_ h
    refine lv_ldc hx hb hown (hts _ tw_162) dX9_ahead_18 ?_
    exact r_reti C hP hS (rt_ow1 h) (rt_ow2 h) dX9_ahead_20
  · replace h := if_f c_ h
    refine lv_iload_n hx hb dX9_ahead_8 rfl (lv_at hl 2 rfl) ?_
    refine lv_iconst (v := 0) hx hb dX9_ahead_9 (by decide) ?_
    refine lv_bipush (v := 60) hx hb dX9_ahead_10 (by decide) ?_
    refine end_i (run_s (As := [.int x2, .int (0 : Int32), .int (60 : Int32)]) (rest := []) C ca_X9_within (ctX9_within x2 (0 : Int32) (60 : Int32) rfl) tw_167 ⟨Nat.le_of_ble_eq_true rfl, Nat.le_of_ble_eq_true rfl⟩ rfl hl.1 (Nat.le_of_ble_eq_true rfl) ⟨Nat.le_refl _, Nat.le_refl _⟩ hP hS dX9_ahead_12) hS (fun H locs hP hS => ?_)
    refine lv_if_ne (tgt := 21) hx hb dX9_ahead_15 (by decide) (fun c_ => ?_) (fun c_ => ?_)
    · replace h := if_f c_ h
      refine lv_aload_n hx hb dX9_ahead_21 rfl (lv_at hl 0 rfl) ?_
      refine r_getr C cf_9 hP sx_0 kx_0 5 (by decide) rfl tw_32 dX9_ahead_22 ?_
      refine lv_aload_n hx hb dX9_ahead_25 rfl (lv_at hl 0 rfl) ?_
      refine r_getr C cf_9 hP sx_0 kx_0 2 (by decide) rfl tw_23 dX9_ahead_26 ?_
      refine lv_iload_n hx hb dX9_ahead_29 rfl (lv_at hl 1 rfl) ?_
      refine lv_iload_n hx hb dX9_ahead_30 rfl (lv_at hl 2 rfl) ?_
      obtain ⟨q_3, hq_3, h⟩ := bd_inv h
      refine end_i (run_v (As := [.ref (adG g 36), .int x1, .int x2]) (rest := []) C ca_X5_placeBehind (ctX5_placeBehind 36 iv_36 x1 x2 hq_3) cf_5 sx_10 kx_10 tw_621 ⟨Nat.le_of_ble_eq_true rfl, Nat.le_of_ble_eq_true rfl⟩ rfl hl.1 (Nat.le_of_ble_eq_true rfl) ⟨Nat.le_refl _, Nat.le_refl _⟩ hP hS dX9_ahead_31) hS (fun H locs hP hS => ?_)
      exact r_reti C hP hS (rt_ow1 h) (rt_ow2 h) dX9_ahead_34
    · replace h := if_t c_ h
      refine lv_ldc hx hb hown (hts _ tw_162) dX9_ahead_18 ?_
      exact r_reti C hP hS (rt_ow1 h) (rt_ow2 h) dX9_ahead_20

set_option maxRecDepth 100000 in
set_option maxHeartbeats 4000000 in
theorem ctX9_lava {l : Launch} {g : Gw} {σ : Sto} (x1 : Int32) (x2 : Int32) {Rz : (Sto × Int32)} (h : fX9_lava σ x1 x2 = some Rz) : MtG l yX9_lava cX9_lava 3 (some .int) 5 wkX g [.ref (adG g 0), .int x1, .int x2] σ (QiS wkX g Rz.1 Rz.2) := by
  refine mt_of (by decide) (Nat.le_of_ble_eq_true rfl) (fun p e s m below meth c ls H locs C hP hS hl => ?_)
  have C : Cx wkX g p s m _ meth c cX9_lava 3 RX9 (some .int) := C
  have hl : lv_has ls 3 [(0, .ref (adG g 0)), (1, .int x1), (2, .int x2)] := hl
  obtain ⟨hx, hb, hml, hown, hts, hr, hlk, hK, hZ⟩ := id C
  unfold fX9_lava at h
  refine lv_aload_n hx hb dX9_lava_0 rfl (lv_at hl 0 rfl) ?_
  refine lv_iload_n hx hb dX9_lava_1 rfl (lv_at hl 1 rfl) ?_
  refine end_i (run_v (As := [.int x1]) (rest := []) C ca_X9_isRoom (ctX9_isRoom x1 rfl) cf_9 sx_0 kx_0 tw_516 ⟨Nat.le_of_ble_eq_true rfl, Nat.le_of_ble_eq_true rfl⟩ rfl hl.1 (Nat.le_of_ble_eq_true rfl) ⟨Nat.le_refl _, Nat.le_refl _⟩ hP hS dX9_lava_2) hS (fun H locs hP hS => ?_)
  refine lv_if_eq (tgt := 18) hx hb dX9_lava_5 (by decide) (fun c_ => ?_) (fun c_ => ?_)
  · replace h := if_t c_ h
    refine lv_ldc hx hb hown (hts _ tw_162) dX9_lava_18 ?_
    exact r_reti C hP hS (rt_ow1 h) (rt_ow2 h) dX9_lava_20
  · replace h := if_f c_ h
    refine lv_iload_n hx hb dX9_lava_8 rfl (lv_at hl 2 rfl) ?_
    refine lv_iconst (v := 0) hx hb dX9_lava_9 (by decide) ?_
    refine lv_bipush (v := 60) hx hb dX9_lava_10 (by decide) ?_
    refine end_i (run_s (As := [.int x2, .int (0 : Int32), .int (60 : Int32)]) (rest := []) C ca_X9_within (ctX9_within x2 (0 : Int32) (60 : Int32) rfl) tw_167 ⟨Nat.le_of_ble_eq_true rfl, Nat.le_of_ble_eq_true rfl⟩ rfl hl.1 (Nat.le_of_ble_eq_true rfl) ⟨Nat.le_refl _, Nat.le_refl _⟩ hP hS dX9_lava_12) hS (fun H locs hP hS => ?_)
    refine lv_if_ne (tgt := 21) hx hb dX9_lava_15 (by decide) (fun c_ => ?_) (fun c_ => ?_)
    · replace h := if_f c_ h
      refine lv_aload_n hx hb dX9_lava_21 rfl (lv_at hl 0 rfl) ?_
      refine r_getr C cf_9 hP sx_0 kx_0 5 (by decide) rfl tw_32 dX9_lava_22 ?_
      refine lv_aload_n hx hb dX9_lava_25 rfl (lv_at hl 0 rfl) ?_
      refine r_getr C cf_9 hP sx_0 kx_0 2 (by decide) rfl tw_23 dX9_lava_26 ?_
      refine lv_iload_n hx hb dX9_lava_29 rfl (lv_at hl 1 rfl) ?_
      refine lv_iload_n hx hb dX9_lava_30 rfl (lv_at hl 2 rfl) ?_
      obtain ⟨q_3, hq_3, h⟩ := bd_inv h
      refine end_i (run_v (As := [.ref (adG g 36), .int x1, .int x2]) (rest := []) C ca_X5_lavaBehind (ctX5_lavaBehind 36 iv_36 x1 x2 hq_3) cf_5 sx_10 kx_10 tw_661 ⟨Nat.le_of_ble_eq_true rfl, Nat.le_of_ble_eq_true rfl⟩ rfl hl.1 (Nat.le_of_ble_eq_true rfl) ⟨Nat.le_refl _, Nat.le_refl _⟩ hP hS dX9_lava_31) hS (fun H locs hP hS => ?_)
      exact r_reti C hP hS (rt_ow1 h) (rt_ow2 h) dX9_lava_34
    · replace h := if_t c_ h
      refine lv_ldc hx hb hown (hts _ tw_162) dX9_lava_18 ?_
      exact r_reti C hP hS (rt_ow1 h) (rt_ow2 h) dX9_lava_20

set_option maxRecDepth 100000 in
set_option maxHeartbeats 4000000 in
theorem ctX9_kept {l : Launch} {g : Gw} {σ : Sto} (x1 : Int32) (x2 : Int32) {Rz : (Sto × Int32)} (h : fX9_kept σ x1 x2 = some Rz) : MtG l yX9_kept cX9_kept 3 (some .int) 6 wkX g [.ref (adG g 0), .int x1, .int x2] σ (QiS wkX g Rz.1 Rz.2) := by
  refine mt_of (by decide) (Nat.le_of_ble_eq_true rfl) (fun p e s m below meth c ls H locs C hP hS hl => ?_)
  have C : Cx wkX g p s m _ meth c cX9_kept 3 RX9 (some .int) := C
  have hl : lv_has ls 3 [(0, .ref (adG g 0)), (1, .int x1), (2, .int x2)] := hl
  obtain ⟨hx, hb, hml, hown, hts, hr, hlk, hK, hZ⟩ := id C
  unfold fX9_kept at h
  refine lv_aload_n hx hb dX9_kept_0 rfl (lv_at hl 0 rfl) ?_
  refine end_i (run_v (As := []) (rest := []) C ca_X9_isStreet (ctX9_isStreet rfl) cf_9 sx_0 kx_0 tw_442 ⟨Nat.le_of_ble_eq_true rfl, Nat.le_of_ble_eq_true rfl⟩ rfl hl.1 (Nat.le_of_ble_eq_true rfl) ⟨Nat.le_refl _, Nat.le_refl _⟩ hP hS dX9_kept_1) hS (fun H locs hP hS => ?_)
  refine lv_if_ne (tgt := 10) hx hb dX9_kept_4 (by decide) (fun c_ => ?_) (fun c_ => ?_)
  · replace h := if_f c_ h
    refine lv_iload_n hx hb dX9_kept_10 rfl (lv_at hl 1 rfl) ?_
    refine lv_iconst (v := 0) hx hb dX9_kept_11 (by decide) ?_
    refine lv_bipush (v := 60) hx hb dX9_kept_12 (by decide) ?_
    refine end_i (run_s (As := [.int x1, .int (0 : Int32), .int (60 : Int32)]) (rest := []) C ca_X9_within (ctX9_within x1 (0 : Int32) (60 : Int32) rfl) tw_167 ⟨Nat.le_of_ble_eq_true rfl, Nat.le_of_ble_eq_true rfl⟩ rfl hl.1 (Nat.le_of_ble_eq_true rfl) ⟨Nat.le_refl _, Nat.le_refl _⟩ hP hS dX9_kept_14) hS (fun H locs hP hS => ?_)
    refine lv_if_eq (tgt := 29) hx hb dX9_kept_17 (by decide) (fun c_ => ?_) (fun c_ => ?_)
    · replace h := if_t c_ h
      refine lv_ldc hx hb hown (hts _ tw_162) dX9_kept_29 ?_
      exact r_reti C hP hS (rt_ow1 h) (rt_ow2 h) dX9_kept_31
    · replace h := if_f c_ h
      refine lv_iload_n hx hb dX9_kept_20 rfl (lv_at hl 2 rfl) ?_
      refine lv_iconst (v := 0) hx hb dX9_kept_21 (by decide) ?_
      refine lv_iconst (v := 1) hx hb dX9_kept_22 (by decide) ?_
      refine end_i (run_s (As := [.int x2, .int (0 : Int32), .int (1 : Int32)]) (rest := []) C ca_X9_within (ctX9_within x2 (0 : Int32) (1 : Int32) rfl) tw_167 ⟨Nat.le_of_ble_eq_true rfl, Nat.le_of_ble_eq_true rfl⟩ rfl hl.1 (Nat.le_of_ble_eq_true rfl) ⟨Nat.le_refl _, Nat.le_refl _⟩ hP hS dX9_kept_23) hS (fun H locs hP hS => ?_)
      refine lv_if_ne (tgt := 32) hx hb dX9_kept_26 (by decide) (fun c_ => ?_) (fun c_ => ?_)
      · replace h := if_f c_ h
        refine lv_iload_n hx hb dX9_kept_32 rfl (lv_at hl 2 rfl) ?_
        refine lv_if_ne (tgt := 51) hx hb dX9_kept_33 (by decide) (fun c_ => ?_) (fun c_ => ?_)
        · replace h := if_f c_ h
          refine lv_aload_n hx hb dX9_kept_51 rfl (lv_at hl 0 rfl) ?_
          refine r_getr C cf_9 hP sx_0 kx_0 5 (by decide) rfl tw_32 dX9_kept_52 ?_
          refine lv_aload_n hx hb dX9_kept_55 rfl (lv_at hl 0 rfl) ?_
          refine r_getr C cf_9 hP sx_0 kx_0 2 (by decide) rfl tw_23 dX9_kept_56 ?_
          refine lv_iload_n hx hb dX9_kept_59 rfl (lv_at hl 1 rfl) ?_
          obtain ⟨q_4, hq_4, h⟩ := bd_inv h
          refine end_i (run_v (As := [.ref (adG g 36), .int x1]) (rest := []) C ca_X5_outsBehind (ctX5_outsBehind 36 iv_36 x1 hq_4) cf_5 sx_10 kx_10 tw_688 ⟨Nat.le_of_ble_eq_true rfl, Nat.le_of_ble_eq_true rfl⟩ rfl hl.1 (Nat.le_of_ble_eq_true rfl) ⟨Nat.le_refl _, Nat.le_refl _⟩ hP hS dX9_kept_60) hS (fun H locs hP hS => ?_)
          exact r_reti C hP hS (rt_ow1 h) (rt_ow2 h) dX9_kept_63
        · replace h := if_t c_ h
          refine lv_aload_n hx hb dX9_kept_36 rfl (lv_at hl 0 rfl) ?_
          refine r_getr C cf_9 hP sx_0 kx_0 5 (by decide) rfl tw_32 dX9_kept_37 ?_
          refine lv_aload_n hx hb dX9_kept_40 rfl (lv_at hl 0 rfl) ?_
          refine r_getr C cf_9 hP sx_0 kx_0 2 (by decide) rfl tw_23 dX9_kept_41 ?_
          refine lv_iload_n hx hb dX9_kept_44 rfl (lv_at hl 1 rfl) ?_
          obtain ⟨q_5, hq_5, h⟩ := bd_inv h
          refine end_i (run_v (As := [.ref (adG g 36), .int x1]) (rest := []) C ca_X5_stonesBehind (ctX5_stonesBehind 36 iv_36 x1 hq_5) cf_5 sx_10 kx_10 tw_677 ⟨Nat.le_of_ble_eq_true rfl, Nat.le_of_ble_eq_true rfl⟩ rfl hl.1 (Nat.le_of_ble_eq_true rfl) ⟨Nat.le_refl _, Nat.le_refl _⟩ hP hS dX9_kept_45) hS (fun H locs hP hS => ?_)
          refine lv_goto (tgt := 63) hx hb dX9_kept_48 (by decide) ?_
          exact r_reti C hP hS (rt_ow1 h) (rt_ow2 h) dX9_kept_63
      · replace h := if_t c_ h
        refine lv_ldc hx hb hown (hts _ tw_162) dX9_kept_29 ?_
        exact r_reti C hP hS (rt_ow1 h) (rt_ow2 h) dX9_kept_31
  · replace h := if_t c_ h
    refine lv_ldc hx hb hown (hts _ tw_426) dX9_kept_7 ?_
    exact r_reti C hP hS (rt_ow1 h) (rt_ow2 h) dX9_kept_9

set_option maxRecDepth 100000 in
set_option maxHeartbeats 4000000 in
theorem ctX9_when {l : Launch} {g : Gw} {σ : Sto} (x1 : Int32) (x2 : Int32) {Rz : (Sto × Int32)} (h : fX9_when σ x1 x2 = some Rz) : MtG l yX9_when cX9_when 3 (some .int) 5 wkX g [.ref (adG g 0), .int x1, .int x2] σ (QiS wkX g Rz.1 Rz.2) := by
  refine mt_of (by decide) (Nat.le_of_ble_eq_true rfl) (fun p e s m below meth c ls H locs C hP hS hl => ?_)
  have C : Cx wkX g p s m _ meth c cX9_when 3 RX9 (some .int) := C
  have hl : lv_has ls 3 [(0, .ref (adG g 0)), (1, .int x1), (2, .int x2)] := hl
  obtain ⟨hx, hb, hml, hown, hts, hr, hlk, hK, hZ⟩ := id C
  unfold fX9_when at h
  refine lv_aload_n hx hb dX9_when_0 rfl (lv_at hl 0 rfl) ?_
  refine lv_iload_n hx hb dX9_when_1 rfl (lv_at hl 1 rfl) ?_
  refine end_i (run_v (As := [.int x1]) (rest := []) C ca_X9_isThing (ctX9_isThing x1 rfl) cf_9 sx_0 kx_0 tw_534 ⟨Nat.le_of_ble_eq_true rfl, Nat.le_of_ble_eq_true rfl⟩ rfl hl.1 (Nat.le_of_ble_eq_true rfl) ⟨Nat.le_refl _, Nat.le_refl _⟩ hP hS dX9_when_2) hS (fun H locs hP hS => ?_)
  refine lv_if_eq (tgt := 17) hx hb dX9_when_5 (by decide) (fun c_ => ?_) (fun c_ => ?_)
  · replace h := if_t c_ h
    refine lv_ldc hx hb hown (hts _ tw_162) dX9_when_17 ?_
    exact r_reti C hP hS (rt_ow1 h) (rt_ow2 h) dX9_when_19
  · replace h := if_f c_ h
    refine lv_iload_n hx hb dX9_when_8 rfl (lv_at hl 2 rfl) ?_
    refine lv_iconst (v := 0) hx hb dX9_when_9 (by decide) ?_
    refine lv_iconst (v := 2) hx hb dX9_when_10 (by decide) ?_
    refine end_i (run_s (As := [.int x2, .int (0 : Int32), .int (2 : Int32)]) (rest := []) C ca_X9_within (ctX9_within x2 (0 : Int32) (2 : Int32) rfl) tw_167 ⟨Nat.le_of_ble_eq_true rfl, Nat.le_of_ble_eq_true rfl⟩ rfl hl.1 (Nat.le_of_ble_eq_true rfl) ⟨Nat.le_refl _, Nat.le_refl _⟩ hP hS dX9_when_11) hS (fun H locs hP hS => ?_)
    refine lv_if_ne (tgt := 20) hx hb dX9_when_14 (by decide) (fun c_ => ?_) (fun c_ => ?_)
    · replace h := if_f c_ h
      refine lv_aload_n hx hb dX9_when_20 rfl (lv_at hl 0 rfl) ?_
      refine r_getr C cf_9 hP sx_0 kx_0 5 (by decide) rfl tw_32 dX9_when_21 ?_
      refine lv_aload_n hx hb dX9_when_24 rfl (lv_at hl 0 rfl) ?_
      refine r_getr C cf_9 hP sx_0 kx_0 2 (by decide) rfl tw_23 dX9_when_25 ?_
      refine lv_iload_n hx hb dX9_when_28 rfl (lv_at hl 1 rfl) ?_
      refine lv_iload_n hx hb dX9_when_29 rfl (lv_at hl 2 rfl) ?_
      obtain ⟨q_3, hq_3, h⟩ := bd_inv h
      refine end_i (run_v (As := [.ref (adG g 36), .int x1, .int x2]) (rest := []) C ca_X5_firstDay (ctX5_firstDay 36 iv_36 x1 x2 hq_3) cf_5 sx_10 kx_10 tw_704 ⟨Nat.le_of_ble_eq_true rfl, Nat.le_of_ble_eq_true rfl⟩ rfl hl.1 (Nat.le_of_ble_eq_true rfl) ⟨Nat.le_refl _, Nat.le_refl _⟩ hP hS dX9_when_30) hS (fun H locs hP hS => ?_)
      exact r_reti C hP hS (rt_ow1 h) (rt_ow2 h) dX9_when_33
    · replace h := if_t c_ h
      refine lv_ldc hx hb hown (hts _ tw_162) dX9_when_17 ?_
      exact r_reti C hP hS (rt_ow1 h) (rt_ow2 h) dX9_when_19

set_option maxRecDepth 100000 in
set_option maxHeartbeats 4000000 in
theorem ctX9_front {l : Launch} {g : Gw} {σ : Sto} (x1 : Int32) {Rz : (Sto × Int32)} (h : fX9_front σ x1 = some Rz) : MtG l yX9_front cX9_front 2 (some .int) 5 wkX g [.ref (adG g 0), .int x1] σ (QiS wkX g Rz.1 Rz.2) := by
  refine mt_of (by decide) (Nat.le_of_ble_eq_true rfl) (fun p e s m below meth c ls H locs C hP hS hl => ?_)
  have C : Cx wkX g p s m _ meth c cX9_front 2 RX9 (some .int) := C
  have hl : lv_has ls 2 [(0, .ref (adG g 0)), (1, .int x1)] := hl
  obtain ⟨hx, hb, hml, hown, hts, hr, hlk, hK, hZ⟩ := id C
  unfold fX9_front at h
  refine lv_aload_n hx hb dX9_front_0 rfl (lv_at hl 0 rfl) ?_
  refine end_i (run_v (As := []) (rest := []) C ca_X9_isStreet (ctX9_isStreet rfl) cf_9 sx_0 kx_0 tw_442 ⟨Nat.le_of_ble_eq_true rfl, Nat.le_of_ble_eq_true rfl⟩ rfl hl.1 (Nat.le_of_ble_eq_true rfl) ⟨Nat.le_refl _, Nat.le_refl _⟩ hP hS dX9_front_1) hS (fun H locs hP hS => ?_)
  refine lv_if_ne (tgt := 10) hx hb dX9_front_4 (by decide) (fun c_ => ?_) (fun c_ => ?_)
  · replace h := if_f c_ h
    refine lv_iload_n hx hb dX9_front_10 rfl (lv_at hl 1 rfl) ?_
    refine lv_iconst (v := 0) hx hb dX9_front_11 (by decide) ?_
    refine lv_bipush (v := 60) hx hb dX9_front_12 (by decide) ?_
    refine end_i (run_s (As := [.int x1, .int (0 : Int32), .int (60 : Int32)]) (rest := []) C ca_X9_within (ctX9_within x1 (0 : Int32) (60 : Int32) rfl) tw_167 ⟨Nat.le_of_ble_eq_true rfl, Nat.le_of_ble_eq_true rfl⟩ rfl hl.1 (Nat.le_of_ble_eq_true rfl) ⟨Nat.le_refl _, Nat.le_refl _⟩ hP hS dX9_front_14) hS (fun H locs hP hS => ?_)
    refine lv_if_ne (tgt := 23) hx hb dX9_front_17 (by decide) (fun c_ => ?_) (fun c_ => ?_)
    · replace h := if_f c_ h
      refine lv_aload_n hx hb dX9_front_23 rfl (lv_at hl 0 rfl) ?_
      refine r_getr C cf_9 hP sx_0 kx_0 5 (by decide) rfl tw_32 dX9_front_24 ?_
      refine lv_aload_n hx hb dX9_front_27 rfl (lv_at hl 0 rfl) ?_
      refine r_getr C cf_9 hP sx_0 kx_0 2 (by decide) rfl tw_23 dX9_front_28 ?_
      refine lv_iload_n hx hb dX9_front_31 rfl (lv_at hl 1 rfl) ?_
      obtain ⟨q_3, hq_3, h⟩ := bd_inv h
      refine end_i (run_v (As := [.ref (adG g 36), .int x1]) (rest := []) C ca_X5_frontBehind (ctX5_frontBehind 36 iv_36 x1 hq_3) cf_5 sx_10 kx_10 tw_727 ⟨Nat.le_of_ble_eq_true rfl, Nat.le_of_ble_eq_true rfl⟩ rfl hl.1 (Nat.le_of_ble_eq_true rfl) ⟨Nat.le_refl _, Nat.le_refl _⟩ hP hS dX9_front_32) hS (fun H locs hP hS => ?_)
      exact r_reti C hP hS (rt_ow1 h) (rt_ow2 h) dX9_front_35
    · replace h := if_t c_ h
      refine lv_ldc hx hb hown (hts _ tw_162) dX9_front_20 ?_
      exact r_reti C hP hS (rt_ow1 h) (rt_ow2 h) dX9_front_22
  · replace h := if_t c_ h
    refine lv_ldc hx hb hown (hts _ tw_426) dX9_front_7 ?_
    exact r_reti C hP hS (rt_ow1 h) (rt_ow2 h) dX9_front_9

set_option maxRecDepth 100000 in
set_option maxHeartbeats 4000000 in
theorem ctX9_carries {l : Launch} {g : Gw} {σ : Sto} (x1 : Int32) (x2 : Int32) (x3 : Int32) {Rz : (Sto × Int32)} (h : fX9_carries σ x1 x2 x3 = some Rz) : MtG l yX9_carries cX9_carries 4 (some .int) 20 wkX g [.ref (adG g 0), .int x1, .int x2, .int x3] σ (QiS wkX g Rz.1 Rz.2) := by
  refine mt_of (by decide) (Nat.le_of_ble_eq_true rfl) (fun p e s m below meth c ls H locs C hP hS hl => ?_)
  have C : Cx wkX g p s m _ meth c cX9_carries 4 RX9 (some .int) := C
  have hl : lv_has ls 4 [(0, .ref (adG g 0)), (1, .int x1), (2, .int x2), (3, .int x3)] := hl
  obtain ⟨hx, hb, hml, hown, hts, hr, hlk, hK, hZ⟩ := id C
  unfold fX9_carries at h
  refine lv_aload_n hx hb dX9_carries_0 rfl (lv_at hl 0 rfl) ?_
  refine end_i (run_v (As := []) (rest := []) C ca_X9_isStreet (ctX9_isStreet rfl) cf_9 sx_0 kx_0 tw_442 ⟨Nat.le_of_ble_eq_true rfl, Nat.le_of_ble_eq_true rfl⟩ rfl hl.1 (Nat.le_of_ble_eq_true rfl) ⟨Nat.le_refl _, Nat.le_refl _⟩ hP hS dX9_carries_1) hS (fun H locs hP hS => ?_)
  refine lv_if_ne (tgt := 10) hx hb dX9_carries_4 (by decide) (fun c_ => ?_) (fun c_ => ?_)
  · replace h := if_f c_ h
    refine lv_iload_n hx hb dX9_carries_10 rfl (lv_at hl 1 rfl) ?_
    refine lv_iconst (v := 1) hx hb dX9_carries_11 (by decide) ?_
    refine lv_iconst (v := 4) hx hb dX9_carries_12 (by decide) ?_
    refine end_i (run_s (As := [.int x1, .int (1 : Int32), .int (4 : Int32)]) (rest := []) C ca_X9_within (ctX9_within x1 (1 : Int32) (4 : Int32) rfl) tw_167 ⟨Nat.le_of_ble_eq_true rfl, Nat.le_of_ble_eq_true rfl⟩ rfl hl.1 (Nat.le_of_ble_eq_true rfl) ⟨Nat.le_refl _, Nat.le_refl _⟩ hP hS dX9_carries_13) hS (fun H locs hP hS => ?_)
    refine lv_if_eq (tgt := 34) hx hb dX9_carries_16 (by decide) (fun c_ => ?_) (fun c_ => ?_)
    · replace h := if_t c_ h
      refine lv_ldc hx hb hown (hts _ tw_162) dX9_carries_34 ?_
      exact r_reti C hP hS (rt_ow1 h) (rt_ow2 h) dX9_carries_36
    · replace h := if_f c_ h
      refine lv_iload_n hx hb dX9_carries_19 rfl (lv_at hl 2 rfl) ?_
      refine lv_iconst (v := 0) hx hb dX9_carries_20 (by decide) ?_
      refine lv_bipush (v := 20) hx hb dX9_carries_21 (by decide) ?_
      refine end_i (run_s (As := [.int x2, .int (0 : Int32), .int (20 : Int32)]) (rest := []) C ca_X9_within (ctX9_within x2 (0 : Int32) (20 : Int32) rfl) tw_167 ⟨Nat.le_of_ble_eq_true rfl, Nat.le_of_ble_eq_true rfl⟩ rfl hl.1 (Nat.le_of_ble_eq_true rfl) ⟨Nat.le_refl _, Nat.le_refl _⟩ hP hS dX9_carries_23) hS (fun H locs hP hS => ?_)
      refine lv_if_eq (tgt := 34) hx hb dX9_carries_26 (by decide) (fun c_ => ?_) (fun c_ => ?_)
      · replace h := if_t c_ h
        refine lv_ldc hx hb hown (hts _ tw_162) dX9_carries_34 ?_
        exact r_reti C hP hS (rt_ow1 h) (rt_ow2 h) dX9_carries_36
      · replace h := if_f c_ h
        refine lv_iload_n hx hb dX9_carries_29 rfl (lv_at hl 3 rfl) ?_
        refine lv_iconst (v := (-1)) hx hb dX9_carries_30 (by decide) ?_
        refine lv_icmp_ge (tgt := 37) hx hb dX9_carries_31 (by decide) (fun c_ => ?_) (fun c_ => ?_)
        · replace h := if_t c_ h
          refine lv_aload_n hx hb dX9_carries_37 rfl (lv_at hl 0 rfl) ?_
          refine r_getr C cf_9 hP sx_0 kx_0 6 (by decide) rfl tw_36 dX9_carries_38 ?_
          refine lv_aload_n hx hb dX9_carries_41 rfl (lv_at hl 0 rfl) ?_
          refine r_getr C cf_9 hP sx_0 kx_0 2 (by decide) rfl tw_23 dX9_carries_42 ?_
          refine lv_iload_n hx hb dX9_carries_45 rfl (lv_at hl 1 rfl) ?_
          refine lv_iload_n hx hb dX9_carries_46 rfl (lv_at hl 2 rfl) ?_
          obtain ⟨q_4, hq_4, h⟩ := bd_inv h
          refine end_v (run_v (As := [.ref (adG g 36), .int x1, .int x2]) (rest := []) C ca_X1_search (ctX1_search 36 iv_36 x1 x2 hq_4) cf_1 sx_14 kx_14 tw_741 ⟨Nat.le_of_ble_eq_true rfl, Nat.le_of_ble_eq_true rfl⟩ rfl hl.1 (Nat.le_of_ble_eq_true rfl) ⟨Nat.le_refl _, Nat.le_refl _⟩ hP hS dX9_carries_47) hS (fun H locs hP hS => ?_)
          refine lv_iload_n hx hb dX9_carries_50 rfl (lv_at hl 3 rfl) ?_
          refine lv_iconst (v := (-1)) hx hb dX9_carries_51 (by decide) ?_
          refine lv_icmp_ne (tgt := 65) hx hb dX9_carries_52 (by decide) (fun c_ => ?_) (fun c_ => ?_)
          · replace h := if_f c_ h
            refine lv_aload_n hx hb dX9_carries_65 rfl (lv_at hl 0 rfl) ?_
            refine r_getr C cf_9 hP sx_0 kx_0 6 (by decide) rfl tw_36 dX9_carries_66 ?_
            refine lv_iload_n hx hb dX9_carries_69 rfl (lv_at hl 3 rfl) ?_
            obtain ⟨q_5, hq_5, h⟩ := bd_inv h
            refine end_i (run_v (As := [.int x3]) (rest := []) C ca_X1_choiceAt (ctX1_choiceAt x3 hq_5) cf_1 sx_14 kx_14 tw_768 ⟨Nat.le_of_ble_eq_true rfl, Nat.le_of_ble_eq_true rfl⟩ rfl hl.1 (Nat.le_of_ble_eq_true rfl) ⟨Nat.le_refl _, Nat.le_refl _⟩ hP hS dX9_carries_70) hS (fun H locs hP hS => ?_)
            exact r_reti C hP hS (rt_ow1 h) (rt_ow2 h) dX9_carries_73
          · replace h := if_t c_ h
            refine lv_aload_n hx hb dX9_carries_55 rfl (lv_at hl 0 rfl) ?_
            refine r_getr C cf_9 hP sx_0 kx_0 6 (by decide) rfl tw_36 dX9_carries_56 ?_
            refine r_geti C cf_1 hP sx_14 kx_14 0 (by decide) rfl tw_740 dX9_carries_59 ?_
            refine lv_goto (tgt := 73) hx hb dX9_carries_62 (by decide) ?_
            exact r_reti C hP hS (rt_ow1 h) (rt_ow2 h) dX9_carries_73
        · replace h := if_f c_ h
          refine lv_ldc hx hb hown (hts _ tw_162) dX9_carries_34 ?_
          exact r_reti C hP hS (rt_ow1 h) (rt_ow2 h) dX9_carries_36
  · replace h := if_t c_ h
    refine lv_ldc hx hb hown (hts _ tw_426) dX9_carries_7 ?_
    exact r_reti C hP hS (rt_ow1 h) (rt_ow2 h) dX9_carries_9

set_option maxRecDepth 100000 in
set_option maxHeartbeats 4000000 in
theorem ctX9_dam {l : Launch} {g : Gw} {σ : Sto} (x1 : Int32) (x2 : Int32) (x3 : Int32) {Rz : (Sto × Int32)} (h : fX9_dam σ x1 x2 x3 = some Rz) : MtG l yX9_dam cX9_dam 5 (some .int) 7 wkX g [.ref (adG g 0), .int x1, .int x2, .int x3] σ (QiS wkX g Rz.1 Rz.2) := by
  refine mt_of (by decide) (Nat.le_of_ble_eq_true rfl) (fun p e s m below meth c ls H locs C hP hS hl => ?_)
  have C : Cx wkX g p s m _ meth c cX9_dam 5 RX9 (some .int) := C
  have hl : lv_has ls 5 [(0, .ref (adG g 0)), (1, .int x1), (2, .int x2), (3, .int x3)] := hl
  obtain ⟨hx, hb, hml, hown, hts, hr, hlk, hK, hZ⟩ := id C
  unfold fX9_dam at h
  refine lv_aload_n hx hb dX9_dam_0 rfl (lv_at hl 0 rfl) ?_
  refine end_i (run_v (As := []) (rest := []) C ca_X9_isStreet (ctX9_isStreet rfl) cf_9 sx_0 kx_0 tw_442 ⟨Nat.le_of_ble_eq_true rfl, Nat.le_of_ble_eq_true rfl⟩ rfl hl.1 (Nat.le_of_ble_eq_true rfl) ⟨Nat.le_refl _, Nat.le_refl _⟩ hP hS dX9_dam_1) hS (fun H locs hP hS => ?_)
  refine lv_if_ne (tgt := 10) hx hb dX9_dam_4 (by decide) (fun c_ => ?_) (fun c_ => ?_)
  · replace h := if_f c_ h
    refine lv_iload_n hx hb dX9_dam_10 rfl (lv_at hl 1 rfl) ?_
    refine lv_iconst (v := 1) hx hb dX9_dam_11 (by decide) ?_
    refine lv_bipush (v := 9) hx hb dX9_dam_12 (by decide) ?_
    refine end_i (run_s (As := [.int x1, .int (1 : Int32), .int (9 : Int32)]) (rest := []) C ca_X9_within (ctX9_within x1 (1 : Int32) (9 : Int32) rfl) tw_167 ⟨Nat.le_of_ble_eq_true rfl, Nat.le_of_ble_eq_true rfl⟩ rfl hl.1 (Nat.le_of_ble_eq_true rfl) ⟨Nat.le_refl _, Nat.le_refl _⟩ hP hS dX9_dam_14) hS (fun H locs hP hS => ?_)
    refine lv_if_eq (tgt := 39) hx hb dX9_dam_17 (by decide) (fun c_ => ?_) (fun c_ => ?_)
    · replace h := if_t c_ h
      refine lv_ldc hx hb hown (hts _ tw_162) dX9_dam_39 ?_
      exact r_reti C hP hS (rt_ow1 h) (rt_ow2 h) dX9_dam_41
    · replace h := if_f c_ h
      refine lv_iload_n hx hb dX9_dam_20 rfl (lv_at hl 2 rfl) ?_
      refine lv_iconst (v := 1) hx hb dX9_dam_21 (by decide) ?_
      refine lv_bipush (v := 40) hx hb dX9_dam_22 (by decide) ?_
      refine end_i (run_s (As := [.int x2, .int (1 : Int32), .int (40 : Int32)]) (rest := []) C ca_X9_within (ctX9_within x2 (1 : Int32) (40 : Int32) rfl) tw_167 ⟨Nat.le_of_ble_eq_true rfl, Nat.le_of_ble_eq_true rfl⟩ rfl hl.1 (Nat.le_of_ble_eq_true rfl) ⟨Nat.le_refl _, Nat.le_refl _⟩ hP hS dX9_dam_24) hS (fun H locs hP hS => ?_)
      refine lv_if_eq (tgt := 39) hx hb dX9_dam_27 (by decide) (fun c_ => ?_) (fun c_ => ?_)
      · replace h := if_t c_ h
        refine lv_ldc hx hb hown (hts _ tw_162) dX9_dam_39 ?_
        exact r_reti C hP hS (rt_ow1 h) (rt_ow2 h) dX9_dam_41
      · replace h := if_f c_ h
        refine lv_iload_n hx hb dX9_dam_30 rfl (lv_at hl 3 rfl) ?_
        refine lv_iconst (v := 0) hx hb dX9_dam_31 (by decide) ?_
        refine lv_iconst (v := 1) hx hb dX9_dam_32 (by decide) ?_
        refine end_i (run_s (As := [.int x3, .int (0 : Int32), .int (1 : Int32)]) (rest := []) C ca_X9_within (ctX9_within x3 (0 : Int32) (1 : Int32) rfl) tw_167 ⟨Nat.le_of_ble_eq_true rfl, Nat.le_of_ble_eq_true rfl⟩ rfl hl.1 (Nat.le_of_ble_eq_true rfl) ⟨Nat.le_refl _, Nat.le_refl _⟩ hP hS dX9_dam_33) hS (fun H locs hP hS => ?_)
        refine lv_if_ne (tgt := 42) hx hb dX9_dam_36 (by decide) (fun c_ => ?_) (fun c_ => ?_)
        · replace h := if_f c_ h
          refine lv_aload_n hx hb dX9_dam_42 rfl (lv_at hl 0 rfl) ?_
          refine r_getr C cf_9 hP sx_0 kx_0 5 (by decide) rfl tw_32 dX9_dam_43 ?_
          refine lv_aload_n hx hb dX9_dam_46 rfl (lv_at hl 0 rfl) ?_
          refine r_getr C cf_9 hP sx_0 kx_0 2 (by decide) rfl tw_23 dX9_dam_47 ?_
          refine lv_iload_n hx hb dX9_dam_50 rfl (lv_at hl 1 rfl) ?_
          refine lv_iload_n hx hb dX9_dam_51 rfl (lv_at hl 2 rfl) ?_
          obtain ⟨q_5, hq_5, h⟩ := bd_inv h
          refine end_i (run_v (As := [.ref (adG g 36), .int x1, .int x2]) (rest := []) C ca_X5_bestDam (ctX5_bestDam 36 iv_36 x1 x2 hq_5) cf_5 sx_10 kx_10 tw_795 ⟨Nat.le_of_ble_eq_true rfl, Nat.le_of_ble_eq_true rfl⟩ rfl hl.1 (Nat.le_of_ble_eq_true rfl) ⟨Nat.le_refl _, Nat.le_refl _⟩ hP hS dX9_dam_52) hS (fun H locs hP hS => ?_)
          refine lv_istore (lv' := [(4, .int q_5.2), (0, .ref (adG g 0)), (1, .int x1), (2, .int x2), (3, .int x3)]) hx hb dX9_dam_55 hl (by decide) rfl (fun ls hl => ?_)
          refine lv_iload_n hx hb dX9_dam_57 rfl (lv_at hl 4 rfl) ?_
          refine lv_if_ne (tgt := 66) hx hb dX9_dam_58 (by decide) (fun c_ => ?_) (fun c_ => ?_)
          · replace h := if_f c_ h
            refine lv_aload_n hx hb dX9_dam_66 rfl (lv_at hl 1 rfl) ?_
            refine r_getr C cf_9 hP sx_0 kx_0 5 (by decide) rfl tw_32 dX9_dam_67 ?_
            refine lv_aload_n hx hb dX9_dam_70 rfl (lv_at hl 1 rfl) ?_
            refine r_getr C cf_9 hP sx_0 kx_0 2 (by decide) rfl tw_23 dX9_dam_71 ?_
            refine lv_iload hx hb dX9_dam_74 (lv_at hl 0 rfl) ?_
            refine lv_iload_n hx hb dX9_dam_76 rfl (lv_at hl 2 rfl) ?_
            refine lv_iload_n hx hb dX9_dam_77 rfl (lv_at hl 3 rfl) ?_
            obtain ⟨q_6, hq_6, h⟩ := bd_inv h
            refine end_i (run_v (As := [.ref (adG g 36), .int q_5.2, .int x1, .int x2]) (rest := []) C ca_X5_stonesWithDam (ctX5_stonesWithDam 36 iv_36 q_5.2 x1 x2 hq_6) cf_5 sx_10 kx_10 tw_811 ⟨Nat.le_of_ble_eq_true rfl, Nat.le_of_ble_eq_true rfl⟩ rfl hl.1 (Nat.le_of_ble_eq_true rfl) ⟨Nat.le_refl _, Nat.le_refl _⟩ hP hS dX9_dam_78) hS (fun H locs hP hS => ?_)
            exact r_reti C hP hS (rt_ow1 h) (rt_ow2 h) dX9_dam_81
          · replace h := if_t c_ h
            refine lv_iload hx hb dX9_dam_61 (lv_at hl 0 rfl) ?_
            refine lv_goto (tgt := 81) hx hb dX9_dam_63 (by decide) ?_
            exact r_reti C hP hS (rt_ow1 h) (rt_ow2 h) dX9_dam_81
        · replace h := if_t c_ h
          refine lv_ldc hx hb hown (hts _ tw_162) dX9_dam_39 ?_
          exact r_reti C hP hS (rt_ow1 h) (rt_ow2 h) dX9_dam_41
  · replace h := if_t c_ h
    refine lv_ldc hx hb hown (hts _ tw_426) dX9_dam_7 ?_
    exact r_reti C hP hS (rt_ow1 h) (rt_ow2 h) dX9_dam_9

set_option maxRecDepth 100000 in
set_option maxHeartbeats 4000000 in
theorem ctX9_hold {l : Launch} {g : Gw} {σ : Sto} (x1 : Int32) (x2 : Int32) (x3 : Int32) {Rz : (Sto × Int32)} (h : fX9_hold σ x1 x2 x3 = some Rz) : MtG l yX9_hold cX9_hold 4 (some .int) 5 wkX g [.ref (adG g 0), .int x1, .int x2, .int x3] σ (QiS wkX g Rz.1 Rz.2) := by
  refine mt_of (by decide) (Nat.le_of_ble_eq_true rfl) (fun p e s m below meth c ls H locs C hP hS hl => ?_)
  have C : Cx wkX g p s m _ meth c cX9_hold 4 RX9 (some .int) := C
  have hl : lv_has ls 4 [(0, .ref (adG g 0)), (1, .int x1), (2, .int x2), (3, .int x3)] := hl
  obtain ⟨hx, hb, hml, hown, hts, hr, hlk, hK, hZ⟩ := id C
  unfold fX9_hold at h
  refine lv_aload_n hx hb dX9_hold_0 rfl (lv_at hl 0 rfl) ?_
  refine lv_iload_n hx hb dX9_hold_1 rfl (lv_at hl 1 rfl) ?_
  refine end_i (run_v (As := [.int x1]) (rest := []) C ca_X9_isRoom (ctX9_isRoom x1 rfl) cf_9 sx_0 kx_0 tw_516 ⟨Nat.le_of_ble_eq_true rfl, Nat.le_of_ble_eq_true rfl⟩ rfl hl.1 (Nat.le_of_ble_eq_true rfl) ⟨Nat.le_refl _, Nat.le_refl _⟩ hP hS dX9_hold_2) hS (fun H locs hP hS => ?_)
  refine lv_if_eq (tgt := 26) hx hb dX9_hold_5 (by decide) (fun c_ => ?_) (fun c_ => ?_)
  · replace h := if_t c_ h
    refine lv_ldc hx hb hown (hts _ tw_162) dX9_hold_26 ?_
    exact r_reti C hP hS (rt_ow1 h) (rt_ow2 h) dX9_hold_28
  · replace h := if_f c_ h
    refine lv_aload_n hx hb dX9_hold_8 rfl (lv_at hl 0 rfl) ?_
    refine lv_iload_n hx hb dX9_hold_9 rfl (lv_at hl 2 rfl) ?_
    refine end_i (run_v (As := [.int x2]) (rest := []) C ca_X9_isRoom (ctX9_isRoom x2 rfl) cf_9 sx_0 kx_0 tw_516 ⟨Nat.le_of_ble_eq_true rfl, Nat.le_of_ble_eq_true rfl⟩ rfl hl.1 (Nat.le_of_ble_eq_true rfl) ⟨Nat.le_refl _, Nat.le_refl _⟩ hP hS dX9_hold_10) hS (fun H locs hP hS => ?_)
    refine lv_if_eq (tgt := 26) hx hb dX9_hold_13 (by decide) (fun c_ => ?_) (fun c_ => ?_)
    · replace h := if_t c_ h
      refine lv_ldc hx hb hown (hts _ tw_162) dX9_hold_26 ?_
      exact r_reti C hP hS (rt_ow1 h) (rt_ow2 h) dX9_hold_28
    · replace h := if_f c_ h
      refine lv_iload_n hx hb dX9_hold_16 rfl (lv_at hl 3 rfl) ?_
      refine lv_iconst (v := 1) hx hb dX9_hold_17 (by decide) ?_
      refine lv_bipush (v := 40) hx hb dX9_hold_18 (by decide) ?_
      refine end_i (run_s (As := [.int x3, .int (1 : Int32), .int (40 : Int32)]) (rest := []) C ca_X9_within (ctX9_within x3 (1 : Int32) (40 : Int32) rfl) tw_167 ⟨Nat.le_of_ble_eq_true rfl, Nat.le_of_ble_eq_true rfl⟩ rfl hl.1 (Nat.le_of_ble_eq_true rfl) ⟨Nat.le_refl _, Nat.le_refl _⟩ hP hS dX9_hold_20) hS (fun H locs hP hS => ?_)
      refine lv_if_ne (tgt := 29) hx hb dX9_hold_23 (by decide) (fun c_ => ?_) (fun c_ => ?_)
      · replace h := if_f c_ h
        refine lv_aload_n hx hb dX9_hold_29 rfl (lv_at hl 0 rfl) ?_
        refine r_getr C cf_9 hP sx_0 kx_0 5 (by decide) rfl tw_32 dX9_hold_30 ?_
        refine lv_aload_n hx hb dX9_hold_33 rfl (lv_at hl 0 rfl) ?_
        refine r_getr C cf_9 hP sx_0 kx_0 2 (by decide) rfl tw_23 dX9_hold_34 ?_
        refine lv_iload_n hx hb dX9_hold_37 rfl (lv_at hl 1 rfl) ?_
        refine lv_iload_n hx hb dX9_hold_38 rfl (lv_at hl 2 rfl) ?_
        refine lv_iload_n hx hb dX9_hold_39 rfl (lv_at hl 3 rfl) ?_
        obtain ⟨q_4, hq_4, h⟩ := bd_inv h
        refine end_i (run_v (As := [.ref (adG g 36), .int x1, .int x2, .int x3]) (rest := []) C ca_X5_leastWall (ctX5_leastWall 36 iv_36 x1 x2 x3 hq_4) cf_5 sx_10 kx_10 tw_821 ⟨Nat.le_of_ble_eq_true rfl, Nat.le_of_ble_eq_true rfl⟩ rfl hl.1 (Nat.le_of_ble_eq_true rfl) ⟨Nat.le_refl _, Nat.le_refl _⟩ hP hS dX9_hold_40) hS (fun H locs hP hS => ?_)
        exact r_reti C hP hS (rt_ow1 h) (rt_ow2 h) dX9_hold_43
      · replace h := if_t c_ h
        refine lv_ldc hx hb hown (hts _ tw_162) dX9_hold_26 ?_
        exact r_reti C hP hS (rt_ow1 h) (rt_ow2 h) dX9_hold_28

set_option maxRecDepth 100000 in
set_option maxHeartbeats 4000000 in
theorem ctX9_spare {l : Launch} {g : Gw} {σ : Sto} (x1 : Int32) {Rz : (Sto × Int32)} (h : fX9_spare σ x1 = some Rz) : MtG l yX9_spare cX9_spare 2 (some .int) 6 wkX g [.ref (adG g 0), .int x1] σ (QiS wkX g Rz.1 Rz.2) := by
  refine mt_of (by decide) (Nat.le_of_ble_eq_true rfl) (fun p e s m below meth c ls H locs C hP hS hl => ?_)
  have C : Cx wkX g p s m _ meth c cX9_spare 2 RX9 (some .int) := C
  have hl : lv_has ls 2 [(0, .ref (adG g 0)), (1, .int x1)] := hl
  obtain ⟨hx, hb, hml, hown, hts, hr, hlk, hK, hZ⟩ := id C
  unfold fX9_spare at h
  refine lv_aload_n hx hb dX9_spare_0 rfl (lv_at hl 0 rfl) ?_
  refine end_i (run_v (As := []) (rest := []) C ca_X9_isStreet (ctX9_isStreet rfl) cf_9 sx_0 kx_0 tw_442 ⟨Nat.le_of_ble_eq_true rfl, Nat.le_of_ble_eq_true rfl⟩ rfl hl.1 (Nat.le_of_ble_eq_true rfl) ⟨Nat.le_refl _, Nat.le_refl _⟩ hP hS dX9_spare_1) hS (fun H locs hP hS => ?_)
  refine lv_if_ne (tgt := 10) hx hb dX9_spare_4 (by decide) (fun c_ => ?_) (fun c_ => ?_)
  · replace h := if_f c_ h
    refine lv_iload_n hx hb dX9_spare_10 rfl (lv_at hl 1 rfl) ?_
    refine lv_iconst (v := 1) hx hb dX9_spare_11 (by decide) ?_
    refine lv_bipush (v := 40) hx hb dX9_spare_12 (by decide) ?_
    refine end_i (run_s (As := [.int x1, .int (1 : Int32), .int (40 : Int32)]) (rest := []) C ca_X9_within (ctX9_within x1 (1 : Int32) (40 : Int32) rfl) tw_167 ⟨Nat.le_of_ble_eq_true rfl, Nat.le_of_ble_eq_true rfl⟩ rfl hl.1 (Nat.le_of_ble_eq_true rfl) ⟨Nat.le_refl _, Nat.le_refl _⟩ hP hS dX9_spare_14) hS (fun H locs hP hS => ?_)
    refine lv_if_ne (tgt := 23) hx hb dX9_spare_17 (by decide) (fun c_ => ?_) (fun c_ => ?_)
    · replace h := if_f c_ h
      refine lv_aload_n hx hb dX9_spare_23 rfl (lv_at hl 0 rfl) ?_
      refine r_getr C cf_9 hP sx_0 kx_0 5 (by decide) rfl tw_32 dX9_spare_24 ?_
      refine lv_aload_n hx hb dX9_spare_27 rfl (lv_at hl 0 rfl) ?_
      refine r_getr C cf_9 hP sx_0 kx_0 2 (by decide) rfl tw_23 dX9_spare_28 ?_
      refine lv_iload_n hx hb dX9_spare_31 rfl (lv_at hl 1 rfl) ?_
      obtain ⟨q_3, hq_3, h⟩ := bd_inv h
      refine end_i (run_v (As := [.ref (adG g 36), .int x1]) (rest := []) C ca_X5_mostFeed (ctX5_mostFeed 36 iv_36 x1 hq_3) cf_5 sx_10 kx_10 tw_833 ⟨Nat.le_of_ble_eq_true rfl, Nat.le_of_ble_eq_true rfl⟩ rfl hl.1 (Nat.le_of_ble_eq_true rfl) ⟨Nat.le_refl _, Nat.le_refl _⟩ hP hS dX9_spare_32) hS (fun H locs hP hS => ?_)
      exact r_reti C hP hS (rt_ow1 h) (rt_ow2 h) dX9_spare_35
    · replace h := if_t c_ h
      refine lv_ldc hx hb hown (hts _ tw_162) dX9_spare_20 ?_
      exact r_reti C hP hS (rt_ow1 h) (rt_ow2 h) dX9_spare_22
  · replace h := if_t c_ h
    refine lv_ldc hx hb hown (hts _ tw_426) dX9_spare_7 ?_
    exact r_reti C hP hS (rt_ow1 h) (rt_ow2 h) dX9_spare_9

set_option maxRecDepth 100000 in
set_option maxHeartbeats 4000000 in
theorem ctX9_sets {l : Launch} {g : Gw} {σ : Sto} (x1 : Int32) (x2 : Int32) {Rz : Int32} (h : fX9_sets σ x1 x2 = some Rz) : MtG l yX9_sets cX9_sets 3 (some .int) 2 wkX g [.ref (adG g 0), .int x1, .int x2] σ (QiS wkX g σ Rz) := by
  refine mt_of (by decide) (Nat.le_of_ble_eq_true rfl) (fun p e s m below meth c ls H locs C hP hS hl => ?_)
  have C : Cx wkX g p s m _ meth c cX9_sets 3 RX9 (some .int) := C
  have hl : lv_has ls 3 [(0, .ref (adG g 0)), (1, .int x1), (2, .int x2)] := hl
  obtain ⟨hx, hb, hml, hown, hts, hr, hlk, hK, hZ⟩ := id C
  unfold fX9_sets at h
  refine lv_aload_n hx hb dX9_sets_0 rfl (lv_at hl 0 rfl) ?_
  refine end_i (run_v (As := []) (rest := []) C ca_X9_isStreet (ctX9_isStreet rfl) cf_9 sx_0 kx_0 tw_442 ⟨Nat.le_of_ble_eq_true rfl, Nat.le_of_ble_eq_true rfl⟩ rfl hl.1 (Nat.le_of_ble_eq_true rfl) ⟨Nat.le_refl _, Nat.le_refl _⟩ hP hS dX9_sets_1) hS (fun H locs hP hS => ?_)
  refine lv_if_ne (tgt := 10) hx hb dX9_sets_4 (by decide) (fun c_ => ?_) (fun c_ => ?_)
  · replace h := if_f c_ h
    refine lv_iload_n hx hb dX9_sets_10 rfl (lv_at hl 1 rfl) ?_
    refine lv_iconst (v := 0) hx hb dX9_sets_11 (by decide) ?_
    refine lv_bipush (v := 54) hx hb dX9_sets_12 (by decide) ?_
    refine end_i (run_s (As := [.int x1, .int (0 : Int32), .int (54 : Int32)]) (rest := []) C ca_X9_within (ctX9_within x1 (0 : Int32) (54 : Int32) rfl) tw_167 ⟨Nat.le_of_ble_eq_true rfl, Nat.le_of_ble_eq_true rfl⟩ rfl hl.1 (Nat.le_of_ble_eq_true rfl) ⟨Nat.le_refl _, Nat.le_refl _⟩ hP hS dX9_sets_14) hS (fun H locs hP hS => ?_)
    refine lv_if_eq (tgt := 29) hx hb dX9_sets_17 (by decide) (fun c_ => ?_) (fun c_ => ?_)
    · replace h := if_t c_ h
      refine lv_ldc hx hb hown (hts _ tw_162) dX9_sets_29 ?_
      exact r_reti C hP hS rfl (rt_o h) dX9_sets_31
    · replace h := if_f c_ h
      refine lv_iload_n hx hb dX9_sets_20 rfl (lv_at hl 2 rfl) ?_
      refine lv_iconst (v := 0) hx hb dX9_sets_21 (by decide) ?_
      refine lv_iconst (v := 2) hx hb dX9_sets_22 (by decide) ?_
      refine end_i (run_s (As := [.int x2, .int (0 : Int32), .int (2 : Int32)]) (rest := []) C ca_X9_within (ctX9_within x2 (0 : Int32) (2 : Int32) rfl) tw_167 ⟨Nat.le_of_ble_eq_true rfl, Nat.le_of_ble_eq_true rfl⟩ rfl hl.1 (Nat.le_of_ble_eq_true rfl) ⟨Nat.le_refl _, Nat.le_refl _⟩ hP hS dX9_sets_23) hS (fun H locs hP hS => ?_)
      refine lv_if_ne (tgt := 32) hx hb dX9_sets_26 (by decide) (fun c_ => ?_) (fun c_ => ?_)
      · replace h := if_f c_ h
        refine lv_aload_n hx hb dX9_sets_32 rfl (lv_at hl 0 rfl) ?_
        refine r_getr C cf_9 hP sx_0 kx_0 5 (by decide) rfl tw_32 dX9_sets_33 ?_
        refine lv_aload_n hx hb dX9_sets_36 rfl (lv_at hl 0 rfl) ?_
        refine r_getr C cf_9 hP sx_0 kx_0 2 (by decide) rfl tw_23 dX9_sets_37 ?_
        refine lv_iload_n hx hb dX9_sets_40 rfl (lv_at hl 1 rfl) ?_
        refine lv_iload_n hx hb dX9_sets_41 rfl (lv_at hl 2 rfl) ?_
        obtain ⟨q_4, hq_4, h⟩ := bd_inv h
        refine end_i (run_v (As := [.ref (adG g 36), .int x1, .int x2]) (rest := []) C ca_X5_setsSoHigh (ctX5_setsSoHigh 36 iv_36 x1 x2 hq_4) cf_5 sx_10 kx_10 tw_846 ⟨Nat.le_of_ble_eq_true rfl, Nat.le_of_ble_eq_true rfl⟩ rfl hl.1 (Nat.le_of_ble_eq_true rfl) ⟨Nat.le_refl _, Nat.le_refl _⟩ hP hS dX9_sets_42) hS (fun H locs hP hS => ?_)
        exact r_reti C hP hS rfl (rt_o h) dX9_sets_45
      · replace h := if_t c_ h
        refine lv_ldc hx hb hown (hts _ tw_162) dX9_sets_29 ?_
        exact r_reti C hP hS rfl (rt_o h) dX9_sets_31
  · replace h := if_t c_ h
    refine lv_ldc hx hb hown (hts _ tw_426) dX9_sets_7 ?_
    exact r_reti C hP hS rfl (rt_o h) dX9_sets_9

set_option maxRecDepth 100000 in
set_option maxHeartbeats 4000000 in
theorem ctX9_share {l : Launch} {g : Gw} {σ : Sto} (x1 : Int32) (x2 : Int32) {Rz : Int32} (h : fX9_share σ x1 x2 = some Rz) : MtG l yX9_share cX9_share 3 (some .int) 2 wkX g [.ref (adG g 0), .int x1, .int x2] σ (QiS wkX g σ Rz) := by
  refine mt_of (by decide) (Nat.le_of_ble_eq_true rfl) (fun p e s m below meth c ls H locs C hP hS hl => ?_)
  have C : Cx wkX g p s m _ meth c cX9_share 3 RX9 (some .int) := C
  have hl : lv_has ls 3 [(0, .ref (adG g 0)), (1, .int x1), (2, .int x2)] := hl
  obtain ⟨hx, hb, hml, hown, hts, hr, hlk, hK, hZ⟩ := id C
  unfold fX9_share at h
  refine lv_aload_n hx hb dX9_share_0 rfl (lv_at hl 0 rfl) ?_
  refine lv_iload_n hx hb dX9_share_1 rfl (lv_at hl 1 rfl) ?_
  refine end_i (run_v (As := [.int x1]) (rest := []) C ca_X9_isThing (ctX9_isThing x1 rfl) cf_9 sx_0 kx_0 tw_534 ⟨Nat.le_of_ble_eq_true rfl, Nat.le_of_ble_eq_true rfl⟩ rfl hl.1 (Nat.le_of_ble_eq_true rfl) ⟨Nat.le_refl _, Nat.le_refl _⟩ hP hS dX9_share_2) hS (fun H locs hP hS => ?_)
  refine lv_if_eq (tgt := 19) hx hb dX9_share_5 (by decide) (fun c_ => ?_) (fun c_ => ?_)
  · replace h := if_t c_ h
    refine lv_ldc hx hb hown (hts _ tw_162) dX9_share_19 ?_
    exact r_reti C hP hS rfl (rt_o h) dX9_share_21
  · replace h := if_f c_ h
    refine lv_iload_n hx hb dX9_share_8 rfl (lv_at hl 2 rfl) ?_
    refine lv_iconst (v := 0) hx hb dX9_share_9 (by decide) ?_
    refine lv_sipush (v := 999) hx hb dX9_share_10 (by decide) ?_
    refine end_i (run_s (As := [.int x2, .int (0 : Int32), .int (999 : Int32)]) (rest := []) C ca_X9_within (ctX9_within x2 (0 : Int32) (999 : Int32) rfl) tw_167 ⟨Nat.le_of_ble_eq_true rfl, Nat.le_of_ble_eq_true rfl⟩ rfl hl.1 (Nat.le_of_ble_eq_true rfl) ⟨Nat.le_refl _, Nat.le_refl _⟩ hP hS dX9_share_13) hS (fun H locs hP hS => ?_)
    refine lv_if_ne (tgt := 22) hx hb dX9_share_16 (by decide) (fun c_ => ?_) (fun c_ => ?_)
    · replace h := if_f c_ h
      refine lv_aload_n hx hb dX9_share_22 rfl (lv_at hl 0 rfl) ?_
      refine r_getr C cf_9 hP sx_0 kx_0 5 (by decide) rfl tw_32 dX9_share_23 ?_
      refine lv_aload_n hx hb dX9_share_26 rfl (lv_at hl 0 rfl) ?_
      refine r_getr C cf_9 hP sx_0 kx_0 2 (by decide) rfl tw_23 dX9_share_27 ?_
      refine lv_iload_n hx hb dX9_share_30 rfl (lv_at hl 1 rfl) ?_
      refine lv_iload_n hx hb dX9_share_31 rfl (lv_at hl 2 rfl) ?_
      obtain ⟨q_3, hq_3, h⟩ := bd_inv h
      refine end_i (run_v (As := [.ref (adG g 36), .int x1, .int x2]) (rest := []) C ca_X5_partOf (ctX5_partOf 36 iv_36 x1 x2 hq_3) cf_5 sx_10 kx_10 tw_872 ⟨Nat.le_of_ble_eq_true rfl, Nat.le_of_ble_eq_true rfl⟩ rfl hl.1 (Nat.le_of_ble_eq_true rfl) ⟨Nat.le_refl _, Nat.le_refl _⟩ hP hS dX9_share_32) hS (fun H locs hP hS => ?_)
      exact r_reti C hP hS rfl (rt_o h) dX9_share_35
    · replace h := if_t c_ h
      refine lv_ldc hx hb hown (hts _ tw_162) dX9_share_19 ?_
      exact r_reti C hP hS rfl (rt_o h) dX9_share_21

set_option maxRecDepth 100000 in
set_option maxHeartbeats 4000000 in
theorem ctX9_byTurns {l : Launch} {g : Gw} {σ : Sto} (x1 : Int32) (x2 : Int32) {Rz : (Sto × Int32)} (h : fX9_byTurns σ x1 x2 = some Rz) : MtG l yX9_byTurns cX9_byTurns 3 (some .int) 20 wkX g [.ref (adG g 0), .int x1, .int x2] σ (QiS wkX g Rz.1 Rz.2) := by
  refine mt_of (by decide) (Nat.le_of_ble_eq_true rfl) (fun p e s m below meth c ls H locs C hP hS hl => ?_)
  have C : Cx wkX g p s m _ meth c cX9_byTurns 3 RX9 (some .int) := C
  have hl : lv_has ls 3 [(0, .ref (adG g 0)), (1, .int x1), (2, .int x2)] := hl
  obtain ⟨hx, hb, hml, hown, hts, hr, hlk, hK, hZ⟩ := id C
  unfold fX9_byTurns at h
  refine lv_aload_n hx hb dX9_byTurns_0 rfl (lv_at hl 0 rfl) ?_
  refine end_i (run_v (As := []) (rest := []) C ca_X9_isStreet (ctX9_isStreet rfl) cf_9 sx_0 kx_0 tw_442 ⟨Nat.le_of_ble_eq_true rfl, Nat.le_of_ble_eq_true rfl⟩ rfl hl.1 (Nat.le_of_ble_eq_true rfl) ⟨Nat.le_refl _, Nat.le_refl _⟩ hP hS dX9_byTurns_1) hS (fun H locs hP hS => ?_)
  refine lv_if_ne (tgt := 10) hx hb dX9_byTurns_4 (by decide) (fun c_ => ?_) (fun c_ => ?_)
  · replace h := if_f c_ h
    refine lv_iload_n hx hb dX9_byTurns_10 rfl (lv_at hl 1 rfl) ?_
    refine lv_iconst (v := 0) hx hb dX9_byTurns_11 (by decide) ?_
    refine lv_iconst (v := 4) hx hb dX9_byTurns_12 (by decide) ?_
    refine end_i (run_s (As := [.int x1, .int (0 : Int32), .int (4 : Int32)]) (rest := []) C ca_X9_within (ctX9_within x1 (0 : Int32) (4 : Int32) rfl) tw_167 ⟨Nat.le_of_ble_eq_true rfl, Nat.le_of_ble_eq_true rfl⟩ rfl hl.1 (Nat.le_of_ble_eq_true rfl) ⟨Nat.le_refl _, Nat.le_refl _⟩ hP hS dX9_byTurns_13) hS (fun H locs hP hS => ?_)
    refine lv_if_eq (tgt := 29) hx hb dX9_byTurns_16 (by decide) (fun c_ => ?_) (fun c_ => ?_)
    · replace h := if_t c_ h
      refine lv_ldc hx hb hown (hts _ tw_162) dX9_byTurns_29 ?_
      exact r_reti C hP hS (rt_ow1 h) (rt_ow2 h) dX9_byTurns_31
    · replace h := if_f c_ h
      refine lv_iload_n hx hb dX9_byTurns_19 rfl (lv_at hl 2 rfl) ?_
      refine lv_iconst (v := 1) hx hb dX9_byTurns_20 (by decide) ?_
      refine lv_bipush (v := 20) hx hb dX9_byTurns_21 (by decide) ?_
      refine end_i (run_s (As := [.int x2, .int (1 : Int32), .int (20 : Int32)]) (rest := []) C ca_X9_within (ctX9_within x2 (1 : Int32) (20 : Int32) rfl) tw_167 ⟨Nat.le_of_ble_eq_true rfl, Nat.le_of_ble_eq_true rfl⟩ rfl hl.1 (Nat.le_of_ble_eq_true rfl) ⟨Nat.le_refl _, Nat.le_refl _⟩ hP hS dX9_byTurns_23) hS (fun H locs hP hS => ?_)
      refine lv_if_ne (tgt := 32) hx hb dX9_byTurns_26 (by decide) (fun c_ => ?_) (fun c_ => ?_)
      · replace h := if_f c_ h
        refine lv_aload_n hx hb dX9_byTurns_32 rfl (lv_at hl 0 rfl) ?_
        refine r_getr C cf_9 hP sx_0 kx_0 7 (by decide) rfl tw_40 dX9_byTurns_33 ?_
        refine lv_aload_n hx hb dX9_byTurns_36 rfl (lv_at hl 0 rfl) ?_
        refine r_getr C cf_9 hP sx_0 kx_0 2 (by decide) rfl tw_23 dX9_byTurns_37 ?_
        refine lv_iload_n hx hb dX9_byTurns_40 rfl (lv_at hl 1 rfl) ?_
        refine lv_iload_n hx hb dX9_byTurns_41 rfl (lv_at hl 2 rfl) ?_
        obtain ⟨q_4, hq_4, h⟩ := bd_inv h
        refine end_i (run_v (As := [.ref (adG g 36), .int x1, .int x2]) (rest := []) C ca_X7_play (ctX7_play 36 iv_36 x1 x2 hq_4) cf_7 sx_21 kx_21 tw_885 ⟨Nat.le_of_ble_eq_true rfl, Nat.le_of_ble_eq_true rfl⟩ rfl hl.1 (Nat.le_of_ble_eq_true rfl) ⟨Nat.le_refl _, Nat.le_refl _⟩ hP hS dX9_byTurns_42) hS (fun H locs hP hS => ?_)
        exact r_reti C hP hS (rt_ow1 h) (rt_ow2 h) dX9_byTurns_45
      · replace h := if_t c_ h
        refine lv_ldc hx hb hown (hts _ tw_162) dX9_byTurns_29 ?_
        exact r_reti C hP hS (rt_ow1 h) (rt_ow2 h) dX9_byTurns_31
  · replace h := if_t c_ h
    refine lv_ldc hx hb hown (hts _ tw_426) dX9_byTurns_7 ?_
    exact r_reti C hP hS (rt_ow1 h) (rt_ow2 h) dX9_byTurns_9

set_option maxRecDepth 100000 in
set_option maxHeartbeats 4000000 in
theorem ctX9_who {l : Launch} {g : Gw} {σ : Sto} (x1 : Int32) (x2 : Int32) (x3 : Int32) (x4 : Int32) (x5 : Int32) {Rz : (Sto × Int32)} (h : fX9_who σ x1 x2 x3 x4 x5 = some Rz) : MtG l yX9_who cX9_who 7 (some .int) 5 wkX g [.ref (adG g 0), .int x1, .int x2, .int x3, .int x4, .int x5] σ (QiS wkX g Rz.1 Rz.2) := by
  refine mt_of (by decide) (Nat.le_of_ble_eq_true rfl) (fun p e s m below meth c ls H locs C hP hS hl => ?_)
  have C : Cx wkX g p s m _ meth c cX9_who 7 RX9 (some .int) := C
  have hl : lv_has ls 7 [(0, .ref (adG g 0)), (1, .int x1), (2, .int x2), (3, .int x3), (4, .int x4), (5, .int x5)] := hl
  obtain ⟨hx, hb, hml, hown, hts, hr, hlk, hK, hZ⟩ := id C
  unfold fX9_who at h
  refine lv_aload_n hx hb dX9_who_0 rfl (lv_at hl 0 rfl) ?_
  refine lv_iload_n hx hb dX9_who_1 rfl (lv_at hl 1 rfl) ?_
  refine end_i (run_v (As := [.int x1]) (rest := []) C ca_X9_isThing (ctX9_isThing x1 rfl) cf_9 sx_0 kx_0 tw_534 ⟨Nat.le_of_ble_eq_true rfl, Nat.le_of_ble_eq_true rfl⟩ rfl hl.1 (Nat.le_of_ble_eq_true rfl) ⟨Nat.le_refl _, Nat.le_refl _⟩ hP hS dX9_who_2) hS (fun H locs hP hS => ?_)
  refine lv_if_eq (tgt := 39) hx hb dX9_who_5 (by decide) (fun c_ => ?_) (fun c_ => ?_)
  · replace h := if_t c_ h
    refine lv_ldc hx hb hown (hts _ tw_162) dX9_who_39 ?_
    exact r_reti C hP hS (rt_ow1 h) (rt_ow2 h) dX9_who_41
  · replace h := if_f c_ h
    refine lv_iload_n hx hb dX9_who_8 rfl (lv_at hl 2 rfl) ?_
    refine lv_iconst (v := 0) hx hb dX9_who_9 (by decide) ?_
    refine lv_iconst (v := 2) hx hb dX9_who_10 (by decide) ?_
    refine end_i (run_s (As := [.int x2, .int (0 : Int32), .int (2 : Int32)]) (rest := []) C ca_X9_within (ctX9_within x2 (0 : Int32) (2 : Int32) rfl) tw_167 ⟨Nat.le_of_ble_eq_true rfl, Nat.le_of_ble_eq_true rfl⟩ rfl hl.1 (Nat.le_of_ble_eq_true rfl) ⟨Nat.le_refl _, Nat.le_refl _⟩ hP hS dX9_who_11) hS (fun H locs hP hS => ?_)
    refine lv_if_eq (tgt := 39) hx hb dX9_who_14 (by decide) (fun c_ => ?_) (fun c_ => ?_)
    · replace h := if_t c_ h
      refine lv_ldc hx hb hown (hts _ tw_162) dX9_who_39 ?_
      exact r_reti C hP hS (rt_ow1 h) (rt_ow2 h) dX9_who_41
    · replace h := if_f c_ h
      refine lv_aload_n hx hb dX9_who_17 rfl (lv_at hl 0 rfl) ?_
      refine r_getr C cf_9 hP sx_0 kx_0 0 (by decide) rfl tw_15 dX9_who_18 ?_
      refine lv_iload_n hx hb dX9_who_21 rfl (lv_at hl 3 rfl) ?_
      refine end_i (run_v (As := [.int x3]) (rest := []) C ca_X4_isNumber (ctX4_isNumber x3 rfl) cf_4 sx_1 kx_1 tw_163 ⟨Nat.le_of_ble_eq_true rfl, Nat.le_of_ble_eq_true rfl⟩ rfl hl.1 (Nat.le_of_ble_eq_true rfl) ⟨Nat.le_refl _, Nat.le_refl _⟩ hP hS dX9_who_22) hS (fun H locs hP hS => ?_)
      refine lv_if_eq (tgt := 39) hx hb dX9_who_25 (by decide) (fun c_ => ?_) (fun c_ => ?_)
      · replace h := if_t c_ h
        refine lv_ldc hx hb hown (hts _ tw_162) dX9_who_39 ?_
        exact r_reti C hP hS (rt_ow1 h) (rt_ow2 h) dX9_who_41
      · replace h := if_f c_ h
        refine lv_iload hx hb dX9_who_28 (lv_at hl 5 rfl) ?_
        refine lv_iconst (v := 1) hx hb dX9_who_30 (by decide) ?_
        refine lv_bipush (v := 12) hx hb dX9_who_31 (by decide) ?_
        refine end_i (run_s (As := [.int x5, .int (1 : Int32), .int (12 : Int32)]) (rest := []) C ca_X9_within (ctX9_within x5 (1 : Int32) (12 : Int32) rfl) tw_167 ⟨Nat.le_of_ble_eq_true rfl, Nat.le_of_ble_eq_true rfl⟩ rfl hl.1 (Nat.le_of_ble_eq_true rfl) ⟨Nat.le_refl _, Nat.le_refl _⟩ hP hS dX9_who_33) hS (fun H locs hP hS => ?_)
        refine lv_if_ne (tgt := 42) hx hb dX9_who_36 (by decide) (fun c_ => ?_) (fun c_ => ?_)
        · replace h := if_f c_ h
          refine lv_aload_n hx hb dX9_who_42 rfl (lv_at hl 0 rfl) ?_
          refine r_getr C cf_9 hP sx_0 kx_0 2 (by decide) rfl tw_23 dX9_who_43 ?_
          refine lv_iload_n hx hb dX9_who_46 rfl (lv_at hl 1 rfl) ?_
          obtain ⟨q_5, hq_5, h⟩ := bd_inv h
          refine end_i (run_v (As := [.int x1]) (rest := []) C ca_X8_stands (ctX8_stands 36 iv_36 x1 hq_5) cf_8 (sv_0 iv_36) (kv_0 iv_36) tw_538 ⟨Nat.le_of_ble_eq_true rfl, Nat.le_of_ble_eq_true rfl⟩ rfl hl.1 (Nat.le_of_ble_eq_true rfl) ⟨Nat.le_refl _, Nat.le_refl _⟩ hP hS dX9_who_47) hS (fun H locs hP hS => ?_)
          refine lv_if_ne (tgt := 56) hx hb dX9_who_50 (by decide) (fun c_ => ?_) (fun c_ => ?_)
          · replace h := if_f c_ h
            refine lv_aload_n hx hb dX9_who_56 rfl (lv_at hl 0 rfl) ?_
            refine r_getr C cf_9 hP sx_0 kx_0 0 (by decide) rfl tw_15 dX9_who_57 ?_
            refine lv_iload_n hx hb dX9_who_60 rfl (lv_at hl 3 rfl) ?_
            refine lv_iload hx hb dX9_who_61 (lv_at hl 4 rfl) ?_
            refine lv_iload hx hb dX9_who_63 (lv_at hl 5 rfl) ?_
            obtain ⟨q_6, hq_6, h⟩ := bd_inv h
            refine end_i (run_v (As := [.int x3, .int x4, .int x5]) (rest := []) C ca_X4_findingAt (ctX4_findingAt x3 x4 x5 hq_6) cf_4 sx_1 kx_1 tw_210 ⟨Nat.le_of_ble_eq_true rfl, Nat.le_of_ble_eq_true rfl⟩ rfl hl.1 (Nat.le_of_ble_eq_true rfl) ⟨Nat.le_refl _, Nat.le_refl _⟩ hP hS dX9_who_65) hS (fun H locs hP hS => ?_)
            refine lv_istore (lv' := [(6, .int q_6), (0, .ref (adG g 0)), (1, .int x1), (2, .int x2), (3, .int x3), (4, .int x4), (5, .int x5)]) hx hb dX9_who_68 hl (by decide) rfl (fun ls hl => ?_)
            refine lv_iload hx hb dX9_who_70 (lv_at hl 0 rfl) ?_
            refine lv_if_eq (tgt := 82) hx hb dX9_who_72 (by decide) (fun c_ => ?_) (fun c_ => ?_)
            · replace h := if_t c_ h
              refine lv_aload_n hx hb dX9_who_82 rfl (lv_at hl 1 rfl) ?_
              refine r_getr C cf_9 hP sx_0 kx_0 5 (by decide) rfl tw_32 dX9_who_83 ?_
              refine lv_aload_n hx hb dX9_who_86 rfl (lv_at hl 1 rfl) ?_
              refine r_getr C cf_9 hP sx_0 kx_0 0 (by decide) rfl tw_15 dX9_who_87 ?_
              refine lv_iload_n hx hb dX9_who_90 rfl (lv_at hl 4 rfl) ?_
              refine lv_iload hx hb dX9_who_91 (lv_at hl 5 rfl) ?_
              refine lv_iload hx hb dX9_who_93 (lv_at hl 6 rfl) ?_
              obtain ⟨q_7, hq_7, h⟩ := bd_inv h
              refine end_v (run_v (As := [.ref (adG g 1), .int x3, .int x4, .int x5]) (rest := []) C ca_X5_hear (ctX5_hear x3 x4 x5 hq_7) cf_5 sx_10 kx_10 tw_937 ⟨Nat.le_of_ble_eq_true rfl, Nat.le_of_ble_eq_true rfl⟩ rfl hl.1 (Nat.le_of_ble_eq_true rfl) ⟨Nat.le_refl _, Nat.le_refl _⟩ hP hS dX9_who_95) hS (fun H locs hP hS => ?_)
              refine lv_iload_n hx hb dX9_who_98 rfl (lv_at hl 3 rfl) ?_
              by_cases c_8 : x2 = (0 : Int32)
              · replace h := if_t c_8 h
                refine r_lin (tgt := 124) hx hb dX9_who_99 c_8 (by decide) rfl (by decide) ?_
                refine lv_aload_n hx hb dX9_who_124 rfl (lv_at hl 1 rfl) ?_
                refine lv_aload_n hx hb dX9_who_125 rfl (lv_at hl 1 rfl) ?_
                refine r_getr C cf_9 hP sx_0 kx_0 5 (by decide) rfl tw_32 dX9_who_126 ?_
                refine lv_aload_n hx hb dX9_who_129 rfl (lv_at hl 1 rfl) ?_
                refine r_getr C cf_9 hP sx_0 kx_0 2 (by decide) rfl tw_23 dX9_who_130 ?_
                refine lv_iload_n hx hb dX9_who_133 rfl (lv_at hl 2 rfl) ?_
                obtain ⟨q_9, hq_9, h⟩ := bd_inv h
                refine end_i (run_v (As := [.ref (adG g 36), .int x1]) (rest := [.ref (adG g 0)]) C ca_X5_kindsThatFit (ctX5_kindsThatFit 36 iv_36 x1 hq_9) cf_5 sx_10 kx_10 tw_946 ⟨Nat.le_of_ble_eq_true rfl, Nat.le_of_ble_eq_true rfl⟩ rfl hl.1 (Nat.le_of_ble_eq_true rfl) ⟨Nat.le_refl _, Nat.le_refl _⟩ hP hS dX9_who_134) hS (fun H locs hP hS => ?_)
                obtain ⟨q_10, eq_10⟩ : ∃ z, z = fX9_unfound q_9.1 q_9.2 := ⟨_, rfl⟩
                replace h := un_at eq_10 h
                refine end_i (run_v (As := [.int q_9.2]) (rest := []) C ca_X9_unfound (ctX9_unfound q_9.2 eq_10.symm) cf_9 sx_0 kx_0 tw_179 ⟨Nat.le_of_ble_eq_true rfl, Nat.le_of_ble_eq_true rfl⟩ rfl hl.1 (Nat.le_of_ble_eq_true rfl) ⟨Nat.le_refl _, Nat.le_refl _⟩ hP hS dX9_who_137) hS (fun H locs hP hS => ?_)
                exact r_reti C hP hS (rt_ow1 h) (rt_ow2 h) dX9_who_140
              replace h := if_f c_8 h
              by_cases c_11 : x2 = (1 : Int32)
              · replace h := if_t c_11 h
                refine r_lin (tgt := 141) hx hb dX9_who_99 c_11 (by decide) rfl (by decide) ?_
                refine lv_aload_n hx hb dX9_who_141 rfl (lv_at hl 1 rfl) ?_
                refine lv_aload_n hx hb dX9_who_142 rfl (lv_at hl 1 rfl) ?_
                refine r_getr C cf_9 hP sx_0 kx_0 5 (by decide) rfl tw_32 dX9_who_143 ?_
                refine lv_aload_n hx hb dX9_who_146 rfl (lv_at hl 1 rfl) ?_
                refine r_getr C cf_9 hP sx_0 kx_0 2 (by decide) rfl tw_23 dX9_who_147 ?_
                refine lv_iload_n hx hb dX9_who_150 rfl (lv_at hl 2 rfl) ?_
                obtain ⟨q_12, hq_12, h⟩ := bd_inv h
                refine end_i (run_v (As := [.ref (adG g 36), .int x1]) (rest := [.ref (adG g 0)]) C ca_X5_highsThatFit (ctX5_highsThatFit 36 iv_36 x1 hq_12) cf_5 sx_10 kx_10 tw_955 ⟨Nat.le_of_ble_eq_true rfl, Nat.le_of_ble_eq_true rfl⟩ rfl hl.1 (Nat.le_of_ble_eq_true rfl) ⟨Nat.le_refl _, Nat.le_refl _⟩ hP hS dX9_who_151) hS (fun H locs hP hS => ?_)
                obtain ⟨q_13, eq_13⟩ : ∃ z, z = fX9_unfound q_12.1 q_12.2 := ⟨_, rfl⟩
                replace h := un_at eq_13 h
                refine end_i (run_v (As := [.int q_12.2]) (rest := []) C ca_X9_unfound (ctX9_unfound q_12.2 eq_13.symm) cf_9 sx_0 kx_0 tw_179 ⟨Nat.le_of_ble_eq_true rfl, Nat.le_of_ble_eq_true rfl⟩ rfl hl.1 (Nat.le_of_ble_eq_true rfl) ⟨Nat.le_refl _, Nat.le_refl _⟩ hP hS dX9_who_154) hS (fun H locs hP hS => ?_)
                exact r_reti C hP hS (rt_ow1 h) (rt_ow2 h) dX9_who_157
              replace h := if_f c_11 h
              refine lv_lookup (off := 59) (tgt := 158) hx hb dX9_who_99 (by decide) (by show Op.lookupswitch.offset [(0, 25), (1, 42)] _ _ = _; rw [lv_osw (a := 0) c_8 rfl, lv_osw (a := 1) c_11 rfl]; rfl) (by decide) ?_
              refine lv_aload_n hx hb dX9_who_158 rfl (lv_at hl 1 rfl) ?_
              refine lv_aload_n hx hb dX9_who_159 rfl (lv_at hl 1 rfl) ?_
              refine r_getr C cf_9 hP sx_0 kx_0 5 (by decide) rfl tw_32 dX9_who_160 ?_
              refine lv_aload_n hx hb dX9_who_163 rfl (lv_at hl 1 rfl) ?_
              refine r_getr C cf_9 hP sx_0 kx_0 2 (by decide) rfl tw_23 dX9_who_164 ?_
              refine lv_iload_n hx hb dX9_who_167 rfl (lv_at hl 2 rfl) ?_
              obtain ⟨q_14, hq_14, h⟩ := bd_inv h
              refine end_i (run_v (As := [.ref (adG g 36), .int x1]) (rest := [.ref (adG g 0)]) C ca_X5_roomsThatFit (ctX5_roomsThatFit 36 iv_36 x1 hq_14) cf_5 sx_10 kx_10 tw_959 ⟨Nat.le_of_ble_eq_true rfl, Nat.le_of_ble_eq_true rfl⟩ rfl hl.1 (Nat.le_of_ble_eq_true rfl) ⟨Nat.le_refl _, Nat.le_refl _⟩ hP hS dX9_who_168) hS (fun H locs hP hS => ?_)
              obtain ⟨q_15, eq_15⟩ : ∃ z, z = fX9_unfound q_14.1 q_14.2 := ⟨_, rfl⟩
              replace h := un_at eq_15 h
              refine end_i (run_v (As := [.int q_14.2]) (rest := []) C ca_X9_unfound (ctX9_unfound q_14.2 eq_15.symm) cf_9 sx_0 kx_0 tw_179 ⟨Nat.le_of_ble_eq_true rfl, Nat.le_of_ble_eq_true rfl⟩ rfl hl.1 (Nat.le_of_ble_eq_true rfl) ⟨Nat.le_refl _, Nat.le_refl _⟩ hP hS dX9_who_171) hS (fun H locs hP hS => ?_)
              exact r_reti C hP hS (rt_ow1 h) (rt_ow2 h) dX9_who_174
            · replace h := if_f c_ h
              refine lv_aload_n hx hb dX9_who_75 rfl (lv_at hl 1 rfl) ?_
              refine lv_iload hx hb dX9_who_76 (lv_at hl 0 rfl) ?_
              obtain ⟨q_16, eq_16⟩ : ∃ z, z = fX9_found σ q_6 := ⟨_, rfl⟩
              replace h := un_at eq_16 h
              refine end_i (run_v (As := [.int q_6]) (rest := []) C ca_X9_found (ctX9_found q_6 eq_16.symm) cf_9 sx_0 kx_0 tw_170 ⟨Nat.le_of_ble_eq_true rfl, Nat.le_of_ble_eq_true rfl⟩ rfl hl.1 (Nat.le_of_ble_eq_true rfl) ⟨Nat.le_refl _, Nat.le_refl _⟩ hP hS dX9_who_78) hS (fun H locs hP hS => ?_)
              exact r_reti C hP hS (rt_ow1 h) (rt_ow2 h) dX9_who_81
          · replace h := if_t c_ h
            refine lv_ldc hx hb hown (hts _ tw_426) dX9_who_53 ?_
            exact r_reti C hP hS (rt_ow1 h) (rt_ow2 h) dX9_who_55
        · replace h := if_t c_ h
          refine lv_ldc hx hb hown (hts _ tw_162) dX9_who_39 ?_
          exact r_reti C hP hS (rt_ow1 h) (rt_ow2 h) dX9_who_41
