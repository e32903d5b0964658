set_option maxRecDepth 100000 in
set_option maxHeartbeats 4000000 in
theorem ctX10_feeding {l : Launch} {g : Gw} {σ : Sto} (x1 : Int32) {Rz : (Sto × Int32)} (h : fX10_feeding σ x1 = some Rz) : MtG l yX10_feeding cX10_feeding 3 (some .int) 2 wkM g [.ref (adG g 0), .int x1] σ (QiS wkM g Rz.1 Rz.2) := by
  refine mt_of (by decide) (Nat.le_of_ble_eq_true rfl) (fun p e s m below meth c ls H locs C hP hS hl => ?_)
  have C : Cx wkM g p s m _ meth c cX10_feeding 3 RX10 (some .int) := C
  have hl : lv_has ls 3 [(0, .ref (adG g 0)), (1, .int x1)] := hl
  obtain ⟨hx, hb, hml, hown, hts, hr, hlk, hK, hZ⟩ := id C
  unfold fX10_feeding at h
  refine lv_aload_n hx hb dX10_feeding_0 rfl (lv_at hl 0 rfl) ?_
  refine end_i (run_v (As := []) (rest := []) C ca_X10_isThere (ctX10_isThere rfl) cf_10 sm_0 km_0 tw_482 ⟨Nat.le_of_ble_eq_true rfl, Nat.le_of_ble_eq_true rfl⟩ rfl hl.1 (Nat.le_of_ble_eq_true rfl) ⟨Nat.le_refl _, Nat.le_refl _⟩ hP hS dX10_feeding_1) hS (fun H locs hP hS => ?_)
  refine lv_if_ne (tgt := 10) hx hb dX10_feeding_4 (by decide) (fun c_ => ?_) (fun c_ => ?_)
  · replace h := if_f c_ h
    refine lv_iload_n hx hb dX10_feeding_10 rfl (lv_at hl 1 rfl) ?_
    refine lv_i2l hx hb dX10_feeding_11 rfl ?_
    refine lv_lconst (v := 0) hx hb dX10_feeding_12 (by decide) ?_
    refine lv_ldc2 hx hb hown (hts _ tw_567) dX10_feeding_13 ?_
    refine end_i (run_s (As := [.long x1.toInt64, .long (0 : Int64), .long (20 : Int64)]) (rest := []) C ca_X10_in (ctX10_in x1.toInt64 (0 : Int64) (20 : Int64) rfl) tw_193 ⟨Nat.le_of_ble_eq_true rfl, Nat.le_of_ble_eq_true rfl⟩ rfl hl.1 (Nat.le_of_ble_eq_true rfl) ⟨Nat.le_refl _, Nat.le_refl _⟩ hP hS dX10_feeding_16) hS (fun H locs hP hS => ?_)
    refine lv_if_ne (tgt := 25) hx hb dX10_feeding_19 (by decide) (fun c_ => ?_) (fun c_ => ?_)
    · replace h := if_f c_ h
      refine lv_aload_n hx hb dX10_feeding_25 rfl (lv_at hl 0 rfl) ?_
      obtain ⟨q_3, hq_3, h⟩ := bd_inv h
      refine end_v (run_v (As := []) (rest := []) C ca_X10_notes (ctX10_notes hq_3) cf_10 sm_0 km_0 tw_486 ⟨Nat.le_of_ble_eq_true rfl, Nat.le_of_ble_eq_true rfl⟩ rfl hl.1 (Nat.le_of_ble_eq_true rfl) ⟨Nat.le_refl _, Nat.le_refl _⟩ hP hS dX10_feeding_26) hS (fun H locs hP hS => ?_)
      refine lv_aload_n hx hb dX10_feeding_29 rfl (lv_at hl 0 rfl) ?_
      refine r_getr C cf_10 hP sm_0 km_0 4 (by decide) rfl tw_147 dX10_feeding_30 ?_
      refine lv_iconst (v := 2) hx hb dX10_feeding_33 (by decide) ?_
      refine r_iald C hP sm_4 km_4 (j := 2) (by decide) (by decide) dX10_feeding_34 ?_
      refine lv_topi (fun x_4 ex_4 => ?_)
      replace h := un_at ex_4 h
      refine lv_istore_n (lv' := [(2, .int x_4), (0, .ref (adG g 0)), (1, .int x1)]) hx hb dX10_feeding_35 rfl hl (by decide) rfl (fun ls hl => ?_)
      refine lv_aload_n hx hb dX10_feeding_36 rfl (lv_at hl 1 rfl) ?_
      refine r_getr C cf_10 hP sm_0 km_0 4 (by decide) rfl tw_147 dX10_feeding_37 ?_
      refine lv_iconst (v := 2) hx hb dX10_feeding_40 (by decide) ?_
      refine lv_iload_n hx hb dX10_feeding_41 rfl (lv_at hl 2 rfl) ?_
      refine r_iast C hP hS sm_4 km_4 (j := 2) (by decide) (by decide) dX10_feeding_42 (fun H locs σ_5 eσ_5 hP hS => ?_)
      replace h := un_at eσ_5 h
      refine lv_iload_n hx hb dX10_feeding_43 rfl (lv_at hl 0 rfl) ?_
      exact r_reti C hP hS (rt_ow1 h) (rt_ow2 h) dX10_feeding_44
    · replace h := if_t c_ h
      refine lv_ldc hx hb hown (hts _ tw_188) dX10_feeding_22 ?_
      exact r_reti C hP hS (rt_ow1 h) (rt_ow2 h) dX10_feeding_24
  · replace h := if_t c_ h
    refine lv_ldc hx hb hown (hts _ tw_436) dX10_feeding_7 ?_
    exact r_reti C hP hS (rt_ow1 h) (rt_ow2 h) dX10_feeding_9

set_option maxRecDepth 100000 in
set_option maxHeartbeats 4000000 in
theorem ctX10_dig {l : Launch} {g : Gw} {σ : Sto} (x1 : Int32) {Rz : (Sto × Int32)} (h : fX10_dig σ x1 = some Rz) : MtG l yX10_dig cX10_dig 2 (some .int) 2 wkM g [.ref (adG g 0), .int x1] σ (QiS wkM g Rz.1 Rz.2) := by
  refine mt_of (by decide) (Nat.le_of_ble_eq_true rfl) (fun p e s m below meth c ls H locs C hP hS hl => ?_)
  have C : Cx wkM g p s m _ meth c cX10_dig 2 RX10 (some .int) := C
  have hl : lv_has ls 2 [(0, .ref (adG g 0)), (1, .int x1)] := hl
  obtain ⟨hx, hb, hml, hown, hts, hr, hlk, hK, hZ⟩ := id C
  unfold fX10_dig at h
  refine lv_aload_n hx hb dX10_dig_0 rfl (lv_at hl 0 rfl) ?_
  refine lv_iload_n hx hb dX10_dig_1 rfl (lv_at hl 1 rfl) ?_
  refine end_i (run_v (As := [.int x1]) (rest := []) C ca_X10_isThing (ctX10_isThing x1 rfl) cf_10 sm_0 km_0 tw_551 ⟨Nat.le_of_ble_eq_true rfl, Nat.le_of_ble_eq_true rfl⟩ rfl hl.1 (Nat.le_of_ble_eq_true rfl) ⟨Nat.le_refl _, Nat.le_refl _⟩ hP hS dX10_dig_2) hS (fun H locs hP hS => ?_)
  refine lv_if_ne (tgt := 11) hx hb dX10_dig_5 (by decide) (fun c_ => ?_) (fun c_ => ?_)
  · replace h := if_f c_ h
    refine lv_aload_n hx hb dX10_dig_11 rfl (lv_at hl 0 rfl) ?_
    refine r_getr C cf_10 hP sm_0 km_0 4 (by decide) rfl tw_147 dX10_dig_12 ?_
    refine lv_bipush (v := 53) hx hb dX10_dig_15 (by decide) ?_
    refine lv_iload_n hx hb dX10_dig_17 rfl (lv_at hl 1 rfl) ?_
    refine lv_iadd hx hb dX10_dig_18 ?_
    obtain ⟨g_2, h⟩ := gd_inv h
    refine r_iald C hP sm_4 km_4 rfl g_2 dX10_dig_19 ?_
    refine lv_iconst (v := 2) hx hb dX10_dig_20 (by decide) ?_
    refine lv_icmp_eq (tgt := 27) hx hb dX10_dig_21 (by decide) (fun c_ => ?_) (fun c_ => ?_)
    · replace h := if_t c_ h
      refine lv_aload_n hx hb dX10_dig_27 rfl (lv_at hl 0 rfl) ?_
      obtain ⟨q_3, hq_3, h⟩ := bd_inv h
      refine end_v (run_v (As := []) (rest := []) C ca_X10_notes (ctX10_notes hq_3) cf_10 sm_0 km_0 tw_486 ⟨Nat.le_of_ble_eq_true rfl, Nat.le_of_ble_eq_true rfl⟩ rfl hl.1 (Nat.le_of_ble_eq_true rfl) ⟨Nat.le_refl _, Nat.le_refl _⟩ hP hS dX10_dig_28) hS (fun H locs hP hS => ?_)
      refine lv_aload_n hx hb dX10_dig_31 rfl (lv_at hl 0 rfl) ?_
      refine r_getr C cf_10 hP sm_0 km_0 4 (by decide) rfl tw_147 dX10_dig_32 ?_
      refine lv_bipush (v := 53) hx hb dX10_dig_35 (by decide) ?_
      refine lv_iload_n hx hb dX10_dig_37 rfl (lv_at hl 1 rfl) ?_
      refine lv_iadd hx hb dX10_dig_38 ?_
      refine lv_iconst (v := 1) hx hb dX10_dig_39 (by decide) ?_
      refine r_iast C hP hS sm_4 km_4 rfl g_2 dX10_dig_40 (fun H locs σ_4 eσ_4 hP hS => ?_)
      replace h := un_at eσ_4 h
      refine lv_aload_n hx hb dX10_dig_41 rfl (lv_at hl 0 rfl) ?_
      refine r_getr C cf_10 hP sm_0 km_0 4 (by decide) rfl tw_147 dX10_dig_42 ?_
      refine lv_iconst (v := 2) hx hb dX10_dig_45 (by decide) ?_
      obtain ⟨q_5, hq_5, h⟩ := bd_inv h
      refine end_i (run_s (As := [.ref (adG g 4), .int (2 : Int32)]) (rest := []) C ca_X10_those (ctX10_those 4 ⟨sm_4, km_4⟩ (2 : Int32) hq_5) tw_508 ⟨Nat.le_of_ble_eq_true rfl, Nat.le_of_ble_eq_true rfl⟩ rfl hl.1 (Nat.le_of_ble_eq_true rfl) ⟨Nat.le_refl _, Nat.le_refl _⟩ hP hS dX10_dig_46) hS (fun H locs hP hS => ?_)
      exact r_reti C hP hS (rt_ow1 h) (rt_ow2 h) dX10_dig_49
    · replace h := if_f c_ h
      refine lv_ldc hx hb hown (hts _ tw_436) dX10_dig_24 ?_
      exact r_reti C hP hS (rt_ow1 h) (rt_ow2 h) dX10_dig_26
  · replace h := if_t c_ h
    refine lv_ldc hx hb hown (hts _ tw_188) dX10_dig_8 ?_
    exact r_reti C hP hS (rt_ow1 h) (rt_ow2 h) dX10_dig_10

set_option maxRecDepth 100000 in
set_option maxHeartbeats 4000000 in
theorem ctX10_thing {l : Launch} {g : Gw} {σ : Sto} (x1 : Int32) (x2 : Int32) {Rz : Int32} (h : fX10_thing σ x1 x2 = some Rz) : MtG l yX10_thing cX10_thing 3 (some .int) 2 wkM g [.ref (adG g 0), .int x1, .int x2] σ (QiS wkM g σ Rz) := by
  refine mt_of (by decide) (Nat.le_of_ble_eq_true rfl) (fun p e s m below meth c ls H locs C hP hS hl => ?_)
  have C : Cx wkM g p s m _ meth c cX10_thing 3 RX10 (some .int) := C
  have hl : lv_has ls 3 [(0, .ref (adG g 0)), (1, .int x1), (2, .int x2)] := hl
  obtain ⟨hx, hb, hml, hown, hts, hr, hlk, hK, hZ⟩ := id C
  unfold fX10_thing at h
  refine lv_aload_n hx hb dX10_thing_0 rfl (lv_at hl 0 rfl) ?_
  refine lv_iload_n hx hb dX10_thing_1 rfl (lv_at hl 1 rfl) ?_
  refine end_i (run_v (As := [.int x1]) (rest := []) C ca_X10_isThing (ctX10_isThing x1 rfl) cf_10 sm_0 km_0 tw_551 ⟨Nat.le_of_ble_eq_true rfl, Nat.le_of_ble_eq_true rfl⟩ rfl hl.1 (Nat.le_of_ble_eq_true rfl) ⟨Nat.le_refl _, Nat.le_refl _⟩ hP hS dX10_thing_2) hS (fun H locs hP hS => ?_)
  refine lv_if_eq (tgt := 20) hx hb dX10_thing_5 (by decide) (fun c_ => ?_) (fun c_ => ?_)
  · replace h := if_t c_ h
    refine lv_ldc hx hb hown (hts _ tw_188) dX10_thing_20 ?_
    exact r_reti C hP hS rfl (rt_o h) dX10_thing_22
  · replace h := if_f c_ h
    refine lv_iload_n hx hb dX10_thing_8 rfl (lv_at hl 2 rfl) ?_
    refine lv_i2l hx hb dX10_thing_9 rfl ?_
    refine lv_lconst (v := 0) hx hb dX10_thing_10 (by decide) ?_
    refine lv_ldc2 hx hb hown (hts _ tw_187) dX10_thing_11 ?_
    refine end_i (run_s (As := [.long x2.toInt64, .long (0 : Int64), .long (2 : Int64)]) (rest := []) C ca_X10_in (ctX10_in x2.toInt64 (0 : Int64) (2 : Int64) rfl) tw_193 ⟨Nat.le_of_ble_eq_true rfl, Nat.le_of_ble_eq_true rfl⟩ rfl hl.1 (Nat.le_of_ble_eq_true rfl) ⟨Nat.le_refl _, Nat.le_refl _⟩ hP hS dX10_thing_14) hS (fun H locs hP hS => ?_)
    refine lv_if_ne (tgt := 23) hx hb dX10_thing_17 (by decide) (fun c_ => ?_) (fun c_ => ?_)
    · replace h := if_f c_ h
      refine lv_iload_n hx hb dX10_thing_23 rfl (lv_at hl 2 rfl) ?_
      refine lv_if_ne (tgt := 39) hx hb dX10_thing_24 (by decide) (fun c_ => ?_) (fun c_ => ?_)
      · replace h := if_f c_ h
        refine lv_iload_n hx hb dX10_thing_39 rfl (lv_at hl 2 rfl) ?_
        refine lv_iconst (v := 1) hx hb dX10_thing_40 (by decide) ?_
        refine lv_icmp_ne (tgt := 55) hx hb dX10_thing_41 (by decide) (fun c_ => ?_) (fun c_ => ?_)
        · replace h := if_f c_ h
          refine lv_aload_n hx hb dX10_thing_55 rfl (lv_at hl 0 rfl) ?_
          refine r_getr C cf_10 hP sm_0 km_0 4 (by decide) rfl tw_147 dX10_thing_56 ?_
          refine lv_bipush (v := 53) hx hb dX10_thing_59 (by decide) ?_
          refine lv_iload_n hx hb dX10_thing_61 rfl (lv_at hl 1 rfl) ?_
          refine lv_iadd hx hb dX10_thing_62 ?_
          obtain ⟨g_3, h⟩ := gd_inv h
          refine r_iald C hP sm_4 km_4 rfl g_3 dX10_thing_63 ?_
          refine lv_iconst (v := 1) hx hb dX10_thing_64 (by decide) ?_
          refine lv_icmp_ne (tgt := 72) hx hb dX10_thing_65 (by decide) (fun c_ => ?_) (fun c_ => ?_)
          · replace h := if_f c_ h
            refine lv_aload_n hx hb dX10_thing_72 rfl (lv_at hl 0 rfl) ?_
            refine r_getr C cf_10 hP sm_0 km_0 4 (by decide) rfl tw_147 dX10_thing_73 ?_
            refine lv_bipush (v := 15) hx hb dX10_thing_76 (by decide) ?_
            refine lv_aload_n hx hb dX10_thing_78 rfl (lv_at hl 0 rfl) ?_
            refine r_getr C cf_10 hP sm_0 km_0 4 (by decide) rfl tw_147 dX10_thing_79 ?_
            refine lv_bipush (v := 47) hx hb dX10_thing_82 (by decide) ?_
            refine lv_iload_n hx hb dX10_thing_84 rfl (lv_at hl 1 rfl) ?_
            refine lv_iadd hx hb dX10_thing_85 ?_
            obtain ⟨g_4, h⟩ := gd_inv h
            refine r_iald C hP sm_4 km_4 rfl g_4 dX10_thing_86 ?_
            refine lv_iadd hx hb dX10_thing_87 ?_
            obtain ⟨g_5, h⟩ := gd_inv h
            refine r_iald C hP sm_4 km_4 rfl g_5 dX10_thing_88 ?_
            exact r_reti C hP hS rfl (rt_o h) dX10_thing_89
          · replace h := if_t c_ h
            refine lv_iconst (v := 0) hx hb dX10_thing_68 (by decide) ?_
            refine lv_goto (tgt := 89) hx hb dX10_thing_69 (by decide) ?_
            exact r_reti C hP hS rfl (rt_o h) dX10_thing_89
        · replace h := if_t c_ h
          refine lv_aload_n hx hb dX10_thing_44 rfl (lv_at hl 0 rfl) ?_
          refine r_getr C cf_10 hP sm_0 km_0 4 (by decide) rfl tw_147 dX10_thing_45 ?_
          refine lv_iload_n hx hb dX10_thing_48 rfl (lv_at hl 1 rfl) ?_
          obtain ⟨q_6, hq_6, h⟩ := bd_inv h
          refine end_i (run_s (As := [.ref (adG g 4), .int x1]) (rest := []) C ca_X10_whereOf (ctX10_whereOf 4 ⟨sm_4, km_4⟩ x1 hq_6) tw_555 ⟨Nat.le_of_ble_eq_true rfl, Nat.le_of_ble_eq_true rfl⟩ rfl hl.1 (Nat.le_of_ble_eq_true rfl) ⟨Nat.le_refl _, Nat.le_refl _⟩ hP hS dX10_thing_49) hS (fun H locs hP hS => ?_)
          refine lv_goto (tgt := 89) hx hb dX10_thing_52 (by decide) ?_
          exact r_reti C hP hS rfl (rt_o h) dX10_thing_89
      · replace h := if_t c_ h
        refine lv_aload_n hx hb dX10_thing_27 rfl (lv_at hl 0 rfl) ?_
        refine r_getr C cf_10 hP sm_0 km_0 4 (by decide) rfl tw_147 dX10_thing_28 ?_
        refine lv_bipush (v := 41) hx hb dX10_thing_31 (by decide) ?_
        refine lv_iload_n hx hb dX10_thing_33 rfl (lv_at hl 1 rfl) ?_
        refine lv_iadd hx hb dX10_thing_34 ?_
        obtain ⟨g_7, h⟩ := gd_inv h
        refine r_iald C hP sm_4 km_4 rfl g_7 dX10_thing_35 ?_
        refine lv_goto (tgt := 89) hx hb dX10_thing_36 (by decide) ?_
        exact r_reti C hP hS rfl (rt_o h) dX10_thing_89
    · replace h := if_t c_ h
      refine lv_ldc hx hb hown (hts _ tw_188) dX10_thing_20 ?_
      exact r_reti C hP hS rfl (rt_o h) dX10_thing_22

set_option maxRecDepth 100000 in
set_option maxHeartbeats 4000000 in
theorem wfX10_thoseIn_L5 {l : Launch} {g : Gw} {p : Program} {e : Env} {s : State} {m : MethodId} {args : Array Value} {below : List Frame} {meth : Method} {c : Code} {σ : Sto} (C : Cx wkM g p s m args meth c cX10_thoseIn 5 RX10 (some .int)) {Rz : Int32} : ∀ (n : Nat) (x1 : Int32) (x2 : Int32) (x3 : Int32) (x4 : Int32) (H : Heap) (locs : List Loc) (ls : Array Slot), fX10_thoseIn_L5 σ n x1 x2 x3 x4 = some Rz → wS wkM g σ H → va_S (AS wkM g) s.heap H locs → lv_has ls 5 [(0, .ref (adG g 0)), (1, .int x1), (2, .int x2), (3, .int x3), (4, .int x4)] → W p l e (rmS 0) s m args below meth c H locs 0 0 (MQ below (QiS wkM g σ Rz) args s 0 0 (AS wkM g)) (F0 m 5 ls []) := by
  intro n
  induction n with
  | zero =>
    intro x1 x2 x3 x4 H locs ls h
    cases h
  | succ n ih =>
    intro x1 x2 x3 x4 H locs ls h hP hS hl
    obtain ⟨hx, hb, hml, hown, hts, hr, hlk, hK, hZ⟩ := id C
    rw [fX10_thoseIn_L5] at h
    refine lv_iload hx hb dX10_thoseIn_5 (lv_at hl 4 rfl) ?_
    refine lv_aload_n hx hb dX10_thoseIn_7 rfl (lv_at hl 0 rfl) ?_
    refine r_getr C cf_10 hP sm_0 km_0 4 (by decide) rfl tw_147 dX10_thoseIn_8 ?_
    refine lv_iconst (v := 1) hx hb dX10_thoseIn_11 (by decide) ?_
    refine r_iald C hP sm_4 km_4 (j := 1) (by decide) (by decide) dX10_thoseIn_12 ?_
    refine lv_icmp_ge (tgt := 61) hx hb dX10_thoseIn_13 (by decide) (fun c_ => ?_) (fun c_ => ?_)
    · replace h := if_t c_ h
      refine lv_iload_n hx hb dX10_thoseIn_61 rfl (lv_at hl 3 rfl) ?_
      exact r_reti C hP hS rfl (rt_o h) dX10_thoseIn_62
    · replace h := if_f c_ h
      refine lv_iload_n hx hb dX10_thoseIn_16 rfl (lv_at hl 3 rfl) ?_
      refine lv_aload_n hx hb dX10_thoseIn_17 rfl (lv_at hl 0 rfl) ?_
      refine r_getr C cf_10 hP sm_0 km_0 4 (by decide) rfl tw_147 dX10_thoseIn_18 ?_
      refine lv_bipush (v := 53) hx hb dX10_thoseIn_21 (by decide) ?_
      refine lv_iload hx hb dX10_thoseIn_23 (lv_at hl 4 rfl) ?_
      refine lv_iadd hx hb dX10_thoseIn_25 ?_
      obtain ⟨g_1, h⟩ := gd_inv h
      refine r_iald C hP sm_4 km_4 rfl g_1 dX10_thoseIn_26 ?_
      refine lv_iload_n hx hb dX10_thoseIn_27 rfl (lv_at hl 2 rfl) ?_
      refine lv_icmp_ne (tgt := 52) hx hb dX10_thoseIn_28 (by decide) (fun c_ => ?_) (fun c_ => ?_)
      · replace h := if_f c_ h
        refine lv_iconst (v := 0) hx hb dX10_thoseIn_52 (by decide) ?_
        refine lv_ior hx hb dX10_thoseIn_53 ?_
        refine lv_topi (fun x_2 ex_2 => ?_)
        replace h := un_at ex_2 h
        refine lv_istore_n (lv' := [(3, .int x_2), (0, .ref (adG g 0)), (1, .int x1), (2, .int x2), (4, .int x4)]) hx hb dX10_thoseIn_54 rfl hl (by decide) rfl (fun ls hl => ?_)
        obtain ⟨x_3, ex_3⟩ : ∃ y : Int32, y = x4 + (1 : Int32) := ⟨_, rfl⟩
        replace h := un_at ex_3 h
        refine lv_iinc (v := x_3) (lv' := [(4, .int x_3), (3, .int x_2), (0, .ref (adG g 0)), (1, .int x1), (2, .int x2)]) hx hb dX10_thoseIn_55 hl (k := 4) rfl (by rw [ex_3]; rfl) (by decide) rfl (fun ls hl => ?_)
        refine lv_goto (tgt := 5) hx hb dX10_thoseIn_58 (by decide) ?_
        exact ih x1 x2 x_2 x_3 H locs ls h hP hS (lv_sub hl [2, 3, 4, 1, 0] rfl)
      · replace h := if_t c_ h
        refine lv_aload_n hx hb dX10_thoseIn_31 rfl (lv_at hl 0 rfl) ?_
        refine r_getr C cf_10 hP sm_0 km_0 4 (by decide) rfl tw_147 dX10_thoseIn_32 ?_
        refine lv_bipush (v := 47) hx hb dX10_thoseIn_35 (by decide) ?_
        refine lv_iload hx hb dX10_thoseIn_37 (lv_at hl 4 rfl) ?_
        refine lv_iadd hx hb dX10_thoseIn_39 ?_
        obtain ⟨g_4, h⟩ := gd_inv h
        refine r_iald C hP sm_4 km_4 rfl g_4 dX10_thoseIn_40 ?_
        refine lv_iload_n hx hb dX10_thoseIn_41 rfl (lv_at hl 1 rfl) ?_
        refine lv_icmp_ne (tgt := 52) hx hb dX10_thoseIn_42 (by decide) (fun c_ => ?_) (fun c_ => ?_)
        · replace h := if_f c_ h
          refine lv_iconst (v := 0) hx hb dX10_thoseIn_52 (by decide) ?_
          refine lv_ior hx hb dX10_thoseIn_53 ?_
          refine lv_topi (fun x_5 ex_5 => ?_)
          replace h := un_at ex_5 h
          refine lv_istore_n (lv' := [(3, .int x_5), (0, .ref (adG g 0)), (1, .int x1), (2, .int x2), (4, .int x4)]) hx hb dX10_thoseIn_54 rfl hl (by decide) rfl (fun ls hl => ?_)
          obtain ⟨x_6, ex_6⟩ : ∃ y : Int32, y = x4 + (1 : Int32) := ⟨_, rfl⟩
          replace h := un_at ex_6 h
          refine lv_iinc (v := x_6) (lv' := [(4, .int x_6), (3, .int x_5), (0, .ref (adG g 0)), (1, .int x1), (2, .int x2)]) hx hb dX10_thoseIn_55 hl (k := 4) rfl (by rw [ex_6]; rfl) (by decide) rfl (fun ls hl => ?_)
          refine lv_goto (tgt := 5) hx hb dX10_thoseIn_58 (by decide) ?_
          exact ih x1 x2 x_5 x_6 H locs ls h hP hS (lv_sub hl [2, 3, 4, 1, 0] rfl)
        · replace h := if_t c_ h
          refine lv_iconst (v := 1) hx hb dX10_thoseIn_45 (by decide) ?_
          refine lv_iload hx hb dX10_thoseIn_46 (lv_at hl 4 rfl) ?_
          refine lv_ishl hx hb dX10_thoseIn_48 ?_
          refine lv_goto (tgt := 53) hx hb dX10_thoseIn_49 (by decide) ?_
          refine lv_ior hx hb dX10_thoseIn_53 ?_
          refine lv_topi (fun x_7 ex_7 => ?_)
          replace h := un_at ex_7 h
          refine lv_istore_n (lv' := [(3, .int x_7), (0, .ref (adG g 0)), (1, .int x1), (2, .int x2), (4, .int x4)]) hx hb dX10_thoseIn_54 rfl hl (by decide) rfl (fun ls hl => ?_)
          obtain ⟨x_8, ex_8⟩ : ∃ y : Int32, y = x4 + (1 : Int32) := ⟨_, rfl⟩
          replace h := un_at ex_8 h
          refine lv_iinc (v := x_8) (lv' := [(4, .int x_8), (3, .int x_7), (0, .ref (adG g 0)), (1, .int x1), (2, .int x2)]) hx hb dX10_thoseIn_55 hl (k := 4) rfl (by rw [ex_8]; rfl) (by decide) rfl (fun ls hl => ?_)
          refine lv_goto (tgt := 5) hx hb dX10_thoseIn_58 (by decide) ?_
          exact ih x1 x2 x_7 x_8 H locs ls h hP hS (lv_sub hl [2, 3, 4, 1, 0] rfl)

set_option maxRecDepth 100000 in
set_option maxHeartbeats 4000000 in
theorem ctX10_thoseIn {l : Launch} {g : Gw} {σ : Sto} (x1 : Int32) (x2 : Int32) {Rz : Int32} (h : fX10_thoseIn σ x1 x2 = some Rz) : MtG l yX10_thoseIn cX10_thoseIn 5 (some .int) 0 wkM g [.ref (adG g 0), .int x1, .int x2] σ (QiS wkM g σ Rz) := by
  refine mt_of (by decide) (Nat.le_of_ble_eq_true rfl) (fun p e s m below meth c ls H locs C hP hS hl => ?_)
  have C : Cx wkM g p s m _ meth c cX10_thoseIn 5 RX10 (some .int) := C
  have hl : lv_has ls 5 [(0, .ref (adG g 0)), (1, .int x1), (2, .int x2)] := hl
  obtain ⟨hx, hb, hml, hown, hts, hr, hlk, hK, hZ⟩ := id C
  unfold fX10_thoseIn at h
  refine lv_iconst (v := 0) hx hb dX10_thoseIn_0 (by decide) ?_
  refine lv_istore_n (lv' := [(3, .int (0 : Int32)), (0, .ref (adG g 0)), (1, .int x1), (2, .int x2)]) hx hb dX10_thoseIn_1 rfl hl (by decide) rfl (fun ls hl => ?_)
  refine lv_iconst (v := 0) hx hb dX10_thoseIn_2 (by decide) ?_
  refine lv_istore (lv' := [(4, .int (0 : Int32)), (3, .int (0 : Int32)), (0, .ref (adG g 0)), (1, .int x1), (2, .int x2)]) hx hb dX10_thoseIn_3 hl (by decide) rfl (fun ls hl => ?_)
  exact wfX10_thoseIn_L5 C fu x1 x2 (0 : Int32) (0 : Int32) H locs ls h hP hS (lv_sub hl [2, 3, 4, 1, 0] rfl)

set_option maxRecDepth 100000 in
set_option maxHeartbeats 4000000 in
theorem ctX10_roomOf {l : Launch} {g : Gw} {σ : Sto} (x1 : Int32) (x2 : Int32) {Rz : Int32} (h : fX10_roomOf σ x1 x2 = some Rz) : MtG l yX10_roomOf cX10_roomOf 3 (some .int) 2 wkM g [.ref (adG g 0), .int x1, .int x2] σ (QiS wkM g σ Rz) := by
  refine mt_of (by decide) (Nat.le_of_ble_eq_true rfl) (fun p e s m below meth c ls H locs C hP hS hl => ?_)
  have C : Cx wkM g p s m _ meth c cX10_roomOf 3 RX10 (some .int) := C
  have hl : lv_has ls 3 [(0, .ref (adG g 0)), (1, .int x1), (2, .int x2)] := hl
  obtain ⟨hx, hb, hml, hown, hts, hr, hlk, hK, hZ⟩ := id C
  unfold fX10_roomOf at h
  refine lv_aload_n hx hb dX10_roomOf_0 rfl (lv_at hl 0 rfl) ?_
  refine lv_iload_n hx hb dX10_roomOf_1 rfl (lv_at hl 1 rfl) ?_
  refine end_i (run_v (As := [.int x1]) (rest := []) C ca_X10_isRoom (ctX10_isRoom x1 rfl) cf_10 sm_0 km_0 tw_525 ⟨Nat.le_of_ble_eq_true rfl, Nat.le_of_ble_eq_true rfl⟩ rfl hl.1 (Nat.le_of_ble_eq_true rfl) ⟨Nat.le_refl _, Nat.le_refl _⟩ hP hS dX10_roomOf_2) hS (fun H locs hP hS => ?_)
  refine lv_if_ne (tgt := 11) hx hb dX10_roomOf_5 (by decide) (fun c_ => ?_) (fun c_ => ?_)
  · replace h := if_f c_ h
    refine lv_iload_n hx hb dX10_roomOf_11 rfl (lv_at hl 2 rfl) ?_
    by_cases c_2 : x2 = (0 : Int32)
    · replace h := if_t c_2 h
      refine r_tin (tgt := 48) hx hb dX10_roomOf_12 c_2 (by decide) (by decide) rfl (by decide) ?_
      refine lv_aload_n hx hb dX10_roomOf_48 rfl (lv_at hl 0 rfl) ?_
      refine r_getr C cf_10 hP sm_0 km_0 4 (by decide) rfl tw_147 dX10_roomOf_49 ?_
      refine lv_iconst (v := 5) hx hb dX10_roomOf_52 (by decide) ?_
      refine lv_iload_n hx hb dX10_roomOf_53 rfl (lv_at hl 1 rfl) ?_
      refine lv_iadd hx hb dX10_roomOf_54 ?_
      obtain ⟨g_3, h⟩ := gd_inv h
      refine r_iald C hP sm_4 km_4 rfl g_3 dX10_roomOf_55 ?_
      exact r_reti C hP hS rfl (rt_o h) dX10_roomOf_56
    replace h := if_f c_2 h
    by_cases c_4 : x2 = (1 : Int32)
    · replace h := if_t c_4 h
      refine r_tin (tgt := 57) hx hb dX10_roomOf_12 c_4 (by decide) (by decide) rfl (by decide) ?_
      refine lv_aload_n hx hb dX10_roomOf_57 rfl (lv_at hl 0 rfl) ?_
      refine r_getr C cf_10 hP sm_0 km_0 4 (by decide) rfl tw_147 dX10_roomOf_58 ?_
      refine lv_bipush (v := 15) hx hb dX10_roomOf_61 (by decide) ?_
      refine lv_iload_n hx hb dX10_roomOf_63 rfl (lv_at hl 1 rfl) ?_
      refine lv_iadd hx hb dX10_roomOf_64 ?_
      obtain ⟨g_5, h⟩ := gd_inv h
      refine r_iald C hP sm_4 km_4 rfl g_5 dX10_roomOf_65 ?_
      exact r_reti C hP hS rfl (rt_o h) dX10_roomOf_66
    replace h := if_f c_4 h
    by_cases c_6 : x2 = (2 : Int32)
    · replace h := if_t c_6 h
      refine r_tin (tgt := 67) hx hb dX10_roomOf_12 c_6 (by decide) (by decide) rfl (by decide) ?_
      refine lv_aload_n hx hb dX10_roomOf_67 rfl (lv_at hl 0 rfl) ?_
      refine r_getr C cf_10 hP sm_0 km_0 4 (by decide) rfl tw_147 dX10_roomOf_68 ?_
      refine lv_bipush (v := 25) hx hb dX10_roomOf_71 (by decide) ?_
      refine lv_iload_n hx hb dX10_roomOf_73 rfl (lv_at hl 1 rfl) ?_
      refine lv_iadd hx hb dX10_roomOf_74 ?_
      obtain ⟨g_7, h⟩ := gd_inv h
      refine r_iald C hP sm_4 km_4 rfl g_7 dX10_roomOf_75 ?_
      exact r_reti C hP hS rfl (rt_o h) dX10_roomOf_76
    replace h := if_f c_6 h
    by_cases c_8 : x2 = (3 : Int32)
    · replace h := if_t c_8 h
      refine r_tin (tgt := 77) hx hb dX10_roomOf_12 c_8 (by decide) (by decide) rfl (by decide) ?_
      refine lv_aload_n hx hb dX10_roomOf_77 rfl (lv_at hl 0 rfl) ?_
      refine lv_iload_n hx hb dX10_roomOf_78 rfl (lv_at hl 1 rfl) ?_
      refine lv_iconst (v := 0) hx hb dX10_roomOf_79 (by decide) ?_
      obtain ⟨q_9, hq_9, h⟩ := bd_inv h
      refine end_i (run_v (As := [.int x1, .int (0 : Int32)]) (rest := []) C ca_X10_thoseIn (ctX10_thoseIn x1 (0 : Int32) hq_9) cf_10 sm_0 km_0 tw_600 ⟨Nat.le_of_ble_eq_true rfl, Nat.le_of_ble_eq_true rfl⟩ rfl hl.1 (Nat.le_of_ble_eq_true rfl) ⟨Nat.le_refl _, Nat.le_refl _⟩ hP hS dX10_roomOf_80) hS (fun H locs hP hS => ?_)
      exact r_reti C hP hS rfl (rt_o h) dX10_roomOf_83
    replace h := if_f c_8 h
    by_cases c_10 : x2 = (4 : Int32)
    · replace h := if_t c_10 h
      refine r_tin (tgt := 84) hx hb dX10_roomOf_12 c_10 (by decide) (by decide) rfl (by decide) ?_
      refine lv_aload_n hx hb dX10_roomOf_84 rfl (lv_at hl 0 rfl) ?_
      refine lv_iload_n hx hb dX10_roomOf_85 rfl (lv_at hl 1 rfl) ?_
      refine lv_iconst (v := 2) hx hb dX10_roomOf_86 (by decide) ?_
      obtain ⟨q_11, hq_11, h⟩ := bd_inv h
      refine end_i (run_v (As := [.int x1, .int (2 : Int32)]) (rest := []) C ca_X10_thoseIn (ctX10_thoseIn x1 (2 : Int32) hq_11) cf_10 sm_0 km_0 tw_600 ⟨Nat.le_of_ble_eq_true rfl, Nat.le_of_ble_eq_true rfl⟩ rfl hl.1 (Nat.le_of_ble_eq_true rfl) ⟨Nat.le_refl _, Nat.le_refl _⟩ hP hS dX10_roomOf_87) hS (fun H locs hP hS => ?_)
      exact r_reti C hP hS rfl (rt_o h) dX10_roomOf_90
    replace h := if_f c_10 h
    refine lv_tableOut (tgt := 91) hx hb dX10_roomOf_12 (by have qc_2 := lv_neT (a := 0) c_2 rfl; have qc_4 := lv_neT (a := 1) c_4 rfl; have qc_6 := lv_neT (a := 2) c_6 rfl; have qc_8 := lv_neT (a := 3) c_8 rfl; have qc_10 := lv_neT (a := 4) c_10 rfl; omega) (by decide) ?_
    refine lv_ldc hx hb hown (hts _ tw_188) dX10_roomOf_91 ?_
    exact r_reti C hP hS rfl (rt_o h) dX10_roomOf_93
  · replace h := if_t c_ h
    refine lv_ldc hx hb hown (hts _ tw_188) dX10_roomOf_8 ?_
    exact r_reti C hP hS rfl (rt_o h) dX10_roomOf_10

set_option maxRecDepth 100000 in
set_option maxHeartbeats 4000000 in
theorem ctX10_stand {l : Launch} {g : Gw} {σ : Sto} (x1 : Int32) {Rz : Int32} (h : fX10_stand σ x1 = some Rz) : MtG l yX10_stand cX10_stand 2 (some .int) 1 wkM g [.ref (adG g 0), .int x1] σ (QiS wkM g σ Rz) := by
  refine mt_of (by decide) (Nat.le_of_ble_eq_true rfl) (fun p e s m below meth c ls H locs C hP hS hl => ?_)
  have C : Cx wkM g p s m _ meth c cX10_stand 2 RX10 (some .int) := C
  have hl : lv_has ls 2 [(0, .ref (adG g 0)), (1, .int x1)] := hl
  obtain ⟨hx, hb, hml, hown, hts, hr, hlk, hK, hZ⟩ := id C
  unfold fX10_stand at h
  refine lv_aload_n hx hb dX10_stand_0 rfl (lv_at hl 0 rfl) ?_
  refine end_i (run_v (As := []) (rest := []) C ca_X10_isThere (ctX10_isThere rfl) cf_10 sm_0 km_0 tw_482 ⟨Nat.le_of_ble_eq_true rfl, Nat.le_of_ble_eq_true rfl⟩ rfl hl.1 (Nat.le_of_ble_eq_true rfl) ⟨Nat.le_refl _, Nat.le_refl _⟩ hP hS dX10_stand_1) hS (fun H locs hP hS => ?_)
  refine lv_if_ne (tgt := 10) hx hb dX10_stand_4 (by decide) (fun c_ => ?_) (fun c_ => ?_)
  · replace h := if_f c_ h
    refine lv_iload_n hx hb dX10_stand_10 rfl (lv_at hl 1 rfl) ?_
    by_cases c_2 : x1 = (0 : Int32)
    · replace h := if_t c_2 h
      refine r_tin (tgt := 48) hx hb dX10_stand_11 c_2 (by decide) (by decide) rfl (by decide) ?_
      refine lv_aload_n hx hb dX10_stand_48 rfl (lv_at hl 0 rfl) ?_
      refine r_getr C cf_10 hP sm_0 km_0 4 (by decide) rfl tw_147 dX10_stand_49 ?_
      refine lv_iconst (v := 0) hx hb dX10_stand_52 (by decide) ?_
      refine r_iald C hP sm_4 km_4 (j := 0) (by decide) (by decide) dX10_stand_53 ?_
      exact r_reti C hP hS rfl (rt_o h) dX10_stand_54
    replace h := if_f c_2 h
    by_cases c_3 : x1 = (1 : Int32)
    · replace h := if_t c_3 h
      refine r_tin (tgt := 55) hx hb dX10_stand_11 c_3 (by decide) (by decide) rfl (by decide) ?_
      refine lv_aload_n hx hb dX10_stand_55 rfl (lv_at hl 0 rfl) ?_
      refine r_getr C cf_10 hP sm_0 km_0 4 (by decide) rfl tw_147 dX10_stand_56 ?_
      refine lv_iconst (v := 2) hx hb dX10_stand_59 (by decide) ?_
      refine r_iald C hP sm_4 km_4 (j := 2) (by decide) (by decide) dX10_stand_60 ?_
      exact r_reti C hP hS rfl (rt_o h) dX10_stand_61
    replace h := if_f c_3 h
    by_cases c_4 : x1 = (2 : Int32)
    · replace h := if_t c_4 h
      refine r_tin (tgt := 62) hx hb dX10_stand_11 c_4 (by decide) (by decide) rfl (by decide) ?_
      refine lv_aload_n hx hb dX10_stand_62 rfl (lv_at hl 0 rfl) ?_
      refine r_getr C cf_10 hP sm_0 km_0 4 (by decide) rfl tw_147 dX10_stand_63 ?_
      refine lv_iconst (v := 3) hx hb dX10_stand_66 (by decide) ?_
      refine r_iald C hP sm_4 km_4 (j := 3) (by decide) (by decide) dX10_stand_67 ?_
      exact r_reti C hP hS rfl (rt_o h) dX10_stand_68
    replace h := if_f c_4 h
    by_cases c_5 : x1 = (3 : Int32)
    · replace h := if_t c_5 h
      refine r_tin (tgt := 69) hx hb dX10_stand_11 c_5 (by decide) (by decide) rfl (by decide) ?_
      refine lv_aload_n hx hb dX10_stand_69 rfl (lv_at hl 0 rfl) ?_
      refine r_getr C cf_10 hP sm_0 km_0 4 (by decide) rfl tw_147 dX10_stand_70 ?_
      refine lv_iconst (v := 0) hx hb dX10_stand_73 (by decide) ?_
      obtain ⟨q_6, hq_6, h⟩ := bd_inv h
      refine end_i (run_s (As := [.ref (adG g 4), .int (0 : Int32)]) (rest := []) C ca_X10_those (ctX10_those 4 ⟨sm_4, km_4⟩ (0 : Int32) hq_6) tw_508 ⟨Nat.le_of_ble_eq_true rfl, Nat.le_of_ble_eq_true rfl⟩ rfl hl.1 (Nat.le_of_ble_eq_true rfl) ⟨Nat.le_refl _, Nat.le_refl _⟩ hP hS dX10_stand_74) hS (fun H locs hP hS => ?_)
      exact r_reti C hP hS rfl (rt_o h) dX10_stand_77
    replace h := if_f c_5 h
    by_cases c_7 : x1 = (4 : Int32)
    · replace h := if_t c_7 h
      refine r_tin (tgt := 78) hx hb dX10_stand_11 c_7 (by decide) (by decide) rfl (by decide) ?_
      refine lv_aload_n hx hb dX10_stand_78 rfl (lv_at hl 0 rfl) ?_
      refine r_getr C cf_10 hP sm_0 km_0 4 (by decide) rfl tw_147 dX10_stand_79 ?_
      refine lv_iconst (v := 2) hx hb dX10_stand_82 (by decide) ?_
      obtain ⟨q_8, hq_8, h⟩ := bd_inv h
      refine end_i (run_s (As := [.ref (adG g 4), .int (2 : Int32)]) (rest := []) C ca_X10_those (ctX10_those 4 ⟨sm_4, km_4⟩ (2 : Int32) hq_8) tw_508 ⟨Nat.le_of_ble_eq_true rfl, Nat.le_of_ble_eq_true rfl⟩ rfl hl.1 (Nat.le_of_ble_eq_true rfl) ⟨Nat.le_refl _, Nat.le_refl _⟩ hP hS dX10_stand_83) hS (fun H locs hP hS => ?_)
      exact r_reti C hP hS rfl (rt_o h) dX10_stand_86
    replace h := if_f c_7 h
    by_cases c_9 : x1 = (5 : Int32)
    · replace h := if_t c_9 h
      refine r_tin (tgt := 87) hx hb dX10_stand_11 c_9 (by decide) (by decide) rfl (by decide) ?_
      refine lv_aload_n hx hb dX10_stand_87 rfl (lv_at hl 0 rfl) ?_
      refine r_getr C cf_10 hP sm_0 km_0 4 (by decide) rfl tw_147 dX10_stand_88 ?_
      refine lv_iconst (v := 1) hx hb dX10_stand_91 (by decide) ?_
      obtain ⟨q_10, hq_10, h⟩ := bd_inv h
      refine end_i (run_s (As := [.ref (adG g 4), .int (1 : Int32)]) (rest := []) C ca_X10_those (ctX10_those 4 ⟨sm_4, km_4⟩ (1 : Int32) hq_10) tw_508 ⟨Nat.le_of_ble_eq_true rfl, Nat.le_of_ble_eq_true rfl⟩ rfl hl.1 (Nat.le_of_ble_eq_true rfl) ⟨Nat.le_refl _, Nat.le_refl _⟩ hP hS dX10_stand_92) hS (fun H locs hP hS => ?_)
      exact r_reti C hP hS rfl (rt_o h) dX10_stand_95
    replace h := if_f c_9 h
    refine lv_tableOut (tgt := 96) hx hb dX10_stand_11 (by have qc_2 := lv_neT (a := 0) c_2 rfl; have qc_3 := lv_neT (a := 1) c_3 rfl; have qc_4 := lv_neT (a := 2) c_4 rfl; have qc_5 := lv_neT (a := 3) c_5 rfl; have qc_7 := lv_neT (a := 4) c_7 rfl; have qc_9 := lv_neT (a := 5) c_9 rfl; omega) (by decide) ?_
    refine lv_ldc hx hb hown (hts _ tw_188) dX10_stand_96 ?_
    exact r_reti C hP hS rfl (rt_o h) dX10_stand_98
  · replace h := if_t c_ h
    refine lv_ldc hx hb hown (hts _ tw_436) dX10_stand_7 ?_
    exact r_reti C hP hS rfl (rt_o h) dX10_stand_9

set_option maxRecDepth 100000 in
set_option maxHeartbeats 4000000 in
theorem ctX10_laysAside {l : Launch} {g : Gw} {σ : Sto} (x1 : Int32) {Rz : Sto} (h : fX10_laysAside σ x1 = some Rz) : MtG l yX10_laysAside cX10_laysAside 2 none 4 wkM g [.ref (adG g 0), .int x1] σ (QvS wkM g Rz) := by
  refine mt_of (by decide) (Nat.le_of_ble_eq_true rfl) (fun p e s m below meth c ls H locs C hP hS hl => ?_)
  have C : Cx wkM g p s m _ meth c cX10_laysAside 2 RX10 none := C
  have hl : lv_has ls 2 [(0, .ref (adG g 0)), (1, .int x1)] := hl
  obtain ⟨hx, hb, hml, hown, hts, hr, hlk, hK, hZ⟩ := id C
  unfold fX10_laysAside at h
  refine lv_aload_n hx hb dX10_laysAside_0 rfl (lv_at hl 0 rfl) ?_
  refine r_getr C cf_10 hP sm_0 km_0 4 (by decide) rfl tw_147 dX10_laysAside_1 ?_
  refine lv_iconst (v := 0) hx hb dX10_laysAside_4 (by decide) ?_
  refine lv_aload_n hx hb dX10_laysAside_5 rfl (lv_at hl 0 rfl) ?_
  refine r_getr C cf_10 hP sm_0 km_0 6 (by decide) rfl tw_149 dX10_laysAside_6 ?_
  refine lv_iconst (v := 0) hx hb dX10_laysAside_9 (by decide) ?_
  obtain ⟨q_1, hq_1, h⟩ := bd_inv h
  refine end_v (run_s (As := [.ref (adG g 4), .int (0 : Int32), .ref (adG g 6), .int (0 : Int32)]) (rest := []) C ca_X10_copies (ctX10_copies 4 (isT_of sm_4 km_4) (0 : Int32) 6 (isT_of sm_6 km_6) (0 : Int32) hq_1) tw_409 ⟨Nat.le_of_ble_eq_true rfl, Nat.le_of_ble_eq_true rfl⟩ rfl hl.1 (Nat.le_of_ble_eq_true rfl) ⟨Nat.le_refl _, Nat.le_refl _⟩ hP hS dX10_laysAside_10) hS (fun H locs hP hS => ?_)
  refine lv_aload_n hx hb dX10_laysAside_13 rfl (lv_at hl 0 rfl) ?_
  refine r_getr C cf_10 hP sm_0 km_0 6 (by decide) rfl tw_149 dX10_laysAside_14 ?_
  refine lv_iload_n hx hb dX10_laysAside_17 rfl (lv_at hl 1 rfl) ?_
  obtain ⟨q_2, hq_2, h⟩ := bd_inv h
  refine end_v (run_s (As := [.ref (adG g 6), .int x1]) (rest := []) C ca_X10_goesBy (ctX10_goesBy 6 ⟨sm_6, km_6⟩ x1 hq_2) tw_654 ⟨Nat.le_of_ble_eq_true rfl, Nat.le_of_ble_eq_true rfl⟩ rfl hl.1 (Nat.le_of_ble_eq_true rfl) ⟨Nat.le_refl _, Nat.le_refl _⟩ hP hS dX10_laysAside_18) hS (fun H locs hP hS => ?_)
  exact r_retv C hP hS (rt_o h) dX10_laysAside_21

set_option maxRecDepth 100000 in
set_option maxHeartbeats 4000000 in
theorem ctX10_ahead {l : Launch} {g : Gw} {σ : Sto} (x1 : Int32) (x2 : Int32) {Rz : (Sto × Int32)} (h : fX10_ahead σ x1 x2 = some Rz) : MtG l yX10_ahead cX10_ahead 3 (some .int) 5 wkM g [.ref (adG g 0), .int x1, .int x2] σ (QiS wkM g Rz.1 Rz.2) := by
  refine mt_of (by decide) (Nat.le_of_ble_eq_true rfl) (fun p e s m below meth c ls H locs C hP hS hl => ?_)
  have C : Cx wkM g p s m _ meth c cX10_ahead 3 RX10 (some .int) := C
  have hl : lv_has ls 3 [(0, .ref (adG g 0)), (1, .int x1), (2, .int x2)] := hl
  obtain ⟨hx, hb, hml, hown, hts, hr, hlk, hK, hZ⟩ := id C
  unfold fX10_ahead at h
  refine lv_aload_n hx hb dX10_ahead_0 rfl (lv_at hl 0 rfl) ?_
  refine lv_iload_n hx hb dX10_ahead_1 rfl (lv_at hl 1 rfl) ?_
  refine end_i (run_v (As := [.int x1]) (rest := []) C ca_X10_isThing (ctX10_isThing x1 rfl) cf_10 sm_0 km_0 tw_551 ⟨Nat.le_of_ble_eq_true rfl, Nat.le_of_ble_eq_true rfl⟩ rfl hl.1 (Nat.le_of_ble_eq_true rfl) ⟨Nat.le_refl _, Nat.le_refl _⟩ hP hS dX10_ahead_2) hS (fun H locs hP hS => ?_)
  refine lv_if_eq (tgt := 20) hx hb dX10_ahead_5 (by decide) (fun c_ => ?_) (fun c_ => ?_)
  · replace h := if_t c_ h
    refine lv_ldc hx hb hown (hts _ tw_188) dX10_ahead_20 ?_
    exact r_reti C hP hS (rt_ow1 h) (rt_ow2 h) dX10_ahead_22
  · replace h := if_f c_ h
    refine lv_iload_n hx hb dX10_ahead_8 rfl (lv_at hl 2 rfl) ?_
    refine lv_i2l hx hb dX10_ahead_9 rfl ?_
    refine lv_lconst (v := 0) hx hb dX10_ahead_10 (by decide) ?_
    refine lv_ldc2 hx hb hown (hts _ tw_649) dX10_ahead_11 ?_
    refine end_i (run_s (As := [.long x2.toInt64, .long (0 : Int64), .long (60 : Int64)]) (rest := []) C ca_X10_in (ctX10_in x2.toInt64 (0 : Int64) (60 : Int64) rfl) tw_193 ⟨Nat.le_of_ble_eq_true rfl, Nat.le_of_ble_eq_true rfl⟩ rfl hl.1 (Nat.le_of_ble_eq_true rfl) ⟨Nat.le_refl _, Nat.le_refl _⟩ hP hS dX10_ahead_14) hS (fun H locs hP hS => ?_)
    refine lv_if_ne (tgt := 23) hx hb dX10_ahead_17 (by decide) (fun c_ => ?_) (fun c_ => ?_)
    · replace h := if_f c_ h
      refine lv_aload_n hx hb dX10_ahead_23 rfl (lv_at hl 0 rfl) ?_
      refine lv_iload_n hx hb dX10_ahead_24 rfl (lv_at hl 2 rfl) ?_
      obtain ⟨q_3, hq_3, h⟩ := bd_inv h
      refine end_v (run_v (As := [.int x2]) (rest := []) C ca_X10_laysAside (ctX10_laysAside x2 hq_3) cf_10 sm_0 km_0 tw_650 ⟨Nat.le_of_ble_eq_true rfl, Nat.le_of_ble_eq_true rfl⟩ rfl hl.1 (Nat.le_of_ble_eq_true rfl) ⟨Nat.le_refl _, Nat.le_refl _⟩ hP hS dX10_ahead_25) hS (fun H locs hP hS => ?_)
      refine lv_aload_n hx hb dX10_ahead_28 rfl (lv_at hl 0 rfl) ?_
      refine r_getr C cf_10 hP sm_0 km_0 6 (by decide) rfl tw_149 dX10_ahead_29 ?_
      refine lv_iload_n hx hb dX10_ahead_32 rfl (lv_at hl 1 rfl) ?_
      obtain ⟨q_4, hq_4, h⟩ := bd_inv h
      refine end_i (run_s (As := [.ref (adG g 6), .int x1]) (rest := []) C ca_X10_whereOf (ctX10_whereOf 6 ⟨sm_6, km_6⟩ x1 hq_4) tw_555 ⟨Nat.le_of_ble_eq_true rfl, Nat.le_of_ble_eq_true rfl⟩ rfl hl.1 (Nat.le_of_ble_eq_true rfl) ⟨Nat.le_refl _, Nat.le_refl _⟩ hP hS dX10_ahead_33) hS (fun H locs hP hS => ?_)
      exact r_reti C hP hS (rt_ow1 h) (rt_ow2 h) dX10_ahead_36
    · replace h := if_t c_ h
      refine lv_ldc hx hb hown (hts _ tw_188) dX10_ahead_20 ?_
      exact r_reti C hP hS (rt_ow1 h) (rt_ow2 h) dX10_ahead_22

set_option maxRecDepth 100000 in
set_option maxHeartbeats 4000000 in
theorem ctX10_lava {l : Launch} {g : Gw} {σ : Sto} (x1 : Int32) (x2 : Int32) {Rz : (Sto × Int32)} (h : fX10_lava σ x1 x2 = some Rz) : MtG l yX10_lava cX10_lava 3 (some .int) 5 wkM g [.ref (adG g 0), .int x1, .int x2] σ (QiS wkM g Rz.1 Rz.2) := by
  refine mt_of (by decide) (Nat.le_of_ble_eq_true rfl) (fun p e s m below meth c ls H locs C hP hS hl => ?_)
  have C : Cx wkM g p s m _ meth c cX10_lava 3 RX10 (some .int) := C
  have hl : lv_has ls 3 [(0, .ref (adG g 0)), (1, .int x1), (2, .int x2)] := hl
  obtain ⟨hx, hb, hml, hown, hts, hr, hlk, hK, hZ⟩ := id C
  unfold fX10_lava at h
  refine lv_aload_n hx hb dX10_lava_0 rfl (lv_at hl 0 rfl) ?_
  refine lv_iload_n hx hb dX10_lava_1 rfl (lv_at hl 1 rfl) ?_
  refine end_i (run_v (As := [.int x1]) (rest := []) C ca_X10_isRoom (ctX10_isRoom x1 rfl) cf_10 sm_0 km_0 tw_525 ⟨Nat.le_of_ble_eq_true rfl, Nat.le_of_ble_eq_true rfl⟩ rfl hl.1 (Nat.le_of_ble_eq_true rfl) ⟨Nat.le_refl _, Nat.le_refl _⟩ hP hS dX10_lava_2) hS (fun H locs hP hS => ?_)
  refine lv_if_eq (tgt := 20) hx hb dX10_lava_5 (by decide) (fun c_ => ?_) (fun c_ => ?_)
  · replace h := if_t c_ h
    refine lv_ldc hx hb hown (hts _ tw_188) dX10_lava_20 ?_
    exact r_reti C hP hS (rt_ow1 h) (rt_ow2 h) dX10_lava_22
  · replace h := if_f c_ h
    refine lv_iload_n hx hb dX10_lava_8 rfl (lv_at hl 2 rfl) ?_
    refine lv_i2l hx hb dX10_lava_9 rfl ?_
    refine lv_lconst (v := 0) hx hb dX10_lava_10 (by decide) ?_
    refine lv_ldc2 hx hb hown (hts _ tw_649) dX10_lava_11 ?_
    refine end_i (run_s (As := [.long x2.toInt64, .long (0 : Int64), .long (60 : Int64)]) (rest := []) C ca_X10_in (ctX10_in x2.toInt64 (0 : Int64) (60 : Int64) rfl) tw_193 ⟨Nat.le_of_ble_eq_true rfl, Nat.le_of_ble_eq_true rfl⟩ rfl hl.1 (Nat.le_of_ble_eq_true rfl) ⟨Nat.le_refl _, Nat.le_refl _⟩ hP hS dX10_lava_14) hS (fun H locs hP hS => ?_)
    refine lv_if_ne (tgt := 23) hx hb dX10_lava_17 (by decide) (fun c_ => ?_) (fun c_ => ?_)
    · replace h := if_f c_ h
      refine lv_aload_n hx hb dX10_lava_23 rfl (lv_at hl 0 rfl) ?_
      refine lv_iload_n hx hb dX10_lava_24 rfl (lv_at hl 2 rfl) ?_
      obtain ⟨q_3, hq_3, h⟩ := bd_inv h
      refine end_v (run_v (As := [.int x2]) (rest := []) C ca_X10_laysAside (ctX10_laysAside x2 hq_3) cf_10 sm_0 km_0 tw_650 ⟨Nat.le_of_ble_eq_true rfl, Nat.le_of_ble_eq_true rfl⟩ rfl hl.1 (Nat.le_of_ble_eq_true rfl) ⟨Nat.le_refl _, Nat.le_refl _⟩ hP hS dX10_lava_25) hS (fun H locs hP hS => ?_)
      refine lv_aload_n hx hb dX10_lava_28 rfl (lv_at hl 0 rfl) ?_
      refine r_getr C cf_10 hP sm_0 km_0 6 (by decide) rfl tw_149 dX10_lava_29 ?_
      refine lv_bipush (v := 15) hx hb dX10_lava_32 (by decide) ?_
      refine lv_iload_n hx hb dX10_lava_34 rfl (lv_at hl 1 rfl) ?_
      refine lv_iadd hx hb dX10_lava_35 ?_
      obtain ⟨g_4, h⟩ := gd_inv h
      refine r_iald C hP sm_6 km_6 rfl g_4 dX10_lava_36 ?_
      exact r_reti C hP hS (rt_ow1 h) (rt_ow2 h) dX10_lava_37
    · replace h := if_t c_ h
      refine lv_ldc hx hb hown (hts _ tw_188) dX10_lava_20 ?_
      exact r_reti C hP hS (rt_ow1 h) (rt_ow2 h) dX10_lava_22

set_option maxRecDepth 100000 in
set_option maxHeartbeats 4000000 in
theorem ctX10_kept {l : Launch} {g : Gw} {σ : Sto} (x1 : Int32) (x2 : Int32) {Rz : (Sto × Int32)} (h : fX10_kept σ x1 x2 = some Rz) : MtG l yX10_kept cX10_kept 3 (some .int) 5 wkM g [.ref (adG g 0), .int x1, .int x2] σ (QiS wkM g Rz.1 Rz.2) := by
  refine mt_of (by decide) (Nat.le_of_ble_eq_true rfl) (fun p e s m below meth c ls H locs C hP hS hl => ?_)
  have C : Cx wkM g p s m _ meth c cX10_kept 3 RX10 (some .int) := C
  have hl : lv_has ls 3 [(0, .ref (adG g 0)), (1, .int x1), (2, .int x2)] := hl
  obtain ⟨hx, hb, hml, hown, hts, hr, hlk, hK, hZ⟩ := id C
  unfold fX10_kept at h
  refine lv_aload_n hx hb dX10_kept_0 rfl (lv_at hl 0 rfl) ?_
  refine end_i (run_v (As := []) (rest := []) C ca_X10_isThere (ctX10_isThere rfl) cf_10 sm_0 km_0 tw_482 ⟨Nat.le_of_ble_eq_true rfl, Nat.le_of_ble_eq_true rfl⟩ rfl hl.1 (Nat.le_of_ble_eq_true rfl) ⟨Nat.le_refl _, Nat.le_refl _⟩ hP hS dX10_kept_1) hS (fun H locs hP hS => ?_)
  refine lv_if_ne (tgt := 10) hx hb dX10_kept_4 (by decide) (fun c_ => ?_) (fun c_ => ?_)
  · replace h := if_f c_ h
    refine lv_iload_n hx hb dX10_kept_10 rfl (lv_at hl 1 rfl) ?_
    refine lv_i2l hx hb dX10_kept_11 rfl ?_
    refine lv_lconst (v := 0) hx hb dX10_kept_12 (by decide) ?_
    refine lv_ldc2 hx hb hown (hts _ tw_649) dX10_kept_13 ?_
    refine end_i (run_s (As := [.long x1.toInt64, .long (0 : Int64), .long (60 : Int64)]) (rest := []) C ca_X10_in (ctX10_in x1.toInt64 (0 : Int64) (60 : Int64) rfl) tw_193 ⟨Nat.le_of_ble_eq_true rfl, Nat.le_of_ble_eq_true rfl⟩ rfl hl.1 (Nat.le_of_ble_eq_true rfl) ⟨Nat.le_refl _, Nat.le_refl _⟩ hP hS dX10_kept_16) hS (fun H locs hP hS => ?_)
    refine lv_if_eq (tgt := 29) hx hb dX10_kept_19 (by decide) (fun c_ => ?_) (fun c_ => ?_)
    · replace h := if_t c_ h
      refine lv_ldc hx hb hown (hts _ tw_188) dX10_kept_29 ?_
      exact r_reti C hP hS (rt_ow1 h) (rt_ow2 h) dX10_kept_31
    · replace h := if_f c_ h
      refine lv_iload_n hx hb dX10_kept_22 rfl (lv_at hl 2 rfl) ?_
      refine end_i (run_s (As := [.int x2]) (rest := []) C ca_X10_isTwo (ctX10_isTwo x2 rfl) tw_697 ⟨Nat.le_of_ble_eq_true rfl, Nat.le_of_ble_eq_true rfl⟩ rfl hl.1 (Nat.le_of_ble_eq_true rfl) ⟨Nat.le_refl _, Nat.le_refl _⟩ hP hS dX10_kept_23) hS (fun H locs hP hS => ?_)
      refine lv_if_ne (tgt := 32) hx hb dX10_kept_26 (by decide) (fun c_ => ?_) (fun c_ => ?_)
      · replace h := if_f c_ h
        refine lv_aload_n hx hb dX10_kept_32 rfl (lv_at hl 0 rfl) ?_
        refine lv_iload_n hx hb dX10_kept_33 rfl (lv_at hl 1 rfl) ?_
        obtain ⟨q_4, hq_4, h⟩ := bd_inv h
        refine end_v (run_v (As := [.int x1]) (rest := []) C ca_X10_laysAside (ctX10_laysAside x1 hq_4) cf_10 sm_0 km_0 tw_650 ⟨Nat.le_of_ble_eq_true rfl, Nat.le_of_ble_eq_true rfl⟩ rfl hl.1 (Nat.le_of_ble_eq_true rfl) ⟨Nat.le_refl _, Nat.le_refl _⟩ hP hS dX10_kept_34) hS (fun H locs hP hS => ?_)
        refine lv_aload_n hx hb dX10_kept_37 rfl (lv_at hl 0 rfl) ?_
        refine r_getr C cf_10 hP sm_0 km_0 6 (by decide) rfl tw_149 dX10_kept_38 ?_
        refine lv_iload_n hx hb dX10_kept_41 rfl (lv_at hl 2 rfl) ?_
        refine lv_if_ne (tgt := 49) hx hb dX10_kept_42 (by decide) (fun c_ => ?_) (fun c_ => ?_)
        · replace h := if_f c_ h
          refine lv_iconst (v := 1) hx hb dX10_kept_49 (by decide) ?_
          obtain ⟨q_5, hq_5, h⟩ := bd_inv h
          refine end_i (run_s (As := [.ref (adG g 6), .int (1 : Int32)]) (rest := []) C ca_X10_those (ctX10_those 6 ⟨sm_6, km_6⟩ (1 : Int32) hq_5) tw_508 ⟨Nat.le_of_ble_eq_true rfl, Nat.le_of_ble_eq_true rfl⟩ rfl hl.1 (Nat.le_of_ble_eq_true rfl) ⟨Nat.le_refl _, Nat.le_refl _⟩ hP hS dX10_kept_50) hS (fun H locs hP hS => ?_)
          exact r_reti C hP hS (rt_ow1 h) (rt_ow2 h) dX10_kept_53
        · replace h := if_t c_ h
          refine lv_iconst (v := 2) hx hb dX10_kept_45 (by decide) ?_
          refine lv_goto (tgt := 50) hx hb dX10_kept_46 (by decide) ?_
          obtain ⟨q_6, hq_6, h⟩ := bd_inv h
          refine end_i (run_s (As := [.ref (adG g 6), .int (2 : Int32)]) (rest := []) C ca_X10_those (ctX10_those 6 ⟨sm_6, km_6⟩ (2 : Int32) hq_6) tw_508 ⟨Nat.le_of_ble_eq_true rfl, Nat.le_of_ble_eq_true rfl⟩ rfl hl.1 (Nat.le_of_ble_eq_true rfl) ⟨Nat.le_refl _, Nat.le_refl _⟩ hP hS dX10_kept_50) hS (fun H locs hP hS => ?_)
          exact r_reti C hP hS (rt_ow1 h) (rt_ow2 h) dX10_kept_53
      · replace h := if_t c_ h
        refine lv_ldc hx hb hown (hts _ tw_188) dX10_kept_29 ?_
        exact r_reti C hP hS (rt_ow1 h) (rt_ow2 h) dX10_kept_31
  · replace h := if_t c_ h
    refine lv_ldc hx hb hown (hts _ tw_436) dX10_kept_7 ?_
    exact r_reti C hP hS (rt_ow1 h) (rt_ow2 h) dX10_kept_9

set_option maxRecDepth 100000 in
set_option maxHeartbeats 4000000 in
theorem wfX10_isSo_j61 {l : Launch} {g : Gw} {p : Program} {e : Env} {s : State} {m : MethodId} {args : Array Value} {below : List Frame} {meth : Method} {c : Code} {σ : Sto} (C : Cx wkM g p s m args meth c cX10_isSo 4 RX10 (some .boolean)) {Rz : Int32} : ∀ (y0 : Int32) (y1 : Int32) (H : Heap) (locs : List Loc) (ls : Array Slot), fX10_isSo_j61 σ y0 y1 = some Rz → wS wkM g σ H → va_S (AS wkM g) s.heap H locs → lv_has ls 4 [] → W p l e (rmS 1) s m args below meth c H locs 0 0 (MQ below (QiS wkM g σ Rz) args s 0 0 (AS wkM g)) (F0 m 61 ls [.int y1, .int y0]) := by
  intro y0 y1 H locs ls h hP hS hl
  obtain ⟨hx, hb, hml, hown, hts, hr, hlk, hK, hZ⟩ := id C
  unfold fX10_isSo_j61 at h
  refine lv_icmp_ne (tgt := 68) hx hb dX10_isSo_61 (by decide) (fun c_ => ?_) (fun c_ => ?_)
  · replace h := if_f c_ h
    refine lv_iconst (v := 0) hx hb dX10_isSo_68 (by decide) ?_
    exact r_retz C hP hS rfl (rt_o h) rfl dX10_isSo_69
  · replace h := if_t c_ h
    refine lv_iconst (v := 1) hx hb dX10_isSo_64 (by decide) ?_
    refine lv_goto (tgt := 69) hx hb dX10_isSo_65 (by decide) ?_
    exact r_retz C hP hS rfl (rt_o h) rfl dX10_isSo_69

set_option maxRecDepth 100000 in
set_option maxHeartbeats 4000000 in
theorem ctX10_isSo {l : Launch} {g : Gw} {σ : Sto} (x1 : Int32) (x2 : Int32) {Rz : Int32} (h : fX10_isSo σ x1 x2 = some Rz) : MtG l yX10_isSo cX10_isSo 4 (some .boolean) 1 wkM g [.ref (adG g 0), .int x1, .int x2] σ (QiS wkM g σ Rz) := by
  refine mt_of (by decide) (Nat.le_of_ble_eq_true rfl) (fun p e s m below meth c ls H locs C hP hS hl => ?_)
  have C : Cx wkM g p s m _ meth c cX10_isSo 4 RX10 (some .boolean) := C
  have hl : lv_has ls 4 [(0, .ref (adG g 0)), (1, .int x1), (2, .int x2)] := hl
  obtain ⟨hx, hb, hml, hown, hts, hr, hlk, hK, hZ⟩ := id C
  unfold fX10_isSo at h
  refine lv_aload_n hx hb dX10_isSo_0 rfl (lv_at hl 0 rfl) ?_
  refine r_getr C cf_10 hP sm_0 km_0 6 (by decide) rfl tw_149 dX10_isSo_1 ?_
  refine lv_bipush (v := 53) hx hb dX10_isSo_4 (by decide) ?_
  refine lv_iload_n hx hb dX10_isSo_6 rfl (lv_at hl 1 rfl) ?_
  refine lv_iadd hx hb dX10_isSo_7 ?_
  obtain ⟨g_1, h⟩ := gd_inv h
  refine r_iald C hP sm_6 km_6 rfl g_1 dX10_isSo_8 ?_
  refine lv_topi (fun x_2 ex_2 => ?_)
  replace h := un_at ex_2 h
  refine lv_istore_n (lv' := [(3, .int x_2), (0, .ref (adG g 0)), (1, .int x1), (2, .int x2)]) hx hb dX10_isSo_9 rfl hl (by decide) rfl (fun ls hl => ?_)
  refine lv_iload_n hx hb dX10_isSo_10 rfl (lv_at hl 3 rfl) ?_
  refine lv_if_ne (tgt := 50) hx hb dX10_isSo_11 (by decide) (fun c_ => ?_) (fun c_ => ?_)
  · replace h := if_f c_ h
    refine lv_iload_n hx hb dX10_isSo_50 rfl (lv_at hl 0 rfl) ?_
    refine lv_iload_n hx hb dX10_isSo_51 rfl (lv_at hl 3 rfl) ?_
    refine lv_iconst (v := 1) hx hb dX10_isSo_52 (by decide) ?_
    refine lv_icmp_ne (tgt := 60) hx hb dX10_isSo_53 (by decide) (fun c_ => ?_) (fun c_ => ?_)
    · replace h := if_f c_ h
      refine lv_iconst (v := 1) hx hb dX10_isSo_60 (by decide) ?_
      exact wfX10_isSo_j61 C x_2 (1 : Int32) H locs ls h hP hS (lv_sub hl [] rfl)
    · replace h := if_t c_ h
      refine lv_iconst (v := 2) hx hb dX10_isSo_56 (by decide) ?_
      refine lv_goto (tgt := 61) hx hb dX10_isSo_57 (by decide) ?_
      exact wfX10_isSo_j61 C x_2 (2 : Int32) H locs ls h hP hS (lv_sub hl [] rfl)
  · replace h := if_t c_ h
    refine lv_iload_n hx hb dX10_isSo_14 rfl (lv_at hl 0 rfl) ?_
    refine lv_iconst (v := 2) hx hb dX10_isSo_15 (by decide) ?_
    refine lv_icmp_eq (tgt := 42) hx hb dX10_isSo_16 (by decide) (fun c_ => ?_) (fun c_ => ?_)
    · replace h := if_t c_ h
      refine lv_iconst (v := 1) hx hb dX10_isSo_42 (by decide) ?_
      refine lv_goto (tgt := 69) hx hb dX10_isSo_43 (by decide) ?_
      exact r_retz C hP hS rfl (rt_o h) rfl dX10_isSo_69
    · replace h := if_f c_ h
      refine lv_iload_n hx hb dX10_isSo_19 rfl (lv_at hl 0 rfl) ?_
      refine lv_if_ne (tgt := 46) hx hb dX10_isSo_20 (by decide) (fun c_ => ?_) (fun c_ => ?_)
      · replace h := if_f c_ h
        refine lv_iconst (v := 0) hx hb dX10_isSo_46 (by decide) ?_
        refine lv_goto (tgt := 69) hx hb dX10_isSo_47 (by decide) ?_
        exact r_retz C hP hS rfl (rt_o h) rfl dX10_isSo_69
      · replace h := if_t c_ h
        refine lv_aload_n hx hb dX10_isSo_23 rfl (lv_at hl 1 rfl) ?_
        refine r_getr C cf_10 hP sm_0 km_0 6 (by decide) rfl tw_149 dX10_isSo_24 ?_
        refine lv_aload_n hx hb dX10_isSo_27 rfl (lv_at hl 1 rfl) ?_
        refine r_getr C cf_10 hP sm_0 km_0 6 (by decide) rfl tw_149 dX10_isSo_28 ?_
        refine lv_bipush (v := 47) hx hb dX10_isSo_31 (by decide) ?_
        refine lv_iload_n hx hb dX10_isSo_33 rfl (lv_at hl 2 rfl) ?_
        refine lv_iadd hx hb dX10_isSo_34 ?_
        obtain ⟨g_3, h⟩ := gd_inv h
        refine r_iald C hP sm_6 km_6 rfl g_3 dX10_isSo_35 ?_
        obtain ⟨q_4, hq_4, h⟩ := bd_inv h
        refine end_i (run_s (As := [.ref (adG g 6), .int (σ 6 ((47 : Int32) + x1).toNatClampNeg)]) (rest := []) C ca_X10_lies (ctX10_lies 6 ⟨sm_6, km_6⟩ (σ 6 ((47 : Int32) + x1).toNatClampNeg) hq_4) tw_502 ⟨Nat.le_of_ble_eq_true rfl, Nat.le_of_ble_eq_true rfl⟩ rfl hl.1 (Nat.le_of_ble_eq_true rfl) ⟨Nat.le_refl _, Nat.le_refl _⟩ hP hS dX10_isSo_36) hS (fun H locs hP hS => ?_)
        refine lv_if_eq (tgt := 46) hx hb dX10_isSo_39 (by decide) (fun c_ => ?_) (fun c_ => ?_)
        · replace h := if_t c_ h
          refine lv_iconst (v := 0) hx hb dX10_isSo_46 (by decide) ?_
          refine lv_goto (tgt := 69) hx hb dX10_isSo_47 (by decide) ?_
          exact r_retz C hP hS rfl (rt_o h) rfl dX10_isSo_69
        · replace h := if_f c_ h
          refine lv_iconst (v := 1) hx hb dX10_isSo_42 (by decide) ?_
          refine lv_goto (tgt := 69) hx hb dX10_isSo_43 (by decide) ?_
          exact r_retz C hP hS rfl (rt_o h) rfl dX10_isSo_69

set_option maxRecDepth 100000 in
set_option maxHeartbeats 4000000 in
theorem wfX10_when_L30 {l : Launch} {g : Gw} {p : Program} {e : Env} {s : State} {m : MethodId} {args : Array Value} {below : List Frame} {meth : Method} {c : Code} (C : Cx wkM g p s m args meth c cX10_when 4 RX10 (some .int)) {Rz : (Sto × Int32)} : ∀ (n : Nat) (σ : Sto) (x1 : Int32) (x2 : Int32) (x3 : Int32) (H : Heap) (locs : List Loc) (ls : Array Slot), fX10_when_L30 n σ x1 x2 x3 = some Rz → wS wkM g σ H → va_S (AS wkM g) s.heap H locs → lv_has ls 4 [(0, .ref (adG g 0)), (1, .int x1), (2, .int x2), (3, .int x3)] → W p l e (rmS 5) s m args below meth c H locs 0 0 (MQ below (QiS wkM g Rz.1 Rz.2) args s 0 0 (AS wkM g)) (F0 m 30 ls []) := by
  intro n
  induction n with
  | zero =>
    intro σ x1 x2 x3 H locs ls h
    cases h
  | succ n ih =>
    intro σ x1 x2 x3 H locs ls h hP hS hl
    obtain ⟨hx, hb, hml, hown, hts, hr, hlk, hK, hZ⟩ := id C
    rw [fX10_when_L30] at h
    refine lv_iload_n hx hb dX10_when_30 rfl (lv_at hl 3 rfl) ?_
    refine lv_bipush (v := 61) hx hb dX10_when_31 (by decide) ?_
    refine lv_icmp_ge (tgt := 60) hx hb dX10_when_33 (by decide) (fun c_ => ?_) (fun c_ => ?_)
    · replace h := if_t c_ h
      refine lv_ldc hx hb hown (hts _ tw_718) dX10_when_60 ?_
      exact r_reti C hP hS (rt_ow1 h) (rt_ow2 h) dX10_when_62
    · replace h := if_f c_ h
      refine lv_aload_n hx hb dX10_when_36 rfl (lv_at hl 0 rfl) ?_
      refine lv_iload_n hx hb dX10_when_37 rfl (lv_at hl 1 rfl) ?_
      refine lv_iload_n hx hb dX10_when_38 rfl (lv_at hl 2 rfl) ?_
      obtain ⟨q_1, hq_1, h⟩ := bd_inv h
      refine end_i (run_v (As := [.int x1, .int x2]) (rest := []) C ca_X10_isSo (ctX10_isSo x1 x2 hq_1) cf_10 sm_0 km_0 tw_719 ⟨Nat.le_of_ble_eq_true rfl, Nat.le_of_ble_eq_true rfl⟩ rfl hl.1 (Nat.le_of_ble_eq_true rfl) ⟨Nat.le_refl _, Nat.le_refl _⟩ hP hS dX10_when_39) hS (fun H locs hP hS => ?_)
      refine lv_if_eq (tgt := 47) hx hb dX10_when_42 (by decide) (fun c_ => ?_) (fun c_ => ?_)
      · replace h := if_t c_ h
        refine lv_aload_n hx hb dX10_when_47 rfl (lv_at hl 0 rfl) ?_
        refine r_getr C cf_10 hP sm_0 km_0 6 (by decide) rfl tw_149 dX10_when_48 ?_
        obtain ⟨q_2, hq_2, h⟩ := bd_inv h
        refine end_v (run_s (As := [.ref (adG g 6)]) (rest := []) C ca_X10_passes (ctX10_passes 6 ⟨sm_6, km_6⟩ hq_2) tw_490 ⟨Nat.le_of_ble_eq_true rfl, Nat.le_of_ble_eq_true rfl⟩ rfl hl.1 (Nat.le_of_ble_eq_true rfl) ⟨Nat.le_refl _, Nat.le_refl _⟩ hP hS dX10_when_51) hS (fun H locs hP hS => ?_)
        obtain ⟨x_3, ex_3⟩ : ∃ y : Int32, y = x3 + (1 : Int32) := ⟨_, rfl⟩
        replace h := un_at ex_3 h
        refine lv_iinc (v := x_3) (lv' := [(3, .int x_3), (0, .ref (adG g 0)), (1, .int x1), (2, .int x2)]) hx hb dX10_when_54 hl (k := 3) rfl (by rw [ex_3]; rfl) (by decide) rfl (fun ls hl => ?_)
        refine lv_goto (tgt := 30) hx hb dX10_when_57 (by decide) ?_
        exact ih q_2 x1 x2 x_3 H locs ls h hP hS (lv_sub hl [1, 2, 3, 0] rfl)
      · replace h := if_f c_ h
        refine lv_iload_n hx hb dX10_when_45 rfl (lv_at hl 3 rfl) ?_
        exact r_reti C hP hS (rt_ow1 h) (rt_ow2 h) dX10_when_46

set_option maxRecDepth 100000 in
set_option maxHeartbeats 4000000 in
theorem ctX10_when {l : Launch} {g : Gw} {σ : Sto} (x1 : Int32) (x2 : Int32) {Rz : (Sto × Int32)} (h : fX10_when σ x1 x2 = some Rz) : MtG l yX10_when cX10_when 4 (some .int) 5 wkM g [.ref (adG g 0), .int x1, .int x2] σ (QiS wkM g Rz.1 Rz.2) := by
  refine mt_of (by decide) (Nat.le_of_ble_eq_true rfl) (fun p e s m below meth c ls H locs C hP hS hl => ?_)
  have C : Cx wkM g p s m _ meth c cX10_when 4 RX10 (some .int) := C
  have hl : lv_has ls 4 [(0, .ref (adG g 0)), (1, .int x1), (2, .int x2)] := hl
  obtain ⟨hx, hb, hml, hown, hts, hr, hlk, hK, hZ⟩ := id C
  unfold fX10_when at h
  refine lv_aload_n hx hb dX10_when_0 rfl (lv_at hl 0 rfl) ?_
  refine lv_iload_n hx hb dX10_when_1 rfl (lv_at hl 1 rfl) ?_
  refine end_i (run_v (As := [.int x1]) (rest := []) C ca_X10_isThing (ctX10_isThing x1 rfl) cf_10 sm_0 km_0 tw_551 ⟨Nat.le_of_ble_eq_true rfl, Nat.le_of_ble_eq_true rfl⟩ rfl hl.1 (Nat.le_of_ble_eq_true rfl) ⟨Nat.le_refl _, Nat.le_refl _⟩ hP hS dX10_when_2) hS (fun H locs hP hS => ?_)
  refine lv_if_eq (tgt := 20) hx hb dX10_when_5 (by decide) (fun c_ => ?_) (fun c_ => ?_)
  · replace h := if_t c_ h
    refine lv_ldc hx hb hown (hts _ tw_188) dX10_when_20 ?_
    exact r_reti C hP hS (rt_ow1 h) (rt_ow2 h) dX10_when_22
  · replace h := if_f c_ h
    refine lv_iload_n hx hb dX10_when_8 rfl (lv_at hl 2 rfl) ?_
    refine lv_i2l hx hb dX10_when_9 rfl ?_
    refine lv_lconst (v := 0) hx hb dX10_when_10 (by decide) ?_
    refine lv_ldc2 hx hb hown (hts _ tw_187) dX10_when_11 ?_
    refine end_i (run_s (As := [.long x2.toInt64, .long (0 : Int64), .long (2 : Int64)]) (rest := []) C ca_X10_in (ctX10_in x2.toInt64 (0 : Int64) (2 : Int64) rfl) tw_193 ⟨Nat.le_of_ble_eq_true rfl, Nat.le_of_ble_eq_true rfl⟩ rfl hl.1 (Nat.le_of_ble_eq_true rfl) ⟨Nat.le_refl _, Nat.le_refl _⟩ hP hS dX10_when_14) hS (fun H locs hP hS => ?_)
    refine lv_if_ne (tgt := 23) hx hb dX10_when_17 (by decide) (fun c_ => ?_) (fun c_ => ?_)
    · replace h := if_f c_ h
      refine lv_aload_n hx hb dX10_when_23 rfl (lv_at hl 0 rfl) ?_
      refine lv_iconst (v := 0) hx hb dX10_when_24 (by decide) ?_
      obtain ⟨q_3, hq_3, h⟩ := bd_inv h
      refine end_v (run_v (As := [.int (0 : Int32)]) (rest := []) C ca_X10_laysAside (ctX10_laysAside (0 : Int32) hq_3) cf_10 sm_0 km_0 tw_650 ⟨Nat.le_of_ble_eq_true rfl, Nat.le_of_ble_eq_true rfl⟩ rfl hl.1 (Nat.le_of_ble_eq_true rfl) ⟨Nat.le_refl _, Nat.le_refl _⟩ hP hS dX10_when_25) hS (fun H locs hP hS => ?_)
      refine lv_iconst (v := 0) hx hb dX10_when_28 (by decide) ?_
      refine lv_istore_n (lv' := [(3, .int (0 : Int32)), (0, .ref (adG g 0)), (1, .int x1), (2, .int x2)]) hx hb dX10_when_29 rfl hl (by decide) rfl (fun ls hl => ?_)
      exact wfX10_when_L30 C fu q_3 x1 x2 (0 : Int32) H locs ls h hP hS (lv_sub hl [1, 2, 3, 0] rfl)
    · replace h := if_t c_ h
      refine lv_ldc hx hb hown (hts _ tw_188) dX10_when_20 ?_
      exact r_reti C hP hS (rt_ow1 h) (rt_ow2 h) dX10_when_22

set_option maxRecDepth 100000 in
set_option maxHeartbeats 4000000 in
theorem wfX10_front_L35 {l : Launch} {g : Gw} {p : Program} {e : Env} {s : State} {m : MethodId} {args : Array Value} {below : List Frame} {meth : Method} {c : Code} (C : Cx wkM g p s m args meth c cX10_front 4 RX10 (some .int)) {Rz : (Sto × Int32)} : ∀ (n : Nat) (σ : Sto) (x2 : Int32) (x3 : Int32) (H : Heap) (locs : List Loc) (ls : Array Slot), fX10_front_L35 n σ x2 x3 = some Rz → wS wkM g σ H → va_S (AS wkM g) s.heap H locs → lv_has ls 4 [(0, .ref (adG g 0)), (2, .int x2), (3, .int x3)] → W p l e (rmS 5) s m args below meth c H locs 0 0 (MQ below (QiS wkM g Rz.1 Rz.2) args s 0 0 (AS wkM g)) (F0 m 35 ls []) := by
  intro n
  induction n with
  | zero =>
    intro σ x2 x3 H locs ls h
    cases h
  | succ n ih =>
    intro σ x2 x3 H locs ls h hP hS hl
    obtain ⟨hx, hb, hml, hown, hts, hr, hlk, hK, hZ⟩ := id C
    rw [fX10_front_L35] at h
    refine lv_iload_n hx hb dX10_front_35 rfl (lv_at hl 2 rfl) ?_
    refine lv_aload_n hx hb dX10_front_36 rfl (lv_at hl 0 rfl) ?_
    refine r_getr C cf_10 hP sm_0 km_0 4 (by decide) rfl tw_147 dX10_front_37 ?_
    refine lv_iconst (v := 0) hx hb dX10_front_40 (by decide) ?_
    refine r_iald C hP sm_4 km_4 (j := 0) (by decide) (by decide) dX10_front_41 ?_
    refine lv_icmp_ge (tgt := 68) hx hb dX10_front_42 (by decide) (fun c_ => ?_) (fun c_ => ?_)
    · replace h := if_t c_ h
      refine lv_iload_n hx hb dX10_front_68 rfl (lv_at hl 1 rfl) ?_
      exact r_reti C hP hS (rt_ow1 h) (rt_ow2 h) dX10_front_69
    · replace h := if_f c_ h
      refine lv_aload_n hx hb dX10_front_45 rfl (lv_at hl 0 rfl) ?_
      refine r_getr C cf_10 hP sm_0 km_0 6 (by decide) rfl tw_149 dX10_front_46 ?_
      refine lv_iload_n hx hb dX10_front_49 rfl (lv_at hl 2 rfl) ?_
      obtain ⟨q_1, hq_1, h⟩ := bd_inv h
      refine end_i (run_s (As := [.ref (adG g 6), .int x3]) (rest := []) C ca_X10_lies (ctX10_lies 6 ⟨sm_6, km_6⟩ x3 hq_1) tw_502 ⟨Nat.le_of_ble_eq_true rfl, Nat.le_of_ble_eq_true rfl⟩ rfl hl.1 (Nat.le_of_ble_eq_true rfl) ⟨Nat.le_refl _, Nat.le_refl _⟩ hP hS dX10_front_50) hS (fun H locs hP hS => ?_)
      refine lv_if_eq (tgt := 60) hx hb dX10_front_53 (by decide) (fun c_ => ?_) (fun c_ => ?_)
      · replace h := if_t c_ h
        refine lv_iload_n hx hb dX10_front_60 rfl (lv_at hl 1 rfl) ?_
        refine lv_istore_n (lv' := [(2, .int x2), (0, .ref (adG g 0)), (3, .int x3)]) hx hb dX10_front_61 rfl hl (by decide) rfl (fun ls hl => ?_)
        obtain ⟨x_2, ex_2⟩ : ∃ y : Int32, y = x3 + (1 : Int32) := ⟨_, rfl⟩
        replace h := un_at ex_2 h
        refine lv_iinc (v := x_2) (lv' := [(3, .int x_2), (2, .int x2), (0, .ref (adG g 0))]) hx hb dX10_front_62 hl (k := 2) rfl (by rw [ex_2]; rfl) (by decide) rfl (fun ls hl => ?_)
        refine lv_goto (tgt := 35) hx hb dX10_front_65 (by decide) ?_
        exact ih σ x2 x_2 H locs ls h hP hS (lv_sub hl [2, 1, 0] rfl)
      · replace h := if_f c_ h
        refine lv_iload_n hx hb dX10_front_56 rfl (lv_at hl 2 rfl) ?_
        refine lv_goto (tgt := 61) hx hb dX10_front_57 (by decide) ?_
        refine lv_istore_n (lv' := [(2, .int x3), (0, .ref (adG g 0)), (3, .int x3)]) hx hb dX10_front_61 rfl hl (by decide) rfl (fun ls hl => ?_)
        obtain ⟨x_3, ex_3⟩ : ∃ y : Int32, y = x3 + (1 : Int32) := ⟨_, rfl⟩
        replace h := un_at ex_3 h
        refine lv_iinc (v := x_3) (lv' := [(3, .int x_3), (2, .int x3), (0, .ref (adG g 0))]) hx hb dX10_front_62 hl (k := 2) rfl (by rw [ex_3]; rfl) (by decide) rfl (fun ls hl => ?_)
        refine lv_goto (tgt := 35) hx hb dX10_front_65 (by decide) ?_
        exact ih σ x3 x_3 H locs ls h hP hS (lv_sub hl [2, 1, 0] rfl)

set_option maxRecDepth 100000 in
set_option maxHeartbeats 4000000 in
theorem ctX10_front {l : Launch} {g : Gw} {σ : Sto} (x1 : Int32) {Rz : (Sto × Int32)} (h : fX10_front σ x1 = some Rz) : MtG l yX10_front cX10_front 4 (some .int) 5 wkM g [.ref (adG g 0), .int x1] σ (QiS wkM g Rz.1 Rz.2) := by
  refine mt_of (by decide) (Nat.le_of_ble_eq_true rfl) (fun p e s m below meth c ls H locs C hP hS hl => ?_)
  have C : Cx wkM g p s m _ meth c cX10_front 4 RX10 (some .int) := C
  have hl : lv_has ls 4 [(0, .ref (adG g 0)), (1, .int x1)] := hl
  obtain ⟨hx, hb, hml, hown, hts, hr, hlk, hK, hZ⟩ := id C
  unfold fX10_front at h
  refine lv_aload_n hx hb dX10_front_0 rfl (lv_at hl 0 rfl) ?_
  refine end_i (run_v (As := []) (rest := []) C ca_X10_isThere (ctX10_isThere rfl) cf_10 sm_0 km_0 tw_482 ⟨Nat.le_of_ble_eq_true rfl, Nat.le_of_ble_eq_true rfl⟩ rfl hl.1 (Nat.le_of_ble_eq_true rfl) ⟨Nat.le_refl _, Nat.le_refl _⟩ hP hS dX10_front_1) hS (fun H locs hP hS => ?_)
  refine lv_if_ne (tgt := 10) hx hb dX10_front_4 (by decide) (fun c_ => ?_) (fun c_ => ?_)
  · replace h := if_f c_ h
    refine lv_iload_n hx hb dX10_front_10 rfl (lv_at hl 1 rfl) ?_
    refine lv_i2l hx hb dX10_front_11 rfl ?_
    refine lv_lconst (v := 0) hx hb dX10_front_12 (by decide) ?_
    refine lv_ldc2 hx hb hown (hts _ tw_649) dX10_front_13 ?_
    refine end_i (run_s (As := [.long x1.toInt64, .long (0 : Int64), .long (60 : Int64)]) (rest := []) C ca_X10_in (ctX10_in x1.toInt64 (0 : Int64) (60 : Int64) rfl) tw_193 ⟨Nat.le_of_ble_eq_true rfl, Nat.le_of_ble_eq_true rfl⟩ rfl hl.1 (Nat.le_of_ble_eq_true rfl) ⟨Nat.le_refl _, Nat.le_refl _⟩ hP hS dX10_front_16) hS (fun H locs hP hS => ?_)
    refine lv_if_ne (tgt := 25) hx hb dX10_front_19 (by decide) (fun c_ => ?_) (fun c_ => ?_)
    · replace h := if_f c_ h
      refine lv_aload_n hx hb dX10_front_25 rfl (lv_at hl 0 rfl) ?_
      refine lv_iload_n hx hb dX10_front_26 rfl (lv_at hl 1 rfl) ?_
      obtain ⟨q_3, hq_3, h⟩ := bd_inv h
      refine end_v (run_v (As := [.int x1]) (rest := []) C ca_X10_laysAside (ctX10_laysAside x1 hq_3) cf_10 sm_0 km_0 tw_650 ⟨Nat.le_of_ble_eq_true rfl, Nat.le_of_ble_eq_true rfl⟩ rfl hl.1 (Nat.le_of_ble_eq_true rfl) ⟨Nat.le_refl _, Nat.le_refl _⟩ hP hS dX10_front_27) hS (fun H locs hP hS => ?_)
      refine lv_ldc hx hb hown (hts _ tw_718) dX10_front_30 ?_
      refine lv_istore_n (lv' := [(2, .int (-1000000 : Int32)), (0, .ref (adG g 0)), (1, .int x1)]) hx hb dX10_front_32 rfl hl (by decide) rfl (fun ls hl => ?_)
      refine lv_iconst (v := 0) hx hb dX10_front_33 (by decide) ?_
      refine lv_istore_n (lv' := [(3, .int (0 : Int32)), (2, .int (-1000000 : Int32)), (0, .ref (adG g 0)), (1, .int x1)]) hx hb dX10_front_34 rfl hl (by decide) rfl (fun ls hl => ?_)
      exact wfX10_front_L35 C fu q_3 (-1000000 : Int32) (0 : Int32) H locs ls h hP hS (lv_sub hl [2, 1, 0] rfl)
    · replace h := if_t c_ h
      refine lv_ldc hx hb hown (hts _ tw_188) dX10_front_22 ?_
      exact r_reti C hP hS (rt_ow1 h) (rt_ow2 h) dX10_front_24
  · replace h := if_t c_ h
    refine lv_ldc hx hb hown (hts _ tw_436) dX10_front_7 ?_
    exact r_reti C hP hS (rt_ow1 h) (rt_ow2 h) dX10_front_9

set_option maxRecDepth 100000 in
set_option maxHeartbeats 4000000 in
theorem wfX10_power_L4 {l : Launch} {g : Gw} {p : Program} {e : Env} {s : State} {m : MethodId} {args : Array Value} {below : List Frame} {meth : Method} {c : Code} {σ : Sto} (C : Cx wkM g p s m args meth c cX10_power 4 RX10 (some .int)) {Rz : Int32} : ∀ (n : Nat) (x0 : Int32) (x1 : Int32) (x2 : Int32) (x3 : Int32) (H : Heap) (locs : List Loc) (ls : Array Slot), fX10_power_L4 n x0 x1 x2 x3 = some Rz → wS wkM g σ H → va_S (AS wkM g) s.heap H locs → lv_has ls 4 [(0, .int x0), (1, .int x1), (2, .int x2), (3, .int x3)] → W p l e (rmS 0) s m args below meth c H locs 0 0 (MQ below (QiS wkM g σ Rz) args s 0 0 (AS wkM g)) (F0 m 4 ls []) := by
  intro n
  induction n with
  | zero =>
    intro x0 x1 x2 x3 H locs ls h
    cases h
  | succ n ih =>
    intro x0 x1 x2 x3 H locs ls h hP hS hl
    obtain ⟨hx, hb, hml, hown, hts, hr, hlk, hK, hZ⟩ := id C
    rw [fX10_power_L4] at h
    refine lv_iload_n hx hb dX10_power_4 rfl (lv_at hl 3 rfl) ?_
    refine lv_iload_n hx hb dX10_power_5 rfl (lv_at hl 1 rfl) ?_
    refine lv_icmp_ge (tgt := 19) hx hb dX10_power_6 (by decide) (fun c_ => ?_) (fun c_ => ?_)
    · replace h := if_t c_ h
      refine lv_iload_n hx hb dX10_power_19 rfl (lv_at hl 2 rfl) ?_
      exact r_reti C hP hS rfl (rt_o h) dX10_power_20
    · replace h := if_f c_ h
      refine lv_iload_n hx hb dX10_power_9 rfl (lv_at hl 2 rfl) ?_
      refine lv_iload_n hx hb dX10_power_10 rfl (lv_at hl 0 rfl) ?_
      refine lv_imul hx hb dX10_power_11 ?_
      refine lv_topi (fun x_1 ex_1 => ?_)
      replace h := un_at ex_1 h
      refine lv_istore_n (lv' := [(2, .int x_1), (0, .int x0), (1, .int x1), (3, .int x3)]) hx hb dX10_power_12 rfl hl (by decide) rfl (fun ls hl => ?_)
      obtain ⟨x_2, ex_2⟩ : ∃ y : Int32, y = x3 + (1 : Int32) := ⟨_, rfl⟩
      replace h := un_at ex_2 h
      refine lv_iinc (v := x_2) (lv' := [(3, .int x_2), (2, .int x_1), (0, .int x0), (1, .int x1)]) hx hb dX10_power_13 hl (k := 3) rfl (by rw [ex_2]; rfl) (by decide) rfl (fun ls hl => ?_)
      refine lv_goto (tgt := 4) hx hb dX10_power_16 (by decide) ?_
      exact ih x0 x1 x_1 x_2 H locs ls h hP hS (lv_sub hl [2, 3, 1, 0] rfl)

set_option maxRecDepth 100000 in
set_option maxHeartbeats 4000000 in
theorem ctX10_power {l : Launch} {g : Gw} {σ : Sto} (x0 : Int32) (x1 : Int32) {Rz : Int32} (h : fX10_power x0 x1 = some Rz) : MtG l yX10_power cX10_power 4 (some .int) 0 wkM g [.int x0, .int x1] σ (QiS wkM g σ Rz) := by
  refine mt_of (by decide) (Nat.le_of_ble_eq_true rfl) (fun p e s m below meth c ls H locs C hP hS hl => ?_)
  have C : Cx wkM g p s m _ meth c cX10_power 4 RX10 (some .int) := C
  have hl : lv_has ls 4 [(0, .int x0), (1, .int x1)] := hl
  obtain ⟨hx, hb, hml, hown, hts, hr, hlk, hK, hZ⟩ := id C
  unfold fX10_power at h
  refine lv_iconst (v := 1) hx hb dX10_power_0 (by decide) ?_
  refine lv_istore_n (lv' := [(2, .int (1 : Int32)), (0, .int x0), (1, .int x1)]) hx hb dX10_power_1 rfl hl (by decide) rfl (fun ls hl => ?_)
  refine lv_iconst (v := 0) hx hb dX10_power_2 (by decide) ?_
  refine lv_istore_n (lv' := [(3, .int (0 : Int32)), (2, .int (1 : Int32)), (0, .int x0), (1, .int x1)]) hx hb dX10_power_3 rfl hl (by decide) rfl (fun ls hl => ?_)
  exact wfX10_power_L4 C fu x0 x1 (1 : Int32) (0 : Int32) H locs ls h hP hS (lv_sub hl [2, 3, 1, 0] rfl)
