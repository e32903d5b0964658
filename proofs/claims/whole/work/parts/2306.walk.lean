set_option maxRecDepth 100000 in
set_option maxHeartbeats 4000000 in
theorem ctX6_readLaw {l : Launch} {g : Gw} {σ : Sto} {Rz : (Sto × Int32)} (h : fX6_readLaw σ = some Rz) : MtG l yX6_readLaw cX6_readLaw 1 (some .boolean) 2 wkX g [.ref (adG g 5)] σ (QiS wkX g Rz.1 Rz.2) := by
  refine mt_of (by decide) (Nat.le_of_ble_eq_true rfl) (fun p e s m below meth c ls H locs C hP hS hl => ?_)
  have C : Cx wkX g p s m _ meth c cX6_readLaw 1 RX6 (some .boolean) := C
  have hl : lv_has ls 1 [(0, .ref (adG g 5))] := hl
  obtain ⟨hx, hb, hml, hown, hts, hr, hlk, hK, hZ⟩ := id C
  unfold fX6_readLaw at h
  refine lv_aload_n hx hb dX6_readLaw_0 rfl (lv_at hl 0 rfl) ?_
  refine lv_bipush (v := 118) hx hb dX6_readLaw_1 (by decide) ?_
  obtain ⟨q_1, hq_1, h⟩ := bd_inv h
  refine end_i (run_v (As := [.int (118 : Int32)]) (rest := []) C ca_X6_readSign (ctX6_readSign (118 : Int32) hq_1) cf_6 sx_5 kx_5 tw_305 ⟨Nat.le_of_ble_eq_true rfl, Nat.le_of_ble_eq_true rfl⟩ rfl hl.1 (Nat.le_of_ble_eq_true rfl) ⟨Nat.le_refl _, Nat.le_refl _⟩ hP hS dX6_readLaw_3) hS (fun H locs hP hS => ?_)
  refine lv_if_ne (tgt := 11) hx hb dX6_readLaw_6 (by decide) (fun c_ => ?_) (fun c_ => ?_)
  · replace h := if_f c_ h
    refine lv_aload_n hx hb dX6_readLaw_11 rfl (lv_at hl 0 rfl) ?_
    refine r_getr C cf_6 hP sx_5 kx_5 0 (by decide) rfl tw_59 dX6_readLaw_12 ?_
    refine lv_aload_n hx hb dX6_readLaw_15 rfl (lv_at hl 0 rfl) ?_
    refine lv_iconst (v := 0) hx hb dX6_readLaw_16 (by decide) ?_
    refine lv_bipush (v := 20) hx hb dX6_readLaw_17 (by decide) ?_
    obtain ⟨q_2, hq_2, h⟩ := bd_inv h
    refine end_i (run_v (As := [.int (0 : Int32), .int (20 : Int32)]) (rest := [.ref (adG g 44)]) C ca_X6_readNumber (ctX6_readNumber (0 : Int32) (20 : Int32) hq_2) cf_6 sx_5 kx_5 tw_317 ⟨Nat.le_of_ble_eq_true rfl, Nat.le_of_ble_eq_true rfl⟩ rfl hl.1 (Nat.le_of_ble_eq_true rfl) ⟨Nat.le_refl _, Nat.le_refl _⟩ hP hS dX6_readLaw_19) hS (fun H locs hP hS => ?_)
    refine r_puti C cf_8 hP hS (sv_0 iv_44) (kv_0 iv_44) 2 (by decide) rfl rfl rfl tw_303 dX6_readLaw_22 (fun H locs σ_3 eσ_3 hP hS => ?_)
    replace h := un_at eσ_3 h
    refine lv_aload_n hx hb dX6_readLaw_25 rfl (lv_at hl 0 rfl) ?_
    refine r_getr C cf_6 hP sx_5 kx_5 0 (by decide) rfl tw_59 dX6_readLaw_26 ?_
    refine r_geti C cf_8 hP (sv_0 iv_44) (kv_0 iv_44) 2 (by decide) rfl tw_303 dX6_readLaw_29 ?_
    refine lv_iconst (v := (-1)) hx hb dX6_readLaw_32 (by decide) ?_
    refine lv_icmp_eq (tgt := 45) hx hb dX6_readLaw_33 (by decide) (fun c_ => ?_) (fun c_ => ?_)
    · replace h := if_t c_ h
      refine lv_iconst (v := 0) hx hb dX6_readLaw_45 (by decide) ?_
      exact r_retz C hP hS (rt_ow1 h) (rt_ow2 h) rfl dX6_readLaw_46
    · replace h := if_f c_ h
      refine lv_aload_n hx hb dX6_readLaw_36 rfl (lv_at hl 0 rfl) ?_
      refine lv_bipush (v := 44) hx hb dX6_readLaw_37 (by decide) ?_
      obtain ⟨q_4, hq_4, h⟩ := bd_inv h
      refine end_i (run_v (As := [.int (44 : Int32)]) (rest := []) C ca_X6_readSign (ctX6_readSign (44 : Int32) hq_4) cf_6 sx_5 kx_5 tw_305 ⟨Nat.le_of_ble_eq_true rfl, Nat.le_of_ble_eq_true rfl⟩ rfl hl.1 (Nat.le_of_ble_eq_true rfl) ⟨Nat.le_refl _, Nat.le_refl _⟩ hP hS dX6_readLaw_39) hS (fun H locs hP hS => ?_)
      refine lv_if_ne (tgt := 47) hx hb dX6_readLaw_42 (by decide) (fun c_ => ?_) (fun c_ => ?_)
      · replace h := if_f c_ h
        refine lv_aload_n hx hb dX6_readLaw_47 rfl (lv_at hl 0 rfl) ?_
        refine r_getr C cf_6 hP sx_5 kx_5 0 (by decide) rfl tw_59 dX6_readLaw_48 ?_
        refine lv_aload_n hx hb dX6_readLaw_51 rfl (lv_at hl 0 rfl) ?_
        refine lv_iconst (v := 0) hx hb dX6_readLaw_52 (by decide) ?_
        refine lv_bipush (v := 60) hx hb dX6_readLaw_53 (by decide) ?_
        obtain ⟨q_5, hq_5, h⟩ := bd_inv h
        refine end_i (run_v (As := [.int (0 : Int32), .int (60 : Int32)]) (rest := [.ref (adG g 44)]) C ca_X6_readNumber (ctX6_readNumber (0 : Int32) (60 : Int32) hq_5) cf_6 sx_5 kx_5 tw_317 ⟨Nat.le_of_ble_eq_true rfl, Nat.le_of_ble_eq_true rfl⟩ rfl hl.1 (Nat.le_of_ble_eq_true rfl) ⟨Nat.le_refl _, Nat.le_refl _⟩ hP hS dX6_readLaw_55) hS (fun H locs hP hS => ?_)
        refine r_puti C cf_8 hP hS (sv_0 iv_44) (kv_0 iv_44) 3 (by decide) rfl rfl rfl tw_304 dX6_readLaw_58 (fun H locs σ_6 eσ_6 hP hS => ?_)
        replace h := un_at eσ_6 h
        refine lv_aload_n hx hb dX6_readLaw_61 rfl (lv_at hl 0 rfl) ?_
        refine r_getr C cf_6 hP sx_5 kx_5 0 (by decide) rfl tw_59 dX6_readLaw_62 ?_
        refine r_geti C cf_8 hP (sv_0 iv_44) (kv_0 iv_44) 3 (by decide) rfl tw_304 dX6_readLaw_65 ?_
        refine lv_iconst (v := (-1)) hx hb dX6_readLaw_68 (by decide) ?_
        refine lv_icmp_eq (tgt := 85) hx hb dX6_readLaw_69 (by decide) (fun c_ => ?_) (fun c_ => ?_)
        · replace h := if_t c_ h
          refine lv_iconst (v := 0) hx hb dX6_readLaw_85 (by decide) ?_
          exact r_retz C hP hS (rt_ow1 h) (rt_ow2 h) rfl dX6_readLaw_86
        · replace h := if_f c_ h
          refine lv_aload_n hx hb dX6_readLaw_72 rfl (lv_at hl 0 rfl) ?_
          refine lv_bipush (v := 59) hx hb dX6_readLaw_73 (by decide) ?_
          obtain ⟨q_7, hq_7, h⟩ := bd_inv h
          refine end_i (run_v (As := [.int (59 : Int32)]) (rest := []) C ca_X6_readSign (ctX6_readSign (59 : Int32) hq_7) cf_6 sx_5 kx_5 tw_305 ⟨Nat.le_of_ble_eq_true rfl, Nat.le_of_ble_eq_true rfl⟩ rfl hl.1 (Nat.le_of_ble_eq_true rfl) ⟨Nat.le_refl _, Nat.le_refl _⟩ hP hS dX6_readLaw_75) hS (fun H locs hP hS => ?_)
          refine lv_if_eq (tgt := 85) hx hb dX6_readLaw_78 (by decide) (fun c_ => ?_) (fun c_ => ?_)
          · replace h := if_t c_ h
            refine lv_iconst (v := 0) hx hb dX6_readLaw_85 (by decide) ?_
            exact r_retz C hP hS (rt_ow1 h) (rt_ow2 h) rfl dX6_readLaw_86
          · replace h := if_f c_ h
            refine lv_iconst (v := 1) hx hb dX6_readLaw_81 (by decide) ?_
            refine lv_goto (tgt := 86) hx hb dX6_readLaw_82 (by decide) ?_
            exact r_retz C hP hS (rt_ow1 h) (rt_ow2 h) rfl dX6_readLaw_86
      · replace h := if_t c_ h
        refine lv_iconst (v := 0) hx hb dX6_readLaw_45 (by decide) ?_
        exact r_retz C hP hS (rt_ow1 h) (rt_ow2 h) rfl dX6_readLaw_46
  · replace h := if_t c_ h
    refine lv_iconst (v := 0) hx hb dX6_readLaw_9 (by decide) ?_
    exact r_retz C hP hS (rt_ow1 h) (rt_ow2 h) rfl dX6_readLaw_10

set_option maxRecDepth 100000 in
set_option maxHeartbeats 4000000 in
theorem ctX8_addRoom {l : Launch} {g : Gw} {σ : Sto} (v0 : Nat) (hv0 : isV v0) (x1 : Int32) {Rz : Sto} (h : fX8_addRoom σ v0 x1 = some Rz) : MtG l yX8_addRoom cX8_addRoom 2 none 0 wkX g [.ref (adG g v0), .int x1] σ (QvS wkX g Rz) := by
  refine mt_of (by decide) (Nat.le_of_ble_eq_true rfl) (fun p e s m below meth c ls H locs C hP hS hl => ?_)
  have C : Cx wkX g p s m _ meth c cX8_addRoom 2 RX8 none := C
  have hl : lv_has ls 2 [(0, .ref (adG g v0)), (1, .int x1)] := hl
  obtain ⟨hx, hb, hml, hown, hts, hr, hlk, hK, hZ⟩ := id C
  unfold fX8_addRoom at h
  refine lv_aload_n hx hb dX8_addRoom_0 rfl (lv_at hl 0 rfl) ?_
  refine r_geti C cf_8 hP (sv_0 hv0) (kv_0 hv0) 0 (by decide) rfl tw_68 dX8_addRoom_1 ?_
  refine lv_bipush (v := 10) hx hb dX8_addRoom_4 (by decide) ?_
  refine lv_icmp_ge (tgt := 49) hx hb dX8_addRoom_6 (by decide) (fun c_ => ?_) (fun c_ => ?_)
  · replace h := if_t c_ h
    exact r_retv C hP hS (rt_o h) dX8_addRoom_49
  · replace h := if_f c_ h
    refine lv_aload_n hx hb dX8_addRoom_9 rfl (lv_at hl 0 rfl) ?_
    refine r_getr C cf_8 hP (sv_0 hv0) (kv_0 hv0) 5 (by decide) rfl tw_73 dX8_addRoom_10 ?_
    refine lv_aload_n hx hb dX8_addRoom_13 rfl (lv_at hl 0 rfl) ?_
    refine r_geti C cf_8 hP (sv_0 hv0) (kv_0 hv0) 0 (by decide) rfl tw_68 dX8_addRoom_14 ?_
    refine lv_iload_n hx hb dX8_addRoom_17 rfl (lv_at hl 1 rfl) ?_
    obtain ⟨g_1, h⟩ := gd_inv h
    refine r_iast C hP hS (sv_1 hv0) (kv_1 hv0) rfl g_1 dX8_addRoom_18 (fun H locs σ_2 eσ_2 hP hS => ?_)
    replace h := un_at eσ_2 h
    refine lv_aload_n hx hb dX8_addRoom_19 rfl (lv_at hl 0 rfl) ?_
    refine r_getr C cf_8 hP (sv_0 hv0) (kv_0 hv0) 6 (by decide) rfl tw_74 dX8_addRoom_20 ?_
    refine lv_aload_n hx hb dX8_addRoom_23 rfl (lv_at hl 0 rfl) ?_
    refine r_geti C cf_8 hP (sv_0 hv0) (kv_0 hv0) 0 (by decide) rfl tw_68 dX8_addRoom_24 ?_
    refine lv_iconst (v := 0) hx hb dX8_addRoom_27 (by decide) ?_
    obtain ⟨g_3, h⟩ := gd_inv h
    refine r_iast C hP hS (sv_2 hv0) (kv_2 hv0) rfl g_3 dX8_addRoom_28 (fun H locs σ_4 eσ_4 hP hS => ?_)
    replace h := un_at eσ_4 h
    refine lv_aload_n hx hb dX8_addRoom_29 rfl (lv_at hl 0 rfl) ?_
    refine r_getr C cf_8 hP (sv_0 hv0) (kv_0 hv0) 7 (by decide) rfl tw_75 dX8_addRoom_30 ?_
    refine lv_aload_n hx hb dX8_addRoom_33 rfl (lv_at hl 0 rfl) ?_
    refine r_geti C cf_8 hP (sv_0 hv0) (kv_0 hv0) 0 (by decide) rfl tw_68 dX8_addRoom_34 ?_
    refine lv_iconst (v := 0) hx hb dX8_addRoom_37 (by decide) ?_
    obtain ⟨g_5, h⟩ := gd_inv h
    refine r_iast C hP hS (sv_3 hv0) (kv_3 hv0) rfl g_5 dX8_addRoom_38 (fun H locs σ_6 eσ_6 hP hS => ?_)
    replace h := un_at eσ_6 h
    refine lv_aload_n hx hb dX8_addRoom_39 rfl (lv_at hl 0 rfl) ?_
    refine lv_dup hx hb dX8_addRoom_40 rfl ?_
    refine r_geti C cf_8 hP (sv_0 hv0) (kv_0 hv0) 0 (by decide) rfl tw_68 dX8_addRoom_41 ?_
    refine lv_iconst (v := 1) hx hb dX8_addRoom_44 (by decide) ?_
    refine lv_iadd hx hb dX8_addRoom_45 ?_
    refine r_puti C cf_8 hP hS (sv_0 hv0) (kv_0 hv0) 0 (by decide) rfl rfl rfl tw_68 dX8_addRoom_46 (fun H locs σ_7 eσ_7 hP hS => ?_)
    replace h := un_at eσ_7 h
    exact r_retv C hP hS (rt_o h) dX8_addRoom_49

set_option maxRecDepth 100000 in
set_option maxHeartbeats 4000000 in
theorem ctX6_readRoom {l : Launch} {g : Gw} {σ : Sto} {Rz : (Sto × Int32)} (h : fX6_readRoom σ = some Rz) : MtG l yX6_readRoom cX6_readRoom 2 (some .boolean) 2 wkX g [.ref (adG g 5)] σ (QiS wkX g Rz.1 Rz.2) := by
  refine mt_of (by decide) (Nat.le_of_ble_eq_true rfl) (fun p e s m below meth c ls H locs C hP hS hl => ?_)
  have C : Cx wkX g p s m _ meth c cX6_readRoom 2 RX6 (some .boolean) := C
  have hl : lv_has ls 2 [(0, .ref (adG g 5))] := hl
  obtain ⟨hx, hb, hml, hown, hts, hr, hlk, hK, hZ⟩ := id C
  unfold fX6_readRoom at h
  refine lv_aload_n hx hb dX6_readRoom_0 rfl (lv_at hl 0 rfl) ?_
  refine lv_bipush (v := 114) hx hb dX6_readRoom_1 (by decide) ?_
  obtain ⟨q_1, hq_1, h⟩ := bd_inv h
  refine end_i (run_v (As := [.int (114 : Int32)]) (rest := []) C ca_X6_readSign (ctX6_readSign (114 : Int32) hq_1) cf_6 sx_5 kx_5 tw_305 ⟨Nat.le_of_ble_eq_true rfl, Nat.le_of_ble_eq_true rfl⟩ rfl hl.1 (Nat.le_of_ble_eq_true rfl) ⟨Nat.le_refl _, Nat.le_refl _⟩ hP hS dX6_readRoom_3) hS (fun H locs hP hS => ?_)
  refine lv_if_ne (tgt := 11) hx hb dX6_readRoom_6 (by decide) (fun c_ => ?_) (fun c_ => ?_)
  · replace h := if_f c_ h
    refine lv_aload_n hx hb dX6_readRoom_11 rfl (lv_at hl 0 rfl) ?_
    refine lv_iconst (v := 0) hx hb dX6_readRoom_12 (by decide) ?_
    refine lv_bipush (v := 9) hx hb dX6_readRoom_13 (by decide) ?_
    obtain ⟨q_2, hq_2, h⟩ := bd_inv h
    refine end_i (run_v (As := [.int (0 : Int32), .int (9 : Int32)]) (rest := []) C ca_X6_readNumber (ctX6_readNumber (0 : Int32) (9 : Int32) hq_2) cf_6 sx_5 kx_5 tw_317 ⟨Nat.le_of_ble_eq_true rfl, Nat.le_of_ble_eq_true rfl⟩ rfl hl.1 (Nat.le_of_ble_eq_true rfl) ⟨Nat.le_refl _, Nat.le_refl _⟩ hP hS dX6_readRoom_15) hS (fun H locs hP hS => ?_)
    refine lv_istore_n (lv' := [(1, .int q_2.2), (0, .ref (adG g 5))]) hx hb dX6_readRoom_18 rfl hl (by decide) rfl (fun ls hl => ?_)
    refine lv_iload_n hx hb dX6_readRoom_19 rfl (lv_at hl 0 rfl) ?_
    refine lv_iconst (v := (-1)) hx hb dX6_readRoom_20 (by decide) ?_
    refine lv_icmp_eq (tgt := 33) hx hb dX6_readRoom_21 (by decide) (fun c_ => ?_) (fun c_ => ?_)
    · replace h := if_t c_ h
      refine lv_iconst (v := 0) hx hb dX6_readRoom_33 (by decide) ?_
      exact r_retz C hP hS (rt_ow1 h) (rt_ow2 h) rfl dX6_readRoom_34
    · replace h := if_f c_ h
      refine lv_aload_n hx hb dX6_readRoom_24 rfl (lv_at hl 1 rfl) ?_
      refine lv_bipush (v := 59) hx hb dX6_readRoom_25 (by decide) ?_
      obtain ⟨q_3, hq_3, h⟩ := bd_inv h
      refine end_i (run_v (As := [.int (59 : Int32)]) (rest := []) C ca_X6_readSign (ctX6_readSign (59 : Int32) hq_3) cf_6 sx_5 kx_5 tw_305 ⟨Nat.le_of_ble_eq_true rfl, Nat.le_of_ble_eq_true rfl⟩ rfl hl.1 (Nat.le_of_ble_eq_true rfl) ⟨Nat.le_refl _, Nat.le_refl _⟩ hP hS dX6_readRoom_27) hS (fun H locs hP hS => ?_)
      refine lv_if_ne (tgt := 35) hx hb dX6_readRoom_30 (by decide) (fun c_ => ?_) (fun c_ => ?_)
      · replace h := if_f c_ h
        refine lv_aload_n hx hb dX6_readRoom_35 rfl (lv_at hl 1 rfl) ?_
        refine r_getr C cf_6 hP sx_5 kx_5 0 (by decide) rfl tw_59 dX6_readRoom_36 ?_
        refine lv_iload_n hx hb dX6_readRoom_39 rfl (lv_at hl 0 rfl) ?_
        obtain ⟨q_4, hq_4, h⟩ := bd_inv h
        refine end_v (run_v (As := [.int q_2.2]) (rest := []) C ca_X8_addRoom (ctX8_addRoom 44 iv_44 q_2.2 hq_4) cf_8 (sv_0 iv_44) (kv_0 iv_44) tw_330 ⟨Nat.le_of_ble_eq_true rfl, Nat.le_of_ble_eq_true rfl⟩ rfl hl.1 (Nat.le_of_ble_eq_true rfl) ⟨Nat.le_refl _, Nat.le_refl _⟩ hP hS dX6_readRoom_40) hS (fun H locs hP hS => ?_)
        refine lv_iconst (v := 1) hx hb dX6_readRoom_43 (by decide) ?_
        exact r_retz C hP hS (rt_ow1 h) (rt_ow2 h) rfl dX6_readRoom_44
      · replace h := if_t c_ h
        refine lv_iconst (v := 0) hx hb dX6_readRoom_33 (by decide) ?_
        exact r_retz C hP hS (rt_ow1 h) (rt_ow2 h) rfl dX6_readRoom_34
  · replace h := if_t c_ h
    refine lv_iconst (v := 0) hx hb dX6_readRoom_9 (by decide) ?_
    exact r_retz C hP hS (rt_ow1 h) (rt_ow2 h) rfl dX6_readRoom_10

set_option maxRecDepth 100000 in
set_option maxHeartbeats 4000000 in
theorem wfX6_readRooms_L2 {l : Launch} {g : Gw} {p : Program} {e : Env} {s : State} {m : MethodId} {args : Array Value} {below : List Frame} {meth : Method} {c : Code} (C : Cx wkX g p s m args meth c cX6_readRooms 2 RX6 (some .boolean)) {Rz : (Sto × Int32)} {k_32 : Sto → Option (Sto × Int32)} : ∀ (n : Nat) (σ : Sto) (x1 : Int32) (H : Heap) (locs : List Loc) (ls : Array Slot), fX6_readRooms_L2 k_32 n σ x1 = some Rz → wS wkX g σ H → va_S (AS wkX g) s.heap H locs → lv_has ls 2 [(0, .ref (adG g 5)), (1, .int x1)] → (∀ (σ : Sto) (H : Heap) (locs : List Loc) (ls : Array Slot), k_32 σ = some Rz → wS wkX g σ H → va_S (AS wkX g) s.heap H locs → lv_has ls 2 [(0, .ref (adG g 5))] → W p l e (rmS 3) s m args below meth c H locs 0 0 (MQ below (QiS wkX g Rz.1 Rz.2) args s 0 0 (AS wkX g)) (F0 m 32 ls [])) → W p l e (rmS 3) s m args below meth c H locs 0 0 (MQ below (QiS wkX g Rz.1 Rz.2) args s 0 0 (AS wkX g)) (F0 m 2 ls []) := by
  intro n
  induction n with
  | zero =>
    intro σ x1 H locs ls h
    cases h
  | succ n ih =>
    intro σ x1 H locs ls h hP hS hl hk_32
    obtain ⟨hx, hb, hml, hown, hts, hr, hlk, hK, hZ⟩ := id C
    rw [fX6_readRooms_L2] at h
    refine lv_iload_n hx hb dX6_readRooms_2 rfl (lv_at hl 1 rfl) ?_
    refine lv_bipush (v := 10) hx hb dX6_readRooms_3 (by decide) ?_
    refine lv_icmp_ge (tgt := 32) hx hb dX6_readRooms_5 (by decide) (fun c_ => ?_) (fun c_ => ?_)
    · replace h := if_t c_ h
      exact hk_32 σ H locs ls h hP hS (lv_sub hl [0] rfl)
    · replace h := if_f c_ h
      refine lv_aload_n hx hb dX6_readRooms_8 rfl (lv_at hl 0 rfl) ?_
      obtain ⟨q_1, hq_1, h⟩ := bd_inv h
      refine end_i (run_v (As := []) (rest := []) C ca_X6_next (ctX6_next hq_1) cf_6 sx_5 kx_5 tw_309 ⟨Nat.le_of_ble_eq_true rfl, Nat.le_of_ble_eq_true rfl⟩ rfl hl.1 (Nat.le_of_ble_eq_true rfl) ⟨Nat.le_refl _, Nat.le_refl _⟩ hP hS dX6_readRooms_9) hS (fun H locs hP hS => ?_)
      refine lv_bipush (v := 114) hx hb dX6_readRooms_12 (by decide) ?_
      refine lv_icmp_ne (tgt := 32) hx hb dX6_readRooms_14 (by decide) (fun c_ => ?_) (fun c_ => ?_)
      · replace h := if_f c_ h
        exact hk_32 σ H locs ls h hP hS (lv_sub hl [0] rfl)
      · replace h := if_t c_ h
        refine lv_aload_n hx hb dX6_readRooms_17 rfl (lv_at hl 0 rfl) ?_
        obtain ⟨q_2, hq_2, h⟩ := bd_inv h
        refine end_i (run_v (As := []) (rest := []) C ca_X6_readRoom (ctX6_readRoom hq_2) cf_6 sx_5 kx_5 tw_326 ⟨Nat.le_of_ble_eq_true rfl, Nat.le_of_ble_eq_true rfl⟩ rfl hl.1 (Nat.le_of_ble_eq_true rfl) ⟨Nat.le_refl _, Nat.le_refl _⟩ hP hS dX6_readRooms_18) hS (fun H locs hP hS => ?_)
        refine lv_if_ne (tgt := 26) hx hb dX6_readRooms_21 (by decide) (fun c_ => ?_) (fun c_ => ?_)
        · replace h := if_f c_ h
          obtain ⟨x_3, ex_3⟩ : ∃ y : Int32, y = x1 + (1 : Int32) := ⟨_, rfl⟩
          replace h := un_at ex_3 h
          refine lv_iinc (v := x_3) (lv' := [(1, .int x_3), (0, .ref (adG g 5))]) hx hb dX6_readRooms_26 hl (k := 1) rfl (by rw [ex_3]; rfl) (by decide) rfl (fun ls hl => ?_)
          refine lv_goto (tgt := 2) hx hb dX6_readRooms_29 (by decide) ?_
          exact ih q_2.1 x_3 H locs ls h hP hS (lv_sub hl [1, 0] rfl) hk_32
        · replace h := if_t c_ h
          refine lv_iconst (v := 0) hx hb dX6_readRooms_24 (by decide) ?_
          exact r_retz C hP hS (rt_ow1 h) (rt_ow2 h) rfl dX6_readRooms_25

set_option maxRecDepth 100000 in
set_option maxHeartbeats 4000000 in
theorem wfX6_readRooms_j32 {l : Launch} {g : Gw} {p : Program} {e : Env} {s : State} {m : MethodId} {args : Array Value} {below : List Frame} {meth : Method} {c : Code} (C : Cx wkX g p s m args meth c cX6_readRooms 2 RX6 (some .boolean)) {Rz : (Sto × Int32)} : ∀ (σ : Sto) (H : Heap) (locs : List Loc) (ls : Array Slot), fX6_readRooms_j32 σ = some Rz → wS wkX g σ H → va_S (AS wkX g) s.heap H locs → lv_has ls 2 [(0, .ref (adG g 5))] → W p l e (rmS 3) s m args below meth c H locs 0 0 (MQ below (QiS wkX g Rz.1 Rz.2) args s 0 0 (AS wkX g)) (F0 m 32 ls []) := by
  intro σ H locs ls h hP hS hl
  obtain ⟨hx, hb, hml, hown, hts, hr, hlk, hK, hZ⟩ := id C
  unfold fX6_readRooms_j32 at h
  refine lv_aload_n hx hb dX6_readRooms_32 rfl (lv_at hl 0 rfl) ?_
  refine r_getr C cf_6 hP sx_5 kx_5 0 (by decide) rfl tw_59 dX6_readRooms_33 ?_
  refine r_geti C cf_8 hP (sv_0 iv_44) (kv_0 iv_44) 0 (by decide) rfl tw_325 dX6_readRooms_36 ?_
  refine lv_iconst (v := 3) hx hb dX6_readRooms_39 (by decide) ?_
  refine lv_icmp_ge (tgt := 49) hx hb dX6_readRooms_40 (by decide) (fun c_ => ?_) (fun c_ => ?_)
  · replace h := if_t c_ h
    refine lv_aload_n hx hb dX6_readRooms_49 rfl (lv_at hl 0 rfl) ?_
    obtain ⟨q_1, hq_1, h⟩ := bd_inv h
    refine end_i (run_v (As := []) (rest := []) C ca_X6_next (ctX6_next hq_1) cf_6 sx_5 kx_5 tw_309 ⟨Nat.le_of_ble_eq_true rfl, Nat.le_of_ble_eq_true rfl⟩ rfl hl.1 (Nat.le_of_ble_eq_true rfl) ⟨Nat.le_refl _, Nat.le_refl _⟩ hP hS dX6_readRooms_50) hS (fun H locs hP hS => ?_)
    refine lv_bipush (v := 114) hx hb dX6_readRooms_53 (by decide) ?_
    refine lv_icmp_ne (tgt := 66) hx hb dX6_readRooms_55 (by decide) (fun c_ => ?_) (fun c_ => ?_)
    · replace h := if_f c_ h
      refine lv_iconst (v := 1) hx hb dX6_readRooms_66 (by decide) ?_
      refine lv_goto (tgt := 71) hx hb dX6_readRooms_67 (by decide) ?_
      exact r_retz C hP hS (rt_ow1 h) (rt_ow2 h) rfl dX6_readRooms_71
    · replace h := if_t c_ h
      refine lv_aload_n hx hb dX6_readRooms_58 rfl (lv_at hl 0 rfl) ?_
      refine lv_iconst (v := 3) hx hb dX6_readRooms_59 (by decide) ?_
      obtain ⟨q_2, eq_2⟩ : ∃ z, z = fX6_fails σ (3 : Int32) := ⟨_, rfl⟩
      replace h := un_at eq_2 h
      refine end_i (run_v (As := [.int (3 : Int32)]) (rest := []) C ca_X6_fails (ctX6_fails (3 : Int32) eq_2.symm) cf_6 sx_5 kx_5 tw_313 ⟨Nat.le_of_ble_eq_true rfl, Nat.le_of_ble_eq_true rfl⟩ rfl hl.1 (Nat.le_of_ble_eq_true rfl) ⟨Nat.le_refl _, Nat.le_refl _⟩ hP hS dX6_readRooms_60) hS (fun H locs hP hS => ?_)
      refine lv_if_eq (tgt := 70) hx hb dX6_readRooms_63 (by decide) (fun c_ => ?_) (fun c_ => ?_)
      · replace h := if_t c_ h
        refine lv_iconst (v := 0) hx hb dX6_readRooms_70 (by decide) ?_
        exact r_retz C hP hS (rt_ow1 h) (rt_ow2 h) rfl dX6_readRooms_71
      · replace h := if_f c_ h
        refine lv_iconst (v := 1) hx hb dX6_readRooms_66 (by decide) ?_
        refine lv_goto (tgt := 71) hx hb dX6_readRooms_67 (by decide) ?_
        exact r_retz C hP hS (rt_ow1 h) (rt_ow2 h) rfl dX6_readRooms_71
  · replace h := if_f c_ h
    refine lv_aload_n hx hb dX6_readRooms_43 rfl (lv_at hl 0 rfl) ?_
    refine lv_iconst (v := 1) hx hb dX6_readRooms_44 (by decide) ?_
    obtain ⟨q_3, eq_3⟩ : ∃ z, z = fX6_fails σ (1 : Int32) := ⟨_, rfl⟩
    replace h := un_at eq_3 h
    refine end_i (run_v (As := [.int (1 : Int32)]) (rest := []) C ca_X6_fails (ctX6_fails (1 : Int32) eq_3.symm) cf_6 sx_5 kx_5 tw_313 ⟨Nat.le_of_ble_eq_true rfl, Nat.le_of_ble_eq_true rfl⟩ rfl hl.1 (Nat.le_of_ble_eq_true rfl) ⟨Nat.le_refl _, Nat.le_refl _⟩ hP hS dX6_readRooms_45) hS (fun H locs hP hS => ?_)
    obtain ⟨g_4, h⟩ := gd_inv h
    exact r_retz C hP hS (rt_ow1 h) (rt_ow2 h) (isB_nar g_4) dX6_readRooms_48

set_option maxRecDepth 100000 in
set_option maxHeartbeats 4000000 in
theorem ctX6_readRooms {l : Launch} {g : Gw} {σ : Sto} {Rz : (Sto × Int32)} (h : fX6_readRooms σ = some Rz) : MtG l yX6_readRooms cX6_readRooms 2 (some .boolean) 3 wkX g [.ref (adG g 5)] σ (QiS wkX g Rz.1 Rz.2) := by
  refine mt_of (by decide) (Nat.le_of_ble_eq_true rfl) (fun p e s m below meth c ls H locs C hP hS hl => ?_)
  have C : Cx wkX g p s m _ meth c cX6_readRooms 2 RX6 (some .boolean) := C
  have hl : lv_has ls 2 [(0, .ref (adG g 5))] := hl
  obtain ⟨hx, hb, hml, hown, hts, hr, hlk, hK, hZ⟩ := id C
  unfold fX6_readRooms at h
  refine lv_iconst (v := 0) hx hb dX6_readRooms_0 (by decide) ?_
  refine lv_istore_n (lv' := [(1, .int (0 : Int32)), (0, .ref (adG g 5))]) hx hb dX6_readRooms_1 rfl hl (by decide) rfl (fun ls hl => ?_)
  refine wfX6_readRooms_L2 C fu σ (0 : Int32) H locs ls h hP hS (lv_sub hl [1, 0] rfl) (fun σ_1 H locs ls h hP hS hl => ?_)
  exact wfX6_readRooms_j32 C σ_1 H locs ls h hP hS (lv_sub hl [0] rfl)

set_option maxRecDepth 100000 in
set_option maxHeartbeats 4000000 in
theorem ctX6_sortOf {l : Launch} {g : Gw} {σ : Sto} (x0 : Int32) {Rz : Int32} (h : fX6_sortOf x0 = Rz) : MtG l yX6_sortOf cX6_sortOf 1 (some .int) 0 wkX g [.int x0] σ (QiS wkX g σ Rz) := by
  refine mt_of (by decide) (Nat.le_of_ble_eq_true rfl) (fun p e s m below meth c ls H locs C hP hS hl => ?_)
  have C : Cx wkX g p s m _ meth c cX6_sortOf 1 RX6 (some .int) := C
  have hl : lv_has ls 1 [(0, .int x0)] := hl
  obtain ⟨hx, hb, hml, hown, hts, hr, hlk, hK, hZ⟩ := id C
  unfold fX6_sortOf at h
  refine lv_iload_n hx hb dX6_sortOf_0 rfl (lv_at hl 0 rfl) ?_
  by_cases c_1 : x0 = (97 : Int32)
  · replace h := if_t c_1 h
    refine r_lin (tgt := 60) hx hb dX6_sortOf_1 c_1 (by decide) rfl (by decide) ?_
    refine lv_iconst (v := 5) hx hb dX6_sortOf_60 (by decide) ?_
    exact r_reti C hP hS rfl h dX6_sortOf_61
  replace h := if_f c_1 h
  by_cases c_2 : x0 = (99 : Int32)
  · replace h := if_t c_2 h
    refine r_lin (tgt := 52) hx hb dX6_sortOf_1 c_2 (by decide) rfl (by decide) ?_
    refine lv_iconst (v := 1) hx hb dX6_sortOf_52 (by decide) ?_
    exact r_reti C hP hS rfl h dX6_sortOf_53
  replace h := if_f c_2 h
  by_cases c_3 : x0 = (108 : Int32)
  · replace h := if_t c_3 h
    refine r_lin (tgt := 54) hx hb dX6_sortOf_1 c_3 (by decide) rfl (by decide) ?_
    refine lv_iconst (v := 2) hx hb dX6_sortOf_54 (by decide) ?_
    exact r_reti C hP hS rfl h dX6_sortOf_55
  replace h := if_f c_3 h
  by_cases c_4 : x0 = (112 : Int32)
  · replace h := if_t c_4 h
    refine r_lin (tgt := 58) hx hb dX6_sortOf_1 c_4 (by decide) rfl (by decide) ?_
    refine lv_iconst (v := 4) hx hb dX6_sortOf_58 (by decide) ?_
    exact r_reti C hP hS rfl h dX6_sortOf_59
  replace h := if_f c_4 h
  by_cases c_5 : x0 = (116 : Int32)
  · replace h := if_t c_5 h
    refine r_lin (tgt := 56) hx hb dX6_sortOf_1 c_5 (by decide) rfl (by decide) ?_
    refine lv_iconst (v := 3) hx hb dX6_sortOf_56 (by decide) ?_
    exact r_reti C hP hS rfl h dX6_sortOf_57
  replace h := if_f c_5 h
  refine lv_lookup (off := 61) (tgt := 62) hx hb dX6_sortOf_1 (by decide) (by show Op.lookupswitch.offset [(97, 59), (99, 51), (108, 53), (112, 57), (116, 55)] _ _ = _; rw [lv_osw (a := 97) c_1 rfl, lv_osw (a := 99) c_2 rfl, lv_osw (a := 108) c_3 rfl, lv_osw (a := 112) c_4 rfl, lv_osw (a := 116) c_5 rfl]; rfl) (by decide) ?_
  refine lv_iconst (v := 0) hx hb dX6_sortOf_62 (by decide) ?_
  exact r_reti C hP hS rfl h dX6_sortOf_63

set_option maxRecDepth 100000 in
set_option maxHeartbeats 4000000 in
theorem ctX8_addThing {l : Launch} {g : Gw} {σ : Sto} (v0 : Nat) (hv0 : isV v0) (x1 : Int32) (x2 : Int32) (x3 : Int32) {Rz : Sto} (h : fX8_addThing σ v0 x1 x2 x3 = some Rz) : MtG l yX8_addThing cX8_addThing 4 none 1 wkX g [.ref (adG g v0), .int x1, .int x2, .int x3] σ (QvS wkX g Rz) := by
  refine mt_of (by decide) (Nat.le_of_ble_eq_true rfl) (fun p e s m below meth c ls H locs C hP hS hl => ?_)
  have C : Cx wkX g p s m _ meth c cX8_addThing 4 RX8 none := C
  have hl : lv_has ls 4 [(0, .ref (adG g v0)), (1, .int x1), (2, .int x2), (3, .int x3)] := hl
  obtain ⟨hx, hb, hml, hown, hts, hr, hlk, hK, hZ⟩ := id C
  unfold fX8_addThing at h
  refine lv_aload_n hx hb dX8_addThing_0 rfl (lv_at hl 0 rfl) ?_
  refine r_geti C cf_8 hP (sv_0 hv0) (kv_0 hv0) 1 (by decide) rfl tw_69 dX8_addThing_1 ?_
  refine lv_bipush (v := 6) hx hb dX8_addThing_4 (by decide) ?_
  refine lv_icmp_ge (tgt := 48) hx hb dX8_addThing_6 (by decide) (fun c_ => ?_) (fun c_ => ?_)
  · replace h := if_t c_ h
    exact r_retv C hP hS (rt_o h) dX8_addThing_48
  · replace h := if_f c_ h
    refine lv_aload_n hx hb dX8_addThing_9 rfl (lv_at hl 0 rfl) ?_
    refine r_getr C cf_8 hP (sv_0 hv0) (kv_0 hv0) 8 (by decide) rfl tw_76 dX8_addThing_10 ?_
    refine lv_aload_n hx hb dX8_addThing_13 rfl (lv_at hl 0 rfl) ?_
    refine r_geti C cf_8 hP (sv_0 hv0) (kv_0 hv0) 1 (by decide) rfl tw_69 dX8_addThing_14 ?_
    refine lv_iload_n hx hb dX8_addThing_17 rfl (lv_at hl 1 rfl) ?_
    obtain ⟨g_1, h⟩ := gd_inv h
    refine r_iast C hP hS (sv_4 hv0) (kv_4 hv0) rfl g_1 dX8_addThing_18 (fun H locs σ_2 eσ_2 hP hS => ?_)
    replace h := un_at eσ_2 h
    refine lv_aload_n hx hb dX8_addThing_19 rfl (lv_at hl 0 rfl) ?_
    refine r_getr C cf_8 hP (sv_0 hv0) (kv_0 hv0) 9 (by decide) rfl tw_77 dX8_addThing_20 ?_
    refine lv_aload_n hx hb dX8_addThing_23 rfl (lv_at hl 0 rfl) ?_
    refine r_geti C cf_8 hP (sv_0 hv0) (kv_0 hv0) 1 (by decide) rfl tw_69 dX8_addThing_24 ?_
    refine lv_iload_n hx hb dX8_addThing_27 rfl (lv_at hl 3 rfl) ?_
    obtain ⟨g_3, h⟩ := gd_inv h
    refine r_iast C hP hS (sv_5 hv0) (kv_5 hv0) rfl g_3 dX8_addThing_28 (fun H locs σ_4 eσ_4 hP hS => ?_)
    replace h := un_at eσ_4 h
    refine lv_aload_n hx hb dX8_addThing_29 rfl (lv_at hl 0 rfl) ?_
    refine lv_aload_n hx hb dX8_addThing_30 rfl (lv_at hl 0 rfl) ?_
    refine r_geti C cf_8 hP (sv_0 hv0) (kv_0 hv0) 1 (by decide) rfl tw_69 dX8_addThing_31 ?_
    refine lv_iload_n hx hb dX8_addThing_34 rfl (lv_at hl 2 rfl) ?_
    obtain ⟨q_5, hq_5, h⟩ := bd_inv h
    refine end_v (run_v (As := [.int (σ_4 v0 1), .int x2]) (rest := []) C ca_X8_place (ctX8_place v0 hv0 (σ_4 v0 1) x2 hq_5) cf_8 (sv_0 hv0) (kv_0 hv0) tw_349 ⟨Nat.le_of_ble_eq_true rfl, Nat.le_of_ble_eq_true rfl⟩ rfl hl.1 (Nat.le_of_ble_eq_true rfl) ⟨Nat.le_refl _, Nat.le_refl _⟩ hP hS dX8_addThing_35) hS (fun H locs hP hS => ?_)
    refine lv_aload_n hx hb dX8_addThing_38 rfl (lv_at hl 0 rfl) ?_
    refine lv_dup hx hb dX8_addThing_39 rfl ?_
    refine r_geti C cf_8 hP (sv_0 hv0) (kv_0 hv0) 1 (by decide) rfl tw_69 dX8_addThing_40 ?_
    refine lv_iconst (v := 1) hx hb dX8_addThing_43 (by decide) ?_
    refine lv_iadd hx hb dX8_addThing_44 ?_
    refine r_puti C cf_8 hP hS (sv_0 hv0) (kv_0 hv0) 1 (by decide) rfl rfl rfl tw_69 dX8_addThing_45 (fun H locs σ_6 eσ_6 hP hS => ?_)
    replace h := un_at eσ_6 h
    exact r_retv C hP hS (rt_o h) dX8_addThing_48

set_option maxRecDepth 100000 in
set_option maxHeartbeats 4000000 in
theorem ctX6_readThing {l : Launch} {g : Gw} {σ : Sto} {Rz : (Sto × Int32)} (h : fX6_readThing σ = some Rz) : MtG l yX6_readThing cX6_readThing 4 (some .boolean) 2 wkX g [.ref (adG g 5)] σ (QiS wkX g Rz.1 Rz.2) := by
  refine mt_of (by decide) (Nat.le_of_ble_eq_true rfl) (fun p e s m below meth c ls H locs C hP hS hl => ?_)
  have C : Cx wkX g p s m _ meth c cX6_readThing 4 RX6 (some .boolean) := C
  have hl : lv_has ls 4 [(0, .ref (adG g 5))] := hl
  obtain ⟨hx, hb, hml, hown, hts, hr, hlk, hK, hZ⟩ := id C
  unfold fX6_readThing at h
  refine lv_aload_n hx hb dX6_readThing_0 rfl (lv_at hl 0 rfl) ?_
  obtain ⟨q_1, hq_1, h⟩ := bd_inv h
  refine end_i (run_v (As := []) (rest := []) C ca_X6_next (ctX6_next hq_1) cf_6 sx_5 kx_5 tw_309 ⟨Nat.le_of_ble_eq_true rfl, Nat.le_of_ble_eq_true rfl⟩ rfl hl.1 (Nat.le_of_ble_eq_true rfl) ⟨Nat.le_refl _, Nat.le_refl _⟩ hP hS dX6_readThing_1) hS (fun H locs hP hS => ?_)
  refine end_i (run_s (As := [.int q_1]) (rest := []) C ca_X6_sortOf (ctX6_sortOf q_1 rfl) tw_342 ⟨Nat.le_of_ble_eq_true rfl, Nat.le_of_ble_eq_true rfl⟩ rfl hl.1 (Nat.le_of_ble_eq_true rfl) ⟨Nat.le_refl _, Nat.le_refl _⟩ hP hS dX6_readThing_4) hS (fun H locs hP hS => ?_)
  refine lv_topi (fun x_3 ex_3 => ?_)
  replace h := un_at ex_3 h
  refine lv_istore_n (lv' := [(1, .int x_3), (0, .ref (adG g 5))]) hx hb dX6_readThing_7 rfl hl (by decide) rfl (fun ls hl => ?_)
  refine lv_iload_n hx hb dX6_readThing_8 rfl (lv_at hl 0 rfl) ?_
  refine lv_if_ne (tgt := 18) hx hb dX6_readThing_9 (by decide) (fun c_ => ?_) (fun c_ => ?_)
  · replace h := if_f c_ h
    refine lv_aload_n hx hb dX6_readThing_18 rfl (lv_at hl 1 rfl) ?_
    refine lv_dup hx hb dX6_readThing_19 rfl ?_
    refine r_geti C cf_6 hP sx_5 kx_5 5 (by decide) rfl tw_64 dX6_readThing_20 ?_
    refine lv_iconst (v := 1) hx hb dX6_readThing_23 (by decide) ?_
    refine lv_iadd hx hb dX6_readThing_24 ?_
    refine r_puti C cf_6 hP hS sx_5 kx_5 5 (by decide) rfl rfl rfl tw_64 dX6_readThing_25 (fun H locs σ_4 eσ_4 hP hS => ?_)
    replace h := un_at eσ_4 h
    refine lv_aload_n hx hb dX6_readThing_28 rfl (lv_at hl 1 rfl) ?_
    refine lv_iconst (v := 0) hx hb dX6_readThing_29 (by decide) ?_
    refine lv_aload_n hx hb dX6_readThing_30 rfl (lv_at hl 1 rfl) ?_
    refine r_getr C cf_6 hP sx_5 kx_5 0 (by decide) rfl tw_59 dX6_readThing_31 ?_
    refine r_geti C cf_8 hP (sv_0 iv_44) (kv_0 iv_44) 0 (by decide) rfl tw_325 dX6_readThing_34 ?_
    refine lv_iconst (v := 1) hx hb dX6_readThing_37 (by decide) ?_
    refine lv_isub hx hb dX6_readThing_38 ?_
    obtain ⟨q_5, hq_5, h⟩ := bd_inv h
    refine end_i (run_v (As := [.int (0 : Int32), .int ((σ_4 44 0) - (1 : Int32))]) (rest := []) C ca_X6_readNumber (ctX6_readNumber (0 : Int32) ((σ_4 44 0) - (1 : Int32)) hq_5) cf_6 sx_5 kx_5 tw_317 ⟨Nat.le_of_ble_eq_true rfl, Nat.le_of_ble_eq_true rfl⟩ rfl hl.1 (Nat.le_of_ble_eq_true rfl) ⟨Nat.le_refl _, Nat.le_refl _⟩ hP hS dX6_readThing_39) hS (fun H locs hP hS => ?_)
    refine lv_istore_n (lv' := [(2, .int q_5.2), (1, .int x_3), (0, .ref (adG g 5))]) hx hb dX6_readThing_42 rfl hl (by decide) rfl (fun ls hl => ?_)
    refine lv_iload_n hx hb dX6_readThing_43 rfl (lv_at hl 0 rfl) ?_
    refine lv_iconst (v := (-1)) hx hb dX6_readThing_44 (by decide) ?_
    refine lv_icmp_eq (tgt := 57) hx hb dX6_readThing_45 (by decide) (fun c_ => ?_) (fun c_ => ?_)
    · replace h := if_t c_ h
      refine lv_iconst (v := 0) hx hb dX6_readThing_57 (by decide) ?_
      exact r_retz C hP hS (rt_ow1 h) (rt_ow2 h) rfl dX6_readThing_58
    · replace h := if_f c_ h
      refine lv_aload_n hx hb dX6_readThing_48 rfl (lv_at hl 2 rfl) ?_
      refine lv_bipush (v := 44) hx hb dX6_readThing_49 (by decide) ?_
      obtain ⟨q_6, hq_6, h⟩ := bd_inv h
      refine end_i (run_v (As := [.int (44 : Int32)]) (rest := []) C ca_X6_readSign (ctX6_readSign (44 : Int32) hq_6) cf_6 sx_5 kx_5 tw_305 ⟨Nat.le_of_ble_eq_true rfl, Nat.le_of_ble_eq_true rfl⟩ rfl hl.1 (Nat.le_of_ble_eq_true rfl) ⟨Nat.le_refl _, Nat.le_refl _⟩ hP hS dX6_readThing_51) hS (fun H locs hP hS => ?_)
      refine lv_if_ne (tgt := 59) hx hb dX6_readThing_54 (by decide) (fun c_ => ?_) (fun c_ => ?_)
      · replace h := if_f c_ h
        refine lv_aload_n hx hb dX6_readThing_59 rfl (lv_at hl 2 rfl) ?_
        refine lv_iconst (v := 1) hx hb dX6_readThing_60 (by decide) ?_
        refine lv_bipush (v := 9) hx hb dX6_readThing_61 (by decide) ?_
        obtain ⟨q_7, hq_7, h⟩ := bd_inv h
        refine end_i (run_v (As := [.int (1 : Int32), .int (9 : Int32)]) (rest := []) C ca_X6_readNumber (ctX6_readNumber (1 : Int32) (9 : Int32) hq_7) cf_6 sx_5 kx_5 tw_317 ⟨Nat.le_of_ble_eq_true rfl, Nat.le_of_ble_eq_true rfl⟩ rfl hl.1 (Nat.le_of_ble_eq_true rfl) ⟨Nat.le_refl _, Nat.le_refl _⟩ hP hS dX6_readThing_63) hS (fun H locs hP hS => ?_)
        refine lv_istore_n (lv' := [(3, .int q_7.2), (2, .int q_5.2), (1, .int x_3), (0, .ref (adG g 5))]) hx hb dX6_readThing_66 rfl hl (by decide) rfl (fun ls hl => ?_)
        refine lv_iload_n hx hb dX6_readThing_67 rfl (lv_at hl 0 rfl) ?_
        refine lv_iconst (v := (-1)) hx hb dX6_readThing_68 (by decide) ?_
        refine lv_icmp_eq (tgt := 81) hx hb dX6_readThing_69 (by decide) (fun c_ => ?_) (fun c_ => ?_)
        · replace h := if_t c_ h
          refine lv_iconst (v := 0) hx hb dX6_readThing_81 (by decide) ?_
          exact r_retz C hP hS (rt_ow1 h) (rt_ow2 h) rfl dX6_readThing_82
        · replace h := if_f c_ h
          refine lv_aload_n hx hb dX6_readThing_72 rfl (lv_at hl 3 rfl) ?_
          refine lv_bipush (v := 59) hx hb dX6_readThing_73 (by decide) ?_
          obtain ⟨q_8, hq_8, h⟩ := bd_inv h
          refine end_i (run_v (As := [.int (59 : Int32)]) (rest := []) C ca_X6_readSign (ctX6_readSign (59 : Int32) hq_8) cf_6 sx_5 kx_5 tw_305 ⟨Nat.le_of_ble_eq_true rfl, Nat.le_of_ble_eq_true rfl⟩ rfl hl.1 (Nat.le_of_ble_eq_true rfl) ⟨Nat.le_refl _, Nat.le_refl _⟩ hP hS dX6_readThing_75) hS (fun H locs hP hS => ?_)
          refine lv_if_ne (tgt := 83) hx hb dX6_readThing_78 (by decide) (fun c_ => ?_) (fun c_ => ?_)
          · replace h := if_f c_ h
            refine lv_aload_n hx hb dX6_readThing_83 rfl (lv_at hl 3 rfl) ?_
            refine r_getr C cf_6 hP sx_5 kx_5 0 (by decide) rfl tw_59 dX6_readThing_84 ?_
            refine lv_iload_n hx hb dX6_readThing_87 rfl (lv_at hl 2 rfl) ?_
            refine lv_iload_n hx hb dX6_readThing_88 rfl (lv_at hl 1 rfl) ?_
            refine lv_iload_n hx hb dX6_readThing_89 rfl (lv_at hl 0 rfl) ?_
            obtain ⟨q_9, hq_9, h⟩ := bd_inv h
            refine end_v (run_v (As := [.int x_3, .int q_5.2, .int q_7.2]) (rest := []) C ca_X8_addThing (ctX8_addThing 44 iv_44 x_3 q_5.2 q_7.2 hq_9) cf_8 (sv_0 iv_44) (kv_0 iv_44) tw_345 ⟨Nat.le_of_ble_eq_true rfl, Nat.le_of_ble_eq_true rfl⟩ rfl hl.1 (Nat.le_of_ble_eq_true rfl) ⟨Nat.le_refl _, Nat.le_refl _⟩ hP hS dX6_readThing_90) hS (fun H locs hP hS => ?_)
            refine lv_iconst (v := 1) hx hb dX6_readThing_93 (by decide) ?_
            exact r_retz C hP hS (rt_ow1 h) (rt_ow2 h) rfl dX6_readThing_94
          · replace h := if_t c_ h
            refine lv_iconst (v := 0) hx hb dX6_readThing_81 (by decide) ?_
            exact r_retz C hP hS (rt_ow1 h) (rt_ow2 h) rfl dX6_readThing_82
      · replace h := if_t c_ h
        refine lv_iconst (v := 0) hx hb dX6_readThing_57 (by decide) ?_
        exact r_retz C hP hS (rt_ow1 h) (rt_ow2 h) rfl dX6_readThing_58
  · replace h := if_t c_ h
    refine lv_aload_n hx hb dX6_readThing_12 rfl (lv_at hl 1 rfl) ?_
    refine lv_iconst (v := 1) hx hb dX6_readThing_13 (by decide) ?_
    obtain ⟨q_10, eq_10⟩ : ∃ z, z = fX6_fails σ (1 : Int32) := ⟨_, rfl⟩
    replace h := un_at eq_10 h
    refine end_i (run_v (As := [.int (1 : Int32)]) (rest := []) C ca_X6_fails (ctX6_fails (1 : Int32) eq_10.symm) cf_6 sx_5 kx_5 tw_313 ⟨Nat.le_of_ble_eq_true rfl, Nat.le_of_ble_eq_true rfl⟩ rfl hl.1 (Nat.le_of_ble_eq_true rfl) ⟨Nat.le_refl _, Nat.le_refl _⟩ hP hS dX6_readThing_14) hS (fun H locs hP hS => ?_)
    obtain ⟨g_11, h⟩ := gd_inv h
    exact r_retz C hP hS (rt_ow1 h) (rt_ow2 h) (isB_nar g_11) dX6_readThing_17

set_option maxRecDepth 100000 in
set_option maxHeartbeats 4000000 in
theorem wfX6_readThings_j23 {l : Launch} {g : Gw} {p : Program} {e : Env} {s : State} {m : MethodId} {args : Array Value} {below : List Frame} {meth : Method} {c : Code} (C : Cx wkX g p s m args meth c cX6_readThings 2 RX6 (some .boolean)) {Rz : (Sto × Int32)} {k_2 : Sto → Int32 → Option (Sto × Int32)} : ∀ (σ : Sto) (x1 : Int32) (H : Heap) (locs : List Loc) (ls : Array Slot), fX6_readThings_j23 k_2 σ x1 = some Rz → wS wkX g σ H → va_S (AS wkX g) s.heap H locs → lv_has ls 2 [(0, .ref (adG g 5)), (1, .int x1)] → (∀ (σ : Sto) (x1 : Int32) (H : Heap) (locs : List Loc) (ls : Array Slot), k_2 σ x1 = some Rz → wS wkX g σ H → va_S (AS wkX g) s.heap H locs → lv_has ls 2 [(0, .ref (adG g 5)), (1, .int x1)] → W p l e (rmS 3) s m args below meth c H locs 0 0 (MQ below (QiS wkX g Rz.1 Rz.2) args s 0 0 (AS wkX g)) (F0 m 2 ls [])) → W p l e (rmS 3) s m args below meth c H locs 0 0 (MQ below (QiS wkX g Rz.1 Rz.2) args s 0 0 (AS wkX g)) (F0 m 23 ls []) := by
  intro σ x1 H locs ls h hP hS hl hk_2
  obtain ⟨hx, hb, hml, hown, hts, hr, hlk, hK, hZ⟩ := id C
  unfold fX6_readThings_j23 at h
  refine lv_aload_n hx hb dX6_readThings_23 rfl (lv_at hl 0 rfl) ?_
  obtain ⟨q_1, hq_1, h⟩ := bd_inv h
  refine end_i (run_v (As := []) (rest := []) C ca_X6_readThing (ctX6_readThing hq_1) cf_6 sx_5 kx_5 tw_338 ⟨Nat.le_of_ble_eq_true rfl, Nat.le_of_ble_eq_true rfl⟩ rfl hl.1 (Nat.le_of_ble_eq_true rfl) ⟨Nat.le_refl _, Nat.le_refl _⟩ hP hS dX6_readThings_24) hS (fun H locs hP hS => ?_)
  refine lv_if_ne (tgt := 32) hx hb dX6_readThings_27 (by decide) (fun c_ => ?_) (fun c_ => ?_)
  · replace h := if_f c_ h
    obtain ⟨x_2, ex_2⟩ : ∃ y : Int32, y = x1 + (1 : Int32) := ⟨_, rfl⟩
    replace h := un_at ex_2 h
    refine lv_iinc (v := x_2) (lv' := [(1, .int x_2), (0, .ref (adG g 5))]) hx hb dX6_readThings_32 hl (k := 1) rfl (by rw [ex_2]; rfl) (by decide) rfl (fun ls hl => ?_)
    refine lv_goto (tgt := 2) hx hb dX6_readThings_35 (by decide) ?_
    exact hk_2 q_1.1 x_2 H locs ls h hP hS (lv_sub hl [1, 0] rfl)
  · replace h := if_t c_ h
    refine lv_iconst (v := 0) hx hb dX6_readThings_30 (by decide) ?_
    exact r_retz C hP hS (rt_ow1 h) (rt_ow2 h) rfl dX6_readThings_31

set_option maxRecDepth 100000 in
set_option maxHeartbeats 4000000 in
theorem wfX6_readThings_L2 {l : Launch} {g : Gw} {p : Program} {e : Env} {s : State} {m : MethodId} {args : Array Value} {below : List Frame} {meth : Method} {c : Code} (C : Cx wkX g p s m args meth c cX6_readThings 2 RX6 (some .boolean)) {Rz : (Sto × Int32)} {k_38 : Sto → Option (Sto × Int32)} : ∀ (n : Nat) (σ : Sto) (x1 : Int32) (H : Heap) (locs : List Loc) (ls : Array Slot), fX6_readThings_L2 k_38 n σ x1 = some Rz → wS wkX g σ H → va_S (AS wkX g) s.heap H locs → lv_has ls 2 [(0, .ref (adG g 5)), (1, .int x1)] → (∀ (σ : Sto) (H : Heap) (locs : List Loc) (ls : Array Slot), k_38 σ = some Rz → wS wkX g σ H → va_S (AS wkX g) s.heap H locs → lv_has ls 2 [(0, .ref (adG g 5))] → W p l e (rmS 3) s m args below meth c H locs 0 0 (MQ below (QiS wkX g Rz.1 Rz.2) args s 0 0 (AS wkX g)) (F0 m 38 ls [])) → W p l e (rmS 3) s m args below meth c H locs 0 0 (MQ below (QiS wkX g Rz.1 Rz.2) args s 0 0 (AS wkX g)) (F0 m 2 ls []) := by
  intro n
  induction n with
  | zero =>
    intro σ x1 H locs ls h
    cases h
  | succ n ih =>
    intro σ x1 H locs ls h hP hS hl hk_38
    obtain ⟨hx, hb, hml, hown, hts, hr, hlk, hK, hZ⟩ := id C
    rw [fX6_readThings_L2] at h
    refine lv_iload_n hx hb dX6_readThings_2 rfl (lv_at hl 1 rfl) ?_
    refine lv_bipush (v := 6) hx hb dX6_readThings_3 (by decide) ?_
    refine lv_icmp_ge (tgt := 38) hx hb dX6_readThings_5 (by decide) (fun c_ => ?_) (fun c_ => ?_)
    · replace h := if_t c_ h
      exact hk_38 σ H locs ls h hP hS (lv_sub hl [0] rfl)
    · replace h := if_f c_ h
      refine lv_iload_n hx hb dX6_readThings_8 rfl (lv_at hl 1 rfl) ?_
      refine lv_if_eq (tgt := 23) hx hb dX6_readThings_9 (by decide) (fun c_ => ?_) (fun c_ => ?_)
      · replace h := if_t c_ h
        refine wfX6_readThings_j23 C σ x1 H locs ls h hP hS (lv_sub hl [0, 1] rfl) (fun σ_1 z_2 H locs ls h hP hS hl => ?_)
        exact ih σ_1 z_2 H locs ls h hP hS (lv_sub hl [0, 1] rfl) hk_38
      · replace h := if_f c_ h
        refine lv_aload_n hx hb dX6_readThings_12 rfl (lv_at hl 0 rfl) ?_
        refine r_geti C cf_6 hP sx_5 kx_5 5 (by decide) rfl tw_64 dX6_readThings_13 ?_
        refine lv_aload_n hx hb dX6_readThings_16 rfl (lv_at hl 0 rfl) ?_
        refine r_geti C cf_6 hP sx_5 kx_5 1 (by decide) rfl tw_60 dX6_readThings_17 ?_
        refine lv_icmp_ge (tgt := 38) hx hb dX6_readThings_20 (by decide) (fun c_ => ?_) (fun c_ => ?_)
        · replace h := if_t c_ h
          exact hk_38 σ H locs ls h hP hS (lv_sub hl [0] rfl)
        · replace h := if_f c_ h
          refine wfX6_readThings_j23 C σ x1 H locs ls h hP hS (lv_sub hl [0, 1] rfl) (fun σ_3 z_4 H locs ls h hP hS hl => ?_)
          exact ih σ_3 z_4 H locs ls h hP hS (lv_sub hl [0, 1] rfl) hk_38

set_option maxRecDepth 100000 in
set_option maxHeartbeats 4000000 in
theorem wfX6_readThings_j38 {l : Launch} {g : Gw} {p : Program} {e : Env} {s : State} {m : MethodId} {args : Array Value} {below : List Frame} {meth : Method} {c : Code} (C : Cx wkX g p s m args meth c cX6_readThings 2 RX6 (some .boolean)) {Rz : (Sto × Int32)} : ∀ (σ : Sto) (H : Heap) (locs : List Loc) (ls : Array Slot), fX6_readThings_j38 σ = some Rz → wS wkX g σ H → va_S (AS wkX g) s.heap H locs → lv_has ls 2 [(0, .ref (adG g 5))] → W p l e (rmS 3) s m args below meth c H locs 0 0 (MQ below (QiS wkX g Rz.1 Rz.2) args s 0 0 (AS wkX g)) (F0 m 38 ls []) := by
  intro σ H locs ls h hP hS hl
  obtain ⟨hx, hb, hml, hown, hts, hr, hlk, hK, hZ⟩ := id C
  unfold fX6_readThings_j38 at h
  refine lv_aload_n hx hb dX6_readThings_38 rfl (lv_at hl 0 rfl) ?_
  refine r_geti C cf_6 hP sx_5 kx_5 5 (by decide) rfl tw_64 dX6_readThings_39 ?_
  refine lv_aload_n hx hb dX6_readThings_42 rfl (lv_at hl 0 rfl) ?_
  refine r_geti C cf_6 hP sx_5 kx_5 1 (by decide) rfl tw_60 dX6_readThings_43 ?_
  refine lv_icmp_ne (tgt := 51) hx hb dX6_readThings_46 (by decide) (fun c_ => ?_) (fun c_ => ?_)
  · replace h := if_f c_ h
    refine lv_aload_n hx hb dX6_readThings_51 rfl (lv_at hl 0 rfl) ?_
    refine lv_aload_n hx hb dX6_readThings_52 rfl (lv_at hl 0 rfl) ?_
    obtain ⟨q_1, hq_1, h⟩ := bd_inv h
    refine end_i (run_v (As := []) (rest := [.ref (adG g 5)]) C ca_X6_next (ctX6_next hq_1) cf_6 sx_5 kx_5 tw_309 ⟨Nat.le_of_ble_eq_true rfl, Nat.le_of_ble_eq_true rfl⟩ rfl hl.1 (Nat.le_of_ble_eq_true rfl) ⟨Nat.le_refl _, Nat.le_refl _⟩ hP hS dX6_readThings_53) hS (fun H locs hP hS => ?_)
    refine end_i (run_s (As := [.int q_1]) (rest := [.ref (adG g 5)]) C ca_X6_sortOf (ctX6_sortOf q_1 rfl) tw_342 ⟨Nat.le_of_ble_eq_true rfl, Nat.le_of_ble_eq_true rfl⟩ rfl hl.1 (Nat.le_of_ble_eq_true rfl) ⟨Nat.le_refl _, Nat.le_refl _⟩ hP hS dX6_readThings_56) hS (fun H locs hP hS => ?_)
    refine lv_if_ne (tgt := 66) hx hb dX6_readThings_59 (by decide) (fun c_ => ?_) (fun c_ => ?_)
    · replace h := if_f c_ h
      refine lv_iconst (v := 3) hx hb dX6_readThings_66 (by decide) ?_
      obtain ⟨q_3, eq_3⟩ : ∃ z, z = fX6_fails σ (3 : Int32) := ⟨_, rfl⟩
      replace h := un_at eq_3 h
      refine end_i (run_v (As := [.int (3 : Int32)]) (rest := []) C ca_X6_fails (ctX6_fails (3 : Int32) eq_3.symm) cf_6 sx_5 kx_5 tw_313 ⟨Nat.le_of_ble_eq_true rfl, Nat.le_of_ble_eq_true rfl⟩ rfl hl.1 (Nat.le_of_ble_eq_true rfl) ⟨Nat.le_refl _, Nat.le_refl _⟩ hP hS dX6_readThings_67) hS (fun H locs hP hS => ?_)
      obtain ⟨g_4, h⟩ := gd_inv h
      exact r_retz C hP hS (rt_ow1 h) (rt_ow2 h) (isB_nar g_4) dX6_readThings_70
    · replace h := if_t c_ h
      refine lv_iconst (v := 1) hx hb dX6_readThings_62 (by decide) ?_
      refine lv_goto (tgt := 67) hx hb dX6_readThings_63 (by decide) ?_
      obtain ⟨q_5, eq_5⟩ : ∃ z, z = fX6_fails σ (1 : Int32) := ⟨_, rfl⟩
      replace h := un_at eq_5 h
      refine end_i (run_v (As := [.int (1 : Int32)]) (rest := []) C ca_X6_fails (ctX6_fails (1 : Int32) eq_5.symm) cf_6 sx_5 kx_5 tw_313 ⟨Nat.le_of_ble_eq_true rfl, Nat.le_of_ble_eq_true rfl⟩ rfl hl.1 (Nat.le_of_ble_eq_true rfl) ⟨Nat.le_refl _, Nat.le_refl _⟩ hP hS dX6_readThings_67) hS (fun H locs hP hS => ?_)
      obtain ⟨g_6, h⟩ := gd_inv h
      exact r_retz C hP hS (rt_ow1 h) (rt_ow2 h) (isB_nar g_6) dX6_readThings_70
  · replace h := if_t c_ h
    refine lv_iconst (v := 1) hx hb dX6_readThings_49 (by decide) ?_
    exact r_retz C hP hS (rt_ow1 h) (rt_ow2 h) rfl dX6_readThings_50

set_option maxRecDepth 100000 in
set_option maxHeartbeats 4000000 in
theorem ctX6_readThings {l : Launch} {g : Gw} {σ : Sto} {Rz : (Sto × Int32)} (h : fX6_readThings σ = some Rz) : MtG l yX6_readThings cX6_readThings 2 (some .boolean) 3 wkX g [.ref (adG g 5)] σ (QiS wkX g Rz.1 Rz.2) := by
  refine mt_of (by decide) (Nat.le_of_ble_eq_true rfl) (fun p e s m below meth c ls H locs C hP hS hl => ?_)
  have C : Cx wkX g p s m _ meth c cX6_readThings 2 RX6 (some .boolean) := C
  have hl : lv_has ls 2 [(0, .ref (adG g 5))] := hl
  obtain ⟨hx, hb, hml, hown, hts, hr, hlk, hK, hZ⟩ := id C
  unfold fX6_readThings at h
  refine lv_iconst (v := 0) hx hb dX6_readThings_0 (by decide) ?_
  refine lv_istore_n (lv' := [(1, .int (0 : Int32)), (0, .ref (adG g 5))]) hx hb dX6_readThings_1 rfl hl (by decide) rfl (fun ls hl => ?_)
  refine wfX6_readThings_L2 C fu σ (0 : Int32) H locs ls h hP hS (lv_sub hl [1, 0] rfl) (fun σ_1 H locs ls h hP hS hl => ?_)
  exact wfX6_readThings_j38 C σ_1 H locs ls h hP hS (lv_sub hl [0] rfl)

set_option maxRecDepth 100000 in
set_option maxHeartbeats 4000000 in
theorem ctX6_read {l : Launch} {g : Gw} {σ : Sto} {Rz : (Sto × Int32)} (h : fX6_read σ = some Rz) : MtG l yX6_read cX6_read 2 (some .boolean) 4 wkX g [.ref (adG g 5)] σ (QiS wkX g Rz.1 Rz.2) := by
  refine mt_of (by decide) (Nat.le_of_ble_eq_true rfl) (fun p e s m below meth c ls H locs C hP hS hl => ?_)
  have C : Cx wkX g p s m _ meth c cX6_read 2 RX6 (some .boolean) := C
  have hl : lv_has ls 2 [(0, .ref (adG g 5))] := hl
  obtain ⟨hx, hb, hml, hown, hts, hr, hlk, hK, hZ⟩ := id C
  unfold fX6_read at h
  refine lv_aload_n hx hb dX6_read_0 rfl (lv_at hl 0 rfl) ?_
  refine lv_iconst (v := 0) hx hb dX6_read_1 (by decide) ?_
  refine r_puti C cf_6 hP hS sx_5 kx_5 5 (by decide) rfl rfl rfl tw_64 dX6_read_2 (fun H locs σ_1 eσ_1 hP hS => ?_)
  replace h := un_at eσ_1 h
  refine lv_aload_n hx hb dX6_read_5 rfl (lv_at hl 0 rfl) ?_
  refine r_getr C cf_6 hP sx_5 kx_5 0 (by decide) rfl tw_59 dX6_read_6 ?_
  obtain ⟨q_2, eq_2⟩ : ∃ z, z = fX8_clear σ_1 44 := ⟨_, rfl⟩
  replace h := un_at eq_2 h
  refine end_v (run_v (As := []) (rest := []) C ca_X8_clear (ctX8_clear 44 iv_44 eq_2.symm) cf_8 (sv_0 iv_44) (kv_0 iv_44) tw_295 ⟨Nat.le_of_ble_eq_true rfl, Nat.le_of_ble_eq_true rfl⟩ rfl hl.1 (Nat.le_of_ble_eq_true rfl) ⟨Nat.le_refl _, Nat.le_refl _⟩ hP hS dX6_read_9) hS (fun H locs hP hS => ?_)
  refine lv_aload_n hx hb dX6_read_12 rfl (lv_at hl 0 rfl) ?_
  obtain ⟨q_3, hq_3, h⟩ := bd_inv h
  refine end_i (run_v (As := []) (rest := []) C ca_X6_readLaw (ctX6_readLaw hq_3) cf_6 sx_5 kx_5 tw_299 ⟨Nat.le_of_ble_eq_true rfl, Nat.le_of_ble_eq_true rfl⟩ rfl hl.1 (Nat.le_of_ble_eq_true rfl) ⟨Nat.le_refl _, Nat.le_refl _⟩ hP hS dX6_read_13) hS (fun H locs hP hS => ?_)
  refine lv_if_eq (tgt := 37) hx hb dX6_read_16 (by decide) (fun c_ => ?_) (fun c_ => ?_)
  · replace h := if_t c_ h
    refine lv_iconst (v := 0) hx hb dX6_read_37 (by decide) ?_
    refine lv_istore_n (lv' := [(1, .int (0 : Int32)), (0, .ref (adG g 5))]) hx hb dX6_read_38 rfl hl (by decide) rfl (fun ls hl => ?_)
    refine lv_aload_n hx hb dX6_read_39 rfl (lv_at hl 1 rfl) ?_
    refine lv_iconst (v := 0) hx hb dX6_read_40 (by decide) ?_
    refine r_puti C cf_6 hP hS sx_5 kx_5 1 (by decide) rfl rfl rfl tw_60 dX6_read_41 (fun H locs σ_4 eσ_4 hP hS => ?_)
    replace h := un_at eσ_4 h
    refine lv_iload_n hx hb dX6_read_44 rfl (lv_at hl 0 rfl) ?_
    exact r_retz C hP hS (rt_ow1 h) (rt_ow2 h) rfl dX6_read_45
  · replace h := if_f c_ h
    refine lv_aload_n hx hb dX6_read_19 rfl (lv_at hl 0 rfl) ?_
    obtain ⟨q_5, hq_5, h⟩ := bd_inv h
    refine end_i (run_v (As := []) (rest := []) C ca_X6_readRooms (ctX6_readRooms hq_5) cf_6 sx_5 kx_5 tw_321 ⟨Nat.le_of_ble_eq_true rfl, Nat.le_of_ble_eq_true rfl⟩ rfl hl.1 (Nat.le_of_ble_eq_true rfl) ⟨Nat.le_refl _, Nat.le_refl _⟩ hP hS dX6_read_20) hS (fun H locs hP hS => ?_)
    refine lv_if_eq (tgt := 37) hx hb dX6_read_23 (by decide) (fun c_ => ?_) (fun c_ => ?_)
    · replace h := if_t c_ h
      refine lv_iconst (v := 0) hx hb dX6_read_37 (by decide) ?_
      refine lv_istore_n (lv' := [(1, .int (0 : Int32)), (0, .ref (adG g 5))]) hx hb dX6_read_38 rfl hl (by decide) rfl (fun ls hl => ?_)
      refine lv_aload_n hx hb dX6_read_39 rfl (lv_at hl 1 rfl) ?_
      refine lv_iconst (v := 0) hx hb dX6_read_40 (by decide) ?_
      refine r_puti C cf_6 hP hS sx_5 kx_5 1 (by decide) rfl rfl rfl tw_60 dX6_read_41 (fun H locs σ_6 eσ_6 hP hS => ?_)
      replace h := un_at eσ_6 h
      refine lv_iload_n hx hb dX6_read_44 rfl (lv_at hl 0 rfl) ?_
      exact r_retz C hP hS (rt_ow1 h) (rt_ow2 h) rfl dX6_read_45
    · replace h := if_f c_ h
      refine lv_aload_n hx hb dX6_read_26 rfl (lv_at hl 0 rfl) ?_
      obtain ⟨q_7, hq_7, h⟩ := bd_inv h
      refine end_i (run_v (As := []) (rest := []) C ca_X6_readThings (ctX6_readThings hq_7) cf_6 sx_5 kx_5 tw_334 ⟨Nat.le_of_ble_eq_true rfl, Nat.le_of_ble_eq_true rfl⟩ rfl hl.1 (Nat.le_of_ble_eq_true rfl) ⟨Nat.le_refl _, Nat.le_refl _⟩ hP hS dX6_read_27) hS (fun H locs hP hS => ?_)
      refine lv_if_eq (tgt := 37) hx hb dX6_read_30 (by decide) (fun c_ => ?_) (fun c_ => ?_)
      · replace h := if_t c_ h
        refine lv_iconst (v := 0) hx hb dX6_read_37 (by decide) ?_
        refine lv_istore_n (lv' := [(1, .int (0 : Int32)), (0, .ref (adG g 5))]) hx hb dX6_read_38 rfl hl (by decide) rfl (fun ls hl => ?_)
        refine lv_aload_n hx hb dX6_read_39 rfl (lv_at hl 1 rfl) ?_
        refine lv_iconst (v := 0) hx hb dX6_read_40 (by decide) ?_
        refine r_puti C cf_6 hP hS sx_5 kx_5 1 (by decide) rfl rfl rfl tw_60 dX6_read_41 (fun H locs σ_8 eσ_8 hP hS => ?_)
        replace h := un_at eσ_8 h
        refine lv_iload_n hx hb dX6_read_44 rfl (lv_at hl 0 rfl) ?_
        exact r_retz C hP hS (rt_ow1 h) (rt_ow2 h) rfl dX6_read_45
      · replace h := if_f c_ h
        refine lv_iconst (v := 1) hx hb dX6_read_33 (by decide) ?_
        refine lv_goto (tgt := 38) hx hb dX6_read_34 (by decide) ?_
        refine lv_istore_n (lv' := [(1, .int (1 : Int32)), (0, .ref (adG g 5))]) hx hb dX6_read_38 rfl hl (by decide) rfl (fun ls hl => ?_)
        refine lv_aload_n hx hb dX6_read_39 rfl (lv_at hl 1 rfl) ?_
        refine lv_iconst (v := 0) hx hb dX6_read_40 (by decide) ?_
        refine r_puti C cf_6 hP hS sx_5 kx_5 1 (by decide) rfl rfl rfl tw_60 dX6_read_41 (fun H locs σ_9 eσ_9 hP hS => ?_)
        replace h := un_at eσ_9 h
        refine lv_iload_n hx hb dX6_read_44 rfl (lv_at hl 0 rfl) ?_
        exact r_retz C hP hS (rt_ow1 h) (rt_ow2 h) rfl dX6_read_45

set_option maxRecDepth 100000 in
set_option maxHeartbeats 4000000 in
theorem ctX7_cell {l : Launch} {g : Gw} {σ : Sto} (x0 : Int32) (x1 : Int32) (x2 : Int32) {Rz : Int32} (h : fX7_cell x0 x1 x2 = Rz) : MtG l yX7_cell cX7_cell 3 (some .int) 0 wkX g [.int x0, .int x1, .int x2] σ (QiS wkX g σ Rz) := by
  refine mt_of (by decide) (Nat.le_of_ble_eq_true rfl) (fun p e s m below meth c ls H locs C hP hS hl => ?_)
  have C : Cx wkX g p s m _ meth c cX7_cell 3 RX7 (some .int) := C
  have hl : lv_has ls 3 [(0, .int x0), (1, .int x1), (2, .int x2)] := hl
  obtain ⟨hx, hb, hml, hown, hts, hr, hlk, hK, hZ⟩ := id C
  unfold fX7_cell at h
  refine lv_iload_n hx hb dX7_cell_0 rfl (lv_at hl 0 rfl) ?_
  refine lv_iconst (v := 3) hx hb dX7_cell_1 (by decide) ?_
  refine lv_imul hx hb dX7_cell_2 ?_
  refine lv_iload_n hx hb dX7_cell_3 rfl (lv_at hl 1 rfl) ?_
  refine lv_iadd hx hb dX7_cell_4 ?_
  refine lv_bipush (v := 6) hx hb dX7_cell_5 (by decide) ?_
  refine lv_imul hx hb dX7_cell_7 ?_
  refine lv_iload_n hx hb dX7_cell_8 rfl (lv_at hl 2 rfl) ?_
  refine lv_iadd hx hb dX7_cell_9 ?_
  exact r_reti C hP hS rfl h dX7_cell_10

set_option maxRecDepth 100000 in
set_option maxHeartbeats 4000000 in
theorem wfX7_followAll_j66 {l : Launch} {g : Gw} {p : Program} {e : Env} {s : State} {m : MethodId} {args : Array Value} {below : List Frame} {meth : Method} {c : Code} (C : Cx wkX g p s m args meth c cX7_followAll 6 RX7 none) {Rz : Sto} {k_24 : Sto → Int32 → Int32 → Int32 → Int32 → Int32 → Option Sto} : ∀ (σ : Sto) (x1 : Int32) (x2 : Int32) (x3 : Int32) (x4 : Int32) (x5 : Int32) (y1 : Int32) (y2 : Int32) (H : Heap) (locs : List Loc) (ls : Array Slot), fX7_followAll_j66 k_24 σ x1 x2 x3 x4 x5 y1 y2 = some Rz → wS wkX g σ H → va_S (AS wkX g) s.heap H locs → lv_has ls 6 [(0, .ref (adG g 21)), (1, .int x1), (2, .int x2), (3, .int x3), (4, .int x4), (5, .int x5)] → (∀ (σ : Sto) (x1 : Int32) (x2 : Int32) (x3 : Int32) (x4 : Int32) (x5 : Int32) (H : Heap) (locs : List Loc) (ls : Array Slot), k_24 σ x1 x2 x3 x4 x5 = some Rz → wS wkX g σ H → va_S (AS wkX g) s.heap H locs → lv_has ls 6 [(0, .ref (adG g 21)), (1, .int x1), (2, .int x2), (3, .int x3), (4, .int x4), (5, .int x5)] → W p l e (rmS 4) s m args below meth c H locs 0 0 (MQ below (QvS wkX g Rz) args s 0 0 (AS wkX g)) (F0 m 24 ls [])) → W p l e (rmS 4) s m args below meth c H locs 0 0 (MQ below (QvS wkX g Rz) args s 0 0 (AS wkX g)) (F0 m 66 ls [.int y2, .int y1, .ref (adG g 24)]) := by
  intro σ x1 x2 x3 x4 x5 y1 y2 H locs ls h hP hS hl hk_24
  obtain ⟨hx, hb, hml, hown, hts, hr, hlk, hK, hZ⟩ := id C
  unfold fX7_followAll_j66 at h
  obtain ⟨g_1, h⟩ := gd_inv h
  refine r_zast C hP hS sx_24 kx_24 rfl g_1 dX7_followAll_66 (fun H locs σ_2 eσ_2 hP hS => ?_)
  replace h := un_at eσ_2 h
  refine lv_aload_n hx hb dX7_followAll_67 rfl (lv_at hl 0 rfl) ?_
  refine r_getr C cf_7 hP sx_21 kx_21 0 (by decide) rfl tw_127 dX7_followAll_68 ?_
  refine lv_iload hx hb dX7_followAll_71 (lv_at hl 4 rfl) ?_
  refine end_i (run_v (As := [.int x4]) (rest := []) C ca_X8_carried (ctX8_carried 268 iv_268 x4 rfl) cf_8 (sv_0 iv_268) (kv_0 iv_268) tw_903 ⟨Nat.le_of_ble_eq_true rfl, Nat.le_of_ble_eq_true rfl⟩ rfl hl.1 (Nat.le_of_ble_eq_true rfl) ⟨Nat.le_refl _, Nat.le_refl _⟩ hP hS dX7_followAll_73) hS (fun H locs hP hS => ?_)
  refine lv_topi (fun x_4 ex_4 => ?_)
  replace h := un_at ex_4 h
  refine lv_istore (lv' := [(4, .int x_4), (0, .ref (adG g 21)), (1, .int x1), (2, .int x2), (3, .int x3), (5, .int x5)]) hx hb dX7_followAll_76 hl (by decide) rfl (fun ls hl => ?_)
  obtain ⟨x_5, ex_5⟩ : ∃ y : Int32, y = x5 + (1 : Int32) := ⟨_, rfl⟩
  replace h := un_at ex_5 h
  refine lv_iinc (v := x_5) (lv' := [(5, .int x_5), (4, .int x_4), (0, .ref (adG g 21)), (1, .int x1), (2, .int x2), (3, .int x3)]) hx hb dX7_followAll_78 hl (k := 5) rfl (by rw [ex_5]; rfl) (by decide) rfl (fun ls hl => ?_)
  refine lv_goto (tgt := 24) hx hb dX7_followAll_81 (by decide) ?_
  exact hk_24 σ_2 x1 x2 x3 x_4 x_5 H locs ls h hP hS (lv_sub hl [2, 3, 4, 5, 1, 0] rfl)

set_option maxRecDepth 100000 in
set_option maxHeartbeats 4000000 in
theorem wfX7_followAll_L24 {l : Launch} {g : Gw} {p : Program} {e : Env} {s : State} {m : MethodId} {args : Array Value} {below : List Frame} {meth : Method} {c : Code} (C : Cx wkX g p s m args meth c cX7_followAll 6 RX7 none) {Rz : Sto} {k_84 : Sto → Int32 → Int32 → Int32 → Option Sto} : ∀ (n : Nat) (σ : Sto) (x1 : Int32) (x2 : Int32) (x3 : Int32) (x4 : Int32) (x5 : Int32) (H : Heap) (locs : List Loc) (ls : Array Slot), fX7_followAll_L24 k_84 n σ x1 x2 x3 x4 x5 = some Rz → wS wkX g σ H → va_S (AS wkX g) s.heap H locs → lv_has ls 6 [(0, .ref (adG g 21)), (1, .int x1), (2, .int x2), (3, .int x3), (4, .int x4), (5, .int x5)] → (∀ (σ : Sto) (x1 : Int32) (x2 : Int32) (x3 : Int32) (H : Heap) (locs : List Loc) (ls : Array Slot), k_84 σ x1 x2 x3 = some Rz → wS wkX g σ H → va_S (AS wkX g) s.heap H locs → lv_has ls 6 [(0, .ref (adG g 21)), (1, .int x1), (2, .int x2), (3, .int x3)] → W p l e (rmS 4) s m args below meth c H locs 0 0 (MQ below (QvS wkX g Rz) args s 0 0 (AS wkX g)) (F0 m 84 ls [])) → W p l e (rmS 4) s m args below meth c H locs 0 0 (MQ below (QvS wkX g Rz) args s 0 0 (AS wkX g)) (F0 m 24 ls []) := by
  intro n
  induction n with
  | zero =>
    intro σ x1 x2 x3 x4 x5 H locs ls h
    cases h
  | succ n ih =>
    intro σ x1 x2 x3 x4 x5 H locs ls h hP hS hl hk_84
    obtain ⟨hx, hb, hml, hown, hts, hr, hlk, hK, hZ⟩ := id C
    rw [fX7_followAll_L24] at h
    refine lv_iload hx hb dX7_followAll_24 (lv_at hl 5 rfl) ?_
    refine lv_iconst (v := 3) hx hb dX7_followAll_26 (by decide) ?_
    refine lv_icmp_ge (tgt := 84) hx hb dX7_followAll_27 (by decide) (fun c_ => ?_) (fun c_ => ?_)
    · replace h := if_t c_ h
      exact hk_84 σ x1 x2 x3 H locs ls h hP hS (lv_sub hl [0, 1, 2, 3] rfl)
    · replace h := if_f c_ h
      refine lv_aload_n hx hb dX7_followAll_30 rfl (lv_at hl 0 rfl) ?_
      refine r_getr C cf_7 hP sx_21 kx_21 2 (by decide) rfl tw_130 dX7_followAll_31 ?_
      refine lv_iload_n hx hb dX7_followAll_34 rfl (lv_at hl 1 rfl) ?_
      refine lv_iload hx hb dX7_followAll_35 (lv_at hl 5 rfl) ?_
      refine lv_iload_n hx hb dX7_followAll_37 rfl (lv_at hl 3 rfl) ?_
      refine end_i (run_s (As := [.int x1, .int x5, .int x3]) (rest := [.ref (adG g 24)]) C ca_X7_cell (ctX7_cell x1 x5 x3 rfl) tw_899 ⟨Nat.le_of_ble_eq_true rfl, Nat.le_of_ble_eq_true rfl⟩ rfl hl.1 (Nat.le_of_ble_eq_true rfl) ⟨Nat.le_refl _, Nat.le_refl _⟩ hP hS dX7_followAll_38) hS (fun H locs hP hS => ?_)
      refine lv_aload_n hx hb dX7_followAll_41 rfl (lv_at hl 0 rfl) ?_
      refine r_getr C cf_7 hP sx_21 kx_21 1 (by decide) rfl tw_129 dX7_followAll_42 ?_
      refine lv_aload_n hx hb dX7_followAll_45 rfl (lv_at hl 0 rfl) ?_
      refine r_getr C cf_7 hP sx_21 kx_21 0 (by decide) rfl tw_127 dX7_followAll_46 ?_
      refine lv_iload_n hx hb dX7_followAll_49 rfl (lv_at hl 3 rfl) ?_
      refine lv_iload hx hb dX7_followAll_50 (lv_at hl 4 rfl) ?_
      refine lv_iload_n hx hb dX7_followAll_52 rfl (lv_at hl 2 rfl) ?_
      obtain ⟨q_2, hq_2, h⟩ := bd_inv h
      refine end_i (run_v (As := [.ref (adG g 268), .int x3, .int x4, .int x2]) (rest := [.int (fX7_cell x1 x5 x3), .ref (adG g 24)]) C ca_X2_placeBehind (ctX2_placeBehind 22 if_22 268 iv_268 x3 x4 x2 hq_2) cf_2 (sf_0 if_22) (kf_0 if_22) tw_902 ⟨Nat.le_of_ble_eq_true rfl, Nat.le_of_ble_eq_true rfl⟩ rfl hl.1 (Nat.le_of_ble_eq_true rfl) ⟨Nat.le_refl _, Nat.le_refl _⟩ hP hS dX7_followAll_53) hS (fun H locs hP hS => ?_)
      refine lv_bipush (v := 30) hx hb dX7_followAll_56 (by decide) ?_
      refine lv_icmp_lt (tgt := 65) hx hb dX7_followAll_58 (by decide) (fun c_ => ?_) (fun c_ => ?_)
      · replace h := if_t c_ h
        refine lv_iconst (v := 0) hx hb dX7_followAll_65 (by decide) ?_
        refine wfX7_followAll_j66 C σ x1 x2 x3 x4 x5 (fX7_cell x1 x5 x3) (0 : Int32) H locs ls h hP hS (lv_sub hl [0, 1, 2, 3, 4, 5] rfl) (fun σ_3 z_4 z_5 z_6 z_7 z_8 H locs ls h hP hS hl => ?_)
        exact ih σ_3 z_4 z_5 z_6 z_7 z_8 H locs ls h hP hS (lv_sub hl [0, 1, 2, 3, 4, 5] rfl) hk_84
      · replace h := if_f c_ h
        refine lv_iconst (v := 1) hx hb dX7_followAll_61 (by decide) ?_
        refine lv_goto (tgt := 66) hx hb dX7_followAll_62 (by decide) ?_
        refine wfX7_followAll_j66 C σ x1 x2 x3 x4 x5 (fX7_cell x1 x5 x3) (1 : Int32) H locs ls h hP hS (lv_sub hl [0, 1, 2, 3, 4, 5] rfl) (fun σ_9 z_10 z_11 z_12 z_13 z_14 H locs ls h hP hS hl => ?_)
        exact ih σ_9 z_10 z_11 z_12 z_13 z_14 H locs ls h hP hS (lv_sub hl [0, 1, 2, 3, 4, 5] rfl) hk_84

set_option maxRecDepth 100000 in
set_option maxHeartbeats 4000000 in
theorem wfX7_followAll_L2 {l : Launch} {g : Gw} {p : Program} {e : Env} {s : State} {m : MethodId} {args : Array Value} {below : List Frame} {meth : Method} {c : Code} (C : Cx wkX g p s m args meth c cX7_followAll 6 RX7 none) {Rz : Sto} : ∀ (n : Nat) (σ : Sto) (x1 : Int32) (x2 : Int32) (x3 : Int32) (H : Heap) (locs : List Loc) (ls : Array Slot), fX7_followAll_L2 n σ x1 x2 x3 = some Rz → wS wkX g σ H → va_S (AS wkX g) s.heap H locs → lv_has ls 6 [(0, .ref (adG g 21)), (1, .int x1), (2, .int x2), (3, .int x3)] → W p l e (rmS 4) s m args below meth c H locs 0 0 (MQ below (QvS wkX g Rz) args s 0 0 (AS wkX g)) (F0 m 2 ls []) := by
  intro n
  induction n with
  | zero =>
    intro σ x1 x2 x3 H locs ls h
    cases h
  | succ n ih =>
    intro σ x1 x2 x3 H locs ls h hP hS hl
    obtain ⟨hx, hb, hml, hown, hts, hr, hlk, hK, hZ⟩ := id C
    rw [fX7_followAll_L2] at h
    refine lv_iload_n hx hb dX7_followAll_2 rfl (lv_at hl 3 rfl) ?_
    refine lv_aload_n hx hb dX7_followAll_3 rfl (lv_at hl 0 rfl) ?_
    refine r_geti C cf_7 hP sx_21 kx_21 5 (by decide) rfl tw_133 dX7_followAll_4 ?_
    refine lv_icmp_ge (tgt := 90) hx hb dX7_followAll_7 (by decide) (fun c_ => ?_) (fun c_ => ?_)
    · replace h := if_t c_ h
      exact r_retv C hP hS (rt_o h) dX7_followAll_90
    · replace h := if_f c_ h
      refine lv_aload_n hx hb dX7_followAll_10 rfl (lv_at hl 0 rfl) ?_
      refine r_getr C cf_7 hP sx_21 kx_21 0 (by decide) rfl tw_127 dX7_followAll_11 ?_
      refine r_getr C cf_8 hP (sv_0 iv_268) (kv_0 iv_268) 10 (by decide) rfl tw_898 dX7_followAll_14 ?_
      refine lv_iload_n hx hb dX7_followAll_17 rfl (lv_at hl 3 rfl) ?_
      obtain ⟨g_1, h⟩ := gd_inv h
      refine r_iald C hP (sv_6 iv_268) (kv_6 iv_268) rfl g_1 dX7_followAll_18 ?_
      refine lv_topi (fun x_2 ex_2 => ?_)
      replace h := un_at ex_2 h
      refine lv_istore (lv' := [(4, .int x_2), (0, .ref (adG g 21)), (1, .int x1), (2, .int x2), (3, .int x3)]) hx hb dX7_followAll_19 hl (by decide) rfl (fun ls hl => ?_)
      refine lv_iconst (v := 0) hx hb dX7_followAll_21 (by decide) ?_
      refine lv_istore (lv' := [(5, .int (0 : Int32)), (4, .int x_2), (0, .ref (adG g 21)), (1, .int x1), (2, .int x2), (3, .int x3)]) hx hb dX7_followAll_22 hl (by decide) rfl (fun ls hl => ?_)
      refine wfX7_followAll_L24 C fu σ x1 x2 x3 x_2 (0 : Int32) H locs ls h hP hS (lv_sub hl [2, 3, 4, 5, 1, 0] rfl) (fun σ_3 z_4 z_5 z_6 H locs ls h hP hS hl => ?_)
      obtain ⟨x_7, ex_7⟩ : ∃ y : Int32, y = z_6 + (1 : Int32) := ⟨_, rfl⟩
      replace h := un_at ex_7 h
      refine lv_iinc (v := x_7) (lv' := [(3, .int x_7), (0, .ref (adG g 21)), (1, .int z_4), (2, .int z_5)]) hx hb dX7_followAll_84 hl (k := 3) rfl (by rw [ex_7]; rfl) (by decide) rfl (fun ls hl => ?_)
      refine lv_goto (tgt := 2) hx hb dX7_followAll_87 (by decide) ?_
      exact ih σ_3 z_4 z_5 x_7 H locs ls h hP hS (lv_sub hl [1, 2, 3, 0] rfl)

set_option maxRecDepth 100000 in
set_option maxHeartbeats 4000000 in
theorem ctX7_followAll {l : Launch} {g : Gw} {σ : Sto} (x1 : Int32) (x2 : Int32) {Rz : Sto} (h : fX7_followAll σ x1 x2 = some Rz) : MtG l yX7_followAll cX7_followAll 6 none 4 wkX g [.ref (adG g 21), .int x1, .int x2] σ (QvS wkX g Rz) := by
  refine mt_of (by decide) (Nat.le_of_ble_eq_true rfl) (fun p e s m below meth c ls H locs C hP hS hl => ?_)
  have C : Cx wkX g p s m _ meth c cX7_followAll 6 RX7 none := C
  have hl : lv_has ls 6 [(0, .ref (adG g 21)), (1, .int x1), (2, .int x2)] := hl
  obtain ⟨hx, hb, hml, hown, hts, hr, hlk, hK, hZ⟩ := id C
  unfold fX7_followAll at h
  refine lv_iconst (v := 0) hx hb dX7_followAll_0 (by decide) ?_
  refine lv_istore_n (lv' := [(3, .int (0 : Int32)), (0, .ref (adG g 21)), (1, .int x1), (2, .int x2)]) hx hb dX7_followAll_1 rfl hl (by decide) rfl (fun ls hl => ?_)
  exact wfX7_followAll_L2 C fu σ x1 x2 (0 : Int32) H locs ls h hP hS (lv_sub hl [1, 2, 3, 0] rfl)

set_option maxRecDepth 100000 in
set_option maxHeartbeats 4000000 in
theorem wfX7_stonesNow_L4 {l : Launch} {g : Gw} {p : Program} {e : Env} {s : State} {m : MethodId} {args : Array Value} {below : List Frame} {meth : Method} {c : Code} {σ : Sto} (C : Cx wkX g p s m args meth c cX7_stonesNow 3 RX7 (some .int)) {Rz : Int32} : ∀ (n : Nat) (x1 : Int32) (x2 : Int32) (H : Heap) (locs : List Loc) (ls : Array Slot), fX7_stonesNow_L4 σ n x1 x2 = some Rz → wS wkX g σ H → va_S (AS wkX g) s.heap H locs → lv_has ls 3 [(0, .ref (adG g 21)), (1, .int x1), (2, .int x2)] → W p l e (rmS 1) s m args below meth c H locs 0 0 (MQ below (QiS wkX g σ Rz) args s 0 0 (AS wkX g)) (F0 m 4 ls []) := by
  intro n
  induction n with
  | zero =>
    intro x1 x2 H locs ls h
    cases h
  | succ n ih =>
    intro x1 x2 H locs ls h hP hS hl
    obtain ⟨hx, hb, hml, hown, hts, hr, hlk, hK, hZ⟩ := id C
    rw [fX7_stonesNow_L4] at h
    refine lv_iload_n hx hb dX7_stonesNow_4 rfl (lv_at hl 2 rfl) ?_
    refine lv_aload_n hx hb dX7_stonesNow_5 rfl (lv_at hl 0 rfl) ?_
    refine r_geti C cf_7 hP sx_21 kx_21 5 (by decide) rfl tw_133 dX7_stonesNow_6 ?_
    refine lv_icmp_ge (tgt := 48) hx hb dX7_stonesNow_9 (by decide) (fun c_ => ?_) (fun c_ => ?_)
    · replace h := if_t c_ h
      refine lv_iload_n hx hb dX7_stonesNow_48 rfl (lv_at hl 1 rfl) ?_
      exact r_reti C hP hS rfl (rt_o h) dX7_stonesNow_49
    · replace h := if_f c_ h
      refine lv_iload_n hx hb dX7_stonesNow_12 rfl (lv_at hl 1 rfl) ?_
      refine lv_aload_n hx hb dX7_stonesNow_13 rfl (lv_at hl 0 rfl) ?_
      refine r_getr C cf_7 hP sx_21 kx_21 2 (by decide) rfl tw_130 dX7_stonesNow_14 ?_
      refine lv_aload_n hx hb dX7_stonesNow_17 rfl (lv_at hl 0 rfl) ?_
      refine r_geti C cf_7 hP sx_21 kx_21 4 (by decide) rfl tw_132 dX7_stonesNow_18 ?_
      refine lv_aload_n hx hb dX7_stonesNow_21 rfl (lv_at hl 0 rfl) ?_
      refine r_getr C cf_7 hP sx_21 kx_21 3 (by decide) rfl tw_131 dX7_stonesNow_22 ?_
      refine lv_iload_n hx hb dX7_stonesNow_25 rfl (lv_at hl 2 rfl) ?_
      obtain ⟨g_1, h⟩ := gd_inv h
      refine r_iald C hP sx_25 kx_25 rfl g_1 dX7_stonesNow_26 ?_
      refine lv_iload_n hx hb dX7_stonesNow_27 rfl (lv_at hl 2 rfl) ?_
      refine end_i (run_s (As := [.int (σ 21 4), .int (σ 25 x2.toNatClampNeg), .int x2]) (rest := [.ref (adG g 24), .int x1]) C ca_X7_cell (ctX7_cell (σ 21 4) (σ 25 x2.toNatClampNeg) x2 rfl) tw_899 ⟨Nat.le_of_ble_eq_true rfl, Nat.le_of_ble_eq_true rfl⟩ rfl hl.1 (Nat.le_of_ble_eq_true rfl) ⟨Nat.le_refl _, Nat.le_refl _⟩ hP hS dX7_stonesNow_28) hS (fun H locs hP hS => ?_)
      obtain ⟨g_3, h⟩ := gd_inv h
      refine r_zald C hP sx_24 kx_24 rfl g_3 dX7_stonesNow_31 ?_
      refine lv_if_eq (tgt := 39) hx hb dX7_stonesNow_32 (by decide) (fun c_ => ?_) (fun c_ => ?_)
      · replace h := if_t c_ h
        refine lv_iconst (v := 0) hx hb dX7_stonesNow_39 (by decide) ?_
        refine lv_iadd hx hb dX7_stonesNow_40 ?_
        refine lv_topi (fun x_4 ex_4 => ?_)
        replace h := un_at ex_4 h
        refine lv_istore_n (lv' := [(1, .int x_4), (0, .ref (adG g 21)), (2, .int x2)]) hx hb dX7_stonesNow_41 rfl hl (by decide) rfl (fun ls hl => ?_)
        obtain ⟨x_5, ex_5⟩ : ∃ y : Int32, y = x2 + (1 : Int32) := ⟨_, rfl⟩
        replace h := un_at ex_5 h
        refine lv_iinc (v := x_5) (lv' := [(2, .int x_5), (1, .int x_4), (0, .ref (adG g 21))]) hx hb dX7_stonesNow_42 hl (k := 2) rfl (by rw [ex_5]; rfl) (by decide) rfl (fun ls hl => ?_)
        refine lv_goto (tgt := 4) hx hb dX7_stonesNow_45 (by decide) ?_
        exact ih x_4 x_5 H locs ls h hP hS (lv_sub hl [2, 1, 0] rfl)
      · replace h := if_f c_ h
        refine lv_iconst (v := 1) hx hb dX7_stonesNow_35 (by decide) ?_
        refine lv_goto (tgt := 40) hx hb dX7_stonesNow_36 (by decide) ?_
        refine lv_iadd hx hb dX7_stonesNow_40 ?_
        refine lv_topi (fun x_6 ex_6 => ?_)
        replace h := un_at ex_6 h
        refine lv_istore_n (lv' := [(1, .int x_6), (0, .ref (adG g 21)), (2, .int x2)]) hx hb dX7_stonesNow_41 rfl hl (by decide) rfl (fun ls hl => ?_)
        obtain ⟨x_7, ex_7⟩ : ∃ y : Int32, y = x2 + (1 : Int32) := ⟨_, rfl⟩
        replace h := un_at ex_7 h
        refine lv_iinc (v := x_7) (lv' := [(2, .int x_7), (1, .int x_6), (0, .ref (adG g 21))]) hx hb dX7_stonesNow_42 hl (k := 2) rfl (by rw [ex_7]; rfl) (by decide) rfl (fun ls hl => ?_)
        refine lv_goto (tgt := 4) hx hb dX7_stonesNow_45 (by decide) ?_
        exact ih x_6 x_7 H locs ls h hP hS (lv_sub hl [2, 1, 0] rfl)

set_option maxRecDepth 100000 in
set_option maxHeartbeats 4000000 in
theorem ctX7_stonesNow {l : Launch} {g : Gw} {σ : Sto} {Rz : Int32} (h : fX7_stonesNow σ = some Rz) : MtG l yX7_stonesNow cX7_stonesNow 3 (some .int) 1 wkX g [.ref (adG g 21)] σ (QiS wkX g σ Rz) := by
  refine mt_of (by decide) (Nat.le_of_ble_eq_true rfl) (fun p e s m below meth c ls H locs C hP hS hl => ?_)
  have C : Cx wkX g p s m _ meth c cX7_stonesNow 3 RX7 (some .int) := C
  have hl : lv_has ls 3 [(0, .ref (adG g 21))] := hl
  obtain ⟨hx, hb, hml, hown, hts, hr, hlk, hK, hZ⟩ := id C
  unfold fX7_stonesNow at h
  refine lv_iconst (v := 0) hx hb dX7_stonesNow_0 (by decide) ?_
  refine lv_istore_n (lv' := [(1, .int (0 : Int32)), (0, .ref (adG g 21))]) hx hb dX7_stonesNow_1 rfl hl (by decide) rfl (fun ls hl => ?_)
  refine lv_iconst (v := 0) hx hb dX7_stonesNow_2 (by decide) ?_
  refine lv_istore_n (lv' := [(2, .int (0 : Int32)), (1, .int (0 : Int32)), (0, .ref (adG g 21))]) hx hb dX7_stonesNow_3 rfl hl (by decide) rfl (fun ls hl => ?_)
  exact wfX7_stonesNow_L4 C fu (0 : Int32) (0 : Int32) H locs ls h hP hS (lv_sub hl [2, 1, 0] rfl)

set_option maxRecDepth 100000 in
set_option maxHeartbeats 4000000 in
theorem wfX7_auntTurn_L12 {l : Launch} {g : Gw} {p : Program} {e : Env} {s : State} {m : MethodId} {args : Array Value} {below : List Frame} {meth : Method} {c : Code} (C : Cx wkX g p s m args meth c cX7_auntTurn 5 RX7 (some .int)) {rc : Sto → Int32 → Int32 → Option (Sto × Int32)} (rh : Nat) (hrc : ∀ (σ : Sto) (x1 : Int32) (x2 : Int32) (Rz : (Sto × Int32)), rc σ x1 x2 = some Rz → MtG l yX7_outcome cX7_outcome 3 (some .int) rh wkX g [.ref (adG g 21), .int x1, .int x2] σ (QiS wkX g Rz.1 Rz.2)) {Rz : (Sto × Int32)} : ∀ (n : Nat) (σ : Sto) (x1 : Int32) (x2 : Int32) (x3 : Int32) (x4 : Int32) (H : Heap) (locs : List Loc) (ls : Array Slot), fX7_auntTurn_L12 rc n σ x1 x2 x3 x4 = some Rz → wS wkX g σ H → va_S (AS wkX g) s.heap H locs → lv_has ls 5 [(0, .ref (adG g 21)), (1, .int x1), (2, .int x2), (3, .int x3), (4, .int x4)] → W p l e (rmS (rh + 2)) s m args below meth c H locs 0 0 (MQ below (QiS wkX g Rz.1 Rz.2) args s 0 0 (AS wkX g)) (F0 m 12 ls []) := by
  intro n
  induction n with
  | zero =>
    intro σ x1 x2 x3 x4 H locs ls h
    cases h
  | succ n ih =>
    intro σ x1 x2 x3 x4 H locs ls h hP hS hl
    obtain ⟨hx, hb, hml, hown, hts, hr, hlk, hK, hZ⟩ := id C
    rw [fX7_auntTurn_L12] at h
    refine lv_iload hx hb dX7_auntTurn_12 (lv_at hl 4 rfl) ?_
    refine lv_aload_n hx hb dX7_auntTurn_14 rfl (lv_at hl 0 rfl) ?_
    refine r_geti C cf_7 hP sx_21 kx_21 5 (by decide) rfl tw_133 dX7_auntTurn_15 ?_
    refine lv_icmp_ge (tgt := 62) hx hb dX7_auntTurn_18 (by decide) (fun c_ => ?_) (fun c_ => ?_)
    · replace h := if_t c_ h
      refine lv_iload_n hx hb dX7_auntTurn_62 rfl (lv_at hl 3 rfl) ?_
      exact r_reti C hP hS (rt_ow1 h) (rt_ow2 h) dX7_auntTurn_63
    · replace h := if_f c_ h
      refine lv_aload_n hx hb dX7_auntTurn_21 rfl (lv_at hl 0 rfl) ?_
      refine r_getr C cf_7 hP sx_21 kx_21 3 (by decide) rfl tw_131 dX7_auntTurn_22 ?_
      refine lv_iload hx hb dX7_auntTurn_25 (lv_at hl 4 rfl) ?_
      refine lv_dup2_11 hx hb dX7_auntTurn_27 rfl rfl ?_
      obtain ⟨g_1, h⟩ := gd_inv h
      refine r_iald C hP sx_25 kx_25 rfl g_1 dX7_auntTurn_28 ?_
      refine lv_iconst (v := 1) hx hb dX7_auntTurn_29 (by decide) ?_
      refine lv_iadd hx hb dX7_auntTurn_30 ?_
      refine r_iast C hP hS sx_25 kx_25 rfl g_1 dX7_auntTurn_31 (fun H locs σ_2 eσ_2 hP hS => ?_)
      replace h := un_at eσ_2 h
      refine lv_iload_n hx hb dX7_auntTurn_32 rfl (lv_at hl 3 rfl) ?_
      refine lv_aload_n hx hb dX7_auntTurn_33 rfl (lv_at hl 0 rfl) ?_
      refine lv_iload_n hx hb dX7_auntTurn_34 rfl (lv_at hl 1 rfl) ?_
      refine lv_iconst (v := 1) hx hb dX7_auntTurn_35 (by decide) ?_
      refine lv_iadd hx hb dX7_auntTurn_36 ?_
      refine lv_iload_n hx hb dX7_auntTurn_37 rfl (lv_at hl 2 rfl) ?_
      obtain ⟨q_3, hq_3, h⟩ := bd_inv h
      refine end_i (run_v (As := [.int (x1 + (1 : Int32)), .int x2]) (rest := [.int x3]) C ca_X7_outcome (hrc σ_2 (x1 + (1 : Int32)) x2 _ hq_3) cf_7 sx_21 kx_21 tw_904 ⟨by show _ ≤ (rh + 2); omega, by show _ ≤ 40 * (rh + 2); omega⟩ rfl hl.1 (Nat.le_of_ble_eq_true rfl) ⟨Nat.le_refl _, Nat.le_refl _⟩ hP hS dX7_auntTurn_38) hS (fun H locs hP hS => ?_)
      refine r_min C hl.1 tw_891 tw_460 tw_105 tw_461 ⟨by show _ ≤ (rh + 2); omega, Nat.le_trans (m := 40) (Nat.le_of_ble_eq_true rfl) (by show 40 ≤ 40 * (rh + 2); omega)⟩ (Nat.le_refl _) (Nat.le_refl _) dX7_auntTurn_41 ?_
      refine lv_topi (fun x_4 ex_4 => ?_)
      replace h := un_at ex_4 h
      refine lv_istore_n (lv' := [(3, .int x_4), (0, .ref (adG g 21)), (1, .int x1), (2, .int x2), (4, .int x4)]) hx hb dX7_auntTurn_44 rfl hl (by decide) rfl (fun ls hl => ?_)
      refine lv_aload_n hx hb dX7_auntTurn_45 rfl (lv_at hl 1 rfl) ?_
      refine r_getr C cf_7 hP sx_21 kx_21 3 (by decide) rfl tw_131 dX7_auntTurn_46 ?_
      refine lv_iload hx hb dX7_auntTurn_49 (lv_at hl 4 rfl) ?_
      refine lv_dup2_11 hx hb dX7_auntTurn_51 rfl rfl ?_
      refine r_iald C hP sx_25 kx_25 rfl g_1 dX7_auntTurn_52 ?_
      refine lv_iconst (v := 1) hx hb dX7_auntTurn_53 (by decide) ?_
      refine lv_isub hx hb dX7_auntTurn_54 ?_
      refine r_iast C hP hS sx_25 kx_25 rfl g_1 dX7_auntTurn_55 (fun H locs σ_5 eσ_5 hP hS => ?_)
      replace h := un_at eσ_5 h
      obtain ⟨x_6, ex_6⟩ : ∃ y : Int32, y = x4 + (1 : Int32) := ⟨_, rfl⟩
      replace h := un_at ex_6 h
      refine lv_iinc (v := x_6) (lv' := [(4, .int x_6), (3, .int x_4), (0, .ref (adG g 21)), (1, .int x1), (2, .int x2)]) hx hb dX7_auntTurn_56 hl (k := 4) rfl (by rw [ex_6]; rfl) (by decide) rfl (fun ls hl => ?_)
      refine lv_goto (tgt := 12) hx hb dX7_auntTurn_59 (by decide) ?_
      exact ih σ_5 x1 x2 x_4 x_6 H locs ls h hP hS (lv_sub hl [2, 3, 4, 1, 0] rfl)

set_option maxRecDepth 100000 in
set_option maxHeartbeats 4000000 in
theorem ctX7_auntTurn {l : Launch} {g : Gw} {σ : Sto} {rc : Sto → Int32 → Int32 → Option (Sto × Int32)} (rh : Nat) (hrc : ∀ (σ : Sto) (x1 : Int32) (x2 : Int32) (Rz : (Sto × Int32)), rc σ x1 x2 = some Rz → MtG l yX7_outcome cX7_outcome 3 (some .int) rh wkX g [.ref (adG g 21), .int x1, .int x2] σ (QiS wkX g Rz.1 Rz.2)) (x1 : Int32) (x2 : Int32) {Rz : (Sto × Int32)} (h : fX7_auntTurn rc σ x1 x2 = some Rz) : MtG l yX7_auntTurn cX7_auntTurn 5 (some .int) (rh + 2) wkX g [.ref (adG g 21), .int x1, .int x2] σ (QiS wkX g Rz.1 Rz.2) := by
  refine mt_of (by decide) (Nat.le_of_ble_eq_true rfl) (fun p e s m below meth c ls H locs C hP hS hl => ?_)
  have C : Cx wkX g p s m _ meth c cX7_auntTurn 5 RX7 (some .int) := C
  have hl : lv_has ls 5 [(0, .ref (adG g 21)), (1, .int x1), (2, .int x2)] := hl
  obtain ⟨hx, hb, hml, hown, hts, hr, hlk, hK, hZ⟩ := id C
  unfold fX7_auntTurn at h
  refine lv_aload_n hx hb dX7_auntTurn_0 rfl (lv_at hl 0 rfl) ?_
  refine lv_iload_n hx hb dX7_auntTurn_1 rfl (lv_at hl 1 rfl) ?_
  refine lv_iconst (v := 1) hx hb dX7_auntTurn_2 (by decide) ?_
  refine lv_iadd hx hb dX7_auntTurn_3 ?_
  refine lv_iload_n hx hb dX7_auntTurn_4 rfl (lv_at hl 2 rfl) ?_
  obtain ⟨q_1, hq_1, h⟩ := bd_inv h
  refine end_i (run_v (As := [.int (x1 + (1 : Int32)), .int x2]) (rest := []) C ca_X7_outcome (hrc σ (x1 + (1 : Int32)) x2 _ hq_1) cf_7 sx_21 kx_21 tw_904 ⟨by show _ ≤ (rh + 2); omega, by show _ ≤ 40 * (rh + 2); omega⟩ rfl hl.1 (Nat.le_of_ble_eq_true rfl) ⟨Nat.le_refl _, Nat.le_refl _⟩ hP hS dX7_auntTurn_5) hS (fun H locs hP hS => ?_)
  refine lv_istore_n (lv' := [(3, .int q_1.2), (0, .ref (adG g 21)), (1, .int x1), (2, .int x2)]) hx hb dX7_auntTurn_8 rfl hl (by decide) rfl (fun ls hl => ?_)
  refine lv_iconst (v := 0) hx hb dX7_auntTurn_9 (by decide) ?_
  refine lv_istore (lv' := [(4, .int (0 : Int32)), (3, .int q_1.2), (0, .ref (adG g 21)), (1, .int x1), (2, .int x2)]) hx hb dX7_auntTurn_10 hl (by decide) rfl (fun ls hl => ?_)
  exact wfX7_auntTurn_L12 C rh hrc fu q_1.1 x1 x2 q_1.2 (0 : Int32) H locs ls h hP hS (lv_sub hl [2, 3, 4, 1, 0] rfl)
