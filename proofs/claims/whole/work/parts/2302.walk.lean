set_option maxRecDepth 100000 in
set_option maxHeartbeats 4000000 in
theorem ctX2_placeBehind {l : Launch} {g : Gw} {σ : Sto} (f0 : Nat) (hv0 : isF f0) (v1 : Nat) (hv1 : isV v1) (x2 : Int32) (x3 : Int32) (x4 : Int32) {Rz : Int32} (h : fX2_placeBehind σ f0 v1 x2 x3 x4 = some Rz) : MtG l yX2_placeBehind cX2_placeBehind 7 (some .int) 3 wkX g [.ref (adG g f0), .ref (adG g v1), .int x2, .int x3, .int x4] σ (QiS wkX g σ Rz) := by
  refine mt_of (by decide) (Nat.le_of_ble_eq_true rfl) (fun p e s m below meth c ls H locs C hP hS hl => ?_)
  have C : Cx wkX g p s m _ meth c cX2_placeBehind 7 RX2 (some .int) := C
  have hl : lv_has ls 7 [(0, .ref (adG g f0)), (1, .ref (adG g v1)), (2, .int x2), (3, .int x3), (4, .int x4)] := hl
  obtain ⟨hx, hb, hml, hown, hts, hr, hlk, hK, hZ⟩ := id C
  unfold fX2_placeBehind at h
  refine lv_iload_n hx hb dX2_placeBehind_0 rfl (lv_at hl 3 rfl) ?_
  refine lv_istore (lv' := [(5, .int x3), (0, .ref (adG g f0)), (1, .ref (adG g v1)), (2, .int x2), (3, .int x3), (4, .int x4)]) hx hb dX2_placeBehind_1 hl (by decide) rfl (fun ls hl => ?_)
  refine lv_iconst (v := 0) hx hb dX2_placeBehind_3 (by decide) ?_
  refine lv_istore (lv' := [(6, .int (0 : Int32)), (5, .int x3), (0, .ref (adG g f0)), (1, .ref (adG g v1)), (2, .int x2), (3, .int x3), (4, .int x4)]) hx hb dX2_placeBehind_4 hl (by decide) rfl (fun ls hl => ?_)
  exact wfX2_placeBehind_L6 C f0 hv0 v1 hv1 fu x2 x4 x3 (0 : Int32) H locs ls h hP hS (lv_sub hl [2, 3, 4, 6, 1, 0] rfl)

set_option maxRecDepth 100000 in
set_option maxHeartbeats 4000000 in
theorem ctX8_become {l : Launch} {g : Gw} {σ : Sto} (v0 : Nat) (hv0 : isV v0) (v1 : Nat) (hv1 : isV v1) {Rz : Sto} (h : fX8_become σ v0 v1 = Rz) : MtG l yX8_become cX8_become 2 none 2 wkX g [.ref (adG g v0), .ref (adG g v1)] σ (QvS wkX g Rz) := by
  refine mt_of (by decide) (Nat.le_of_ble_eq_true rfl) (fun p e s m below meth c ls H locs C hP hS hl => ?_)
  have C : Cx wkX g p s m _ meth c cX8_become 2 RX8 none := C
  have hl : lv_has ls 2 [(0, .ref (adG g v0)), (1, .ref (adG g v1))] := hl
  obtain ⟨hx, hb, hml, hown, hts, hr, hlk, hK, hZ⟩ := id C
  unfold fX8_become at h
  refine lv_aload_n hx hb dX8_become_0 rfl (lv_at hl 0 rfl) ?_
  refine lv_aload_n hx hb dX8_become_1 rfl (lv_at hl 1 rfl) ?_
  refine r_geti C cf_8 hP (sv_0 hv1) (kv_0 hv1) 0 (by decide) rfl tw_68 dX8_become_2 ?_
  refine r_puti C cf_8 hP hS (sv_0 hv0) (kv_0 hv0) 0 (by decide) rfl rfl rfl tw_68 dX8_become_5 (fun H locs σ_1 eσ_1 hP hS => ?_)
  replace h := un_at eσ_1 h
  refine lv_aload_n hx hb dX8_become_8 rfl (lv_at hl 0 rfl) ?_
  refine lv_aload_n hx hb dX8_become_9 rfl (lv_at hl 1 rfl) ?_
  refine r_geti C cf_8 hP (sv_0 hv1) (kv_0 hv1) 1 (by decide) rfl tw_69 dX8_become_10 ?_
  refine r_puti C cf_8 hP hS (sv_0 hv0) (kv_0 hv0) 1 (by decide) rfl rfl rfl tw_69 dX8_become_13 (fun H locs σ_2 eσ_2 hP hS => ?_)
  replace h := un_at eσ_2 h
  refine lv_aload_n hx hb dX8_become_16 rfl (lv_at hl 0 rfl) ?_
  refine lv_aload_n hx hb dX8_become_17 rfl (lv_at hl 1 rfl) ?_
  refine r_geti C cf_8 hP (sv_0 hv1) (kv_0 hv1) 2 (by decide) rfl tw_70 dX8_become_18 ?_
  refine r_puti C cf_8 hP hS (sv_0 hv0) (kv_0 hv0) 2 (by decide) rfl rfl rfl tw_70 dX8_become_21 (fun H locs σ_3 eσ_3 hP hS => ?_)
  replace h := un_at eσ_3 h
  refine lv_aload_n hx hb dX8_become_24 rfl (lv_at hl 0 rfl) ?_
  refine lv_aload_n hx hb dX8_become_25 rfl (lv_at hl 1 rfl) ?_
  refine r_geti C cf_8 hP (sv_0 hv1) (kv_0 hv1) 3 (by decide) rfl tw_71 dX8_become_26 ?_
  refine r_puti C cf_8 hP hS (sv_0 hv0) (kv_0 hv0) 3 (by decide) rfl rfl rfl tw_71 dX8_become_29 (fun H locs σ_4 eσ_4 hP hS => ?_)
  replace h := un_at eσ_4 h
  refine lv_aload_n hx hb dX8_become_32 rfl (lv_at hl 0 rfl) ?_
  refine lv_aload_n hx hb dX8_become_33 rfl (lv_at hl 1 rfl) ?_
  refine r_geti C cf_8 hP (sv_0 hv1) (kv_0 hv1) 4 (by decide) rfl tw_72 dX8_become_34 ?_
  refine r_puti C cf_8 hP hS (sv_0 hv0) (kv_0 hv0) 4 (by decide) rfl rfl rfl tw_72 dX8_become_37 (fun H locs σ_5 eσ_5 hP hS => ?_)
  replace h := un_at eσ_5 h
  refine lv_aload_n hx hb dX8_become_40 rfl (lv_at hl 1 rfl) ?_
  refine r_getr C cf_8 hP (sv_0 hv1) (kv_0 hv1) 5 (by decide) rfl tw_73 dX8_become_41 ?_
  refine lv_iconst (v := 0) hx hb dX8_become_44 (by decide) ?_
  refine lv_aload_n hx hb dX8_become_45 rfl (lv_at hl 0 rfl) ?_
  refine r_getr C cf_8 hP (sv_0 hv0) (kv_0 hv0) 5 (by decide) rfl tw_73 dX8_become_46 ?_
  refine lv_iconst (v := 0) hx hb dX8_become_49 (by decide) ?_
  refine lv_bipush (v := 10) hx hb dX8_become_50 (by decide) ?_
  refine r_copy (sq := 0) (dq := 0) (nq := 10) C hl.1 tw_357 tw_246 tw_247 tw_248 hP hS (sv_1 hv1) (kv_1 hv1) (sv_1 hv0) (kv_1 hv0) (by decide) (by decide) (by decide) (by decide) ⟨Nat.le_of_ble_eq_true rfl, Nat.le_of_ble_eq_true rfl⟩ dX8_become_52 (fun H locs σ_6 eσ_6 hP hS => ?_)
  replace h := un_at eσ_6 h
  refine lv_aload_n hx hb dX8_become_55 rfl (lv_at hl 1 rfl) ?_
  refine r_getr C cf_8 hP (sv_0 hv1) (kv_0 hv1) 6 (by decide) rfl tw_74 dX8_become_56 ?_
  refine lv_iconst (v := 0) hx hb dX8_become_59 (by decide) ?_
  refine lv_aload_n hx hb dX8_become_60 rfl (lv_at hl 0 rfl) ?_
  refine r_getr C cf_8 hP (sv_0 hv0) (kv_0 hv0) 6 (by decide) rfl tw_74 dX8_become_61 ?_
  refine lv_iconst (v := 0) hx hb dX8_become_64 (by decide) ?_
  refine lv_bipush (v := 10) hx hb dX8_become_65 (by decide) ?_
  refine r_copy (sq := 0) (dq := 0) (nq := 10) C hl.1 tw_357 tw_246 tw_247 tw_248 hP hS (sv_2 hv1) (kv_2 hv1) (sv_2 hv0) (kv_2 hv0) (by decide) (by decide) (by decide) (by decide) ⟨Nat.le_of_ble_eq_true rfl, Nat.le_of_ble_eq_true rfl⟩ dX8_become_67 (fun H locs σ_7 eσ_7 hP hS => ?_)
  replace h := un_at eσ_7 h
  refine lv_aload_n hx hb dX8_become_70 rfl (lv_at hl 1 rfl) ?_
  refine r_getr C cf_8 hP (sv_0 hv1) (kv_0 hv1) 7 (by decide) rfl tw_75 dX8_become_71 ?_
  refine lv_iconst (v := 0) hx hb dX8_become_74 (by decide) ?_
  refine lv_aload_n hx hb dX8_become_75 rfl (lv_at hl 0 rfl) ?_
  refine r_getr C cf_8 hP (sv_0 hv0) (kv_0 hv0) 7 (by decide) rfl tw_75 dX8_become_76 ?_
  refine lv_iconst (v := 0) hx hb dX8_become_79 (by decide) ?_
  refine lv_bipush (v := 10) hx hb dX8_become_80 (by decide) ?_
  refine r_copy (sq := 0) (dq := 0) (nq := 10) C hl.1 tw_357 tw_246 tw_247 tw_248 hP hS (sv_3 hv1) (kv_3 hv1) (sv_3 hv0) (kv_3 hv0) (by decide) (by decide) (by decide) (by decide) ⟨Nat.le_of_ble_eq_true rfl, Nat.le_of_ble_eq_true rfl⟩ dX8_become_82 (fun H locs σ_8 eσ_8 hP hS => ?_)
  replace h := un_at eσ_8 h
  refine lv_aload_n hx hb dX8_become_85 rfl (lv_at hl 1 rfl) ?_
  refine r_getr C cf_8 hP (sv_0 hv1) (kv_0 hv1) 8 (by decide) rfl tw_76 dX8_become_86 ?_
  refine lv_iconst (v := 0) hx hb dX8_become_89 (by decide) ?_
  refine lv_aload_n hx hb dX8_become_90 rfl (lv_at hl 0 rfl) ?_
  refine r_getr C cf_8 hP (sv_0 hv0) (kv_0 hv0) 8 (by decide) rfl tw_76 dX8_become_91 ?_
  refine lv_iconst (v := 0) hx hb dX8_become_94 (by decide) ?_
  refine lv_bipush (v := 6) hx hb dX8_become_95 (by decide) ?_
  refine r_copy (sq := 0) (dq := 0) (nq := 6) C hl.1 tw_357 tw_246 tw_247 tw_248 hP hS (sv_4 hv1) (kv_4 hv1) (sv_4 hv0) (kv_4 hv0) (by decide) (by decide) (by decide) (by decide) ⟨Nat.le_of_ble_eq_true rfl, Nat.le_of_ble_eq_true rfl⟩ dX8_become_97 (fun H locs σ_9 eσ_9 hP hS => ?_)
  replace h := un_at eσ_9 h
  refine lv_aload_n hx hb dX8_become_100 rfl (lv_at hl 1 rfl) ?_
  refine r_getr C cf_8 hP (sv_0 hv1) (kv_0 hv1) 9 (by decide) rfl tw_77 dX8_become_101 ?_
  refine lv_iconst (v := 0) hx hb dX8_become_104 (by decide) ?_
  refine lv_aload_n hx hb dX8_become_105 rfl (lv_at hl 0 rfl) ?_
  refine r_getr C cf_8 hP (sv_0 hv0) (kv_0 hv0) 9 (by decide) rfl tw_77 dX8_become_106 ?_
  refine lv_iconst (v := 0) hx hb dX8_become_109 (by decide) ?_
  refine lv_bipush (v := 6) hx hb dX8_become_110 (by decide) ?_
  refine r_copy (sq := 0) (dq := 0) (nq := 6) C hl.1 tw_357 tw_246 tw_247 tw_248 hP hS (sv_5 hv1) (kv_5 hv1) (sv_5 hv0) (kv_5 hv0) (by decide) (by decide) (by decide) (by decide) ⟨Nat.le_of_ble_eq_true rfl, Nat.le_of_ble_eq_true rfl⟩ dX8_become_112 (fun H locs σ_10 eσ_10 hP hS => ?_)
  replace h := un_at eσ_10 h
  refine lv_aload_n hx hb dX8_become_115 rfl (lv_at hl 1 rfl) ?_
  refine r_getr C cf_8 hP (sv_0 hv1) (kv_0 hv1) 10 (by decide) rfl tw_78 dX8_become_116 ?_
  refine lv_iconst (v := 0) hx hb dX8_become_119 (by decide) ?_
  refine lv_aload_n hx hb dX8_become_120 rfl (lv_at hl 0 rfl) ?_
  refine r_getr C cf_8 hP (sv_0 hv0) (kv_0 hv0) 10 (by decide) rfl tw_78 dX8_become_121 ?_
  refine lv_iconst (v := 0) hx hb dX8_become_124 (by decide) ?_
  refine lv_bipush (v := 6) hx hb dX8_become_125 (by decide) ?_
  refine r_copy (sq := 0) (dq := 0) (nq := 6) C hl.1 tw_357 tw_246 tw_247 tw_248 hP hS (sv_6 hv1) (kv_6 hv1) (sv_6 hv0) (kv_6 hv0) (by decide) (by decide) (by decide) (by decide) ⟨Nat.le_of_ble_eq_true rfl, Nat.le_of_ble_eq_true rfl⟩ dX8_become_127 (fun H locs σ_11 eσ_11 hP hS => ?_)
  replace h := un_at eσ_11 h
  refine lv_aload_n hx hb dX8_become_130 rfl (lv_at hl 1 rfl) ?_
  refine r_getr C cf_8 hP (sv_0 hv1) (kv_0 hv1) 11 (by decide) rfl tw_79 dX8_become_131 ?_
  refine lv_iconst (v := 0) hx hb dX8_become_134 (by decide) ?_
  refine lv_aload_n hx hb dX8_become_135 rfl (lv_at hl 0 rfl) ?_
  refine r_getr C cf_8 hP (sv_0 hv0) (kv_0 hv0) 11 (by decide) rfl tw_79 dX8_become_136 ?_
  refine lv_iconst (v := 0) hx hb dX8_become_139 (by decide) ?_
  refine lv_bipush (v := 6) hx hb dX8_become_140 (by decide) ?_
  refine r_copy (sq := 0) (dq := 0) (nq := 6) C hl.1 tw_357 tw_246 tw_247 tw_248 hP hS (sv_7 hv1) (kv_7 hv1) (sv_7 hv0) (kv_7 hv0) (by decide) (by decide) (by decide) (by decide) ⟨Nat.le_of_ble_eq_true rfl, Nat.le_of_ble_eq_true rfl⟩ dX8_become_142 (fun H locs σ_12 eσ_12 hP hS => ?_)
  replace h := un_at eσ_12 h
  exact r_retv C hP hS h dX8_become_145

set_option maxRecDepth 100000 in
set_option maxHeartbeats 4000000 in
theorem ctX3_keep {l : Launch} {g : Gw} {σ : Sto} (v1 : Nat) (hv1 : isV v1) {Rz : Sto} (h : fX3_keep σ v1 = some Rz) : MtG l yX3_keep cX3_keep 2 none 3 wkX g [.ref (adG g 7), .ref (adG g v1)] σ (QvS wkX g Rz) := by
  refine mt_of (by decide) (Nat.le_of_ble_eq_true rfl) (fun p e s m below meth c ls H locs C hP hS hl => ?_)
  have C : Cx wkX g p s m _ meth c cX3_keep 2 RX3 none := C
  have hl : lv_has ls 2 [(0, .ref (adG g 7)), (1, .ref (adG g v1))] := hl
  obtain ⟨hx, hb, hml, hown, hts, hr, hlk, hK, hZ⟩ := id C
  unfold fX3_keep at h
  refine lv_aload_n hx hb dX3_keep_0 rfl (lv_at hl 0 rfl) ?_
  refine r_getr C cf_3 hP sx_7 kx_7 2 (by decide) rfl tw_87 dX3_keep_1 ?_
  refine lv_aload_n hx hb dX3_keep_4 rfl (lv_at hl 0 rfl) ?_
  refine r_geti C cf_3 hP sx_7 kx_7 1 (by decide) rfl tw_85 dX3_keep_5 ?_
  refine lv_aload_n hx hb dX3_keep_8 rfl (lv_at hl 0 rfl) ?_
  refine r_geti C cf_3 hP sx_7 kx_7 0 (by decide) rfl tw_84 dX3_keep_9 ?_
  refine lv_iadd hx hb dX3_keep_12 ?_
  refine lv_bipush (v := 24) hx hb dX3_keep_13 (by decide) ?_
  refine lv_irem hx hb dX3_keep_15 (by decide) ?_
  obtain ⟨g_1, h⟩ := gd_inv h
  refine r_aald C hP sx_8 kx_8 (ty := .object "LavaLodger$Village") rfl rfl g_1 dX3_keep_16 ?_
  refine lv_aload_n hx hb dX3_keep_17 rfl (lv_at hl 1 rfl) ?_
  obtain ⟨q_2, eq_2⟩ : ∃ z, z = fX8_become σ (rgV (irm ((σ 7 1) + (σ 7 0)) (24 : Int32)).toNatClampNeg) v1 := ⟨_, rfl⟩
  replace h := un_at eq_2 h
  refine end_v (run_v (As := [.ref (adG g v1)]) (rest := []) C ca_X8_become (ctX8_become (rgV (irm ((σ 7 1) + (σ 7 0)) (24 : Int32)).toNatClampNeg) (iv_rg g_1) v1 hv1 eq_2.symm) cf_8 (sv_0 (iv_rg g_1)) (kv_0 (iv_rg g_1)) tw_431 ⟨Nat.le_of_ble_eq_true rfl, Nat.le_of_ble_eq_true rfl⟩ rfl hl.1 (Nat.le_of_ble_eq_true rfl) ⟨Nat.le_refl _, Nat.le_refl _⟩ hP hS dX3_keep_18) hS (fun H locs hP hS => ?_)
  refine lv_aload_n hx hb dX3_keep_21 rfl (lv_at hl 0 rfl) ?_
  refine r_geti C cf_3 hP sx_7 kx_7 0 (by decide) rfl tw_84 dX3_keep_22 ?_
  refine lv_bipush (v := 24) hx hb dX3_keep_25 (by decide) ?_
  refine lv_icmp_ge (tgt := 43) hx hb dX3_keep_27 (by decide) (fun c_ => ?_) (fun c_ => ?_)
  · replace h := if_t c_ h
    refine lv_aload_n hx hb dX3_keep_43 rfl (lv_at hl 0 rfl) ?_
    refine lv_aload_n hx hb dX3_keep_44 rfl (lv_at hl 0 rfl) ?_
    refine r_geti C cf_3 hP sx_7 kx_7 1 (by decide) rfl tw_85 dX3_keep_45 ?_
    refine lv_iconst (v := 1) hx hb dX3_keep_48 (by decide) ?_
    refine lv_iadd hx hb dX3_keep_49 ?_
    refine lv_bipush (v := 24) hx hb dX3_keep_50 (by decide) ?_
    refine lv_irem hx hb dX3_keep_52 (by decide) ?_
    refine r_puti C cf_3 hP hS sx_7 kx_7 1 (by decide) rfl rfl rfl tw_85 dX3_keep_53 (fun H locs σ_3 eσ_3 hP hS => ?_)
    replace h := un_at eσ_3 h
    exact r_retv C hP hS (rt_o h) dX3_keep_56
  · replace h := if_f c_ h
    refine lv_aload_n hx hb dX3_keep_30 rfl (lv_at hl 0 rfl) ?_
    refine lv_dup hx hb dX3_keep_31 rfl ?_
    refine r_geti C cf_3 hP sx_7 kx_7 0 (by decide) rfl tw_84 dX3_keep_32 ?_
    refine lv_iconst (v := 1) hx hb dX3_keep_35 (by decide) ?_
    refine lv_iadd hx hb dX3_keep_36 ?_
    refine r_puti C cf_3 hP hS sx_7 kx_7 0 (by decide) rfl rfl rfl tw_84 dX3_keep_37 (fun H locs σ_4 eσ_4 hP hS => ?_)
    replace h := un_at eσ_4 h
    refine lv_goto (tgt := 56) hx hb dX3_keep_40 (by decide) ?_
    exact r_retv C hP hS (rt_o h) dX3_keep_56

set_option maxRecDepth 100000 in
set_option maxHeartbeats 4000000 in
theorem ctX3_goBack {l : Launch} {g : Gw} {σ : Sto} (v1 : Nat) (hv1 : isV v1) {Rz : (Sto × Int32)} (h : fX3_goBack σ v1 = some Rz) : MtG l yX3_goBack cX3_goBack 2 (some .boolean) 3 wkX g [.ref (adG g 7), .ref (adG g v1)] σ (QiS wkX g Rz.1 Rz.2) := by
  refine mt_of (by decide) (Nat.le_of_ble_eq_true rfl) (fun p e s m below meth c ls H locs C hP hS hl => ?_)
  have C : Cx wkX g p s m _ meth c cX3_goBack 2 RX3 (some .boolean) := C
  have hl : lv_has ls 2 [(0, .ref (adG g 7)), (1, .ref (adG g v1))] := hl
  obtain ⟨hx, hb, hml, hown, hts, hr, hlk, hK, hZ⟩ := id C
  unfold fX3_goBack at h
  refine lv_aload_n hx hb dX3_goBack_0 rfl (lv_at hl 0 rfl) ?_
  refine r_geti C cf_3 hP sx_7 kx_7 0 (by decide) rfl tw_84 dX3_goBack_1 ?_
  refine lv_if_ne (tgt := 9) hx hb dX3_goBack_4 (by decide) (fun c_ => ?_) (fun c_ => ?_)
  · replace h := if_f c_ h
    refine lv_aload_n hx hb dX3_goBack_9 rfl (lv_at hl 0 rfl) ?_
    refine lv_dup hx hb dX3_goBack_10 rfl ?_
    refine r_geti C cf_3 hP sx_7 kx_7 0 (by decide) rfl tw_84 dX3_goBack_11 ?_
    refine lv_iconst (v := 1) hx hb dX3_goBack_14 (by decide) ?_
    refine lv_isub hx hb dX3_goBack_15 ?_
    refine r_puti C cf_3 hP hS sx_7 kx_7 0 (by decide) rfl rfl rfl tw_84 dX3_goBack_16 (fun H locs σ_1 eσ_1 hP hS => ?_)
    replace h := un_at eσ_1 h
    refine lv_aload_n hx hb dX3_goBack_19 rfl (lv_at hl 1 rfl) ?_
    refine lv_aload_n hx hb dX3_goBack_20 rfl (lv_at hl 0 rfl) ?_
    refine r_getr C cf_3 hP sx_7 kx_7 2 (by decide) rfl tw_87 dX3_goBack_21 ?_
    refine lv_aload_n hx hb dX3_goBack_24 rfl (lv_at hl 0 rfl) ?_
    refine r_geti C cf_3 hP sx_7 kx_7 1 (by decide) rfl tw_85 dX3_goBack_25 ?_
    refine lv_aload_n hx hb dX3_goBack_28 rfl (lv_at hl 0 rfl) ?_
    refine r_geti C cf_3 hP sx_7 kx_7 0 (by decide) rfl tw_84 dX3_goBack_29 ?_
    refine lv_iadd hx hb dX3_goBack_32 ?_
    refine lv_bipush (v := 24) hx hb dX3_goBack_33 (by decide) ?_
    refine lv_irem hx hb dX3_goBack_35 (by decide) ?_
    obtain ⟨g_2, h⟩ := gd_inv h
    refine r_aald C hP sx_8 kx_8 (ty := .object "LavaLodger$Village") rfl rfl g_2 dX3_goBack_36 ?_
    obtain ⟨q_3, eq_3⟩ : ∃ z, z = fX8_become σ_1 v1 (rgV (irm ((σ_1 7 1) + (σ_1 7 0)) (24 : Int32)).toNatClampNeg) := ⟨_, rfl⟩
    replace h := un_at eq_3 h
    refine end_v (run_v (As := [.ref (adG g (rgV (irm ((σ_1 7 1) + (σ_1 7 0)) (24 : Int32)).toNatClampNeg))]) (rest := []) C ca_X8_become (ctX8_become v1 hv1 (rgV (irm ((σ_1 7 1) + (σ_1 7 0)) (24 : Int32)).toNatClampNeg) (iv_rg g_2) eq_3.symm) cf_8 (sv_0 hv1) (kv_0 hv1) tw_431 ⟨Nat.le_of_ble_eq_true rfl, Nat.le_of_ble_eq_true rfl⟩ rfl hl.1 (Nat.le_of_ble_eq_true rfl) ⟨Nat.le_refl _, Nat.le_refl _⟩ hP hS dX3_goBack_37) hS (fun H locs hP hS => ?_)
    refine lv_iconst (v := 1) hx hb dX3_goBack_40 (by decide) ?_
    exact r_retz C hP hS (rt_ow1 h) (rt_ow2 h) rfl dX3_goBack_41
  · replace h := if_t c_ h
    refine lv_iconst (v := 0) hx hb dX3_goBack_7 (by decide) ?_
    exact r_retz C hP hS (rt_ow1 h) (rt_ow2 h) rfl dX3_goBack_8

set_option maxRecDepth 100000 in
set_option maxHeartbeats 4000000 in
theorem ctX3_forget {l : Launch} {g : Gw} {σ : Sto} {Rz : Sto} (h : fX3_forget σ = Rz) : MtG l yX3_forget cX3_forget 1 none 0 wkX g [.ref (adG g 7)] σ (QvS wkX g Rz) := by
  refine mt_of (by decide) (Nat.le_of_ble_eq_true rfl) (fun p e s m below meth c ls H locs C hP hS hl => ?_)
  have C : Cx wkX g p s m _ meth c cX3_forget 1 RX3 none := C
  have hl : lv_has ls 1 [(0, .ref (adG g 7))] := hl
  obtain ⟨hx, hb, hml, hown, hts, hr, hlk, hK, hZ⟩ := id C
  unfold fX3_forget at h
  refine lv_aload_n hx hb dX3_forget_0 rfl (lv_at hl 0 rfl) ?_
  refine lv_iconst (v := 0) hx hb dX3_forget_1 (by decide) ?_
  refine r_puti C cf_3 hP hS sx_7 kx_7 0 (by decide) rfl rfl rfl tw_84 dX3_forget_2 (fun H locs σ_1 eσ_1 hP hS => ?_)
  replace h := un_at eσ_1 h
  refine lv_aload_n hx hb dX3_forget_5 rfl (lv_at hl 0 rfl) ?_
  refine lv_iconst (v := 0) hx hb dX3_forget_6 (by decide) ?_
  refine r_puti C cf_3 hP hS sx_7 kx_7 1 (by decide) rfl rfl rfl tw_85 dX3_forget_7 (fun H locs σ_2 eσ_2 hP hS => ?_)
  replace h := un_at eσ_2 h
  exact r_retv C hP hS h dX3_forget_10

set_option maxRecDepth 100000 in
set_option maxHeartbeats 4000000 in
theorem ctX4_isNumber {l : Launch} {g : Gw} {σ : Sto} (x1 : Int32) {Rz : Int32} (h : fX4_isNumber x1 = Rz) : MtG l yX4_isNumber cX4_isNumber 2 (some .boolean) 0 wkX g [.ref (adG g 1), .int x1] σ (QiS wkX g σ Rz) := by
  refine mt_of (by decide) (Nat.le_of_ble_eq_true rfl) (fun p e s m below meth c ls H locs C hP hS hl => ?_)
  have C : Cx wkX g p s m _ meth c cX4_isNumber 2 RX4 (some .boolean) := C
  have hl : lv_has ls 2 [(0, .ref (adG g 1)), (1, .int x1)] := hl
  obtain ⟨hx, hb, hml, hown, hts, hr, hlk, hK, hZ⟩ := id C
  unfold fX4_isNumber at h
  refine lv_iload_n hx hb dX4_isNumber_0 rfl (lv_at hl 1 rfl) ?_
  refine lv_if_lt (tgt := 14) hx hb dX4_isNumber_1 (by decide) (fun c_ => ?_) (fun c_ => ?_)
  · replace h := if_t c_ h
    refine lv_iconst (v := 0) hx hb dX4_isNumber_14 (by decide) ?_
    exact r_retz C hP hS rfl h rfl dX4_isNumber_15
  · replace h := if_f c_ h
    refine lv_iload_n hx hb dX4_isNumber_4 rfl (lv_at hl 1 rfl) ?_
    refine lv_bipush (v := 8) hx hb dX4_isNumber_5 (by decide) ?_
    refine lv_icmp_ge (tgt := 14) hx hb dX4_isNumber_7 (by decide) (fun c_ => ?_) (fun c_ => ?_)
    · replace h := if_t c_ h
      refine lv_iconst (v := 0) hx hb dX4_isNumber_14 (by decide) ?_
      exact r_retz C hP hS rfl h rfl dX4_isNumber_15
    · replace h := if_f c_ h
      refine lv_iconst (v := 1) hx hb dX4_isNumber_10 (by decide) ?_
      refine lv_goto (tgt := 15) hx hb dX4_isNumber_11 (by decide) ?_
      exact r_retz C hP hS rfl h rfl dX4_isNumber_15

set_option maxRecDepth 100000 in
set_option maxHeartbeats 4000000 in
theorem ctX4_isMissing {l : Launch} {g : Gw} {σ : Sto} (x1 : Int32) {Rz : Int32} (h : fX4_isMissing σ x1 = some Rz) : MtG l yX4_isMissing cX4_isMissing 2 (some .boolean) 0 wkX g [.ref (adG g 1), .int x1] σ (QiS wkX g σ Rz) := by
  refine mt_of (by decide) (Nat.le_of_ble_eq_true rfl) (fun p e s m below meth c ls H locs C hP hS hl => ?_)
  have C : Cx wkX g p s m _ meth c cX4_isMissing 2 RX4 (some .boolean) := C
  have hl : lv_has ls 2 [(0, .ref (adG g 1)), (1, .int x1)] := hl
  obtain ⟨hx, hb, hml, hown, hts, hr, hlk, hK, hZ⟩ := id C
  unfold fX4_isMissing at h
  refine lv_aload_n hx hb dX4_isMissing_0 rfl (lv_at hl 0 rfl) ?_
  refine r_getr C cf_4 hP sx_1 kx_1 1 (by decide) rfl tw_53 dX4_isMissing_1 ?_
  refine lv_iload_n hx hb dX4_isMissing_4 rfl (lv_at hl 1 rfl) ?_
  obtain ⟨g_1, h⟩ := gd_inv h
  refine r_iald C hP sx_3 kx_3 rfl g_1 dX4_isMissing_5 ?_
  refine lv_iconst (v := (-1)) hx hb dX4_isMissing_6 (by decide) ?_
  refine lv_icmp_ne (tgt := 14) hx hb dX4_isMissing_7 (by decide) (fun c_ => ?_) (fun c_ => ?_)
  · replace h := if_f c_ h
    refine lv_iconst (v := 0) hx hb dX4_isMissing_14 (by decide) ?_
    exact r_retz C hP hS rfl (rt_o h) rfl dX4_isMissing_15
  · replace h := if_t c_ h
    refine lv_iconst (v := 1) hx hb dX4_isMissing_10 (by decide) ?_
    refine lv_goto (tgt := 15) hx hb dX4_isMissing_11 (by decide) ?_
    exact r_retz C hP hS rfl (rt_o h) rfl dX4_isMissing_15

set_option maxRecDepth 100000 in
set_option maxHeartbeats 4000000 in
theorem wfX4_present_L4 {l : Launch} {g : Gw} {p : Program} {e : Env} {s : State} {m : MethodId} {args : Array Value} {below : List Frame} {meth : Method} {c : Code} {σ : Sto} (C : Cx wkX g p s m args meth c cX4_present 3 RX4 (some .int)) {Rz : Int32} : ∀ (n : Nat) (x1 : Int32) (x2 : Int32) (H : Heap) (locs : List Loc) (ls : Array Slot), fX4_present_L4 σ n x1 x2 = some Rz → wS wkX g σ H → va_S (AS wkX g) s.heap H locs → lv_has ls 3 [(0, .ref (adG g 1)), (1, .int x1), (2, .int x2)] → W p l e (rmS 1) s m args below meth c H locs 0 0 (MQ below (QiS wkX g σ Rz) args s 0 0 (AS wkX g)) (F0 m 4 ls []) := by
  intro n
  induction n with
  | zero =>
    intro x1 x2 H locs ls h
    cases h
  | succ n ih =>
    intro x1 x2 H locs ls h hP hS hl
    obtain ⟨hx, hb, hml, hown, hts, hr, hlk, hK, hZ⟩ := id C
    rw [fX4_present_L4] at h
    refine lv_iload_n hx hb dX4_present_4 rfl (lv_at hl 2 rfl) ?_
    refine lv_bipush (v := 8) hx hb dX4_present_5 (by decide) ?_
    refine lv_icmp_ge (tgt := 27) hx hb dX4_present_7 (by decide) (fun c_ => ?_) (fun c_ => ?_)
    · replace h := if_t c_ h
      refine lv_iload_n hx hb dX4_present_27 rfl (lv_at hl 1 rfl) ?_
      exact r_reti C hP hS rfl (rt_o h) dX4_present_28
    · replace h := if_f c_ h
      refine lv_aload_n hx hb dX4_present_10 rfl (lv_at hl 0 rfl) ?_
      refine lv_iload_n hx hb dX4_present_11 rfl (lv_at hl 2 rfl) ?_
      obtain ⟨q_1, hq_1, h⟩ := bd_inv h
      refine end_i (run_v (As := [.int x2]) (rest := []) C ca_X4_isMissing (ctX4_isMissing x2 hq_1) cf_4 sx_1 kx_1 tw_214 ⟨Nat.le_of_ble_eq_true rfl, Nat.le_of_ble_eq_true rfl⟩ rfl hl.1 (Nat.le_of_ble_eq_true rfl) ⟨Nat.le_refl _, Nat.le_refl _⟩ hP hS dX4_present_12) hS (fun H locs hP hS => ?_)
      refine lv_if_ne (tgt := 21) hx hb dX4_present_15 (by decide) (fun c_ => ?_) (fun c_ => ?_)
      · replace h := if_f c_ h
        obtain ⟨x_2, ex_2⟩ : ∃ y : Int32, y = x2 + (1 : Int32) := ⟨_, rfl⟩
        replace h := un_at ex_2 h
        refine lv_iinc (v := x_2) (lv' := [(2, .int x_2), (0, .ref (adG g 1)), (1, .int x1)]) hx hb dX4_present_21 hl (k := 2) rfl (by rw [ex_2]; rfl) (by decide) rfl (fun ls hl => ?_)
        refine lv_goto (tgt := 4) hx hb dX4_present_24 (by decide) ?_
        exact ih x1 x_2 H locs ls h hP hS (lv_sub hl [1, 2, 0] rfl)
      · replace h := if_t c_ h
        obtain ⟨x_3, ex_3⟩ : ∃ y : Int32, y = x1 + (1 : Int32) := ⟨_, rfl⟩
        replace h := un_at ex_3 h
        refine lv_iinc (v := x_3) (lv' := [(1, .int x_3), (0, .ref (adG g 1)), (2, .int x2)]) hx hb dX4_present_18 hl (k := 1) rfl (by rw [ex_3]; rfl) (by decide) rfl (fun ls hl => ?_)
        obtain ⟨x_4, ex_4⟩ : ∃ y : Int32, y = x2 + (1 : Int32) := ⟨_, rfl⟩
        replace h := un_at ex_4 h
        refine lv_iinc (v := x_4) (lv' := [(2, .int x_4), (1, .int x_3), (0, .ref (adG g 1))]) hx hb dX4_present_21 hl (k := 2) rfl (by rw [ex_4]; rfl) (by decide) rfl (fun ls hl => ?_)
        refine lv_goto (tgt := 4) hx hb dX4_present_24 (by decide) ?_
        exact ih x_3 x_4 H locs ls h hP hS (lv_sub hl [2, 1, 0] rfl)

set_option maxRecDepth 100000 in
set_option maxHeartbeats 4000000 in
theorem ctX4_present {l : Launch} {g : Gw} {σ : Sto} {Rz : Int32} (h : fX4_present σ = some Rz) : MtG l yX4_present cX4_present 3 (some .int) 1 wkX g [.ref (adG g 1)] σ (QiS wkX g σ Rz) := by
  refine mt_of (by decide) (Nat.le_of_ble_eq_true rfl) (fun p e s m below meth c ls H locs C hP hS hl => ?_)
  have C : Cx wkX g p s m _ meth c cX4_present 3 RX4 (some .int) := C
  have hl : lv_has ls 3 [(0, .ref (adG g 1))] := hl
  obtain ⟨hx, hb, hml, hown, hts, hr, hlk, hK, hZ⟩ := id C
  unfold fX4_present at h
  refine lv_iconst (v := 0) hx hb dX4_present_0 (by decide) ?_
  refine lv_istore_n (lv' := [(1, .int (0 : Int32)), (0, .ref (adG g 1))]) hx hb dX4_present_1 rfl hl (by decide) rfl (fun ls hl => ?_)
  refine lv_iconst (v := 0) hx hb dX4_present_2 (by decide) ?_
  refine lv_istore_n (lv' := [(2, .int (0 : Int32)), (1, .int (0 : Int32)), (0, .ref (adG g 1))]) hx hb dX4_present_3 rfl hl (by decide) rfl (fun ls hl => ?_)
  exact wfX4_present_L4 C fu (0 : Int32) (0 : Int32) H locs ls h hP hS (lv_sub hl [2, 1, 0] rfl)

set_option maxRecDepth 100000 in
set_option maxHeartbeats 4000000 in
theorem wfX4_make_L17 {l : Launch} {g : Gw} {p : Program} {e : Env} {s : State} {m : MethodId} {args : Array Value} {below : List Frame} {meth : Method} {c : Code} (C : Cx wkX g p s m args meth c cX4_make 5 RX4 none) {Rz : Sto} : ∀ (n : Nat) (σ : Sto) (x1 : Int32) (x4 : Int32) (H : Heap) (locs : List Loc) (ls : Array Slot), fX4_make_L17 n σ x1 x4 = some Rz → wS wkX g σ H → va_S (AS wkX g) s.heap H locs → lv_has ls 5 [(0, .ref (adG g 1)), (1, .int x1), (4, .int x4)] → W p l e (rmS 0) s m args below meth c H locs 0 0 (MQ below (QvS wkX g Rz) args s 0 0 (AS wkX g)) (F0 m 17 ls []) := by
  intro n
  induction n with
  | zero =>
    intro σ x1 x4 H locs ls h
    cases h
  | succ n ih =>
    intro σ x1 x4 H locs ls h hP hS hl
    obtain ⟨hx, hb, hml, hown, hts, hr, hlk, hK, hZ⟩ := id C
    rw [fX4_make_L17] at h
    refine lv_iload hx hb dX4_make_17 (lv_at hl 2 rfl) ?_
    refine lv_bipush (v := 40) hx hb dX4_make_19 (by decide) ?_
    refine lv_icmp_ge (tgt := 40) hx hb dX4_make_21 (by decide) (fun c_ => ?_) (fun c_ => ?_)
    · replace h := if_t c_ h
      exact r_retv C hP hS (rt_o h) dX4_make_40
    · replace h := if_f c_ h
      refine lv_aload_n hx hb dX4_make_24 rfl (lv_at hl 0 rfl) ?_
      refine r_getr C cf_4 hP sx_1 kx_1 0 (by decide) rfl tw_52 dX4_make_25 ?_
      refine lv_iload_n hx hb dX4_make_28 rfl (lv_at hl 1 rfl) ?_
      obtain ⟨g_1, h⟩ := gd_inv h
      refine r_aald C hP sx_2 kx_2 (ty := .array .int) rfl rfl g_1 dX4_make_29 ?_
      refine lv_iload hx hb dX4_make_30 (lv_at hl 2 rfl) ?_
      refine lv_iconst (v := 0) hx hb dX4_make_32 (by decide) ?_
      obtain ⟨g_2, h⟩ := gd_inv h
      refine r_iast C hP hS (sx_it g_1) (kx_it g_1) rfl g_2 dX4_make_33 (fun H locs σ_3 eσ_3 hP hS => ?_)
      replace h := un_at eσ_3 h
      obtain ⟨x_4, ex_4⟩ : ∃ y : Int32, y = x4 + (1 : Int32) := ⟨_, rfl⟩
      replace h := un_at ex_4 h
      refine lv_iinc (v := x_4) (lv' := [(4, .int x_4), (0, .ref (adG g 1)), (1, .int x1)]) hx hb dX4_make_34 hl (k := 2) rfl (by rw [ex_4]; rfl) (by decide) rfl (fun ls hl => ?_)
      refine lv_goto (tgt := 17) hx hb dX4_make_37 (by decide) ?_
      exact ih σ_3 x1 x_4 H locs ls h hP hS (lv_sub hl [1, 2, 0] rfl)

set_option maxRecDepth 100000 in
set_option maxHeartbeats 4000000 in
theorem ctX4_make {l : Launch} {g : Gw} {σ : Sto} (x1 : Int32) (x2 : Int32) (x3 : Int32) {Rz : Sto} (h : fX4_make σ x1 x2 x3 = some Rz) : MtG l yX4_make cX4_make 5 none 0 wkX g [.ref (adG g 1), .int x1, .int x2, .int x3] σ (QvS wkX g Rz) := by
  refine mt_of (by decide) (Nat.le_of_ble_eq_true rfl) (fun p e s m below meth c ls H locs C hP hS hl => ?_)
  have C : Cx wkX g p s m _ meth c cX4_make 5 RX4 none := C
  have hl : lv_has ls 5 [(0, .ref (adG g 1)), (1, .int x1), (2, .int x2), (3, .int x3)] := hl
  obtain ⟨hx, hb, hml, hown, hts, hr, hlk, hK, hZ⟩ := id C
  unfold fX4_make at h
  refine lv_aload_n hx hb dX4_make_0 rfl (lv_at hl 0 rfl) ?_
  refine r_getr C cf_4 hP sx_1 kx_1 1 (by decide) rfl tw_53 dX4_make_1 ?_
  refine lv_iload_n hx hb dX4_make_4 rfl (lv_at hl 1 rfl) ?_
  refine lv_iload_n hx hb dX4_make_5 rfl (lv_at hl 2 rfl) ?_
  obtain ⟨g_1, h⟩ := gd_inv h
  refine r_iast C hP hS sx_3 kx_3 rfl g_1 dX4_make_6 (fun H locs σ_2 eσ_2 hP hS => ?_)
  replace h := un_at eσ_2 h
  refine lv_aload_n hx hb dX4_make_7 rfl (lv_at hl 0 rfl) ?_
  refine r_getr C cf_4 hP sx_1 kx_1 2 (by decide) rfl tw_54 dX4_make_8 ?_
  refine lv_iload_n hx hb dX4_make_11 rfl (lv_at hl 1 rfl) ?_
  refine lv_iload_n hx hb dX4_make_12 rfl (lv_at hl 3 rfl) ?_
  refine r_iast C hP hS sx_4 kx_4 rfl g_1 dX4_make_13 (fun H locs σ_3 eσ_3 hP hS => ?_)
  replace h := un_at eσ_3 h
  refine lv_iconst (v := 0) hx hb dX4_make_14 (by decide) ?_
  refine lv_istore (lv' := [(4, .int (0 : Int32)), (0, .ref (adG g 1)), (1, .int x1), (2, .int x2), (3, .int x3)]) hx hb dX4_make_15 hl (by decide) rfl (fun ls hl => ?_)
  exact wfX4_make_L17 C fu σ_3 x1 (0 : Int32) H locs ls h hP hS (lv_sub hl [1, 2, 0] rfl)

set_option maxRecDepth 100000 in
set_option maxHeartbeats 4000000 in
theorem ctX4_lose {l : Launch} {g : Gw} {σ : Sto} (x1 : Int32) {Rz : (Sto × Int32)} (h : fX4_lose σ x1 = some Rz) : MtG l yX4_lose cX4_lose 2 (some .int) 0 wkX g [.ref (adG g 1), .int x1] σ (QiS wkX g Rz.1 Rz.2) := by
  refine mt_of (by decide) (Nat.le_of_ble_eq_true rfl) (fun p e s m below meth c ls H locs C hP hS hl => ?_)
  have C : Cx wkX g p s m _ meth c cX4_lose 2 RX4 (some .int) := C
  have hl : lv_has ls 2 [(0, .ref (adG g 1)), (1, .int x1)] := hl
  obtain ⟨hx, hb, hml, hown, hts, hr, hlk, hK, hZ⟩ := id C
  unfold fX4_lose at h
  refine lv_aload_n hx hb dX4_lose_0 rfl (lv_at hl 0 rfl) ?_
  refine r_getr C cf_4 hP sx_1 kx_1 1 (by decide) rfl tw_53 dX4_lose_1 ?_
  refine lv_iload_n hx hb dX4_lose_4 rfl (lv_at hl 1 rfl) ?_
  refine lv_iconst (v := (-1)) hx hb dX4_lose_5 (by decide) ?_
  obtain ⟨g_1, h⟩ := gd_inv h
  refine r_iast C hP hS sx_3 kx_3 rfl g_1 dX4_lose_6 (fun H locs σ_2 eσ_2 hP hS => ?_)
  replace h := un_at eσ_2 h
  refine lv_aload_n hx hb dX4_lose_7 rfl (lv_at hl 0 rfl) ?_
  refine r_getr C cf_4 hP sx_1 kx_1 2 (by decide) rfl tw_54 dX4_lose_8 ?_
  refine lv_iload_n hx hb dX4_lose_11 rfl (lv_at hl 1 rfl) ?_
  refine r_iald C hP sx_4 kx_4 rfl g_1 dX4_lose_12 ?_
  exact r_reti C hP hS (rt_ow1 h) (rt_ow2 h) dX4_lose_13

set_option maxRecDepth 100000 in
set_option maxHeartbeats 4000000 in
theorem ctX4_cut {l : Launch} {g : Gw} {σ : Sto} (x0 : Int32) (x1 : Int32) {Rz : Int32} (h : fX4_cut x0 x1 = Rz) : MtG l yX4_cut cX4_cut 2 (some .int) 0 wkX g [.int x0, .int x1] σ (QiS wkX g σ Rz) := by
  refine mt_of (by decide) (Nat.le_of_ble_eq_true rfl) (fun p e s m below meth c ls H locs C hP hS hl => ?_)
  have C : Cx wkX g p s m _ meth c cX4_cut 2 RX4 (some .int) := C
  have hl : lv_has ls 2 [(0, .int x0), (1, .int x1)] := hl
  obtain ⟨hx, hb, hml, hown, hts, hr, hlk, hK, hZ⟩ := id C
  unfold fX4_cut at h
  refine lv_iload_n hx hb dX4_cut_0 rfl (lv_at hl 0 rfl) ?_
  refine lv_if_ne (tgt := 7) hx hb dX4_cut_1 (by decide) (fun c_ => ?_) (fun c_ => ?_)
  · replace h := if_f c_ h
    refine lv_iload_n hx hb dX4_cut_7 rfl (lv_at hl 0 rfl) ?_
    refine lv_iconst (v := 1) hx hb dX4_cut_8 (by decide) ?_
    refine lv_icmp_ne (tgt := 17) hx hb dX4_cut_9 (by decide) (fun c_ => ?_) (fun c_ => ?_)
    · replace h := if_f c_ h
      refine lv_iload_n hx hb dX4_cut_17 rfl (lv_at hl 1 rfl) ?_
      exact r_reti C hP hS rfl h dX4_cut_18
    · replace h := if_t c_ h
      refine lv_iload_n hx hb dX4_cut_12 rfl (lv_at hl 1 rfl) ?_
      refine lv_i2s hx hb dX4_cut_13 rfl ?_
      refine lv_goto (tgt := 18) hx hb dX4_cut_14 (by decide) ?_
      exact r_reti C hP hS rfl h dX4_cut_18
  · replace h := if_t c_ h
    refine lv_iload_n hx hb dX4_cut_4 rfl (lv_at hl 1 rfl) ?_
    refine lv_i2b hx hb dX4_cut_5 rfl ?_
    exact r_reti C hP hS rfl h dX4_cut_6

set_option maxRecDepth 100000 in
set_option maxHeartbeats 4000000 in
theorem ctX4_put {l : Launch} {g : Gw} {σ : Sto} (x1 : Int32) (x2 : Int32) (x3 : Int32) {Rz : (Sto × Int32)} (h : fX4_put σ x1 x2 x3 = some Rz) : MtG l yX4_put cX4_put 4 (some .int) 1 wkX g [.ref (adG g 1), .int x1, .int x2, .int x3] σ (QiS wkX g Rz.1 Rz.2) := by
  refine mt_of (by decide) (Nat.le_of_ble_eq_true rfl) (fun p e s m below meth c ls H locs C hP hS hl => ?_)
  have C : Cx wkX g p s m _ meth c cX4_put 4 RX4 (some .int) := C
  have hl : lv_has ls 4 [(0, .ref (adG g 1)), (1, .int x1), (2, .int x2), (3, .int x3)] := hl
  obtain ⟨hx, hb, hml, hown, hts, hr, hlk, hK, hZ⟩ := id C
  unfold fX4_put at h
  refine lv_aload_n hx hb dX4_put_0 rfl (lv_at hl 0 rfl) ?_
  refine r_getr C cf_4 hP sx_1 kx_1 0 (by decide) rfl tw_52 dX4_put_1 ?_
  refine lv_iload_n hx hb dX4_put_4 rfl (lv_at hl 1 rfl) ?_
  obtain ⟨g_1, h⟩ := gd_inv h
  refine r_aald C hP sx_2 kx_2 (ty := .array .int) rfl rfl g_1 dX4_put_5 ?_
  refine lv_iload_n hx hb dX4_put_6 rfl (lv_at hl 2 rfl) ?_
  refine lv_aload_n hx hb dX4_put_7 rfl (lv_at hl 0 rfl) ?_
  refine r_getr C cf_4 hP sx_1 kx_1 1 (by decide) rfl tw_53 dX4_put_8 ?_
  refine lv_iload_n hx hb dX4_put_11 rfl (lv_at hl 1 rfl) ?_
  refine r_iald C hP sx_3 kx_3 rfl g_1 dX4_put_12 ?_
  refine lv_iload_n hx hb dX4_put_13 rfl (lv_at hl 3 rfl) ?_
  refine end_i (run_s (As := [.int (σ 3 x1.toNatClampNeg), .int x3]) (rest := [.int x2, .ref (adG g (itV x1.toNatClampNeg))]) C ca_X4_cut (ctX4_cut (σ 3 x1.toNatClampNeg) x3 rfl) tw_226 ⟨Nat.le_of_ble_eq_true rfl, Nat.le_of_ble_eq_true rfl⟩ rfl hl.1 (Nat.le_of_ble_eq_true rfl) ⟨Nat.le_refl _, Nat.le_refl _⟩ hP hS dX4_put_14) hS (fun H locs hP hS => ?_)
  obtain ⟨g_3, h⟩ := gd_inv h
  refine r_iast C hP hS (sx_it g_1) (kx_it g_1) rfl g_3 dX4_put_17 (fun H locs σ_4 eσ_4 hP hS => ?_)
  replace h := un_at eσ_4 h
  refine lv_aload_n hx hb dX4_put_18 rfl (lv_at hl 0 rfl) ?_
  refine r_getr C cf_4 hP sx_1 kx_1 0 (by decide) rfl tw_52 dX4_put_19 ?_
  refine lv_iload_n hx hb dX4_put_22 rfl (lv_at hl 1 rfl) ?_
  refine r_aald C hP sx_2 kx_2 (ty := .array .int) rfl rfl g_1 dX4_put_23 ?_
  refine lv_iload_n hx hb dX4_put_24 rfl (lv_at hl 2 rfl) ?_
  refine r_iald C hP (sx_it g_1) (kx_it g_1) rfl g_3 dX4_put_25 ?_
  exact r_reti C hP hS (rt_ow1 h) (rt_ow2 h) dX4_put_26

set_option maxRecDepth 100000 in
set_option maxHeartbeats 4000000 in
theorem ctX4_item {l : Launch} {g : Gw} {σ : Sto} (x1 : Int32) (x2 : Int32) {Rz : Int32} (h : fX4_item σ x1 x2 = some Rz) : MtG l yX4_item cX4_item 3 (some .int) 0 wkX g [.ref (adG g 1), .int x1, .int x2] σ (QiS wkX g σ Rz) := by
  refine mt_of (by decide) (Nat.le_of_ble_eq_true rfl) (fun p e s m below meth c ls H locs C hP hS hl => ?_)
  have C : Cx wkX g p s m _ meth c cX4_item 3 RX4 (some .int) := C
  have hl : lv_has ls 3 [(0, .ref (adG g 1)), (1, .int x1), (2, .int x2)] := hl
  obtain ⟨hx, hb, hml, hown, hts, hr, hlk, hK, hZ⟩ := id C
  unfold fX4_item at h
  refine lv_aload_n hx hb dX4_item_0 rfl (lv_at hl 0 rfl) ?_
  refine r_getr C cf_4 hP sx_1 kx_1 0 (by decide) rfl tw_52 dX4_item_1 ?_
  refine lv_iload_n hx hb dX4_item_4 rfl (lv_at hl 1 rfl) ?_
  obtain ⟨g_1, h⟩ := gd_inv h
  refine r_aald C hP sx_2 kx_2 (ty := .array .int) rfl rfl g_1 dX4_item_5 ?_
  refine lv_iload_n hx hb dX4_item_6 rfl (lv_at hl 2 rfl) ?_
  obtain ⟨g_2, h⟩ := gd_inv h
  refine r_iald C hP (sx_it g_1) (kx_it g_1) rfl g_2 dX4_item_7 ?_
  exact r_reti C hP hS rfl (rt_o h) dX4_item_8

set_option maxRecDepth 100000 in
set_option maxHeartbeats 4000000 in
theorem ctX4_move {l : Launch} {g : Gw} {σ : Sto} (x1 : Int32) (x2 : Int32) (x3 : Int32) (x4 : Int32) (x5 : Int32) {Rz : Sto} (h : fX4_move σ x1 x2 x3 x4 x5 = some Rz) : MtG l yX4_move cX4_move 6 none 2 wkX g [.ref (adG g 1), .int x1, .int x2, .int x3, .int x4, .int x5] σ (QvS wkX g Rz) := by
  refine mt_of (by decide) (Nat.le_of_ble_eq_true rfl) (fun p e s m below meth c ls H locs C hP hS hl => ?_)
  have C : Cx wkX g p s m _ meth c cX4_move 6 RX4 none := C
  have hl : lv_has ls 6 [(0, .ref (adG g 1)), (1, .int x1), (2, .int x2), (3, .int x3), (4, .int x4), (5, .int x5)] := hl
  obtain ⟨hx, hb, hml, hown, hts, hr, hlk, hK, hZ⟩ := id C
  unfold fX4_move at h
  refine lv_aload_n hx hb dX4_move_0 rfl (lv_at hl 0 rfl) ?_
  refine r_getr C cf_4 hP sx_1 kx_1 0 (by decide) rfl tw_52 dX4_move_1 ?_
  refine lv_iload_n hx hb dX4_move_4 rfl (lv_at hl 1 rfl) ?_
  obtain ⟨g_1, h⟩ := gd_inv h
  refine r_aald C hP sx_2 kx_2 (ty := .array .int) rfl rfl g_1 dX4_move_5 ?_
  refine lv_iload_n hx hb dX4_move_6 rfl (lv_at hl 2 rfl) ?_
  refine lv_aload_n hx hb dX4_move_7 rfl (lv_at hl 0 rfl) ?_
  refine r_getr C cf_4 hP sx_1 kx_1 0 (by decide) rfl tw_52 dX4_move_8 ?_
  refine lv_iload_n hx hb dX4_move_11 rfl (lv_at hl 3 rfl) ?_
  obtain ⟨g_2, h⟩ := gd_inv h
  refine r_aald C hP sx_2 kx_2 (ty := .array .int) rfl rfl g_2 dX4_move_12 ?_
  refine lv_iload hx hb dX4_move_13 (lv_at hl 4 rfl) ?_
  refine lv_iload hx hb dX4_move_15 (lv_at hl 5 rfl) ?_
  obtain ⟨g_3, h⟩ := gd_inv h
  refine r_copy C hl.1 tw_245 tw_246 tw_247 tw_248 hP hS (sx_it g_1) (kx_it g_1) (sx_it g_2) (kx_it g_2) g_3 rfl rfl rfl ⟨Nat.le_of_ble_eq_true rfl, Nat.le_of_ble_eq_true rfl⟩ dX4_move_17 (fun H locs σ_4 eσ_4 hP hS => ?_)
  replace h := un_at eσ_4 h
  exact r_retv C hP hS (rt_o h) dX4_move_20

set_option maxRecDepth 100000 in
set_option maxHeartbeats 4000000 in
theorem ctX4_hasPlaces {l : Launch} {g : Gw} {σ : Sto} (x1 : Int32) (x2 : Int32) (x3 : Int32) {Rz : Int32} (h : fX4_hasPlaces σ x1 x2 x3 = some Rz) : MtG l yX4_hasPlaces cX4_hasPlaces 4 (some .boolean) 0 wkX g [.ref (adG g 1), .int x1, .int x2, .int x3] σ (QiS wkX g σ Rz) := by
  refine mt_of (by decide) (Nat.le_of_ble_eq_true rfl) (fun p e s m below meth c ls H locs C hP hS hl => ?_)
  have C : Cx wkX g p s m _ meth c cX4_hasPlaces 4 RX4 (some .boolean) := C
  have hl : lv_has ls 4 [(0, .ref (adG g 1)), (1, .int x1), (2, .int x2), (3, .int x3)] := hl
  obtain ⟨hx, hb, hml, hown, hts, hr, hlk, hK, hZ⟩ := id C
  unfold fX4_hasPlaces at h
  refine lv_iload_n hx hb dX4_hasPlaces_0 rfl (lv_at hl 2 rfl) ?_
  refine lv_if_lt (tgt := 34) hx hb dX4_hasPlaces_1 (by decide) (fun c_ => ?_) (fun c_ => ?_)
  · replace h := if_t c_ h
    refine lv_iconst (v := 0) hx hb dX4_hasPlaces_34 (by decide) ?_
    exact r_retz C hP hS rfl (rt_o h) rfl dX4_hasPlaces_35
  · replace h := if_f c_ h
    refine lv_iload_n hx hb dX4_hasPlaces_4 rfl (lv_at hl 2 rfl) ?_
    refine lv_aload_n hx hb dX4_hasPlaces_5 rfl (lv_at hl 0 rfl) ?_
    refine r_getr C cf_4 hP sx_1 kx_1 2 (by decide) rfl tw_54 dX4_hasPlaces_6 ?_
    refine lv_iload_n hx hb dX4_hasPlaces_9 rfl (lv_at hl 1 rfl) ?_
    obtain ⟨g_1, h⟩ := gd_inv h
    refine r_iald C hP sx_4 kx_4 rfl g_1 dX4_hasPlaces_10 ?_
    refine lv_icmp_gt (tgt := 34) hx hb dX4_hasPlaces_11 (by decide) (fun c_ => ?_) (fun c_ => ?_)
    · replace h := if_t c_ h
      refine lv_iconst (v := 0) hx hb dX4_hasPlaces_34 (by decide) ?_
      exact r_retz C hP hS rfl (rt_o h) rfl dX4_hasPlaces_35
    · replace h := if_f c_ h
      refine lv_iload_n hx hb dX4_hasPlaces_14 rfl (lv_at hl 3 rfl) ?_
      refine lv_if_lt (tgt := 34) hx hb dX4_hasPlaces_15 (by decide) (fun c_ => ?_) (fun c_ => ?_)
      · replace h := if_t c_ h
        refine lv_iconst (v := 0) hx hb dX4_hasPlaces_34 (by decide) ?_
        exact r_retz C hP hS rfl (rt_o h) rfl dX4_hasPlaces_35
      · replace h := if_f c_ h
        refine lv_iload_n hx hb dX4_hasPlaces_18 rfl (lv_at hl 3 rfl) ?_
        refine lv_aload_n hx hb dX4_hasPlaces_19 rfl (lv_at hl 0 rfl) ?_
        refine r_getr C cf_4 hP sx_1 kx_1 2 (by decide) rfl tw_54 dX4_hasPlaces_20 ?_
        refine lv_iload_n hx hb dX4_hasPlaces_23 rfl (lv_at hl 1 rfl) ?_
        refine r_iald C hP sx_4 kx_4 rfl g_1 dX4_hasPlaces_24 ?_
        refine lv_iload_n hx hb dX4_hasPlaces_25 rfl (lv_at hl 2 rfl) ?_
        refine lv_isub hx hb dX4_hasPlaces_26 ?_
        refine lv_icmp_gt (tgt := 34) hx hb dX4_hasPlaces_27 (by decide) (fun c_ => ?_) (fun c_ => ?_)
        · replace h := if_t c_ h
          refine lv_iconst (v := 0) hx hb dX4_hasPlaces_34 (by decide) ?_
          exact r_retz C hP hS rfl (rt_o h) rfl dX4_hasPlaces_35
        · replace h := if_f c_ h
          refine lv_iconst (v := 1) hx hb dX4_hasPlaces_30 (by decide) ?_
          refine lv_goto (tgt := 35) hx hb dX4_hasPlaces_31 (by decide) ?_
          exact r_retz C hP hS rfl (rt_o h) rfl dX4_hasPlaces_35

set_option maxRecDepth 100000 in
set_option maxHeartbeats 4000000 in
theorem ctX4_findingAt {l : Launch} {g : Gw} {σ : Sto} (x1 : Int32) (x2 : Int32) (x3 : Int32) {Rz : Int32} (h : fX4_findingAt σ x1 x2 x3 = some Rz) : MtG l yX4_findingAt cX4_findingAt 4 (some .int) 1 wkX g [.ref (adG g 1), .int x1, .int x2, .int x3] σ (QiS wkX g σ Rz) := by
  refine mt_of (by decide) (Nat.le_of_ble_eq_true rfl) (fun p e s m below meth c ls H locs C hP hS hl => ?_)
  have C : Cx wkX g p s m _ meth c cX4_findingAt 4 RX4 (some .int) := C
  have hl : lv_has ls 4 [(0, .ref (adG g 1)), (1, .int x1), (2, .int x2), (3, .int x3)] := hl
  obtain ⟨hx, hb, hml, hown, hts, hr, hlk, hK, hZ⟩ := id C
  unfold fX4_findingAt at h
  refine lv_aload_n hx hb dX4_findingAt_0 rfl (lv_at hl 0 rfl) ?_
  refine lv_iload_n hx hb dX4_findingAt_1 rfl (lv_at hl 1 rfl) ?_
  obtain ⟨q_1, hq_1, h⟩ := bd_inv h
  refine end_i (run_v (As := [.int x1]) (rest := []) C ca_X4_isMissing (ctX4_isMissing x1 hq_1) cf_4 sx_1 kx_1 tw_214 ⟨Nat.le_of_ble_eq_true rfl, Nat.le_of_ble_eq_true rfl⟩ rfl hl.1 (Nat.le_of_ble_eq_true rfl) ⟨Nat.le_refl _, Nat.le_refl _⟩ hP hS dX4_findingAt_2) hS (fun H locs hP hS => ?_)
  refine lv_if_eq (tgt := 10) hx hb dX4_findingAt_5 (by decide) (fun c_ => ?_) (fun c_ => ?_)
  · replace h := if_t c_ h
    refine lv_aload_n hx hb dX4_findingAt_10 rfl (lv_at hl 0 rfl) ?_
    refine lv_iload_n hx hb dX4_findingAt_11 rfl (lv_at hl 1 rfl) ?_
    refine lv_iload_n hx hb dX4_findingAt_12 rfl (lv_at hl 2 rfl) ?_
    refine lv_iload_n hx hb dX4_findingAt_13 rfl (lv_at hl 3 rfl) ?_
    obtain ⟨q_2, hq_2, h⟩ := bd_inv h
    refine end_i (run_v (As := [.int x1, .int x2, .int x3]) (rest := []) C ca_X4_hasPlaces (ctX4_hasPlaces x1 x2 x3 hq_2) cf_4 sx_1 kx_1 tw_218 ⟨Nat.le_of_ble_eq_true rfl, Nat.le_of_ble_eq_true rfl⟩ rfl hl.1 (Nat.le_of_ble_eq_true rfl) ⟨Nat.le_refl _, Nat.le_refl _⟩ hP hS dX4_findingAt_14) hS (fun H locs hP hS => ?_)
    refine lv_if_eq (tgt := 24) hx hb dX4_findingAt_17 (by decide) (fun c_ => ?_) (fun c_ => ?_)
    · replace h := if_t c_ h
      refine lv_iconst (v := 2) hx hb dX4_findingAt_24 (by decide) ?_
      exact r_reti C hP hS rfl (rt_o h) dX4_findingAt_25
    · replace h := if_f c_ h
      refine lv_iconst (v := 0) hx hb dX4_findingAt_20 (by decide) ?_
      refine lv_goto (tgt := 25) hx hb dX4_findingAt_21 (by decide) ?_
      exact r_reti C hP hS rfl (rt_o h) dX4_findingAt_25
  · replace h := if_f c_ h
    refine lv_iconst (v := 1) hx hb dX4_findingAt_8 (by decide) ?_
    exact r_reti C hP hS rfl (rt_o h) dX4_findingAt_9

set_option maxRecDepth 100000 in
set_option maxHeartbeats 4000000 in
theorem ctX4_findingBetween {l : Launch} {g : Gw} {σ : Sto} (x1 : Int32) (x2 : Int32) (x3 : Int32) (x4 : Int32) (x5 : Int32) {Rz : Int32} (h : fX4_findingBetween σ x1 x2 x3 x4 x5 = some Rz) : MtG l yX4_findingBetween cX4_findingBetween 6 (some .int) 1 wkX g [.ref (adG g 1), .int x1, .int x2, .int x3, .int x4, .int x5] σ (QiS wkX g σ Rz) := by
  refine mt_of (by decide) (Nat.le_of_ble_eq_true rfl) (fun p e s m below meth c ls H locs C hP hS hl => ?_)
  have C : Cx wkX g p s m _ meth c cX4_findingBetween 6 RX4 (some .int) := C
  have hl : lv_has ls 6 [(0, .ref (adG g 1)), (1, .int x1), (2, .int x2), (3, .int x3), (4, .int x4), (5, .int x5)] := hl
  obtain ⟨hx, hb, hml, hown, hts, hr, hlk, hK, hZ⟩ := id C
  unfold fX4_findingBetween at h
  refine lv_aload_n hx hb dX4_findingBetween_0 rfl (lv_at hl 0 rfl) ?_
  refine lv_iload_n hx hb dX4_findingBetween_1 rfl (lv_at hl 1 rfl) ?_
  obtain ⟨q_1, hq_1, h⟩ := bd_inv h
  refine end_i (run_v (As := [.int x1]) (rest := []) C ca_X4_isMissing (ctX4_isMissing x1 hq_1) cf_4 sx_1 kx_1 tw_214 ⟨Nat.le_of_ble_eq_true rfl, Nat.le_of_ble_eq_true rfl⟩ rfl hl.1 (Nat.le_of_ble_eq_true rfl) ⟨Nat.le_refl _, Nat.le_refl _⟩ hP hS dX4_findingBetween_2) hS (fun H locs hP hS => ?_)
  refine lv_if_ne (tgt := 16) hx hb dX4_findingBetween_5 (by decide) (fun c_ => ?_) (fun c_ => ?_)
  · replace h := if_f c_ h
    refine lv_iconst (v := 1) hx hb dX4_findingBetween_16 (by decide) ?_
    exact r_reti C hP hS rfl (rt_o h) dX4_findingBetween_17
  · replace h := if_t c_ h
    refine lv_aload_n hx hb dX4_findingBetween_8 rfl (lv_at hl 0 rfl) ?_
    refine lv_iload_n hx hb dX4_findingBetween_9 rfl (lv_at hl 3 rfl) ?_
    obtain ⟨q_2, hq_2, h⟩ := bd_inv h
    refine end_i (run_v (As := [.int x3]) (rest := []) C ca_X4_isMissing (ctX4_isMissing x3 hq_2) cf_4 sx_1 kx_1 tw_214 ⟨Nat.le_of_ble_eq_true rfl, Nat.le_of_ble_eq_true rfl⟩ rfl hl.1 (Nat.le_of_ble_eq_true rfl) ⟨Nat.le_refl _, Nat.le_refl _⟩ hP hS dX4_findingBetween_10) hS (fun H locs hP hS => ?_)
    refine lv_if_eq (tgt := 18) hx hb dX4_findingBetween_13 (by decide) (fun c_ => ?_) (fun c_ => ?_)
    · replace h := if_t c_ h
      refine lv_aload_n hx hb dX4_findingBetween_18 rfl (lv_at hl 0 rfl) ?_
      refine r_getr C cf_4 hP sx_1 kx_1 1 (by decide) rfl tw_53 dX4_findingBetween_19 ?_
      refine lv_iload_n hx hb dX4_findingBetween_22 rfl (lv_at hl 1 rfl) ?_
      obtain ⟨g_3, h⟩ := gd_inv h
      refine r_iald C hP sx_3 kx_3 rfl g_3 dX4_findingBetween_23 ?_
      refine lv_aload_n hx hb dX4_findingBetween_24 rfl (lv_at hl 0 rfl) ?_
      refine r_getr C cf_4 hP sx_1 kx_1 1 (by decide) rfl tw_53 dX4_findingBetween_25 ?_
      refine lv_iload_n hx hb dX4_findingBetween_28 rfl (lv_at hl 3 rfl) ?_
      obtain ⟨g_4, h⟩ := gd_inv h
      refine r_iald C hP sx_3 kx_3 rfl g_4 dX4_findingBetween_29 ?_
      refine lv_icmp_eq (tgt := 35) hx hb dX4_findingBetween_30 (by decide) (fun c_ => ?_) (fun c_ => ?_)
      · replace h := if_t c_ h
        refine lv_aload_n hx hb dX4_findingBetween_35 rfl (lv_at hl 0 rfl) ?_
        refine lv_iload_n hx hb dX4_findingBetween_36 rfl (lv_at hl 1 rfl) ?_
        refine lv_iload_n hx hb dX4_findingBetween_37 rfl (lv_at hl 2 rfl) ?_
        refine lv_iload hx hb dX4_findingBetween_38 (lv_at hl 5 rfl) ?_
        obtain ⟨q_5, hq_5, h⟩ := bd_inv h
        refine end_i (run_v (As := [.int x1, .int x2, .int x5]) (rest := []) C ca_X4_hasPlaces (ctX4_hasPlaces x1 x2 x5 hq_5) cf_4 sx_1 kx_1 tw_218 ⟨Nat.le_of_ble_eq_true rfl, Nat.le_of_ble_eq_true rfl⟩ rfl hl.1 (Nat.le_of_ble_eq_true rfl) ⟨Nat.le_refl _, Nat.le_refl _⟩ hP hS dX4_findingBetween_40) hS (fun H locs hP hS => ?_)
        refine lv_if_eq (tgt := 62) hx hb dX4_findingBetween_43 (by decide) (fun c_ => ?_) (fun c_ => ?_)
        · replace h := if_t c_ h
          refine lv_iconst (v := 2) hx hb dX4_findingBetween_62 (by decide) ?_
          exact r_reti C hP hS rfl (rt_o h) dX4_findingBetween_63
        · replace h := if_f c_ h
          refine lv_aload_n hx hb dX4_findingBetween_46 rfl (lv_at hl 0 rfl) ?_
          refine lv_iload_n hx hb dX4_findingBetween_47 rfl (lv_at hl 3 rfl) ?_
          refine lv_iload hx hb dX4_findingBetween_48 (lv_at hl 4 rfl) ?_
          refine lv_iload hx hb dX4_findingBetween_50 (lv_at hl 5 rfl) ?_
          obtain ⟨q_6, hq_6, h⟩ := bd_inv h
          refine end_i (run_v (As := [.int x3, .int x4, .int x5]) (rest := []) C ca_X4_hasPlaces (ctX4_hasPlaces x3 x4 x5 hq_6) cf_4 sx_1 kx_1 tw_218 ⟨Nat.le_of_ble_eq_true rfl, Nat.le_of_ble_eq_true rfl⟩ rfl hl.1 (Nat.le_of_ble_eq_true rfl) ⟨Nat.le_refl _, Nat.le_refl _⟩ hP hS dX4_findingBetween_52) hS (fun H locs hP hS => ?_)
          refine lv_if_eq (tgt := 62) hx hb dX4_findingBetween_55 (by decide) (fun c_ => ?_) (fun c_ => ?_)
          · replace h := if_t c_ h
            refine lv_iconst (v := 2) hx hb dX4_findingBetween_62 (by decide) ?_
            exact r_reti C hP hS rfl (rt_o h) dX4_findingBetween_63
          · replace h := if_f c_ h
            refine lv_iconst (v := 0) hx hb dX4_findingBetween_58 (by decide) ?_
            refine lv_goto (tgt := 63) hx hb dX4_findingBetween_59 (by decide) ?_
            exact r_reti C hP hS rfl (rt_o h) dX4_findingBetween_63
      · replace h := if_f c_ h
        refine lv_iconst (v := 5) hx hb dX4_findingBetween_33 (by decide) ?_
        exact r_reti C hP hS rfl (rt_o h) dX4_findingBetween_34
    · replace h := if_f c_ h
      refine lv_iconst (v := 1) hx hb dX4_findingBetween_16 (by decide) ?_
      exact r_reti C hP hS rfl (rt_o h) dX4_findingBetween_17

set_option maxRecDepth 100000 in
set_option maxHeartbeats 4000000 in
theorem ctX5_placeBehind {l : Launch} {g : Gw} {σ : Sto} (v1 : Nat) (hv1 : isV v1) (x2 : Int32) (x3 : Int32) {Rz : (Sto × Int32)} (h : fX5_placeBehind σ v1 x2 x3 = some Rz) : MtG l yX5_placeBehind cX5_placeBehind 4 (some .int) 4 wkX g [.ref (adG g 10), .ref (adG g v1), .int x2, .int x3] σ (QiS wkX g Rz.1 Rz.2) := by
  refine mt_of (by decide) (Nat.le_of_ble_eq_true rfl) (fun p e s m below meth c ls H locs C hP hS hl => ?_)
  have C : Cx wkX g p s m _ meth c cX5_placeBehind 4 RX5 (some .int) := C
  have hl : lv_has ls 4 [(0, .ref (adG g 10)), (1, .ref (adG g v1)), (2, .int x2), (3, .int x3)] := hl
  obtain ⟨hx, hb, hml, hown, hts, hr, hlk, hK, hZ⟩ := id C
  unfold fX5_placeBehind at h
  refine lv_aload_n hx hb dX5_placeBehind_0 rfl (lv_at hl 0 rfl) ?_
  refine r_getr C cf_5 hP sx_10 kx_10 1 (by decide) rfl tw_96 dX5_placeBehind_1 ?_
  refine lv_aload_n hx hb dX5_placeBehind_4 rfl (lv_at hl 1 rfl) ?_
  refine lv_iload_n hx hb dX5_placeBehind_5 rfl (lv_at hl 3 rfl) ?_
  obtain ⟨q_1, hq_1, h⟩ := bd_inv h
  refine end_v (run_v (As := [.ref (adG g v1), .int x3]) (rest := []) C ca_X2_tell (ctX2_tell 11 if_11 v1 hv1 x3 hq_1) cf_2 (sf_0 if_11) (kf_0 if_11) tw_626 ⟨Nat.le_of_ble_eq_true rfl, Nat.le_of_ble_eq_true rfl⟩ rfl hl.1 (Nat.le_of_ble_eq_true rfl) ⟨Nat.le_refl _, Nat.le_refl _⟩ hP hS dX5_placeBehind_6) hS (fun H locs hP hS => ?_)
  refine lv_aload_n hx hb dX5_placeBehind_9 rfl (lv_at hl 0 rfl) ?_
  refine r_getr C cf_5 hP sx_10 kx_10 1 (by decide) rfl tw_96 dX5_placeBehind_10 ?_
  refine lv_aload_n hx hb dX5_placeBehind_13 rfl (lv_at hl 1 rfl) ?_
  refine lv_iload_n hx hb dX5_placeBehind_14 rfl (lv_at hl 2 rfl) ?_
  refine lv_aload_n hx hb dX5_placeBehind_15 rfl (lv_at hl 1 rfl) ?_
  refine r_getr C cf_8 hP (sv_0 hv1) (kv_0 hv1) 10 (by decide) rfl tw_625 dX5_placeBehind_16 ?_
  refine lv_iload_n hx hb dX5_placeBehind_19 rfl (lv_at hl 2 rfl) ?_
  obtain ⟨g_2, h⟩ := gd_inv h
  refine r_iald C hP (sv_6 hv1) (kv_6 hv1) rfl g_2 dX5_placeBehind_20 ?_
  refine lv_iload_n hx hb dX5_placeBehind_21 rfl (lv_at hl 3 rfl) ?_
  obtain ⟨q_3, hq_3, h⟩ := bd_inv h
  refine end_i (run_v (As := [.ref (adG g v1), .int x2, .int (q_1 (v1 + 6) x2.toNatClampNeg), .int x3]) (rest := []) C ca_X2_placeBehind (ctX2_placeBehind 11 if_11 v1 hv1 x2 (q_1 (v1 + 6) x2.toNatClampNeg) x3 hq_3) cf_2 (sf_0 if_11) (kf_0 if_11) tw_634 ⟨Nat.le_of_ble_eq_true rfl, Nat.le_of_ble_eq_true rfl⟩ rfl hl.1 (Nat.le_of_ble_eq_true rfl) ⟨Nat.le_refl _, Nat.le_refl _⟩ hP hS dX5_placeBehind_22) hS (fun H locs hP hS => ?_)
  exact r_reti C hP hS (rt_ow1 h) (rt_ow2 h) dX5_placeBehind_25

set_option maxRecDepth 100000 in
set_option maxHeartbeats 4000000 in
theorem ctX5_lavaBehind {l : Launch} {g : Gw} {σ : Sto} (v1 : Nat) (hv1 : isV v1) (x2 : Int32) (x3 : Int32) {Rz : (Sto × Int32)} (h : fX5_lavaBehind σ v1 x2 x3 = some Rz) : MtG l yX5_lavaBehind cX5_lavaBehind 4 (some .int) 4 wkX g [.ref (adG g 10), .ref (adG g v1), .int x2, .int x3] σ (QiS wkX g Rz.1 Rz.2) := by
  refine mt_of (by decide) (Nat.le_of_ble_eq_true rfl) (fun p e s m below meth c ls H locs C hP hS hl => ?_)
  have C : Cx wkX g p s m _ meth c cX5_lavaBehind 4 RX5 (some .int) := C
  have hl : lv_has ls 4 [(0, .ref (adG g 10)), (1, .ref (adG g v1)), (2, .int x2), (3, .int x3)] := hl
  obtain ⟨hx, hb, hml, hown, hts, hr, hlk, hK, hZ⟩ := id C
  unfold fX5_lavaBehind at h
  refine lv_aload_n hx hb dX5_lavaBehind_0 rfl (lv_at hl 0 rfl) ?_
  refine r_getr C cf_5 hP sx_10 kx_10 1 (by decide) rfl tw_96 dX5_lavaBehind_1 ?_
  refine lv_aload_n hx hb dX5_lavaBehind_4 rfl (lv_at hl 1 rfl) ?_
  refine lv_iload_n hx hb dX5_lavaBehind_5 rfl (lv_at hl 3 rfl) ?_
  obtain ⟨q_1, hq_1, h⟩ := bd_inv h
  refine end_v (run_v (As := [.ref (adG g v1), .int x3]) (rest := []) C ca_X2_tell (ctX2_tell 11 if_11 v1 hv1 x3 hq_1) cf_2 (sf_0 if_11) (kf_0 if_11) tw_626 ⟨Nat.le_of_ble_eq_true rfl, Nat.le_of_ble_eq_true rfl⟩ rfl hl.1 (Nat.le_of_ble_eq_true rfl) ⟨Nat.le_refl _, Nat.le_refl _⟩ hP hS dX5_lavaBehind_6) hS (fun H locs hP hS => ?_)
  refine lv_aload_n hx hb dX5_lavaBehind_9 rfl (lv_at hl 0 rfl) ?_
  refine r_getr C cf_5 hP sx_10 kx_10 1 (by decide) rfl tw_96 dX5_lavaBehind_10 ?_
  refine lv_iload_n hx hb dX5_lavaBehind_13 rfl (lv_at hl 2 rfl) ?_
  refine lv_iload_n hx hb dX5_lavaBehind_14 rfl (lv_at hl 3 rfl) ?_
  obtain ⟨q_2, hq_2, h⟩ := bd_inv h
  refine end_i (run_v (As := [.int x2, .int x3]) (rest := []) C ca_X2_lavaIn (ctX2_lavaIn 11 if_11 x2 x3 hq_2) cf_2 (sf_0 if_11) (kf_0 if_11) tw_665 ⟨Nat.le_of_ble_eq_true rfl, Nat.le_of_ble_eq_true rfl⟩ rfl hl.1 (Nat.le_of_ble_eq_true rfl) ⟨Nat.le_refl _, Nat.le_refl _⟩ hP hS dX5_lavaBehind_15) hS (fun H locs hP hS => ?_)
  exact r_reti C hP hS (rt_ow1 h) (rt_ow2 h) dX5_lavaBehind_18

set_option maxRecDepth 100000 in
set_option maxHeartbeats 4000000 in
theorem ctX8_place {l : Launch} {g : Gw} {σ : Sto} (v0 : Nat) (hv0 : isV v0) (x1 : Int32) (x2 : Int32) {Rz : Sto} (h : fX8_place σ v0 x1 x2 = some Rz) : MtG l yX8_place cX8_place 3 none 0 wkX g [.ref (adG g v0), .int x1, .int x2] σ (QvS wkX g Rz) := by
  refine mt_of (by decide) (Nat.le_of_ble_eq_true rfl) (fun p e s m below meth c ls H locs C hP hS hl => ?_)
  have C : Cx wkX g p s m _ meth c cX8_place 3 RX8 none := C
  have hl : lv_has ls 3 [(0, .ref (adG g v0)), (1, .int x1), (2, .int x2)] := hl
  obtain ⟨hx, hb, hml, hown, hts, hr, hlk, hK, hZ⟩ := id C
  unfold fX8_place at h
  refine lv_aload_n hx hb dX8_place_0 rfl (lv_at hl 0 rfl) ?_
  refine r_getr C cf_8 hP (sv_0 hv0) (kv_0 hv0) 10 (by decide) rfl tw_78 dX8_place_1 ?_
  refine lv_iload_n hx hb dX8_place_4 rfl (lv_at hl 1 rfl) ?_
  refine lv_iload_n hx hb dX8_place_5 rfl (lv_at hl 2 rfl) ?_
  obtain ⟨g_1, h⟩ := gd_inv h
  refine r_iast C hP hS (sv_6 hv0) (kv_6 hv0) rfl g_1 dX8_place_6 (fun H locs σ_2 eσ_2 hP hS => ?_)
  replace h := un_at eσ_2 h
  refine lv_iload_n hx hb dX8_place_7 rfl (lv_at hl 2 rfl) ?_
  refine lv_bipush (v := 20) hx hb dX8_place_8 (by decide) ?_
  refine lv_icmp_eq (tgt := 33) hx hb dX8_place_10 (by decide) (fun c_ => ?_) (fun c_ => ?_)
  · replace h := if_t c_ h
    exact r_retv C hP hS (rt_o h) dX8_place_33
  · replace h := if_f c_ h
    refine lv_aload_n hx hb dX8_place_13 rfl (lv_at hl 0 rfl) ?_
    refine r_getr C cf_8 hP (sv_0 hv0) (kv_0 hv0) 11 (by decide) rfl tw_79 dX8_place_14 ?_
    refine lv_iload_n hx hb dX8_place_17 rfl (lv_at hl 1 rfl) ?_
    refine lv_iload_n hx hb dX8_place_18 rfl (lv_at hl 2 rfl) ?_
    refine lv_bipush (v := 20) hx hb dX8_place_19 (by decide) ?_
    refine lv_icmp_ge (tgt := 28) hx hb dX8_place_21 (by decide) (fun c_ => ?_) (fun c_ => ?_)
    · replace h := if_t c_ h
      refine lv_iload_n hx hb dX8_place_28 rfl (lv_at hl 2 rfl) ?_
      refine lv_bipush (v := 30) hx hb dX8_place_29 (by decide) ?_
      refine lv_isub hx hb dX8_place_31 ?_
      refine r_iast C hP hS (sv_7 hv0) (kv_7 hv0) rfl g_1 dX8_place_32 (fun H locs σ_3 eσ_3 hP hS => ?_)
      replace h := un_at eσ_3 h
      exact r_retv C hP hS (rt_o h) dX8_place_33
    · replace h := if_f c_ h
      refine lv_iload_n hx hb dX8_place_24 rfl (lv_at hl 2 rfl) ?_
      refine lv_goto (tgt := 32) hx hb dX8_place_25 (by decide) ?_
      refine r_iast C hP hS (sv_7 hv0) (kv_7 hv0) rfl g_1 dX8_place_32 (fun H locs σ_4 eσ_4 hP hS => ?_)
      replace h := un_at eσ_4 h
      exact r_retv C hP hS (rt_o h) dX8_place_33

set_option maxRecDepth 100000 in
set_option maxHeartbeats 4000000 in
theorem wfX8_pass_L15 {l : Launch} {g : Gw} {p : Program} {e : Env} {s : State} {m : MethodId} {args : Array Value} {below : List Frame} {meth : Method} {c : Code} (C : Cx wkX g p s m args meth c cX8_pass 2 RX8 none) (v0 : Nat) (hv0 : isV v0) {Rz : Sto} : ∀ (n : Nat) (σ : Sto) (x1 : Int32) (H : Heap) (locs : List Loc) (ls : Array Slot), fX8_pass_L15 v0 n σ x1 = some Rz → wS wkX g σ H → va_S (AS wkX g) s.heap H locs → lv_has ls 2 [(0, .ref (adG g v0)), (1, .int x1)] → W p l e (rmS 3) s m args below meth c H locs 0 0 (MQ below (QvS wkX g Rz) args s 0 0 (AS wkX g)) (F0 m 15 ls []) := by
  intro n
  induction n with
  | zero =>
    intro σ x1 H locs ls h
    cases h
  | succ n ih =>
    intro σ x1 H locs ls h hP hS hl
    obtain ⟨hx, hb, hml, hown, hts, hr, hlk, hK, hZ⟩ := id C
    rw [fX8_pass_L15] at h
    refine lv_iload_n hx hb dX8_pass_15 rfl (lv_at hl 1 rfl) ?_
    refine lv_aload_n hx hb dX8_pass_16 rfl (lv_at hl 0 rfl) ?_
    refine r_geti C cf_8 hP (sv_0 hv0) (kv_0 hv0) 1 (by decide) rfl tw_69 dX8_pass_17 ?_
    refine lv_icmp_ge (tgt := 65) hx hb dX8_pass_20 (by decide) (fun c_ => ?_) (fun c_ => ?_)
    · replace h := if_t c_ h
      refine lv_aload_n hx hb dX8_pass_65 rfl (lv_at hl 0 rfl) ?_
      refine lv_dup hx hb dX8_pass_66 rfl ?_
      refine r_geti C cf_8 hP (sv_0 hv0) (kv_0 hv0) 4 (by decide) rfl tw_72 dX8_pass_67 ?_
      refine lv_iconst (v := 1) hx hb dX8_pass_70 (by decide) ?_
      refine lv_iadd hx hb dX8_pass_71 ?_
      refine r_puti C cf_8 hP hS (sv_0 hv0) (kv_0 hv0) 4 (by decide) rfl rfl rfl tw_72 dX8_pass_72 (fun H locs σ_1 eσ_1 hP hS => ?_)
      replace h := un_at eσ_1 h
      exact r_retv C hP hS (rt_o h) dX8_pass_75
    · replace h := if_f c_ h
      refine lv_aload_n hx hb dX8_pass_23 rfl (lv_at hl 0 rfl) ?_
      refine lv_iload_n hx hb dX8_pass_24 rfl (lv_at hl 1 rfl) ?_
      refine lv_aload_n hx hb dX8_pass_25 rfl (lv_at hl 0 rfl) ?_
      refine lv_aload_n hx hb dX8_pass_26 rfl (lv_at hl 0 rfl) ?_
      refine r_getr C cf_8 hP (sv_0 hv0) (kv_0 hv0) 10 (by decide) rfl tw_78 dX8_pass_27 ?_
      refine lv_iload_n hx hb dX8_pass_30 rfl (lv_at hl 1 rfl) ?_
      obtain ⟨g_2, h⟩ := gd_inv h
      refine r_iald C hP (sv_6 hv0) (kv_6 hv0) rfl g_2 dX8_pass_31 ?_
      refine lv_aload_n hx hb dX8_pass_32 rfl (lv_at hl 0 rfl) ?_
      refine r_getr C cf_8 hP (sv_0 hv0) (kv_0 hv0) 8 (by decide) rfl tw_76 dX8_pass_33 ?_
      refine lv_iload_n hx hb dX8_pass_36 rfl (lv_at hl 1 rfl) ?_
      refine r_iald C hP (sv_4 hv0) (kv_4 hv0) rfl g_2 dX8_pass_37 ?_
      refine lv_aload_n hx hb dX8_pass_38 rfl (lv_at hl 0 rfl) ?_
      refine r_getr C cf_8 hP (sv_0 hv0) (kv_0 hv0) 9 (by decide) rfl tw_77 dX8_pass_39 ?_
      refine lv_iload_n hx hb dX8_pass_42 rfl (lv_at hl 1 rfl) ?_
      refine r_iald C hP (sv_5 hv0) (kv_5 hv0) rfl g_2 dX8_pass_43 ?_
      refine lv_aload_n hx hb dX8_pass_44 rfl (lv_at hl 0 rfl) ?_
      refine r_getr C cf_8 hP (sv_0 hv0) (kv_0 hv0) 6 (by decide) rfl tw_74 dX8_pass_45 ?_
      refine lv_iconst (v := 0) hx hb dX8_pass_48 (by decide) ?_
      refine lv_aload_n hx hb dX8_pass_49 rfl (lv_at hl 0 rfl) ?_
      refine r_geti C cf_8 hP (sv_0 hv0) (kv_0 hv0) 4 (by decide) rfl tw_72 dX8_pass_50 ?_
      obtain ⟨q_3, hq_3, h⟩ := bd_inv h
      refine end_i (run_v (As := [.int (σ (v0 + 6) x1.toNatClampNeg), .int (σ (v0 + 4) x1.toNatClampNeg), .int (σ (v0 + 5) x1.toNatClampNeg), .ref (adG g (v0 + 2)), .int (0 : Int32), .int (σ v0 4)]) (rest := [.int x1, .ref (adG g v0)]) C ca_X8_placeAfter (ctX8_placeAfter v0 hv0 (σ (v0 + 6) x1.toNatClampNeg) (σ (v0 + 4) x1.toNatClampNeg) (σ (v0 + 5) x1.toNatClampNeg) (v0 + 2) (isA_of (sv_2 hv0) (kv_2 hv0)) (0 : Int32) (σ v0 4) hq_3) cf_8 (sv_0 hv0) (kv_0 hv0) tw_462 ⟨Nat.le_of_ble_eq_true rfl, Nat.le_of_ble_eq_true rfl⟩ rfl hl.1 (Nat.le_of_ble_eq_true rfl) ⟨Nat.le_refl _, Nat.le_refl _⟩ hP hS dX8_pass_53) hS (fun H locs hP hS => ?_)
      obtain ⟨q_4, hq_4, h⟩ := bd_inv h
      refine end_v (run_v (As := [.int x1, .int q_3]) (rest := []) C ca_X8_place (ctX8_place v0 hv0 x1 q_3 hq_4) cf_8 (sv_0 hv0) (kv_0 hv0) tw_349 ⟨Nat.le_of_ble_eq_true rfl, Nat.le_of_ble_eq_true rfl⟩ rfl hl.1 (Nat.le_of_ble_eq_true rfl) ⟨Nat.le_refl _, Nat.le_refl _⟩ hP hS dX8_pass_56) hS (fun H locs hP hS => ?_)
      obtain ⟨x_5, ex_5⟩ : ∃ y : Int32, y = x1 + (1 : Int32) := ⟨_, rfl⟩
      replace h := un_at ex_5 h
      refine lv_iinc (v := x_5) (lv' := [(1, .int x_5), (0, .ref (adG g v0))]) hx hb dX8_pass_59 hl (k := 1) rfl (by rw [ex_5]; rfl) (by decide) rfl (fun ls hl => ?_)
      refine lv_goto (tgt := 15) hx hb dX8_pass_62 (by decide) ?_
      exact ih q_4 x_5 H locs ls h hP hS (lv_sub hl [1, 0] rfl)

set_option maxRecDepth 100000 in
set_option maxHeartbeats 4000000 in
theorem ctX8_pass {l : Launch} {g : Gw} {σ : Sto} (v0 : Nat) (hv0 : isV v0) {Rz : Sto} (h : fX8_pass σ v0 = some Rz) : MtG l yX8_pass cX8_pass 2 none 3 wkX g [.ref (adG g v0)] σ (QvS wkX g Rz) := by
  refine mt_of (by decide) (Nat.le_of_ble_eq_true rfl) (fun p e s m below meth c ls H locs C hP hS hl => ?_)
  have C : Cx wkX g p s m _ meth c cX8_pass 2 RX8 none := C
  have hl : lv_has ls 2 [(0, .ref (adG g v0))] := hl
  obtain ⟨hx, hb, hml, hown, hts, hr, hlk, hK, hZ⟩ := id C
  unfold fX8_pass at h
  refine lv_aload_n hx hb dX8_pass_0 rfl (lv_at hl 0 rfl) ?_
  refine lv_aload_n hx hb dX8_pass_1 rfl (lv_at hl 0 rfl) ?_
  refine r_getr C cf_8 hP (sv_0 hv0) (kv_0 hv0) 6 (by decide) rfl tw_74 dX8_pass_2 ?_
  refine lv_iconst (v := 0) hx hb dX8_pass_5 (by decide) ?_
  refine lv_aload_n hx hb dX8_pass_6 rfl (lv_at hl 0 rfl) ?_
  refine r_geti C cf_8 hP (sv_0 hv0) (kv_0 hv0) 4 (by decide) rfl tw_72 dX8_pass_7 ?_
  obtain ⟨q_1, hq_1, h⟩ := bd_inv h
  refine end_v (run_v (As := [.ref (adG g (v0 + 2)), .int (0 : Int32), .int (σ v0 4)]) (rest := []) C ca_X8_flow (ctX8_flow v0 hv0 (v0 + 2) (isA_of (sv_2 hv0) (kv_2 hv0)) (0 : Int32) (σ v0 4) hq_1) cf_8 (sv_0 hv0) (kv_0 hv0) tw_455 ⟨Nat.le_of_ble_eq_true rfl, Nat.le_of_ble_eq_true rfl⟩ rfl hl.1 (Nat.le_of_ble_eq_true rfl) ⟨Nat.le_refl _, Nat.le_refl _⟩ hP hS dX8_pass_10) hS (fun H locs hP hS => ?_)
  refine lv_iconst (v := 0) hx hb dX8_pass_13 (by decide) ?_
  refine lv_istore_n (lv' := [(1, .int (0 : Int32)), (0, .ref (adG g v0))]) hx hb dX8_pass_14 rfl hl (by decide) rfl (fun ls hl => ?_)
  exact wfX8_pass_L15 C v0 hv0 fu q_1 (0 : Int32) H locs ls h hP hS (lv_sub hl [1, 0] rfl)

set_option maxRecDepth 100000 in
set_option maxHeartbeats 4000000 in
theorem wfX5_passTrial_L2 {l : Launch} {g : Gw} {p : Program} {e : Env} {s : State} {m : MethodId} {args : Array Value} {below : List Frame} {meth : Method} {c : Code} (C : Cx wkX g p s m args meth c cX5_passTrial 3 RX5 none) {Rz : Sto} : ∀ (n : Nat) (σ : Sto) (x1 : Int32) (x2 : Int32) (H : Heap) (locs : List Loc) (ls : Array Slot), fX5_passTrial_L2 n σ x1 x2 = some Rz → wS wkX g σ H → va_S (AS wkX g) s.heap H locs → lv_has ls 3 [(0, .ref (adG g 10)), (1, .int x1), (2, .int x2)] → W p l e (rmS 4) s m args below meth c H locs 0 0 (MQ below (QvS wkX g Rz) args s 0 0 (AS wkX g)) (F0 m 2 ls []) := by
  intro n
  induction n with
  | zero =>
    intro σ x1 x2 H locs ls h
    cases h
  | succ n ih =>
    intro σ x1 x2 H locs ls h hP hS hl
    obtain ⟨hx, hb, hml, hown, hts, hr, hlk, hK, hZ⟩ := id C
    rw [fX5_passTrial_L2] at h
    refine lv_iload_n hx hb dX5_passTrial_2 rfl (lv_at hl 2 rfl) ?_
    refine lv_iload_n hx hb dX5_passTrial_3 rfl (lv_at hl 1 rfl) ?_
    refine lv_icmp_ge (tgt := 20) hx hb dX5_passTrial_4 (by decide) (fun c_ => ?_) (fun c_ => ?_)
    · replace h := if_t c_ h
      exact r_retv C hP hS (rt_o h) dX5_passTrial_20
    · replace h := if_f c_ h
      refine lv_aload_n hx hb dX5_passTrial_7 rfl (lv_at hl 0 rfl) ?_
      refine r_getr C cf_5 hP sx_10 kx_10 0 (by decide) rfl tw_92 dX5_passTrial_8 ?_
      obtain ⟨q_1, hq_1, h⟩ := bd_inv h
      refine end_v (run_v (As := []) (rest := []) C ca_X8_pass (ctX8_pass 260 iv_260 hq_1) cf_8 (sv_0 iv_260) (kv_0 iv_260) tw_686 ⟨Nat.le_of_ble_eq_true rfl, Nat.le_of_ble_eq_true rfl⟩ rfl hl.1 (Nat.le_of_ble_eq_true rfl) ⟨Nat.le_refl _, Nat.le_refl _⟩ hP hS dX5_passTrial_11) hS (fun H locs hP hS => ?_)
      obtain ⟨x_2, ex_2⟩ : ∃ y : Int32, y = x2 + (1 : Int32) := ⟨_, rfl⟩
      replace h := un_at ex_2 h
      refine lv_iinc (v := x_2) (lv' := [(2, .int x_2), (0, .ref (adG g 10)), (1, .int x1)]) hx hb dX5_passTrial_14 hl (k := 2) rfl (by rw [ex_2]; rfl) (by decide) rfl (fun ls hl => ?_)
      refine lv_goto (tgt := 2) hx hb dX5_passTrial_17 (by decide) ?_
      exact ih q_1 x1 x_2 H locs ls h hP hS (lv_sub hl [1, 2, 0] rfl)

set_option maxRecDepth 100000 in
set_option maxHeartbeats 4000000 in
theorem ctX5_passTrial {l : Launch} {g : Gw} {σ : Sto} (x1 : Int32) {Rz : Sto} (h : fX5_passTrial σ x1 = some Rz) : MtG l yX5_passTrial cX5_passTrial 3 none 4 wkX g [.ref (adG g 10), .int x1] σ (QvS wkX g Rz) := by
  refine mt_of (by decide) (Nat.le_of_ble_eq_true rfl) (fun p e s m below meth c ls H locs C hP hS hl => ?_)
  have C : Cx wkX g p s m _ meth c cX5_passTrial 3 RX5 none := C
  have hl : lv_has ls 3 [(0, .ref (adG g 10)), (1, .int x1)] := hl
  obtain ⟨hx, hb, hml, hown, hts, hr, hlk, hK, hZ⟩ := id C
  unfold fX5_passTrial at h
  refine lv_iconst (v := 0) hx hb dX5_passTrial_0 (by decide) ?_
  refine lv_istore_n (lv' := [(2, .int (0 : Int32)), (0, .ref (adG g 10)), (1, .int x1)]) hx hb dX5_passTrial_1 rfl hl (by decide) rfl (fun ls hl => ?_)
  exact wfX5_passTrial_L2 C fu σ x1 (0 : Int32) H locs ls h hP hS (lv_sub hl [1, 2, 0] rfl)

set_option maxRecDepth 100000 in
set_option maxHeartbeats 4000000 in
theorem wfX8_stones_L4 {l : Launch} {g : Gw} {p : Program} {e : Env} {s : State} {m : MethodId} {args : Array Value} {below : List Frame} {meth : Method} {c : Code} {σ : Sto} (C : Cx wkX g p s m args meth c cX8_stones 3 RX8 (some .int)) (v0 : Nat) (hv0 : isV v0) {Rz : Int32} : ∀ (n : Nat) (x1 : Int32) (x2 : Int32) (H : Heap) (locs : List Loc) (ls : Array Slot), fX8_stones_L4 v0 σ n x1 x2 = some Rz → wS wkX g σ H → va_S (AS wkX g) s.heap H locs → lv_has ls 3 [(0, .ref (adG g v0)), (1, .int x1), (2, .int x2)] → W p l e (rmS 0) s m args below meth c H locs 0 0 (MQ below (QiS wkX g σ Rz) args s 0 0 (AS wkX g)) (F0 m 4 ls []) := by
  intro n
  induction n with
  | zero =>
    intro x1 x2 H locs ls h
    cases h
  | succ n ih =>
    intro x1 x2 H locs ls h hP hS hl
    obtain ⟨hx, hb, hml, hown, hts, hr, hlk, hK, hZ⟩ := id C
    rw [fX8_stones_L4] at h
    refine lv_iload_n hx hb dX8_stones_4 rfl (lv_at hl 2 rfl) ?_
    refine lv_aload_n hx hb dX8_stones_5 rfl (lv_at hl 0 rfl) ?_
    refine r_geti C cf_8 hP (sv_0 hv0) (kv_0 hv0) 1 (by decide) rfl tw_69 dX8_stones_6 ?_
    refine lv_icmp_ge (tgt := 35) hx hb dX8_stones_9 (by decide) (fun c_ => ?_) (fun c_ => ?_)
    · replace h := if_t c_ h
      refine lv_iload_n hx hb dX8_stones_35 rfl (lv_at hl 1 rfl) ?_
      exact r_reti C hP hS rfl (rt_o h) dX8_stones_36
    · replace h := if_f c_ h
      refine lv_aload_n hx hb dX8_stones_12 rfl (lv_at hl 0 rfl) ?_
      refine r_getr C cf_8 hP (sv_0 hv0) (kv_0 hv0) 10 (by decide) rfl tw_78 dX8_stones_13 ?_
      refine lv_iload_n hx hb dX8_stones_16 rfl (lv_at hl 2 rfl) ?_
      obtain ⟨g_1, h⟩ := gd_inv h
      refine r_iald C hP (sv_6 hv0) (kv_6 hv0) rfl g_1 dX8_stones_17 ?_
      refine lv_bipush (v := 30) hx hb dX8_stones_18 (by decide) ?_
      refine lv_icmp_lt (tgt := 29) hx hb dX8_stones_20 (by decide) (fun c_ => ?_) (fun c_ => ?_)
      · replace h := if_t c_ h
        obtain ⟨x_2, ex_2⟩ : ∃ y : Int32, y = x2 + (1 : Int32) := ⟨_, rfl⟩
        replace h := un_at ex_2 h
        refine lv_iinc (v := x_2) (lv' := [(2, .int x_2), (0, .ref (adG g v0)), (1, .int x1)]) hx hb dX8_stones_29 hl (k := 2) rfl (by rw [ex_2]; rfl) (by decide) rfl (fun ls hl => ?_)
        refine lv_goto (tgt := 4) hx hb dX8_stones_32 (by decide) ?_
        exact ih x1 x_2 H locs ls h hP hS (lv_sub hl [1, 2, 0] rfl)
      · replace h := if_f c_ h
        refine lv_iload_n hx hb dX8_stones_23 rfl (lv_at hl 1 rfl) ?_
        refine lv_iconst (v := 1) hx hb dX8_stones_24 (by decide) ?_
        refine lv_iload_n hx hb dX8_stones_25 rfl (lv_at hl 2 rfl) ?_
        refine lv_ishl hx hb dX8_stones_26 ?_
        refine lv_ior hx hb dX8_stones_27 ?_
        refine lv_topi (fun x_3 ex_3 => ?_)
        replace h := un_at ex_3 h
        refine lv_istore_n (lv' := [(1, .int x_3), (0, .ref (adG g v0)), (2, .int x2)]) hx hb dX8_stones_28 rfl hl (by decide) rfl (fun ls hl => ?_)
        obtain ⟨x_4, ex_4⟩ : ∃ y : Int32, y = x2 + (1 : Int32) := ⟨_, rfl⟩
        replace h := un_at ex_4 h
        refine lv_iinc (v := x_4) (lv' := [(2, .int x_4), (1, .int x_3), (0, .ref (adG g v0))]) hx hb dX8_stones_29 hl (k := 2) rfl (by rw [ex_4]; rfl) (by decide) rfl (fun ls hl => ?_)
        refine lv_goto (tgt := 4) hx hb dX8_stones_32 (by decide) ?_
        exact ih x_3 x_4 H locs ls h hP hS (lv_sub hl [2, 1, 0] rfl)

set_option maxRecDepth 100000 in
set_option maxHeartbeats 4000000 in
theorem ctX8_stones {l : Launch} {g : Gw} {σ : Sto} (v0 : Nat) (hv0 : isV v0) {Rz : Int32} (h : fX8_stones σ v0 = some Rz) : MtG l yX8_stones cX8_stones 3 (some .int) 0 wkX g [.ref (adG g v0)] σ (QiS wkX g σ Rz) := by
  refine mt_of (by decide) (Nat.le_of_ble_eq_true rfl) (fun p e s m below meth c ls H locs C hP hS hl => ?_)
  have C : Cx wkX g p s m _ meth c cX8_stones 3 RX8 (some .int) := C
  have hl : lv_has ls 3 [(0, .ref (adG g v0))] := hl
  obtain ⟨hx, hb, hml, hown, hts, hr, hlk, hK, hZ⟩ := id C
  unfold fX8_stones at h
  refine lv_iconst (v := 0) hx hb dX8_stones_0 (by decide) ?_
  refine lv_istore_n (lv' := [(1, .int (0 : Int32)), (0, .ref (adG g v0))]) hx hb dX8_stones_1 rfl hl (by decide) rfl (fun ls hl => ?_)
  refine lv_iconst (v := 0) hx hb dX8_stones_2 (by decide) ?_
  refine lv_istore_n (lv' := [(2, .int (0 : Int32)), (1, .int (0 : Int32)), (0, .ref (adG g v0))]) hx hb dX8_stones_3 rfl hl (by decide) rfl (fun ls hl => ?_)
  exact wfX8_stones_L4 C v0 hv0 fu (0 : Int32) (0 : Int32) H locs ls h hP hS (lv_sub hl [2, 1, 0] rfl)
