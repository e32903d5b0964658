set_option maxRecDepth 100000 in
set_option maxHeartbeats 4000000 in
theorem ctX9_feeds {l : Launch} {g : Gw} {σ : Sto} (x1 : Int32) (x2 : Int32) (x3 : Int32) (x4 : Int32) (x5 : Int32) {Rz : (Sto × Int32)} (h : fX9_feeds σ x1 x2 x3 x4 x5 = some Rz) : MtG l yX9_feeds cX9_feeds 8 (some .int) 6 wkX g [.ref (adG g 0), .int x1, .int x2, .int x3, .int x4, .int x5] σ (QiS wkX g Rz.1 Rz.2) := by
  refine mt_of (by decide) (Nat.le_of_ble_eq_true rfl) (fun p e s m below meth c ls H locs C hP hS hl => ?_)
  have C : Cx wkX g p s m _ meth c cX9_feeds 8 RX9 (some .int) := C
  have hl : lv_has ls 8 [(0, .ref (adG g 0)), (1, .int x1), (2, .int x2), (3, .int x3), (4, .int x4), (5, .int x5)] := hl
  obtain ⟨hx, hb, hml, hown, hts, hr, hlk, hK, hZ⟩ := id C
  unfold fX9_feeds at h
  refine lv_aload_n hx hb dX9_feeds_0 rfl (lv_at hl 0 rfl) ?_
  refine lv_iload_n hx hb dX9_feeds_1 rfl (lv_at hl 1 rfl) ?_
  refine end_i (run_v (As := [.int x1]) (rest := []) C ca_X9_isRoom (ctX9_isRoom x1 rfl) cf_9 sx_0 kx_0 tw_516 ⟨Nat.le_of_ble_eq_true rfl, Nat.le_of_ble_eq_true rfl⟩ rfl hl.1 (Nat.le_of_ble_eq_true rfl) ⟨Nat.le_refl _, Nat.le_refl _⟩ hP hS dX9_feeds_2) hS (fun H locs hP hS => ?_)
  refine lv_if_eq (tgt := 39) hx hb dX9_feeds_5 (by decide) (fun c_ => ?_) (fun c_ => ?_)
  · replace h := if_t c_ h
    refine lv_ldc hx hb hown (hts _ tw_162) dX9_feeds_39 ?_
    exact r_reti C hP hS (rt_ow1 h) (rt_ow2 h) dX9_feeds_41
  · replace h := if_f c_ h
    refine lv_iload_n hx hb dX9_feeds_8 rfl (lv_at hl 2 rfl) ?_
    refine lv_iconst (v := 0) hx hb dX9_feeds_9 (by decide) ?_
    refine lv_iconst (v := 2) hx hb dX9_feeds_10 (by decide) ?_
    refine end_i (run_s (As := [.int x2, .int (0 : Int32), .int (2 : Int32)]) (rest := []) C ca_X9_within (ctX9_within x2 (0 : Int32) (2 : Int32) rfl) tw_167 ⟨Nat.le_of_ble_eq_true rfl, Nat.le_of_ble_eq_true rfl⟩ rfl hl.1 (Nat.le_of_ble_eq_true rfl) ⟨Nat.le_refl _, Nat.le_refl _⟩ hP hS dX9_feeds_11) hS (fun H locs hP hS => ?_)
    refine lv_if_eq (tgt := 39) hx hb dX9_feeds_14 (by decide) (fun c_ => ?_) (fun c_ => ?_)
    · replace h := if_t c_ h
      refine lv_ldc hx hb hown (hts _ tw_162) dX9_feeds_39 ?_
      exact r_reti C hP hS (rt_ow1 h) (rt_ow2 h) dX9_feeds_41
    · replace h := if_f c_ h
      refine lv_aload_n hx hb dX9_feeds_17 rfl (lv_at hl 0 rfl) ?_
      refine r_getr C cf_9 hP sx_0 kx_0 0 (by decide) rfl tw_15 dX9_feeds_18 ?_
      refine lv_iload_n hx hb dX9_feeds_21 rfl (lv_at hl 3 rfl) ?_
      refine end_i (run_v (As := [.int x3]) (rest := []) C ca_X4_isNumber (ctX4_isNumber x3 rfl) cf_4 sx_1 kx_1 tw_163 ⟨Nat.le_of_ble_eq_true rfl, Nat.le_of_ble_eq_true rfl⟩ rfl hl.1 (Nat.le_of_ble_eq_true rfl) ⟨Nat.le_refl _, Nat.le_refl _⟩ hP hS dX9_feeds_22) hS (fun H locs hP hS => ?_)
      refine lv_if_eq (tgt := 39) hx hb dX9_feeds_25 (by decide) (fun c_ => ?_) (fun c_ => ?_)
      · replace h := if_t c_ h
        refine lv_ldc hx hb hown (hts _ tw_162) dX9_feeds_39 ?_
        exact r_reti C hP hS (rt_ow1 h) (rt_ow2 h) dX9_feeds_41
      · replace h := if_f c_ h
        refine lv_iload hx hb dX9_feeds_28 (lv_at hl 5 rfl) ?_
        refine lv_iconst (v := 1) hx hb dX9_feeds_30 (by decide) ?_
        refine lv_bipush (v := 12) hx hb dX9_feeds_31 (by decide) ?_
        refine end_i (run_s (As := [.int x5, .int (1 : Int32), .int (12 : Int32)]) (rest := []) C ca_X9_within (ctX9_within x5 (1 : Int32) (12 : Int32) rfl) tw_167 ⟨Nat.le_of_ble_eq_true rfl, Nat.le_of_ble_eq_true rfl⟩ rfl hl.1 (Nat.le_of_ble_eq_true rfl) ⟨Nat.le_refl _, Nat.le_refl _⟩ hP hS dX9_feeds_33) hS (fun H locs hP hS => ?_)
        refine lv_if_ne (tgt := 42) hx hb dX9_feeds_36 (by decide) (fun c_ => ?_) (fun c_ => ?_)
        · replace h := if_f c_ h
          refine lv_aload_n hx hb dX9_feeds_42 rfl (lv_at hl 0 rfl) ?_
          refine r_getr C cf_9 hP sx_0 kx_0 0 (by decide) rfl tw_15 dX9_feeds_43 ?_
          refine lv_iload_n hx hb dX9_feeds_46 rfl (lv_at hl 3 rfl) ?_
          refine lv_iload hx hb dX9_feeds_47 (lv_at hl 4 rfl) ?_
          refine lv_iload hx hb dX9_feeds_49 (lv_at hl 5 rfl) ?_
          obtain ⟨q_5, hq_5, h⟩ := bd_inv h
          refine end_i (run_v (As := [.int x3, .int x4, .int x5]) (rest := []) C ca_X4_findingAt (ctX4_findingAt x3 x4 x5 hq_5) cf_4 sx_1 kx_1 tw_210 ⟨Nat.le_of_ble_eq_true rfl, Nat.le_of_ble_eq_true rfl⟩ rfl hl.1 (Nat.le_of_ble_eq_true rfl) ⟨Nat.le_refl _, Nat.le_refl _⟩ hP hS dX9_feeds_51) hS (fun H locs hP hS => ?_)
          refine lv_istore (lv' := [(6, .int q_5), (0, .ref (adG g 0)), (1, .int x1), (2, .int x2), (3, .int x3), (4, .int x4), (5, .int x5)]) hx hb dX9_feeds_54 hl (by decide) rfl (fun ls hl => ?_)
          refine lv_iload hx hb dX9_feeds_56 (lv_at hl 0 rfl) ?_
          refine lv_if_eq (tgt := 68) hx hb dX9_feeds_58 (by decide) (fun c_ => ?_) (fun c_ => ?_)
          · replace h := if_t c_ h
            refine lv_aload_n hx hb dX9_feeds_68 rfl (lv_at hl 1 rfl) ?_
            refine r_getr C cf_9 hP sx_0 kx_0 5 (by decide) rfl tw_32 dX9_feeds_69 ?_
            refine lv_aload_n hx hb dX9_feeds_72 rfl (lv_at hl 1 rfl) ?_
            refine r_getr C cf_9 hP sx_0 kx_0 0 (by decide) rfl tw_15 dX9_feeds_73 ?_
            refine lv_iload_n hx hb dX9_feeds_76 rfl (lv_at hl 4 rfl) ?_
            refine lv_iload hx hb dX9_feeds_77 (lv_at hl 5 rfl) ?_
            refine lv_iload hx hb dX9_feeds_79 (lv_at hl 6 rfl) ?_
            obtain ⟨q_6, hq_6, h⟩ := bd_inv h
            refine end_v (run_v (As := [.ref (adG g 1), .int x3, .int x4, .int x5]) (rest := []) C ca_X5_hear (ctX5_hear x3 x4 x5 hq_6) cf_5 sx_10 kx_10 tw_937 ⟨Nat.le_of_ble_eq_true rfl, Nat.le_of_ble_eq_true rfl⟩ rfl hl.1 (Nat.le_of_ble_eq_true rfl) ⟨Nat.le_refl _, Nat.le_refl _⟩ hP hS dX9_feeds_81) hS (fun H locs hP hS => ?_)
            refine lv_iload_n hx hb dX9_feeds_84 rfl (lv_at hl 3 rfl) ?_
            refine lv_if_ne (tgt := 105) hx hb dX9_feeds_85 (by decide) (fun c_ => ?_) (fun c_ => ?_)
            · replace h := if_f c_ h
              refine lv_aload_n hx hb dX9_feeds_105 rfl (lv_at hl 1 rfl) ?_
              refine r_getr C cf_9 hP sx_0 kx_0 5 (by decide) rfl tw_32 dX9_feeds_106 ?_
              refine lv_aload_n hx hb dX9_feeds_109 rfl (lv_at hl 1 rfl) ?_
              refine r_getr C cf_9 hP sx_0 kx_0 2 (by decide) rfl tw_23 dX9_feeds_110 ?_
              refine lv_iload_n hx hb dX9_feeds_113 rfl (lv_at hl 2 rfl) ?_
              obtain ⟨q_7, hq_7, h⟩ := bd_inv h
              refine end_i (run_v (As := [.ref (adG g 36), .int x1]) (rest := []) C ca_X5_feedsThatFit (ctX5_feedsThatFit 36 iv_36 x1 hq_7) cf_5 sx_10 kx_10 tw_990 ⟨Nat.le_of_ble_eq_true rfl, Nat.le_of_ble_eq_true rfl⟩ rfl hl.1 (Nat.le_of_ble_eq_true rfl) ⟨Nat.le_refl _, Nat.le_refl _⟩ hP hS dX9_feeds_114) hS (fun H locs hP hS => ?_)
              refine lv_istore (lv' := [(7, .int q_7.2), (6, .int q_5), (0, .ref (adG g 0)), (1, .int x1), (2, .int x2), (3, .int x3), (4, .int x4), (5, .int x5)]) hx hb dX9_feeds_117 hl (by decide) rfl (fun ls hl => ?_)
              refine lv_iload_n hx hb dX9_feeds_119 rfl (lv_at hl 4 rfl) ?_
              refine lv_iconst (v := 1) hx hb dX9_feeds_120 (by decide) ?_
              refine lv_icmp_ne (tgt := 134) hx hb dX9_feeds_121 (by decide) (fun c_ => ?_) (fun c_ => ?_)
              · replace h := if_f c_ h
                refine lv_aload_n hx hb dX9_feeds_134 rfl (lv_at hl 2 rfl) ?_
                refine lv_iload hx hb dX9_feeds_135 (lv_at hl 0 rfl) ?_
                refine lv_if_ne (tgt := 146) hx hb dX9_feeds_137 (by decide) (fun c_ => ?_) (fun c_ => ?_)
                · replace h := if_f c_ h
                  refine lv_iload hx hb dX9_feeds_146 (lv_at hl 0 rfl) ?_
                  refine end_i (run_s (As := [.int q_7.2]) (rest := [.ref (adG g 0)]) C ca_J6_numberOfTrailingZeros_0f7a4 (ctJ6_numberOfTrailingZeros_0f7a4 q_7.2 rfl) tw_995 ⟨Nat.le_of_ble_eq_true rfl, Nat.le_of_ble_eq_true rfl⟩ rfl hl.1 (Nat.le_of_ble_eq_true rfl) ⟨Nat.le_refl _, Nat.le_refl _⟩ hP hS dX9_feeds_148) hS (fun H locs hP hS => ?_)
                  obtain ⟨q_9, eq_9⟩ : ∃ z, z = fX9_unfound q_7.1 (fJ6_numberOfTrailingZeros_0f7a4 q_7.2) := ⟨_, rfl⟩
                  replace h := un_at eq_9 h
                  refine end_i (run_v (As := [.int (fJ6_numberOfTrailingZeros_0f7a4 q_7.2)]) (rest := []) C ca_X9_unfound (ctX9_unfound (fJ6_numberOfTrailingZeros_0f7a4 q_7.2) eq_9.symm) cf_9 sx_0 kx_0 tw_179 ⟨Nat.le_of_ble_eq_true rfl, Nat.le_of_ble_eq_true rfl⟩ rfl hl.1 (Nat.le_of_ble_eq_true rfl) ⟨Nat.le_refl _, Nat.le_refl _⟩ hP hS dX9_feeds_151) hS (fun H locs hP hS => ?_)
                  exact r_reti C hP hS (rt_ow1 h) (rt_ow2 h) dX9_feeds_154
                · replace h := if_t c_ h
                  refine lv_ldcw hx hb hown (hts _ tw_980) dX9_feeds_140 ?_
                  refine lv_goto (tgt := 151) hx hb dX9_feeds_143 (by decide) ?_
                  obtain ⟨q_10, eq_10⟩ : ∃ z, z = fX9_unfound q_7.1 (-1000000 : Int32) := ⟨_, rfl⟩
                  replace h := un_at eq_10 h
                  refine end_i (run_v (As := [.int (-1000000 : Int32)]) (rest := []) C ca_X9_unfound (ctX9_unfound (-1000000 : Int32) eq_10.symm) cf_9 sx_0 kx_0 tw_179 ⟨Nat.le_of_ble_eq_true rfl, Nat.le_of_ble_eq_true rfl⟩ rfl hl.1 (Nat.le_of_ble_eq_true rfl) ⟨Nat.le_refl _, Nat.le_refl _⟩ hP hS dX9_feeds_151) hS (fun H locs hP hS => ?_)
                  exact r_reti C hP hS (rt_ow1 h) (rt_ow2 h) dX9_feeds_154
              · replace h := if_t c_ h
                refine lv_aload_n hx hb dX9_feeds_124 rfl (lv_at hl 2 rfl) ?_
                refine lv_iload hx hb dX9_feeds_125 (lv_at hl 0 rfl) ?_
                refine end_i (run_s (As := [.int q_7.2]) (rest := [.ref (adG g 0)]) C ca_J6_bitCount_0f7a4 (ctJ6_bitCount_0f7a4 q_7.2 rfl) tw_994 ⟨Nat.le_of_ble_eq_true rfl, Nat.le_of_ble_eq_true rfl⟩ rfl hl.1 (Nat.le_of_ble_eq_true rfl) ⟨Nat.le_refl _, Nat.le_refl _⟩ hP hS dX9_feeds_127) hS (fun H locs hP hS => ?_)
                obtain ⟨q_12, eq_12⟩ : ∃ z, z = fX9_unfound q_7.1 (fJ6_bitCount_0f7a4 q_7.2) := ⟨_, rfl⟩
                replace h := un_at eq_12 h
                refine end_i (run_v (As := [.int (fJ6_bitCount_0f7a4 q_7.2)]) (rest := []) C ca_X9_unfound (ctX9_unfound (fJ6_bitCount_0f7a4 q_7.2) eq_12.symm) cf_9 sx_0 kx_0 tw_179 ⟨Nat.le_of_ble_eq_true rfl, Nat.le_of_ble_eq_true rfl⟩ rfl hl.1 (Nat.le_of_ble_eq_true rfl) ⟨Nat.le_refl _, Nat.le_refl _⟩ hP hS dX9_feeds_130) hS (fun H locs hP hS => ?_)
                exact r_reti C hP hS (rt_ow1 h) (rt_ow2 h) dX9_feeds_133
            · replace h := if_t c_ h
              refine lv_aload_n hx hb dX9_feeds_88 rfl (lv_at hl 1 rfl) ?_
              refine lv_aload_n hx hb dX9_feeds_89 rfl (lv_at hl 1 rfl) ?_
              refine r_getr C cf_9 hP sx_0 kx_0 5 (by decide) rfl tw_32 dX9_feeds_90 ?_
              refine lv_aload_n hx hb dX9_feeds_93 rfl (lv_at hl 1 rfl) ?_
              refine r_getr C cf_9 hP sx_0 kx_0 2 (by decide) rfl tw_23 dX9_feeds_94 ?_
              refine lv_iload_n hx hb dX9_feeds_97 rfl (lv_at hl 2 rfl) ?_
              obtain ⟨q_13, hq_13, h⟩ := bd_inv h
              refine end_i (run_v (As := [.ref (adG g 36), .int x1]) (rest := [.ref (adG g 0)]) C ca_X5_floorsThatFit (ctX5_floorsThatFit 36 iv_36 x1 hq_13) cf_5 sx_10 kx_10 tw_981 ⟨Nat.le_of_ble_eq_true rfl, Nat.le_of_ble_eq_true rfl⟩ rfl hl.1 (Nat.le_of_ble_eq_true rfl) ⟨Nat.le_refl _, Nat.le_refl _⟩ hP hS dX9_feeds_98) hS (fun H locs hP hS => ?_)
              obtain ⟨q_14, eq_14⟩ : ∃ z, z = fX9_unfound q_13.1 q_13.2 := ⟨_, rfl⟩
              replace h := un_at eq_14 h
              refine end_i (run_v (As := [.int q_13.2]) (rest := []) C ca_X9_unfound (ctX9_unfound q_13.2 eq_14.symm) cf_9 sx_0 kx_0 tw_179 ⟨Nat.le_of_ble_eq_true rfl, Nat.le_of_ble_eq_true rfl⟩ rfl hl.1 (Nat.le_of_ble_eq_true rfl) ⟨Nat.le_refl _, Nat.le_refl _⟩ hP hS dX9_feeds_101) hS (fun H locs hP hS => ?_)
              exact r_reti C hP hS (rt_ow1 h) (rt_ow2 h) dX9_feeds_104
          · replace h := if_f c_ h
            refine lv_aload_n hx hb dX9_feeds_61 rfl (lv_at hl 1 rfl) ?_
            refine lv_iload hx hb dX9_feeds_62 (lv_at hl 0 rfl) ?_
            obtain ⟨q_15, eq_15⟩ : ∃ z, z = fX9_found σ q_5 := ⟨_, rfl⟩
            replace h := un_at eq_15 h
            refine end_i (run_v (As := [.int q_5]) (rest := []) C ca_X9_found (ctX9_found q_5 eq_15.symm) cf_9 sx_0 kx_0 tw_170 ⟨Nat.le_of_ble_eq_true rfl, Nat.le_of_ble_eq_true rfl⟩ rfl hl.1 (Nat.le_of_ble_eq_true rfl) ⟨Nat.le_refl _, Nat.le_refl _⟩ hP hS dX9_feeds_64) hS (fun H locs hP hS => ?_)
            exact r_reti C hP hS (rt_ow1 h) (rt_ow2 h) dX9_feeds_67
        · replace h := if_t c_ h
          refine lv_ldc hx hb hown (hts _ tw_162) dX9_feeds_39 ?_
          exact r_reti C hP hS (rt_ow1 h) (rt_ow2 h) dX9_feeds_41

set_option maxRecDepth 100000 in
set_option maxHeartbeats 4000000 in
theorem ctX9_gives {l : Launch} {g : Gw} {σ : Sto} (x1 : Int32) (x2 : Int32) (x3 : Int32) (x4 : Int32) {Rz : (Sto × Int64)} (h : fX9_gives σ x1 x2 x3 x4 = some Rz) : MtG l yX9_gives cX9_gives 5 (some .long) 5 wkX g [.ref (adG g 0), .int x1, .int x2, .int x3, .int x4] σ (QlS wkX g Rz.1 Rz.2) := by
  refine mt_of (by decide) (Nat.le_of_ble_eq_true rfl) (fun p e s m below meth c ls H locs C hP hS hl => ?_)
  have C : Cx wkX g p s m _ meth c cX9_gives 5 RX9 (some .long) := C
  have hl : lv_has ls 5 [(0, .ref (adG g 0)), (1, .int x1), (2, .int x2), (3, .int x3), (4, .int x4)] := hl
  obtain ⟨hx, hb, hml, hown, hts, hr, hlk, hK, hZ⟩ := id C
  unfold fX9_gives at h
  refine lv_aload_n hx hb dX9_gives_0 rfl (lv_at hl 0 rfl) ?_
  refine lv_iload_n hx hb dX9_gives_1 rfl (lv_at hl 1 rfl) ?_
  refine end_i (run_v (As := [.int x1]) (rest := []) C ca_X9_isThing (ctX9_isThing x1 rfl) cf_9 sx_0 kx_0 tw_534 ⟨Nat.le_of_ble_eq_true rfl, Nat.le_of_ble_eq_true rfl⟩ rfl hl.1 (Nat.le_of_ble_eq_true rfl) ⟨Nat.le_refl _, Nat.le_refl _⟩ hP hS dX9_gives_2) hS (fun H locs hP hS => ?_)
  refine lv_if_eq (tgt := 38) hx hb dX9_gives_5 (by decide) (fun c_ => ?_) (fun c_ => ?_)
  · replace h := if_t c_ h
    refine lv_ldc2 hx hb hown (hts _ tw_1007) dX9_gives_38 ?_
    exact r_retl C hP hS (rt_ow1 h) (rt_ow2 h) dX9_gives_41
  · replace h := if_f c_ h
    refine lv_iload_n hx hb dX9_gives_8 rfl (lv_at hl 2 rfl) ?_
    refine lv_iconst (v := 0) hx hb dX9_gives_9 (by decide) ?_
    refine lv_bipush (v := 40) hx hb dX9_gives_10 (by decide) ?_
    refine end_i (run_s (As := [.int x2, .int (0 : Int32), .int (40 : Int32)]) (rest := []) C ca_X9_within (ctX9_within x2 (0 : Int32) (40 : Int32) rfl) tw_167 ⟨Nat.le_of_ble_eq_true rfl, Nat.le_of_ble_eq_true rfl⟩ rfl hl.1 (Nat.le_of_ble_eq_true rfl) ⟨Nat.le_refl _, Nat.le_refl _⟩ hP hS dX9_gives_12) hS (fun H locs hP hS => ?_)
    refine lv_if_eq (tgt := 38) hx hb dX9_gives_15 (by decide) (fun c_ => ?_) (fun c_ => ?_)
    · replace h := if_t c_ h
      refine lv_ldc2 hx hb hown (hts _ tw_1007) dX9_gives_38 ?_
      exact r_retl C hP hS (rt_ow1 h) (rt_ow2 h) dX9_gives_41
    · replace h := if_f c_ h
      refine lv_iload_n hx hb dX9_gives_18 rfl (lv_at hl 3 rfl) ?_
      refine lv_iconst (v := 0) hx hb dX9_gives_19 (by decide) ?_
      refine lv_bipush (v := 10) hx hb dX9_gives_20 (by decide) ?_
      refine end_i (run_s (As := [.int x3, .int (0 : Int32), .int (10 : Int32)]) (rest := []) C ca_X9_within (ctX9_within x3 (0 : Int32) (10 : Int32) rfl) tw_167 ⟨Nat.le_of_ble_eq_true rfl, Nat.le_of_ble_eq_true rfl⟩ rfl hl.1 (Nat.le_of_ble_eq_true rfl) ⟨Nat.le_refl _, Nat.le_refl _⟩ hP hS dX9_gives_22) hS (fun H locs hP hS => ?_)
      refine lv_if_eq (tgt := 38) hx hb dX9_gives_25 (by decide) (fun c_ => ?_) (fun c_ => ?_)
      · replace h := if_t c_ h
        refine lv_ldc2 hx hb hown (hts _ tw_1007) dX9_gives_38 ?_
        exact r_retl C hP hS (rt_ow1 h) (rt_ow2 h) dX9_gives_41
      · replace h := if_f c_ h
        refine lv_iload hx hb dX9_gives_28 (lv_at hl 4 rfl) ?_
        refine lv_iconst (v := 0) hx hb dX9_gives_30 (by decide) ?_
        refine lv_iconst (v := 1) hx hb dX9_gives_31 (by decide) ?_
        refine end_i (run_s (As := [.int x4, .int (0 : Int32), .int (1 : Int32)]) (rest := []) C ca_X9_within (ctX9_within x4 (0 : Int32) (1 : Int32) rfl) tw_167 ⟨Nat.le_of_ble_eq_true rfl, Nat.le_of_ble_eq_true rfl⟩ rfl hl.1 (Nat.le_of_ble_eq_true rfl) ⟨Nat.le_refl _, Nat.le_refl _⟩ hP hS dX9_gives_32) hS (fun H locs hP hS => ?_)
        refine lv_if_ne (tgt := 42) hx hb dX9_gives_35 (by decide) (fun c_ => ?_) (fun c_ => ?_)
        · replace h := if_f c_ h
          refine lv_aload_n hx hb dX9_gives_42 rfl (lv_at hl 0 rfl) ?_
          refine r_getr C cf_9 hP sx_0 kx_0 5 (by decide) rfl tw_32 dX9_gives_43 ?_
          refine lv_aload_n hx hb dX9_gives_46 rfl (lv_at hl 0 rfl) ?_
          refine r_getr C cf_9 hP sx_0 kx_0 2 (by decide) rfl tw_23 dX9_gives_47 ?_
          refine lv_iload_n hx hb dX9_gives_50 rfl (lv_at hl 1 rfl) ?_
          refine lv_iload_n hx hb dX9_gives_51 rfl (lv_at hl 2 rfl) ?_
          refine lv_iload_n hx hb dX9_gives_52 rfl (lv_at hl 3 rfl) ?_
          refine lv_iload hx hb dX9_gives_53 (lv_at hl 4 rfl) ?_
          obtain ⟨q_5, hq_5, h⟩ := bd_inv h
          refine end_l (run_v (As := [.ref (adG g 36), .int x1, .int x2, .int x3, .int x4]) (rest := []) C ca_X5_likelySpared (ctX5_likelySpared 36 iv_36 x1 x2 x3 x4 hq_5) cf_5 sx_10 kx_10 tw_1008 ⟨Nat.le_of_ble_eq_true rfl, Nat.le_of_ble_eq_true rfl⟩ rfl hl.1 (Nat.le_of_ble_eq_true rfl) ⟨Nat.le_refl _, Nat.le_refl _⟩ hP hS dX9_gives_55) hS (fun H locs hP hS => ?_)
          exact r_retl C hP hS (rt_ow1 h) (rt_ow2 h) dX9_gives_58
        · replace h := if_t c_ h
          refine lv_ldc2 hx hb hown (hts _ tw_1007) dX9_gives_38 ?_
          exact r_retl C hP hS (rt_ow1 h) (rt_ow2 h) dX9_gives_41

set_option maxRecDepth 100000 in
set_option maxHeartbeats 4000000 in
theorem ctX9_drawn {l : Launch} {g : Gw} {σ : Sto} (x1 : Int32) (x2 : Int32) (x3 : Int32) {Rz : (Sto × Int32)} (h : fX9_drawn σ x1 x2 x3 = some Rz) : MtG l yX9_drawn cX9_drawn 4 (some .int) 5 wkX g [.ref (adG g 0), .int x1, .int x2, .int x3] σ (QiS wkX g Rz.1 Rz.2) := by
  refine mt_of (by decide) (Nat.le_of_ble_eq_true rfl) (fun p e s m below meth c ls H locs C hP hS hl => ?_)
  have C : Cx wkX g p s m _ meth c cX9_drawn 4 RX9 (some .int) := C
  have hl : lv_has ls 4 [(0, .ref (adG g 0)), (1, .int x1), (2, .int x2), (3, .int x3)] := hl
  obtain ⟨hx, hb, hml, hown, hts, hr, hlk, hK, hZ⟩ := id C
  unfold fX9_drawn at h
  refine lv_aload_n hx hb dX9_drawn_0 rfl (lv_at hl 0 rfl) ?_
  refine end_i (run_v (As := []) (rest := []) C ca_X9_isStreet (ctX9_isStreet rfl) cf_9 sx_0 kx_0 tw_442 ⟨Nat.le_of_ble_eq_true rfl, Nat.le_of_ble_eq_true rfl⟩ rfl hl.1 (Nat.le_of_ble_eq_true rfl) ⟨Nat.le_refl _, Nat.le_refl _⟩ hP hS dX9_drawn_1) hS (fun H locs hP hS => ?_)
  refine lv_if_ne (tgt := 10) hx hb dX9_drawn_4 (by decide) (fun c_ => ?_) (fun c_ => ?_)
  · replace h := if_f c_ h
    refine lv_iload_n hx hb dX9_drawn_10 rfl (lv_at hl 1 rfl) ?_
    refine lv_iconst (v := 0) hx hb dX9_drawn_11 (by decide) ?_
    refine lv_bipush (v := 60) hx hb dX9_drawn_12 (by decide) ?_
    refine end_i (run_s (As := [.int x1, .int (0 : Int32), .int (60 : Int32)]) (rest := []) C ca_X9_within (ctX9_within x1 (0 : Int32) (60 : Int32) rfl) tw_167 ⟨Nat.le_of_ble_eq_true rfl, Nat.le_of_ble_eq_true rfl⟩ rfl hl.1 (Nat.le_of_ble_eq_true rfl) ⟨Nat.le_refl _, Nat.le_refl _⟩ hP hS dX9_drawn_14) hS (fun H locs hP hS => ?_)
    refine lv_if_eq (tgt := 40) hx hb dX9_drawn_17 (by decide) (fun c_ => ?_) (fun c_ => ?_)
    · replace h := if_t c_ h
      refine lv_ldc hx hb hown (hts _ tw_162) dX9_drawn_40 ?_
      exact r_reti C hP hS (rt_ow1 h) (rt_ow2 h) dX9_drawn_42
    · replace h := if_f c_ h
      refine lv_iload_n hx hb dX9_drawn_20 rfl (lv_at hl 2 rfl) ?_
      refine lv_iconst (v := 1) hx hb dX9_drawn_21 (by decide) ?_
      refine lv_ldcw hx hb hown (hts _ tw_1043) dX9_drawn_22 ?_
      refine end_i (run_s (As := [.int x2, .int (1 : Int32), .int (999999 : Int32)]) (rest := []) C ca_X9_within (ctX9_within x2 (1 : Int32) (999999 : Int32) rfl) tw_167 ⟨Nat.le_of_ble_eq_true rfl, Nat.le_of_ble_eq_true rfl⟩ rfl hl.1 (Nat.le_of_ble_eq_true rfl) ⟨Nat.le_refl _, Nat.le_refl _⟩ hP hS dX9_drawn_25) hS (fun H locs hP hS => ?_)
      refine lv_if_eq (tgt := 40) hx hb dX9_drawn_28 (by decide) (fun c_ => ?_) (fun c_ => ?_)
      · replace h := if_t c_ h
        refine lv_ldc hx hb hown (hts _ tw_162) dX9_drawn_40 ?_
        exact r_reti C hP hS (rt_ow1 h) (rt_ow2 h) dX9_drawn_42
      · replace h := if_f c_ h
        refine lv_iload_n hx hb dX9_drawn_31 rfl (lv_at hl 3 rfl) ?_
        refine lv_iconst (v := 0) hx hb dX9_drawn_32 (by decide) ?_
        refine lv_iconst (v := 1) hx hb dX9_drawn_33 (by decide) ?_
        refine end_i (run_s (As := [.int x3, .int (0 : Int32), .int (1 : Int32)]) (rest := []) C ca_X9_within (ctX9_within x3 (0 : Int32) (1 : Int32) rfl) tw_167 ⟨Nat.le_of_ble_eq_true rfl, Nat.le_of_ble_eq_true rfl⟩ rfl hl.1 (Nat.le_of_ble_eq_true rfl) ⟨Nat.le_refl _, Nat.le_refl _⟩ hP hS dX9_drawn_34) hS (fun H locs hP hS => ?_)
        refine lv_if_ne (tgt := 43) hx hb dX9_drawn_37 (by decide) (fun c_ => ?_) (fun c_ => ?_)
        · replace h := if_f c_ h
          refine lv_aload_n hx hb dX9_drawn_43 rfl (lv_at hl 0 rfl) ?_
          refine r_getr C cf_9 hP sx_0 kx_0 5 (by decide) rfl tw_32 dX9_drawn_44 ?_
          refine lv_aload_n hx hb dX9_drawn_47 rfl (lv_at hl 0 rfl) ?_
          refine r_getr C cf_9 hP sx_0 kx_0 2 (by decide) rfl tw_23 dX9_drawn_48 ?_
          refine lv_iload_n hx hb dX9_drawn_51 rfl (lv_at hl 1 rfl) ?_
          refine lv_iload_n hx hb dX9_drawn_52 rfl (lv_at hl 2 rfl) ?_
          refine lv_iload_n hx hb dX9_drawn_53 rfl (lv_at hl 3 rfl) ?_
          obtain ⟨q_5, hq_5, h⟩ := bd_inv h
          refine end_i (run_v (As := [.ref (adG g 36), .int x1, .int x2, .int x3]) (rest := []) C ca_X5_becameInYears (ctX5_becameInYears 36 iv_36 x1 x2 x3 hq_5) cf_5 sx_10 kx_10 tw_1044 ⟨Nat.le_of_ble_eq_true rfl, Nat.le_of_ble_eq_true rfl⟩ rfl hl.1 (Nat.le_of_ble_eq_true rfl) ⟨Nat.le_refl _, Nat.le_refl _⟩ hP hS dX9_drawn_54) hS (fun H locs hP hS => ?_)
          exact r_reti C hP hS (rt_ow1 h) (rt_ow2 h) dX9_drawn_57
        · replace h := if_t c_ h
          refine lv_ldc hx hb hown (hts _ tw_162) dX9_drawn_40 ?_
          exact r_reti C hP hS (rt_ow1 h) (rt_ow2 h) dX9_drawn_42
  · replace h := if_t c_ h
    refine lv_ldc hx hb hown (hts _ tw_426) dX9_drawn_7 ?_
    exact r_reti C hP hS (rt_ow1 h) (rt_ow2 h) dX9_drawn_9

set_option maxRecDepth 100000 in
set_option maxHeartbeats 4000000 in
theorem ctX9_image {l : Launch} {g : Gw} {σ : Sto} (x1 : Int32) {Rz : (Sto × Int32)} (h : fX9_image σ x1 = some Rz) : MtG l yX9_image cX9_image 2 (some .int) 3 wkX g [.ref (adG g 0), .int x1] σ (QiS wkX g Rz.1 Rz.2) := by
  refine mt_of (by decide) (Nat.le_of_ble_eq_true rfl) (fun p e s m below meth c ls H locs C hP hS hl => ?_)
  have C : Cx wkX g p s m _ meth c cX9_image 2 RX9 (some .int) := C
  have hl : lv_has ls 2 [(0, .ref (adG g 0)), (1, .int x1)] := hl
  obtain ⟨hx, hb, hml, hown, hts, hr, hlk, hK, hZ⟩ := id C
  unfold fX9_image at h
  refine lv_iload_n hx hb dX9_image_0 rfl (lv_at hl 1 rfl) ?_
  refine lv_iconst (v := 0) hx hb dX9_image_1 (by decide) ?_
  refine lv_iconst (v := 1) hx hb dX9_image_2 (by decide) ?_
  refine end_i (run_s (As := [.int x1, .int (0 : Int32), .int (1 : Int32)]) (rest := []) C ca_X9_within (ctX9_within x1 (0 : Int32) (1 : Int32) rfl) tw_167 ⟨Nat.le_of_ble_eq_true rfl, Nat.le_of_ble_eq_true rfl⟩ rfl hl.1 (Nat.le_of_ble_eq_true rfl) ⟨Nat.le_refl _, Nat.le_refl _⟩ hP hS dX9_image_3) hS (fun H locs hP hS => ?_)
  refine lv_if_ne (tgt := 12) hx hb dX9_image_6 (by decide) (fun c_ => ?_) (fun c_ => ?_)
  · replace h := if_f c_ h
    refine lv_aload_n hx hb dX9_image_12 rfl (lv_at hl 0 rfl) ?_
    refine end_i (run_v (As := []) (rest := []) C ca_X9_isStreet (ctX9_isStreet rfl) cf_9 sx_0 kx_0 tw_442 ⟨Nat.le_of_ble_eq_true rfl, Nat.le_of_ble_eq_true rfl⟩ rfl hl.1 (Nat.le_of_ble_eq_true rfl) ⟨Nat.le_refl _, Nat.le_refl _⟩ hP hS dX9_image_13) hS (fun H locs hP hS => ?_)
    refine lv_if_ne (tgt := 22) hx hb dX9_image_16 (by decide) (fun c_ => ?_) (fun c_ => ?_)
    · replace h := if_f c_ h
      refine lv_aload_n hx hb dX9_image_22 rfl (lv_at hl 0 rfl) ?_
      refine r_getr C cf_9 hP sx_0 kx_0 4 (by decide) rfl tw_28 dX9_image_23 ?_
      refine lv_iload_n hx hb dX9_image_26 rfl (lv_at hl 1 rfl) ?_
      obtain ⟨g_3, h⟩ := gd_inv h
      refine r_aald C hP sx_9 kx_9 (ty := .object "LavaLodger$Village") rfl rfl g_3 dX9_image_27 ?_
      refine lv_aload_n hx hb dX9_image_28 rfl (lv_at hl 0 rfl) ?_
      refine r_getr C cf_9 hP sx_0 kx_0 2 (by decide) rfl tw_23 dX9_image_29 ?_
      obtain ⟨q_4, eq_4⟩ : ∃ z, z = fX8_become σ (imV x1.toNatClampNeg) 36 := ⟨_, rfl⟩
      replace h := un_at eq_4 h
      refine end_v (run_v (As := [.ref (adG g 36)]) (rest := []) C ca_X8_become (ctX8_become (imV x1.toNatClampNeg) (iv_im g_3) 36 iv_36 eq_4.symm) cf_8 (sv_0 (iv_im g_3)) (kv_0 (iv_im g_3)) tw_353 ⟨Nat.le_of_ble_eq_true rfl, Nat.le_of_ble_eq_true rfl⟩ rfl hl.1 (Nat.le_of_ble_eq_true rfl) ⟨Nat.le_refl _, Nat.le_refl _⟩ hP hS dX9_image_32) hS (fun H locs hP hS => ?_)
      refine lv_iconst (v := 1) hx hb dX9_image_35 (by decide) ?_
      exact r_reti C hP hS (rt_ow1 h) (rt_ow2 h) dX9_image_36
    · replace h := if_t c_ h
      refine lv_ldc hx hb hown (hts _ tw_426) dX9_image_19 ?_
      exact r_reti C hP hS (rt_ow1 h) (rt_ow2 h) dX9_image_21
  · replace h := if_t c_ h
    refine lv_ldc hx hb hown (hts _ tw_162) dX9_image_9 ?_
    exact r_reti C hP hS (rt_ow1 h) (rt_ow2 h) dX9_image_11

set_option maxRecDepth 100000 in
set_option maxHeartbeats 4000000 in
theorem ctX9_restore {l : Launch} {g : Gw} {σ : Sto} (x1 : Int32) {Rz : (Sto × Int32)} (h : fX9_restore σ x1 = some Rz) : MtG l yX9_restore cX9_restore 2 (some .int) 3 wkX g [.ref (adG g 0), .int x1] σ (QiS wkX g Rz.1 Rz.2) := by
  refine mt_of (by decide) (Nat.le_of_ble_eq_true rfl) (fun p e s m below meth c ls H locs C hP hS hl => ?_)
  have C : Cx wkX g p s m _ meth c cX9_restore 2 RX9 (some .int) := C
  have hl : lv_has ls 2 [(0, .ref (adG g 0)), (1, .int x1)] := hl
  obtain ⟨hx, hb, hml, hown, hts, hr, hlk, hK, hZ⟩ := id C
  unfold fX9_restore at h
  refine lv_iload_n hx hb dX9_restore_0 rfl (lv_at hl 1 rfl) ?_
  refine lv_iconst (v := 0) hx hb dX9_restore_1 (by decide) ?_
  refine lv_iconst (v := 1) hx hb dX9_restore_2 (by decide) ?_
  refine end_i (run_s (As := [.int x1, .int (0 : Int32), .int (1 : Int32)]) (rest := []) C ca_X9_within (ctX9_within x1 (0 : Int32) (1 : Int32) rfl) tw_167 ⟨Nat.le_of_ble_eq_true rfl, Nat.le_of_ble_eq_true rfl⟩ rfl hl.1 (Nat.le_of_ble_eq_true rfl) ⟨Nat.le_refl _, Nat.le_refl _⟩ hP hS dX9_restore_3) hS (fun H locs hP hS => ?_)
  refine lv_if_ne (tgt := 12) hx hb dX9_restore_6 (by decide) (fun c_ => ?_) (fun c_ => ?_)
  · replace h := if_f c_ h
    refine lv_aload_n hx hb dX9_restore_12 rfl (lv_at hl 0 rfl) ?_
    refine r_getr C cf_9 hP sx_0 kx_0 4 (by decide) rfl tw_28 dX9_restore_13 ?_
    refine lv_iload_n hx hb dX9_restore_16 rfl (lv_at hl 1 rfl) ?_
    obtain ⟨g_2, h⟩ := gd_inv h
    refine r_aald C hP sx_9 kx_9 (ty := .object "LavaLodger$Village") rfl rfl g_2 dX9_restore_17 ?_
    refine r_geti C cf_8 hP (sv_0 (iv_im g_2)) (kv_0 (iv_im g_2)) 0 (by decide) rfl tw_446 dX9_restore_18 ?_
    refine lv_if_ne (tgt := 27) hx hb dX9_restore_21 (by decide) (fun c_ => ?_) (fun c_ => ?_)
    · replace h := if_f c_ h
      refine lv_aload_n hx hb dX9_restore_27 rfl (lv_at hl 0 rfl) ?_
      refine r_getr C cf_9 hP sx_0 kx_0 2 (by decide) rfl tw_23 dX9_restore_28 ?_
      refine lv_aload_n hx hb dX9_restore_31 rfl (lv_at hl 0 rfl) ?_
      refine r_getr C cf_9 hP sx_0 kx_0 4 (by decide) rfl tw_28 dX9_restore_32 ?_
      refine lv_iload_n hx hb dX9_restore_35 rfl (lv_at hl 1 rfl) ?_
      refine r_aald C hP sx_9 kx_9 (ty := .object "LavaLodger$Village") rfl rfl g_2 dX9_restore_36 ?_
      obtain ⟨q_3, eq_3⟩ : ∃ z, z = fX8_become σ 36 (imV x1.toNatClampNeg) := ⟨_, rfl⟩
      replace h := un_at eq_3 h
      refine end_v (run_v (As := [.ref (adG g (imV x1.toNatClampNeg))]) (rest := []) C ca_X8_become (ctX8_become 36 iv_36 (imV x1.toNatClampNeg) (iv_im g_2) eq_3.symm) cf_8 (sv_0 iv_36) (kv_0 iv_36) tw_353 ⟨Nat.le_of_ble_eq_true rfl, Nat.le_of_ble_eq_true rfl⟩ rfl hl.1 (Nat.le_of_ble_eq_true rfl) ⟨Nat.le_refl _, Nat.le_refl _⟩ hP hS dX9_restore_37) hS (fun H locs hP hS => ?_)
      refine lv_aload_n hx hb dX9_restore_40 rfl (lv_at hl 0 rfl) ?_
      refine r_getr C cf_9 hP sx_0 kx_0 3 (by decide) rfl tw_27 dX9_restore_41 ?_
      obtain ⟨q_4, eq_4⟩ : ∃ z, z = fX3_forget q_3 := ⟨_, rfl⟩
      replace h := un_at eq_4 h
      refine end_v (run_v (As := []) (rest := []) C ca_X3_forget (ctX3_forget eq_4.symm) cf_3 sx_7 kx_7 tw_358 ⟨Nat.le_of_ble_eq_true rfl, Nat.le_of_ble_eq_true rfl⟩ rfl hl.1 (Nat.le_of_ble_eq_true rfl) ⟨Nat.le_refl _, Nat.le_refl _⟩ hP hS dX9_restore_44) hS (fun H locs hP hS => ?_)
      refine lv_iconst (v := 1) hx hb dX9_restore_47 (by decide) ?_
      exact r_reti C hP hS (rt_ow1 h) (rt_ow2 h) dX9_restore_48
    · replace h := if_t c_ h
      refine lv_ldc hx hb hown (hts _ tw_426) dX9_restore_24 ?_
      exact r_reti C hP hS (rt_ow1 h) (rt_ow2 h) dX9_restore_26
  · replace h := if_t c_ h
    refine lv_ldc hx hb hown (hts _ tw_162) dX9_restore_9 ?_
    exact r_reti C hP hS (rt_ow1 h) (rt_ow2 h) dX9_restore_11

set_option maxRecDepth 100000 in
set_option maxHeartbeats 4000000 in
theorem ctX9_kind {l : Launch} {g : Gw} {σ : Sto} (x1 : Int32) {Rz : Int32} (h : fX9_kind σ x1 = some Rz) : MtG l yX9_kind cX9_kind 2 (some .int) 1 wkX g [.ref (adG g 0), .int x1] σ (QiS wkX g σ Rz) := by
  refine mt_of (by decide) (Nat.le_of_ble_eq_true rfl) (fun p e s m below meth c ls H locs C hP hS hl => ?_)
  have C : Cx wkX g p s m _ meth c cX9_kind 2 RX9 (some .int) := C
  have hl : lv_has ls 2 [(0, .ref (adG g 0)), (1, .int x1)] := hl
  obtain ⟨hx, hb, hml, hown, hts, hr, hlk, hK, hZ⟩ := id C
  unfold fX9_kind at h
  refine lv_aload_n hx hb dX9_kind_0 rfl (lv_at hl 0 rfl) ?_
  refine lv_iload_n hx hb dX9_kind_1 rfl (lv_at hl 1 rfl) ?_
  refine end_i (run_v (As := [.int x1]) (rest := []) C ca_X9_isThing (ctX9_isThing x1 rfl) cf_9 sx_0 kx_0 tw_534 ⟨Nat.le_of_ble_eq_true rfl, Nat.le_of_ble_eq_true rfl⟩ rfl hl.1 (Nat.le_of_ble_eq_true rfl) ⟨Nat.le_refl _, Nat.le_refl _⟩ hP hS dX9_kind_2) hS (fun H locs hP hS => ?_)
  refine lv_if_eq (tgt := 20) hx hb dX9_kind_5 (by decide) (fun c_ => ?_) (fun c_ => ?_)
  · replace h := if_t c_ h
    refine lv_ldc hx hb hown (hts _ tw_162) dX9_kind_20 ?_
    exact r_reti C hP hS rfl (rt_o h) dX9_kind_22
  · replace h := if_f c_ h
    refine lv_aload_n hx hb dX9_kind_8 rfl (lv_at hl 0 rfl) ?_
    refine r_getr C cf_9 hP sx_0 kx_0 2 (by decide) rfl tw_23 dX9_kind_9 ?_
    refine r_getr C cf_8 hP (sv_0 iv_36) (kv_0 iv_36) 8 (by decide) rfl tw_1085 dX9_kind_12 ?_
    refine lv_iload_n hx hb dX9_kind_15 rfl (lv_at hl 1 rfl) ?_
    obtain ⟨g_2, h⟩ := gd_inv h
    refine r_iald C hP (sv_4 iv_36) (kv_4 iv_36) rfl g_2 dX9_kind_16 ?_
    refine lv_goto (tgt := 22) hx hb dX9_kind_17 (by decide) ?_
    exact r_reti C hP hS rfl (rt_o h) dX9_kind_22

set_option maxRecDepth 100000 in
set_option maxHeartbeats 4000000 in
theorem wfX9_isOfKind_L4 {l : Launch} {g : Gw} {p : Program} {e : Env} {s : State} {m : MethodId} {args : Array Value} {below : List Frame} {meth : Method} {c : Code} {σ : Sto} (C : Cx wkX g p s m args meth c cX9_isOfKind 4 RX9 (some .boolean)) {Rz : Int32} : ∀ (n : Nat) (x1 : Int32) (x2 : Int32) (x3 : Int32) (H : Heap) (locs : List Loc) (ls : Array Slot), fX9_isOfKind_L4 σ n x1 x2 x3 = some Rz → wS wkX g σ H → va_S (AS wkX g) s.heap H locs → lv_has ls 4 [(1, .int x1), (2, .int x2), (3, .int x3)] → W p l e (rmS 0) s m args below meth c H locs 0 0 (MQ below (QiS wkX g σ Rz) args s 0 0 (AS wkX g)) (F0 m 4 ls []) := by
  intro n
  induction n with
  | zero =>
    intro x1 x2 x3 H locs ls h
    cases h
  | succ n ih =>
    intro x1 x2 x3 H locs ls h hP hS hl
    obtain ⟨hx, hb, hml, hown, hts, hr, hlk, hK, hZ⟩ := id C
    rw [fX9_isOfKind_L4] at h
    refine lv_iload_n hx hb dX9_isOfKind_4 rfl (lv_at hl 2 rfl) ?_
    refine lv_bipush (v := 6) hx hb dX9_isOfKind_5 (by decide) ?_
    refine lv_icmp_ge (tgt := 33) hx hb dX9_isOfKind_7 (by decide) (fun c_ => ?_) (fun c_ => ?_)
    · replace h := if_t c_ h
      refine lv_iconst (v := 0) hx hb dX9_isOfKind_33 (by decide) ?_
      exact r_retz C hP hS rfl (rt_o h) rfl dX9_isOfKind_34
    · replace h := if_f c_ h
      refine lv_iload_n hx hb dX9_isOfKind_10 rfl (lv_at hl 1 rfl) ?_
      refine lv_if_lt (tgt := 33) hx hb dX9_isOfKind_11 (by decide) (fun c_ => ?_) (fun c_ => ?_)
      · replace h := if_t c_ h
        refine lv_iconst (v := 0) hx hb dX9_isOfKind_33 (by decide) ?_
        exact r_retz C hP hS rfl (rt_o h) rfl dX9_isOfKind_34
      · replace h := if_f c_ h
        refine lv_iload_n hx hb dX9_isOfKind_14 rfl (lv_at hl 1 rfl) ?_
        refine lv_iload_n hx hb dX9_isOfKind_15 rfl (lv_at hl 0 rfl) ?_
        refine lv_icmp_ne (tgt := 21) hx hb dX9_isOfKind_16 (by decide) (fun c_ => ?_) (fun c_ => ?_)
        · replace h := if_f c_ h
          refine r_gets C hS 0 rfl tw_1097 dX9_isOfKind_21 ?_
          refine lv_iload_n hx hb dX9_isOfKind_24 rfl (lv_at hl 1 rfl) ?_
          obtain ⟨g_1, h⟩ := gd_inv h
          refine r_tabi C hS 0 rfl rfl g_1 dX9_isOfKind_25 ?_
          refine lv_topi (fun x_2 ex_2 => ?_)
          replace h := un_at ex_2 h
          refine lv_istore_n (lv' := [(2, .int x_2), (1, .int x1), (3, .int x3)]) hx hb dX9_isOfKind_26 rfl hl (by decide) rfl (fun ls hl => ?_)
          obtain ⟨x_3, ex_3⟩ : ∃ y : Int32, y = x3 + (1 : Int32) := ⟨_, rfl⟩
          replace h := un_at ex_3 h
          refine lv_iinc (v := x_3) (lv' := [(3, .int x_3), (2, .int x_2), (1, .int x1)]) hx hb dX9_isOfKind_27 hl (k := 2) rfl (by rw [ex_3]; rfl) (by decide) rfl (fun ls hl => ?_)
          refine lv_goto (tgt := 4) hx hb dX9_isOfKind_30 (by decide) ?_
          exact ih x1 x_2 x_3 H locs ls h hP hS (lv_sub hl [2, 1, 0] rfl)
        · replace h := if_t c_ h
          refine lv_iconst (v := 1) hx hb dX9_isOfKind_19 (by decide) ?_
          exact r_retz C hP hS rfl (rt_o h) rfl dX9_isOfKind_20

set_option maxRecDepth 100000 in
set_option maxHeartbeats 4000000 in
theorem ctX9_isOfKind {l : Launch} {g : Gw} {σ : Sto} (x0 : Int32) (x1 : Int32) {Rz : Int32} (h : fX9_isOfKind σ x0 x1 = some Rz) : MtG l yX9_isOfKind cX9_isOfKind 4 (some .boolean) 0 wkX g [.int x0, .int x1] σ (QiS wkX g σ Rz) := by
  refine mt_of (by decide) (Nat.le_of_ble_eq_true rfl) (fun p e s m below meth c ls H locs C hP hS hl => ?_)
  have C : Cx wkX g p s m _ meth c cX9_isOfKind 4 RX9 (some .boolean) := C
  have hl : lv_has ls 4 [(0, .int x0), (1, .int x1)] := hl
  obtain ⟨hx, hb, hml, hown, hts, hr, hlk, hK, hZ⟩ := id C
  unfold fX9_isOfKind at h
  refine lv_iload_n hx hb dX9_isOfKind_0 rfl (lv_at hl 0 rfl) ?_
  refine lv_istore_n (lv' := [(2, .int x0), (0, .int x0), (1, .int x1)]) hx hb dX9_isOfKind_1 rfl hl (by decide) rfl (fun ls hl => ?_)
  refine lv_iconst (v := 0) hx hb dX9_isOfKind_2 (by decide) ?_
  refine lv_istore_n (lv' := [(3, .int (0 : Int32)), (2, .int x0), (0, .int x0), (1, .int x1)]) hx hb dX9_isOfKind_3 rfl hl (by decide) rfl (fun ls hl => ?_)
  exact wfX9_isOfKind_L4 C fu x1 x0 (0 : Int32) H locs ls h hP hS (lv_sub hl [3, 1, 0] rfl)

set_option maxRecDepth 100000 in
set_option maxHeartbeats 4000000 in
theorem ctX9_as {l : Launch} {g : Gw} {σ : Sto} (x1 : Int32) (x2 : Int32) {Rz : (Sto × Int32)} (h : fX9_as σ x1 x2 = some Rz) : MtG l yX9_as cX9_as 3 (some .int) 1 wkX g [.ref (adG g 0), .int x1, .int x2] σ (QiS wkX g Rz.1 Rz.2) := by
  refine mt_of (by decide) (Nat.le_of_ble_eq_true rfl) (fun p e s m below meth c ls H locs C hP hS hl => ?_)
  have C : Cx wkX g p s m _ meth c cX9_as 3 RX9 (some .int) := C
  have hl : lv_has ls 3 [(0, .ref (adG g 0)), (1, .int x1), (2, .int x2)] := hl
  obtain ⟨hx, hb, hml, hown, hts, hr, hlk, hK, hZ⟩ := id C
  unfold fX9_as at h
  refine lv_aload_n hx hb dX9_as_0 rfl (lv_at hl 0 rfl) ?_
  refine lv_iload_n hx hb dX9_as_1 rfl (lv_at hl 1 rfl) ?_
  refine end_i (run_v (As := [.int x1]) (rest := []) C ca_X9_isThing (ctX9_isThing x1 rfl) cf_9 sx_0 kx_0 tw_534 ⟨Nat.le_of_ble_eq_true rfl, Nat.le_of_ble_eq_true rfl⟩ rfl hl.1 (Nat.le_of_ble_eq_true rfl) ⟨Nat.le_refl _, Nat.le_refl _⟩ hP hS dX9_as_2) hS (fun H locs hP hS => ?_)
  refine lv_if_eq (tgt := 17) hx hb dX9_as_5 (by decide) (fun c_ => ?_) (fun c_ => ?_)
  · replace h := if_t c_ h
    refine lv_ldc hx hb hown (hts _ tw_162) dX9_as_17 ?_
    exact r_reti C hP hS (rt_ow1 h) (rt_ow2 h) dX9_as_19
  · replace h := if_f c_ h
    refine lv_iload_n hx hb dX9_as_8 rfl (lv_at hl 2 rfl) ?_
    refine lv_iconst (v := 0) hx hb dX9_as_9 (by decide) ?_
    refine lv_iconst (v := 5) hx hb dX9_as_10 (by decide) ?_
    refine end_i (run_s (As := [.int x2, .int (0 : Int32), .int (5 : Int32)]) (rest := []) C ca_X9_within (ctX9_within x2 (0 : Int32) (5 : Int32) rfl) tw_167 ⟨Nat.le_of_ble_eq_true rfl, Nat.le_of_ble_eq_true rfl⟩ rfl hl.1 (Nat.le_of_ble_eq_true rfl) ⟨Nat.le_refl _, Nat.le_refl _⟩ hP hS dX9_as_11) hS (fun H locs hP hS => ?_)
    refine lv_if_ne (tgt := 20) hx hb dX9_as_14 (by decide) (fun c_ => ?_) (fun c_ => ?_)
    · replace h := if_f c_ h
      refine lv_aload_n hx hb dX9_as_20 rfl (lv_at hl 0 rfl) ?_
      refine r_getr C cf_9 hP sx_0 kx_0 2 (by decide) rfl tw_23 dX9_as_21 ?_
      refine r_getr C cf_8 hP (sv_0 iv_36) (kv_0 iv_36) 8 (by decide) rfl tw_1085 dX9_as_24 ?_
      refine lv_iload_n hx hb dX9_as_27 rfl (lv_at hl 1 rfl) ?_
      obtain ⟨g_3, h⟩ := gd_inv h
      refine r_iald C hP (sv_4 iv_36) (kv_4 iv_36) rfl g_3 dX9_as_28 ?_
      refine lv_iload_n hx hb dX9_as_29 rfl (lv_at hl 2 rfl) ?_
      obtain ⟨q_4, hq_4, h⟩ := bd_inv h
      refine end_i (run_s (As := [.int (σ 40 x1.toNatClampNeg), .int x2]) (rest := []) C ca_X9_isOfKind (ctX9_isOfKind (σ 40 x1.toNatClampNeg) x2 hq_4) tw_1094 ⟨Nat.le_of_ble_eq_true rfl, Nat.le_of_ble_eq_true rfl⟩ rfl hl.1 (Nat.le_of_ble_eq_true rfl) ⟨Nat.le_refl _, Nat.le_refl _⟩ hP hS dX9_as_30) hS (fun H locs hP hS => ?_)
      refine lv_if_eq (tgt := 44) hx hb dX9_as_33 (by decide) (fun c_ => ?_) (fun c_ => ?_)
      · replace h := if_t c_ h
        refine lv_aload_n hx hb dX9_as_44 rfl (lv_at hl 0 rfl) ?_
        refine lv_iconst (v := 3) hx hb dX9_as_45 (by decide) ?_
        obtain ⟨q_5, eq_5⟩ : ∃ z, z = fX9_found σ (3 : Int32) := ⟨_, rfl⟩
        replace h := un_at eq_5 h
        refine end_i (run_v (As := [.int (3 : Int32)]) (rest := []) C ca_X9_found (ctX9_found (3 : Int32) eq_5.symm) cf_9 sx_0 kx_0 tw_170 ⟨Nat.le_of_ble_eq_true rfl, Nat.le_of_ble_eq_true rfl⟩ rfl hl.1 (Nat.le_of_ble_eq_true rfl) ⟨Nat.le_refl _, Nat.le_refl _⟩ hP hS dX9_as_46) hS (fun H locs hP hS => ?_)
        exact r_reti C hP hS (rt_ow1 h) (rt_ow2 h) dX9_as_49
      · replace h := if_f c_ h
        refine lv_aload_n hx hb dX9_as_36 rfl (lv_at hl 0 rfl) ?_
        refine lv_iload_n hx hb dX9_as_37 rfl (lv_at hl 1 rfl) ?_
        obtain ⟨q_6, eq_6⟩ : ∃ z, z = fX9_unfound σ x1 := ⟨_, rfl⟩
        replace h := un_at eq_6 h
        refine end_i (run_v (As := [.int x1]) (rest := []) C ca_X9_unfound (ctX9_unfound x1 eq_6.symm) cf_9 sx_0 kx_0 tw_179 ⟨Nat.le_of_ble_eq_true rfl, Nat.le_of_ble_eq_true rfl⟩ rfl hl.1 (Nat.le_of_ble_eq_true rfl) ⟨Nat.le_refl _, Nat.le_refl _⟩ hP hS dX9_as_38) hS (fun H locs hP hS => ?_)
        refine lv_goto (tgt := 49) hx hb dX9_as_41 (by decide) ?_
        exact r_reti C hP hS (rt_ow1 h) (rt_ow2 h) dX9_as_49
    · replace h := if_t c_ h
      refine lv_ldc hx hb hown (hts _ tw_162) dX9_as_17 ?_
      exact r_reti C hP hS (rt_ow1 h) (rt_ow2 h) dX9_as_19

set_option maxRecDepth 100000 in
set_option maxHeartbeats 4000000 in
theorem ctX9_ask {l : Launch} {g : Gw} {σ : Sto} (x1 : Int32) (x2 : Int32) {Rz : (Sto × Int32)} (h : fX9_ask σ x1 x2 = some Rz) : MtG l yX9_ask cX9_ask 3 (some .int) 38 wkX g [.ref (adG g 0), .int x1, .int x2] σ (QiS wkX g Rz.1 Rz.2) := by
  refine mt_of (by decide) (Nat.le_of_ble_eq_true rfl) (fun p e s m below meth c ls H locs C hP hS hl => ?_)
  have C : Cx wkX g p s m _ meth c cX9_ask 3 RX9 (some .int) := C
  have hl : lv_has ls 3 [(0, .ref (adG g 0)), (1, .int x1), (2, .int x2)] := hl
  obtain ⟨hx, hb, hml, hown, hts, hr, hlk, hK, hZ⟩ := id C
  unfold fX9_ask at h
  refine lv_aload_n hx hb dX9_ask_0 rfl (lv_at hl 0 rfl) ?_
  refine lv_iload_n hx hb dX9_ask_1 rfl (lv_at hl 1 rfl) ?_
  refine end_i (run_v (As := [.int x1]) (rest := []) C ca_X9_isThing (ctX9_isThing x1 rfl) cf_9 sx_0 kx_0 tw_534 ⟨Nat.le_of_ble_eq_true rfl, Nat.le_of_ble_eq_true rfl⟩ rfl hl.1 (Nat.le_of_ble_eq_true rfl) ⟨Nat.le_refl _, Nat.le_refl _⟩ hP hS dX9_ask_2) hS (fun H locs hP hS => ?_)
  refine lv_if_eq (tgt := 17) hx hb dX9_ask_5 (by decide) (fun c_ => ?_) (fun c_ => ?_)
  · replace h := if_t c_ h
    refine lv_ldc hx hb hown (hts _ tw_162) dX9_ask_17 ?_
    exact r_reti C hP hS (rt_ow1 h) (rt_ow2 h) dX9_ask_19
  · replace h := if_f c_ h
    refine lv_iload_n hx hb dX9_ask_8 rfl (lv_at hl 2 rfl) ?_
    refine lv_iconst (v := 0) hx hb dX9_ask_9 (by decide) ?_
    refine lv_iconst (v := 1) hx hb dX9_ask_10 (by decide) ?_
    refine end_i (run_s (As := [.int x2, .int (0 : Int32), .int (1 : Int32)]) (rest := []) C ca_X9_within (ctX9_within x2 (0 : Int32) (1 : Int32) rfl) tw_167 ⟨Nat.le_of_ble_eq_true rfl, Nat.le_of_ble_eq_true rfl⟩ rfl hl.1 (Nat.le_of_ble_eq_true rfl) ⟨Nat.le_refl _, Nat.le_refl _⟩ hP hS dX9_ask_11) hS (fun H locs hP hS => ?_)
    refine lv_if_ne (tgt := 20) hx hb dX9_ask_14 (by decide) (fun c_ => ?_) (fun c_ => ?_)
    · replace h := if_f c_ h
      refine lv_aload_n hx hb dX9_ask_20 rfl (lv_at hl 0 rfl) ?_
      refine r_getr C cf_9 hP sx_0 kx_0 8 (by decide) rfl tw_44 dX9_ask_21 ?_
      refine lv_aload_n hx hb dX9_ask_24 rfl (lv_at hl 0 rfl) ?_
      refine r_getr C cf_9 hP sx_0 kx_0 2 (by decide) rfl tw_23 dX9_ask_25 ?_
      refine lv_iload_n hx hb dX9_ask_28 rfl (lv_at hl 1 rfl) ?_
      refine lv_iload_n hx hb dX9_ask_29 rfl (lv_at hl 2 rfl) ?_
      obtain ⟨q_3, hq_3, h⟩ := bd_inv h
      refine end_i (run_v (As := [.ref (adG g 36), .int x1, .int x2]) (rest := []) C ca_X0_answer (ctX0_answer 36 iv_36 x1 x2 hq_3) cf_0 sx_26 kx_26 tw_1110 ⟨Nat.le_of_ble_eq_true rfl, Nat.le_of_ble_eq_true rfl⟩ rfl hl.1 (Nat.le_of_ble_eq_true rfl) ⟨Nat.le_refl _, Nat.le_refl _⟩ hP hS dX9_ask_30) hS (fun H locs hP hS => ?_)
      exact r_reti C hP hS (rt_ow1 h) (rt_ow2 h) dX9_ask_33
    · replace h := if_t c_ h
      refine lv_ldc hx hb hown (hts _ tw_162) dX9_ask_17 ?_
      exact r_reti C hP hS (rt_ow1 h) (rt_ow2 h) dX9_ask_19

set_option maxRecDepth 100000 in
set_option maxHeartbeats 4000000 in
theorem ctX9_trace {l : Launch} {g : Gw} {σ : Sto} (x1 : Int32) {Rz : Int32} (h : fX9_trace σ x1 = some Rz) : MtG l yX9_trace cX9_trace 2 (some .int) 0 wkX g [.ref (adG g 0), .int x1] σ (QiS wkX g σ Rz) := by
  refine mt_of (by decide) (Nat.le_of_ble_eq_true rfl) (fun p e s m below meth c ls H locs C hP hS hl => ?_)
  have C : Cx wkX g p s m _ meth c cX9_trace 2 RX9 (some .int) := C
  have hl : lv_has ls 2 [(0, .ref (adG g 0)), (1, .int x1)] := hl
  obtain ⟨hx, hb, hml, hown, hts, hr, hlk, hK, hZ⟩ := id C
  unfold fX9_trace at h
  refine lv_iload_n hx hb dX9_trace_0 rfl (lv_at hl 1 rfl) ?_
  refine lv_if_lt (tgt := 27) hx hb dX9_trace_1 (by decide) (fun c_ => ?_) (fun c_ => ?_)
  · replace h := if_t c_ h
    refine lv_ldcw hx hb hown (hts _ tw_980) dX9_trace_27 ?_
    exact r_reti C hP hS rfl (rt_o h) dX9_trace_30
  · replace h := if_f c_ h
    refine lv_iload_n hx hb dX9_trace_4 rfl (lv_at hl 1 rfl) ?_
    refine lv_aload_n hx hb dX9_trace_5 rfl (lv_at hl 0 rfl) ?_
    refine r_getr C cf_9 hP sx_0 kx_0 8 (by decide) rfl tw_44 dX9_trace_6 ?_
    refine r_geti C cf_0 hP sx_26 kx_26 0 (by decide) rfl tw_1164 dX9_trace_9 ?_
    refine lv_icmp_ge (tgt := 27) hx hb dX9_trace_12 (by decide) (fun c_ => ?_) (fun c_ => ?_)
    · replace h := if_t c_ h
      refine lv_ldcw hx hb hown (hts _ tw_980) dX9_trace_27 ?_
      exact r_reti C hP hS rfl (rt_o h) dX9_trace_30
    · replace h := if_f c_ h
      refine lv_aload_n hx hb dX9_trace_15 rfl (lv_at hl 0 rfl) ?_
      refine r_getr C cf_9 hP sx_0 kx_0 8 (by decide) rfl tw_44 dX9_trace_16 ?_
      refine r_getr C cf_0 hP sx_26 kx_26 1 (by decide) rfl tw_1165 dX9_trace_19 ?_
      refine lv_iload_n hx hb dX9_trace_22 rfl (lv_at hl 1 rfl) ?_
      obtain ⟨g_1, h⟩ := gd_inv h
      refine r_iald C hP sx_27 kx_27 rfl g_1 dX9_trace_23 ?_
      refine lv_goto (tgt := 30) hx hb dX9_trace_24 (by decide) ?_
      exact r_reti C hP hS rfl (rt_o h) dX9_trace_30

set_option maxRecDepth 100000 in
set_option maxHeartbeats 4000000 in
theorem ctX9_count {l : Launch} {g : Gw} {σ : Sto} (x1 : Int32) {Rz : Int32} (h : fX9_count σ x1 = some Rz) : MtG l yX9_count cX9_count 2 (some .int) 2 wkX g [.ref (adG g 0), .int x1] σ (QiS wkX g σ Rz) := by
  refine mt_of (by decide) (Nat.le_of_ble_eq_true rfl) (fun p e s m below meth c ls H locs C hP hS hl => ?_)
  have C : Cx wkX g p s m _ meth c cX9_count 2 RX9 (some .int) := C
  have hl : lv_has ls 2 [(0, .ref (adG g 0)), (1, .int x1)] := hl
  obtain ⟨hx, hb, hml, hown, hts, hr, hlk, hK, hZ⟩ := id C
  unfold fX9_count at h
  refine lv_iload_n hx hb dX9_count_0 rfl (lv_at hl 1 rfl) ?_
  by_cases c_1 : x1 = (0 : Int32)
  · replace h := if_t c_1 h
    refine r_tin (tgt := 52) hx hb dX9_count_1 c_1 (by decide) (by decide) rfl (by decide) ?_
    refine lv_aload_n hx hb dX9_count_52 rfl (lv_at hl 0 rfl) ?_
    refine r_getr C cf_9 hP sx_0 kx_0 0 (by decide) rfl tw_15 dX9_count_53 ?_
    obtain ⟨q_2, hq_2, h⟩ := bd_inv h
    refine end_i (run_v (As := []) (rest := []) C ca_X4_present (ctX4_present hq_2) cf_4 sx_1 kx_1 tw_1174 ⟨Nat.le_of_ble_eq_true rfl, Nat.le_of_ble_eq_true rfl⟩ rfl hl.1 (Nat.le_of_ble_eq_true rfl) ⟨Nat.le_refl _, Nat.le_refl _⟩ hP hS dX9_count_56) hS (fun H locs hP hS => ?_)
    exact r_reti C hP hS rfl (rt_o h) dX9_count_59
  replace h := if_f c_1 h
  by_cases c_3 : x1 = (1 : Int32)
  · replace h := if_t c_3 h
    refine r_tin (tgt := 60) hx hb dX9_count_1 c_3 (by decide) (by decide) rfl (by decide) ?_
    refine lv_aload_n hx hb dX9_count_60 rfl (lv_at hl 0 rfl) ?_
    refine r_getr C cf_9 hP sx_0 kx_0 2 (by decide) rfl tw_23 dX9_count_61 ?_
    refine r_geti C cf_8 hP (sv_0 iv_36) (kv_0 iv_36) 1 (by decide) rfl tw_290 dX9_count_64 ?_
    exact r_reti C hP hS rfl (rt_o h) dX9_count_67
  replace h := if_f c_3 h
  by_cases c_4 : x1 = (2 : Int32)
  · replace h := if_t c_4 h
    refine r_tin (tgt := 68) hx hb dX9_count_1 c_4 (by decide) (by decide) rfl (by decide) ?_
    refine lv_aload_n hx hb dX9_count_68 rfl (lv_at hl 0 rfl) ?_
    refine r_getr C cf_9 hP sx_0 kx_0 2 (by decide) rfl tw_23 dX9_count_69 ?_
    refine r_geti C cf_8 hP (sv_0 iv_36) (kv_0 iv_36) 0 (by decide) rfl tw_446 dX9_count_72 ?_
    exact r_reti C hP hS rfl (rt_o h) dX9_count_75
  replace h := if_f c_4 h
  by_cases c_5 : x1 = (3 : Int32)
  · replace h := if_t c_5 h
    refine r_tin (tgt := 76) hx hb dX9_count_1 c_5 (by decide) (by decide) rfl (by decide) ?_
    refine lv_aload_n hx hb dX9_count_76 rfl (lv_at hl 0 rfl) ?_
    refine r_getr C cf_9 hP sx_0 kx_0 2 (by decide) rfl tw_23 dX9_count_77 ?_
    refine r_geti C cf_8 hP (sv_0 iv_36) (kv_0 iv_36) 4 (by decide) rfl tw_441 dX9_count_80 ?_
    exact r_reti C hP hS rfl (rt_o h) dX9_count_83
  replace h := if_f c_5 h
  by_cases c_6 : x1 = (4 : Int32)
  · replace h := if_t c_6 h
    refine r_tin (tgt := 84) hx hb dX9_count_1 c_6 (by decide) (by decide) rfl (by decide) ?_
    refine lv_aload_n hx hb dX9_count_84 rfl (lv_at hl 0 rfl) ?_
    refine r_getr C cf_9 hP sx_0 kx_0 2 (by decide) rfl tw_23 dX9_count_85 ?_
    obtain ⟨q_7, hq_7, h⟩ := bd_inv h
    refine end_i (run_v (As := []) (rest := []) C ca_X8_allLava (ctX8_allLava 36 iv_36 hq_7) cf_8 (sv_0 iv_36) (kv_0 iv_36) tw_1178 ⟨Nat.le_of_ble_eq_true rfl, Nat.le_of_ble_eq_true rfl⟩ rfl hl.1 (Nat.le_of_ble_eq_true rfl) ⟨Nat.le_refl _, Nat.le_refl _⟩ hP hS dX9_count_88) hS (fun H locs hP hS => ?_)
    exact r_reti C hP hS rfl (rt_o h) dX9_count_91
  replace h := if_f c_6 h
  by_cases c_8 : x1 = (5 : Int32)
  · replace h := if_t c_8 h
    refine r_tin (tgt := 92) hx hb dX9_count_1 c_8 (by decide) (by decide) rfl (by decide) ?_
    refine lv_aload_n hx hb dX9_count_92 rfl (lv_at hl 0 rfl) ?_
    refine r_getr C cf_9 hP sx_0 kx_0 2 (by decide) rfl tw_23 dX9_count_93 ?_
    obtain ⟨q_9, hq_9, h⟩ := bd_inv h
    refine end_i (run_v (As := []) (rest := []) C ca_X8_stones (ctX8_stones 36 iv_36 hq_9) cf_8 (sv_0 iv_36) (kv_0 iv_36) tw_473 ⟨Nat.le_of_ble_eq_true rfl, Nat.le_of_ble_eq_true rfl⟩ rfl hl.1 (Nat.le_of_ble_eq_true rfl) ⟨Nat.le_refl _, Nat.le_refl _⟩ hP hS dX9_count_96) hS (fun H locs hP hS => ?_)
    refine end_i (run_s (As := [.int q_9]) (rest := []) C ca_J6_bitCount_0f7a4 (ctJ6_bitCount_0f7a4 q_9 rfl) tw_994 ⟨Nat.le_of_ble_eq_true rfl, Nat.le_of_ble_eq_true rfl⟩ rfl hl.1 (Nat.le_of_ble_eq_true rfl) ⟨Nat.le_refl _, Nat.le_refl _⟩ hP hS dX9_count_99) hS (fun H locs hP hS => ?_)
    exact r_reti C hP hS rfl (rt_o h) dX9_count_102
  replace h := if_f c_8 h
  by_cases c_11 : x1 = (6 : Int32)
  · replace h := if_t c_11 h
    refine r_tin (tgt := 103) hx hb dX9_count_1 c_11 (by decide) (by decide) rfl (by decide) ?_
    refine lv_aload_n hx hb dX9_count_103 rfl (lv_at hl 0 rfl) ?_
    refine r_getr C cf_9 hP sx_0 kx_0 2 (by decide) rfl tw_23 dX9_count_104 ?_
    refine lv_bipush (v := 20) hx hb dX9_count_107 (by decide) ?_
    obtain ⟨q_12, hq_12, h⟩ := bd_inv h
    refine end_i (run_v (As := [.int (20 : Int32)]) (rest := []) C ca_X8_allAt (ctX8_allAt 36 iv_36 (20 : Int32) hq_12) cf_8 (sv_0 iv_36) (kv_0 iv_36) tw_592 ⟨Nat.le_of_ble_eq_true rfl, Nat.le_of_ble_eq_true rfl⟩ rfl hl.1 (Nat.le_of_ble_eq_true rfl) ⟨Nat.le_refl _, Nat.le_refl _⟩ hP hS dX9_count_109) hS (fun H locs hP hS => ?_)
    refine end_i (run_s (As := [.int q_12]) (rest := []) C ca_J6_bitCount_0f7a4 (ctJ6_bitCount_0f7a4 q_12 rfl) tw_994 ⟨Nat.le_of_ble_eq_true rfl, Nat.le_of_ble_eq_true rfl⟩ rfl hl.1 (Nat.le_of_ble_eq_true rfl) ⟨Nat.le_refl _, Nat.le_refl _⟩ hP hS dX9_count_112) hS (fun H locs hP hS => ?_)
    exact r_reti C hP hS rfl (rt_o h) dX9_count_115
  replace h := if_f c_11 h
  by_cases c_14 : x1 = (7 : Int32)
  · replace h := if_t c_14 h
    refine r_tin (tgt := 116) hx hb dX9_count_1 c_14 (by decide) (by decide) rfl (by decide) ?_
    refine lv_aload_n hx hb dX9_count_116 rfl (lv_at hl 0 rfl) ?_
    refine r_getr C cf_9 hP sx_0 kx_0 3 (by decide) rfl tw_27 dX9_count_117 ?_
    refine r_geti C cf_3 hP sx_7 kx_7 0 (by decide) rfl tw_425 dX9_count_120 ?_
    exact r_reti C hP hS rfl (rt_o h) dX9_count_123
  replace h := if_f c_14 h
  by_cases c_15 : x1 = (8 : Int32)
  · replace h := if_t c_15 h
    refine r_tin (tgt := 124) hx hb dX9_count_1 c_15 (by decide) (by decide) rfl (by decide) ?_
    refine lv_aload_n hx hb dX9_count_124 rfl (lv_at hl 0 rfl) ?_
    refine r_getr C cf_9 hP sx_0 kx_0 1 (by decide) rfl tw_19 dX9_count_125 ?_
    refine r_geti C cf_6 hP sx_5 kx_5 1 (by decide) rfl tw_270 dX9_count_128 ?_
    exact r_reti C hP hS rfl (rt_o h) dX9_count_131
  replace h := if_f c_15 h
  refine lv_tableOut (tgt := 132) hx hb dX9_count_1 (by have qc_1 := lv_neT (a := 0) c_1 rfl; have qc_3 := lv_neT (a := 1) c_3 rfl; have qc_4 := lv_neT (a := 2) c_4 rfl; have qc_5 := lv_neT (a := 3) c_5 rfl; have qc_6 := lv_neT (a := 4) c_6 rfl; have qc_8 := lv_neT (a := 5) c_8 rfl; have qc_11 := lv_neT (a := 6) c_11 rfl; have qc_14 := lv_neT (a := 7) c_14 rfl; have qc_15 := lv_neT (a := 8) c_15 rfl; omega) (by decide) ?_
  refine lv_ldc hx hb hown (hts _ tw_162) dX9_count_132 ?_
  exact r_reti C hP hS rfl (rt_o h) dX9_count_134

set_option maxRecDepth 100000 in
set_option maxHeartbeats 4000000 in
theorem ctX9_status {l : Launch} {g : Gw} {σ : Sto} {Rz : Int32} (h : fX9_status σ = Rz) : MtG l yX9_status cX9_status 1 (some .int) 0 wkX g [.ref (adG g 0)] σ (QiS wkX g σ Rz) := by
  refine mt_of (by decide) (Nat.le_of_ble_eq_true rfl) (fun p e s m below meth c ls H locs C hP hS hl => ?_)
  have C : Cx wkX g p s m _ meth c cX9_status 1 RX9 (some .int) := C
  have hl : lv_has ls 1 [(0, .ref (adG g 0))] := hl
  obtain ⟨hx, hb, hml, hown, hts, hr, hlk, hK, hZ⟩ := id C
  unfold fX9_status at h
  refine lv_aload_n hx hb dX9_status_0 rfl (lv_at hl 0 rfl) ?_
  refine r_geti C cf_9 hP sx_0 kx_0 9 (by decide) rfl tw_45 dX9_status_1 ?_
  exact r_reti C hP hS rfl h dX9_status_4
