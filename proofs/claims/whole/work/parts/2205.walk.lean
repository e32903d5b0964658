set_option maxRecDepth 100000 in
set_option maxHeartbeats 4000000 in
theorem wfX10_share_L63 {l : Launch} {g : Gw} {p : Program} {e : Env} {s : State} {m : MethodId} {args : Array Value} {below : List Frame} {meth : Method} {c : Code} {σ : Sto} (C : Cx wkM g p s m args meth c cX10_share 8 RX10 (some .int)) {Rz : Int32} {k_138 : Int32 → Int32 → Int32 → Int32 → Int32 → Option Int32} : ∀ (n : Nat) (x1 : Int32) (x2 : Int32) (x3 : Int32) (x4 : Int32) (x5 : Int32) (x6 : Int32) (x7 : Int32) (H : Heap) (locs : List Loc) (ls : Array Slot), fX10_share_L63 k_138 σ n x1 x2 x3 x4 x5 x6 x7 = some Rz → wS wkM g σ H → va_S (AS wkM g) s.heap H locs → lv_has ls 8 [(0, .ref (adG g 0)), (1, .int x1), (2, .int x2), (3, .int x3), (4, .int x4), (5, .int x5), (6, .int x6), (7, .int x7)] → (∀ (x1 : Int32) (x2 : Int32) (x4 : Int32) (x5 : Int32) (x6 : Int32) (H : Heap) (locs : List Loc) (ls : Array Slot), k_138 x1 x2 x4 x5 x6 = some Rz → wS wkM g σ H → va_S (AS wkM g) s.heap H locs → lv_has ls 8 [(0, .ref (adG g 0)), (1, .int x1), (2, .int x2), (4, .int x4), (5, .int x5), (6, .int x6)] → W p l e (rmS 2) s m args below meth c H locs 0 0 (MQ below (QiS wkM g σ Rz) args s 0 0 (AS wkM g)) (F0 m 138 ls [])) → W p l e (rmS 2) s m args below meth c H locs 0 0 (MQ below (QiS wkM g σ Rz) args s 0 0 (AS wkM g)) (F0 m 63 ls []) := by
  intro n
  induction n with
  | zero =>
    intro x1 x2 x3 x4 x5 x6 x7 H locs ls h
    cases h
  | succ n ih =>
    intro x1 x2 x3 x4 x5 x6 x7 H locs ls h hP hS hl hk_138
    obtain ⟨hx, hb, hml, hown, hts, hr, hlk, hK, hZ⟩ := id C
    rw [fX10_share_L63] at h
    refine lv_iload hx hb dX10_share_63 (lv_at hl 7 rfl) ?_
    refine lv_aload_n hx hb dX10_share_65 rfl (lv_at hl 0 rfl) ?_
    refine r_getr C cf_10 hP sm_0 km_0 4 (by decide) rfl tw_147 dX10_share_66 ?_
    refine lv_iconst (v := 1) hx hb dX10_share_69 (by decide) ?_
    refine r_iald C hP sm_4 km_4 (j := 1) (by decide) (by decide) dX10_share_70 ?_
    refine lv_icmp_ge (tgt := 138) hx hb dX10_share_71 (by decide) (fun c_ => ?_) (fun c_ => ?_)
    · replace h := if_t c_ h
      exact hk_138 x1 x2 x4 x5 x6 H locs ls h hP hS (lv_sub hl [0, 1, 2, 4, 5, 6] rfl)
    · replace h := if_f c_ h
      refine lv_iload hx hb dX10_share_74 (lv_at hl 5 rfl) ?_
      refine lv_iload_n hx hb dX10_share_76 rfl (lv_at hl 3 rfl) ?_
      refine lv_iload hx hb dX10_share_77 (lv_at hl 7 rfl) ?_
      refine end_i (run_s (As := [.int x3, .int x7]) (rest := [.int x5]) C ca_X10_has (ctX10_has x3 x7 rfl) tw_865 ⟨Nat.le_of_ble_eq_true rfl, Nat.le_of_ble_eq_true rfl⟩ rfl hl.1 (Nat.le_of_ble_eq_true rfl) ⟨Nat.le_refl _, Nat.le_refl _⟩ hP hS dX10_share_79) hS (fun H locs hP hS => ?_)
      refine lv_if_eq (tgt := 103) hx hb dX10_share_82 (by decide) (fun c_ => ?_) (fun c_ => ?_)
      · replace h := if_t c_ h
        refine lv_iconst (v := 0) hx hb dX10_share_103 (by decide) ?_
        refine wfX10_share_j104 C x1 x2 x3 x4 x6 x7 x5 (0 : Int32) H locs ls h hP hS (lv_sub hl [0, 1, 2, 3, 4, 6, 7] rfl) (fun z_2 z_3 z_4 z_5 z_6 z_7 z_8 H locs ls h hP hS hl => ?_)
        exact ih z_2 z_3 z_4 z_5 z_6 z_7 z_8 H locs ls h hP hS (lv_sub hl [0, 1, 2, 3, 4, 5, 6, 7] rfl) hk_138
      · replace h := if_f c_ h
        refine lv_iload_n hx hb dX10_share_85 rfl (lv_at hl 2 rfl) ?_
        refine lv_aload_n hx hb dX10_share_86 rfl (lv_at hl 0 rfl) ?_
        refine r_getr C cf_10 hP sm_0 km_0 4 (by decide) rfl tw_147 dX10_share_87 ?_
        refine lv_bipush (v := 41) hx hb dX10_share_90 (by decide) ?_
        refine lv_iload hx hb dX10_share_92 (lv_at hl 7 rfl) ?_
        refine lv_iadd hx hb dX10_share_94 ?_
        obtain ⟨g_9, h⟩ := gd_inv h
        refine r_iald C hP sm_4 km_4 rfl g_9 dX10_share_95 ?_
        refine lv_imul hx hb dX10_share_96 ?_
        refine lv_iload hx hb dX10_share_97 (lv_at hl 4 rfl) ?_
        obtain ⟨g_10, h⟩ := gd_inv h
        refine lv_idiv hx hb dX10_share_99 (nz_ne g_10) ?_
        refine lv_goto (tgt := 104) hx hb dX10_share_100 (by decide) ?_
        refine wfX10_share_j104 C x1 x2 x3 x4 x6 x7 x5 ((x2 * (σ 4 ((41 : Int32) + x7).toNatClampNeg)) / x4) H locs ls h hP hS (lv_sub hl [0, 1, 2, 3, 4, 6, 7] rfl) (fun z_11 z_12 z_13 z_14 z_15 z_16 z_17 H locs ls h hP hS hl => ?_)
        exact ih z_11 z_12 z_13 z_14 z_15 z_16 z_17 H locs ls h hP hS (lv_sub hl [0, 1, 2, 3, 4, 5, 6, 7] rfl) hk_138

set_option maxRecDepth 100000 in
set_option maxHeartbeats 4000000 in
theorem ctX10_share {l : Launch} {g : Gw} {σ : Sto} (x1 : Int32) (x2 : Int32) {Rz : Int32} (h : fX10_share σ x1 x2 = some Rz) : MtG l yX10_share cX10_share 8 (some .int) 2 wkM g [.ref (adG g 0), .int x1, .int x2] σ (QiS wkM g σ Rz) := by
  refine mt_of (by decide) (Nat.le_of_ble_eq_true rfl) (fun p e s m below meth c ls H locs C hP hS hl => ?_)
  have C : Cx wkM g p s m _ meth c cX10_share 8 RX10 (some .int) := C
  have hl : lv_has ls 8 [(0, .ref (adG g 0)), (1, .int x1), (2, .int x2)] := hl
  obtain ⟨hx, hb, hml, hown, hts, hr, hlk, hK, hZ⟩ := id C
  unfold fX10_share at h
  refine lv_aload_n hx hb dX10_share_0 rfl (lv_at hl 0 rfl) ?_
  refine lv_iload_n hx hb dX10_share_1 rfl (lv_at hl 1 rfl) ?_
  refine end_i (run_v (As := [.int x1]) (rest := []) C ca_X10_isThing (ctX10_isThing x1 rfl) cf_10 sm_0 km_0 tw_551 ⟨Nat.le_of_ble_eq_true rfl, Nat.le_of_ble_eq_true rfl⟩ rfl hl.1 (Nat.le_of_ble_eq_true rfl) ⟨Nat.le_refl _, Nat.le_refl _⟩ hP hS dX10_share_2) hS (fun H locs hP hS => ?_)
  refine lv_if_eq (tgt := 20) hx hb dX10_share_5 (by decide) (fun c_ => ?_) (fun c_ => ?_)
  · replace h := if_t c_ h
    refine lv_ldc hx hb hown (hts _ tw_188) dX10_share_20 ?_
    exact r_reti C hP hS rfl (rt_o h) dX10_share_22
  · replace h := if_f c_ h
    refine lv_iload_n hx hb dX10_share_8 rfl (lv_at hl 2 rfl) ?_
    refine lv_i2l hx hb dX10_share_9 rfl ?_
    refine lv_lconst (v := 0) hx hb dX10_share_10 (by decide) ?_
    refine lv_ldc2 hx hb hown (hts _ tw_880) dX10_share_11 ?_
    refine end_i (run_s (As := [.long x2.toInt64, .long (0 : Int64), .long (999 : Int64)]) (rest := []) C ca_X10_in (ctX10_in x2.toInt64 (0 : Int64) (999 : Int64) rfl) tw_193 ⟨Nat.le_of_ble_eq_true rfl, Nat.le_of_ble_eq_true rfl⟩ rfl hl.1 (Nat.le_of_ble_eq_true rfl) ⟨Nat.le_refl _, Nat.le_refl _⟩ hP hS dX10_share_14) hS (fun H locs hP hS => ?_)
    refine lv_if_ne (tgt := 23) hx hb dX10_share_17 (by decide) (fun c_ => ?_) (fun c_ => ?_)
    · replace h := if_f c_ h
      refine lv_aload_n hx hb dX10_share_23 rfl (lv_at hl 0 rfl) ?_
      refine r_getr C cf_10 hP sm_0 km_0 4 (by decide) rfl tw_147 dX10_share_24 ?_
      refine lv_bipush (v := 53) hx hb dX10_share_27 (by decide) ?_
      refine lv_iload_n hx hb dX10_share_29 rfl (lv_at hl 1 rfl) ?_
      refine lv_iadd hx hb dX10_share_30 ?_
      obtain ⟨g_3, h⟩ := gd_inv h
      refine r_iald C hP sm_4 km_4 rfl g_3 dX10_share_31 ?_
      refine lv_iconst (v := 1) hx hb dX10_share_32 (by decide) ?_
      refine lv_icmp_eq (tgt := 38) hx hb dX10_share_33 (by decide) (fun c_ => ?_) (fun c_ => ?_)
      · replace h := if_t c_ h
        refine lv_aload_n hx hb dX10_share_38 rfl (lv_at hl 0 rfl) ?_
        refine r_getr C cf_10 hP sm_0 km_0 4 (by decide) rfl tw_147 dX10_share_39 ?_
        refine lv_iconst (v := 1) hx hb dX10_share_42 (by decide) ?_
        obtain ⟨q_4, hq_4, h⟩ := bd_inv h
        refine end_i (run_s (As := [.ref (adG g 4), .int (1 : Int32)]) (rest := []) C ca_X10_those (ctX10_those 4 ⟨sm_4, km_4⟩ (1 : Int32) hq_4) tw_508 ⟨Nat.le_of_ble_eq_true rfl, Nat.le_of_ble_eq_true rfl⟩ rfl hl.1 (Nat.le_of_ble_eq_true rfl) ⟨Nat.le_refl _, Nat.le_refl _⟩ hP hS dX10_share_43) hS (fun H locs hP hS => ?_)
        refine lv_istore_n (lv' := [(3, .int q_4), (0, .ref (adG g 0)), (1, .int x1), (2, .int x2)]) hx hb dX10_share_46 rfl hl (by decide) rfl (fun ls hl => ?_)
        refine lv_aload_n hx hb dX10_share_47 rfl (lv_at hl 1 rfl) ?_
        refine lv_iload_n hx hb dX10_share_48 rfl (lv_at hl 0 rfl) ?_
        obtain ⟨q_5, hq_5, h⟩ := bd_inv h
        refine end_i (run_v (As := [.int q_4]) (rest := []) C ca_X10_highOf (ctX10_highOf q_4 hq_5) cf_10 sm_0 km_0 tw_861 ⟨Nat.le_of_ble_eq_true rfl, Nat.le_of_ble_eq_true rfl⟩ rfl hl.1 (Nat.le_of_ble_eq_true rfl) ⟨Nat.le_refl _, Nat.le_refl _⟩ hP hS dX10_share_49) hS (fun H locs hP hS => ?_)
        refine lv_istore (lv' := [(4, .int q_5), (3, .int q_4), (0, .ref (adG g 0)), (1, .int x1), (2, .int x2)]) hx hb dX10_share_52 hl (by decide) rfl (fun ls hl => ?_)
        refine lv_iload_n hx hb dX10_share_54 rfl (lv_at hl 4 rfl) ?_
        refine lv_istore (lv' := [(5, .int x2), (4, .int q_5), (3, .int q_4), (0, .ref (adG g 0)), (1, .int x1), (2, .int x2)]) hx hb dX10_share_55 hl (by decide) rfl (fun ls hl => ?_)
        refine lv_iconst (v := 0) hx hb dX10_share_57 (by decide) ?_
        refine lv_istore (lv' := [(6, .int (0 : Int32)), (5, .int x2), (4, .int q_5), (3, .int q_4), (0, .ref (adG g 0)), (1, .int x1), (2, .int x2)]) hx hb dX10_share_58 hl (by decide) rfl (fun ls hl => ?_)
        refine lv_iconst (v := 0) hx hb dX10_share_60 (by decide) ?_
        refine lv_istore (lv' := [(7, .int (0 : Int32)), (6, .int (0 : Int32)), (5, .int x2), (4, .int q_5), (3, .int q_4), (0, .ref (adG g 0)), (1, .int x1), (2, .int x2)]) hx hb dX10_share_61 hl (by decide) rfl (fun ls hl => ?_)
        refine wfX10_share_L63 C fu x1 x2 q_4 q_5 x2 (0 : Int32) (0 : Int32) H locs ls h hP hS (lv_sub hl [5, 6, 7, 4, 3, 2, 1, 0] rfl) (fun z_6 z_7 z_8 z_9 z_10 H locs ls h hP hS hl => ?_)
        refine lv_iload_n hx hb dX10_share_138 rfl (lv_at hl 2 rfl) ?_
        refine lv_aload_n hx hb dX10_share_139 rfl (lv_at hl 0 rfl) ?_
        refine r_getr C cf_10 hP sm_0 km_0 4 (by decide) rfl tw_147 dX10_share_140 ?_
        refine lv_bipush (v := 41) hx hb dX10_share_143 (by decide) ?_
        refine lv_iload_n hx hb dX10_share_145 rfl (lv_at hl 1 rfl) ?_
        refine lv_iadd hx hb dX10_share_146 ?_
        obtain ⟨g_11, h⟩ := gd_inv h
        refine r_iald C hP sm_4 km_4 rfl g_11 dX10_share_147 ?_
        refine lv_imul hx hb dX10_share_148 ?_
        refine lv_iload hx hb dX10_share_149 (lv_at hl 3 rfl) ?_
        obtain ⟨g_12, h⟩ := gd_inv h
        refine lv_idiv hx hb dX10_share_151 (nz_ne g_12) ?_
        refine lv_iload hx hb dX10_share_152 (lv_at hl 5 rfl) ?_
        refine lv_iload hx hb dX10_share_154 (lv_at hl 4 rfl) ?_
        refine lv_icmp_ge (tgt := 163) hx hb dX10_share_156 (by decide) (fun c_ => ?_) (fun c_ => ?_)
        · replace h := if_t c_ h
          refine lv_iconst (v := 0) hx hb dX10_share_163 (by decide) ?_
          refine lv_iadd hx hb dX10_share_164 ?_
          exact r_reti C hP hS rfl (rt_o h) dX10_share_165
        · replace h := if_f c_ h
          refine lv_iconst (v := 1) hx hb dX10_share_159 (by decide) ?_
          refine lv_goto (tgt := 164) hx hb dX10_share_160 (by decide) ?_
          refine lv_iadd hx hb dX10_share_164 ?_
          exact r_reti C hP hS rfl (rt_o h) dX10_share_165
      · replace h := if_f c_ h
        refine lv_iconst (v := 0) hx hb dX10_share_36 (by decide) ?_
        exact r_reti C hP hS rfl (rt_o h) dX10_share_37
    · replace h := if_t c_ h
      refine lv_ldc hx hb hown (hts _ tw_188) dX10_share_20 ?_
      exact r_reti C hP hS rfl (rt_o h) dX10_share_22

set_option maxRecDepth 100000 in
set_option maxHeartbeats 4000000 in
theorem wfX10_chooses_j72 {l : Launch} {g : Gw} {p : Program} {e : Env} {s : State} {m : MethodId} {args : Array Value} {below : List Frame} {meth : Method} {c : Code} (C : Cx wkM g p s m args meth c cX10_chooses 5 RX10 (some .boolean)) {Rz : (Sto × Int32)} : ∀ (σ : Sto) (x2 : Int32) (y1 : Int32) (y2 : Int32) (H : Heap) (locs : List Loc) (ls : Array Slot), fX10_chooses_j72 σ x2 y1 y2 = some Rz → wS wkM g σ H → va_S (AS wkM g) s.heap H locs → lv_has ls 5 [(2, .int x2)] → W p l e (rmS 1) s m args below meth c H locs 0 0 (MQ below (QiS wkM g Rz.1 Rz.2) args s 0 0 (AS wkM g)) (F0 m 72 ls [.int y2, .int y1, .ref (adG g 12)]) := by
  intro σ x2 y1 y2 H locs ls h hP hS hl
  obtain ⟨hx, hb, hml, hown, hts, hr, hlk, hK, hZ⟩ := id C
  unfold fX10_chooses_j72 at h
  obtain ⟨g_1, h⟩ := gd_inv h
  refine r_iast C hP hS sm_12 km_12 rfl g_1 dX10_chooses_72 (fun H locs σ_2 eσ_2 hP hS => ?_)
  replace h := un_at eσ_2 h
  refine lv_iload_n hx hb dX10_chooses_73 rfl (lv_at hl 0 rfl) ?_
  refine lv_iconst (v := 2) hx hb dX10_chooses_74 (by decide) ?_
  refine lv_icmp_ge (tgt := 82) hx hb dX10_chooses_75 (by decide) (fun c_ => ?_) (fun c_ => ?_)
  · replace h := if_t c_ h
    refine lv_iconst (v := 0) hx hb dX10_chooses_82 (by decide) ?_
    exact r_retz C hP hS (rt_ow1 h) (rt_ow2 h) rfl dX10_chooses_83
  · replace h := if_f c_ h
    refine lv_iconst (v := 1) hx hb dX10_chooses_78 (by decide) ?_
    refine lv_goto (tgt := 83) hx hb dX10_chooses_79 (by decide) ?_
    exact r_retz C hP hS (rt_ow1 h) (rt_ow2 h) rfl dX10_chooses_83

set_option maxRecDepth 100000 in
set_option maxHeartbeats 4000000 in
theorem ctX10_chooses {l : Launch} {g : Gw} {σ : Sto} (x1 : Int32) (x2 : Int32) {Rz : (Sto × Int32)} (h : fX10_chooses σ x1 x2 = some Rz) : MtG l yX10_chooses cX10_chooses 5 (some .boolean) 1 wkM g [.ref (adG g 0), .int x1, .int x2] σ (QiS wkM g Rz.1 Rz.2) := by
  refine mt_of (by decide) (Nat.le_of_ble_eq_true rfl) (fun p e s m below meth c ls H locs C hP hS hl => ?_)
  have C : Cx wkM g p s m _ meth c cX10_chooses 5 RX10 (some .boolean) := C
  have hl : lv_has ls 5 [(0, .ref (adG g 0)), (1, .int x1), (2, .int x2)] := hl
  obtain ⟨hx, hb, hml, hown, hts, hr, hlk, hK, hZ⟩ := id C
  unfold fX10_chooses at h
  refine lv_bipush (v := 59) hx hb dX10_chooses_0 (by decide) ?_
  refine lv_iload_n hx hb dX10_chooses_2 rfl (lv_at hl 1 rfl) ?_
  refine lv_imul hx hb dX10_chooses_3 ?_
  refine lv_topi (fun x_1 ex_1 => ?_)
  replace h := un_at ex_1 h
  refine lv_istore_n (lv' := [(3, .int x_1), (0, .ref (adG g 0)), (1, .int x1), (2, .int x2)]) hx hb dX10_chooses_4 rfl hl (by decide) rfl (fun ls hl => ?_)
  refine lv_iload_n hx hb dX10_chooses_5 rfl (lv_at hl 0 rfl) ?_
  refine lv_bipush (v := 59) hx hb dX10_chooses_6 (by decide) ?_
  refine lv_iadd hx hb dX10_chooses_8 ?_
  refine lv_topi (fun x_2 ex_2 => ?_)
  replace h := un_at ex_2 h
  refine lv_istore (lv' := [(4, .int x_2), (3, .int x_1), (0, .ref (adG g 0)), (1, .int x1), (2, .int x2)]) hx hb dX10_chooses_9 hl (by decide) rfl (fun ls hl => ?_)
  refine lv_aload_n hx hb dX10_chooses_11 rfl (lv_at hl 2 rfl) ?_
  refine r_getr C cf_10 hP sm_0 km_0 21 (by decide) rfl tw_155 dX10_chooses_12 ?_
  refine lv_iload_n hx hb dX10_chooses_15 rfl (lv_at hl 1 rfl) ?_
  refine lv_aload_n hx hb dX10_chooses_16 rfl (lv_at hl 2 rfl) ?_
  refine r_getr C cf_10 hP sm_0 km_0 21 (by decide) rfl tw_155 dX10_chooses_17 ?_
  refine lv_iload hx hb dX10_chooses_20 (lv_at hl 0 rfl) ?_
  obtain ⟨q_3, hq_3, h⟩ := bd_inv h
  refine end_v (run_s (As := [.ref (adG g 12), .int x_1, .ref (adG g 12), .int x_2]) (rest := []) C ca_X10_copies (ctX10_copies 12 (isT_of sm_12 km_12) x_1 12 (isT_of sm_12 km_12) x_2 hq_3) tw_409 ⟨Nat.le_of_ble_eq_true rfl, Nat.le_of_ble_eq_true rfl⟩ rfl hl.1 (Nat.le_of_ble_eq_true rfl) ⟨Nat.le_refl _, Nat.le_refl _⟩ hP hS dX10_chooses_22) hS (fun H locs hP hS => ?_)
  refine lv_iload_n hx hb dX10_chooses_25 rfl (lv_at hl 3 rfl) ?_
  refine lv_iconst (v := 2) hx hb dX10_chooses_26 (by decide) ?_
  refine lv_irem hx hb dX10_chooses_27 (by decide) ?_
  refine lv_iconst (v := 1) hx hb dX10_chooses_28 (by decide) ?_
  refine lv_icmp_ne (tgt := 84) hx hb dX10_chooses_29 (by decide) (fun c_ => ?_) (fun c_ => ?_)
  · replace h := if_f c_ h
    refine lv_iload_n hx hb dX10_chooses_84 rfl (lv_at hl 4 rfl) ?_
    refine lv_if_ne (tgt := 90) hx hb dX10_chooses_85 (by decide) (fun c_ => ?_) (fun c_ => ?_)
    · replace h := if_f c_ h
      refine lv_iload_n hx hb dX10_chooses_90 rfl (lv_at hl 4 rfl) ?_
      refine lv_aload_n hx hb dX10_chooses_91 rfl (lv_at hl 2 rfl) ?_
      refine r_getr C cf_10 hP sm_0 km_0 4 (by decide) rfl tw_147 dX10_chooses_92 ?_
      refine lv_iconst (v := 1) hx hb dX10_chooses_95 (by decide) ?_
      refine r_iald C hP sm_4 km_4 (j := 1) (by decide) (by decide) dX10_chooses_96 ?_
      refine lv_icmp_gt (tgt := 117) hx hb dX10_chooses_97 (by decide) (fun c_ => ?_) (fun c_ => ?_)
      · replace h := if_t c_ h
        refine lv_iconst (v := 0) hx hb dX10_chooses_117 (by decide) ?_
        exact r_retz C hP hS (rt_ow1 h) (rt_ow2 h) rfl dX10_chooses_118
      · replace h := if_f c_ h
        refine lv_aload_n hx hb dX10_chooses_100 rfl (lv_at hl 2 rfl) ?_
        refine r_getr C cf_10 hP sm_0 km_0 21 (by decide) rfl tw_155 dX10_chooses_101 ?_
        refine lv_iload hx hb dX10_chooses_104 (lv_at hl 0 rfl) ?_
        refine lv_bipush (v := 53) hx hb dX10_chooses_106 (by decide) ?_
        refine lv_iadd hx hb dX10_chooses_108 ?_
        refine lv_iload_n hx hb dX10_chooses_109 rfl (lv_at hl 4 rfl) ?_
        refine lv_iadd hx hb dX10_chooses_110 ?_
        refine lv_iconst (v := 1) hx hb dX10_chooses_111 (by decide) ?_
        refine lv_isub hx hb dX10_chooses_112 ?_
        obtain ⟨g_4, h⟩ := gd_inv h
        refine r_iald C hP sm_12 km_12 rfl g_4 dX10_chooses_113 ?_
        refine lv_if_eq (tgt := 119) hx hb dX10_chooses_114 (by decide) (fun c_ => ?_) (fun c_ => ?_)
        · replace h := if_t c_ h
          refine lv_aload_n hx hb dX10_chooses_119 rfl (lv_at hl 2 rfl) ?_
          refine r_getr C cf_10 hP sm_0 km_0 21 (by decide) rfl tw_155 dX10_chooses_120 ?_
          refine lv_iload hx hb dX10_chooses_123 (lv_at hl 0 rfl) ?_
          refine lv_aload_n hx hb dX10_chooses_125 rfl (lv_at hl 2 rfl) ?_
          refine r_getr C cf_10 hP sm_0 km_0 6 (by decide) rfl tw_149 dX10_chooses_126 ?_
          refine lv_iconst (v := 0) hx hb dX10_chooses_129 (by decide) ?_
          obtain ⟨q_5, hq_5, h⟩ := bd_inv h
          refine end_v (run_s (As := [.ref (adG g 12), .int x_2, .ref (adG g 6), .int (0 : Int32)]) (rest := []) C ca_X10_copies (ctX10_copies 12 (isT_of sm_12 km_12) x_2 6 (isT_of sm_6 km_6) (0 : Int32) hq_5) tw_409 ⟨Nat.le_of_ble_eq_true rfl, Nat.le_of_ble_eq_true rfl⟩ rfl hl.1 (Nat.le_of_ble_eq_true rfl) ⟨Nat.le_refl _, Nat.le_refl _⟩ hP hS dX10_chooses_130) hS (fun H locs hP hS => ?_)
          refine lv_aload_n hx hb dX10_chooses_133 rfl (lv_at hl 2 rfl) ?_
          refine r_getr C cf_10 hP sm_0 km_0 6 (by decide) rfl tw_149 dX10_chooses_134 ?_
          refine lv_iload_n hx hb dX10_chooses_137 rfl (lv_at hl 4 rfl) ?_
          refine lv_iconst (v := 1) hx hb dX10_chooses_138 (by decide) ?_
          refine lv_isub hx hb dX10_chooses_139 ?_
          refine lv_iconst (v := 1) hx hb dX10_chooses_140 (by decide) ?_
          obtain ⟨q_6, hq_6, h⟩ := bd_inv h
          refine end_v (run_s (As := [.ref (adG g 6), .int (x2 - (1 : Int32)), .int (1 : Int32)]) (rest := []) C ca_X10_goes (ctX10_goes 6 ⟨sm_6, km_6⟩ (x2 - (1 : Int32)) (1 : Int32) hq_6) tw_505 ⟨Nat.le_of_ble_eq_true rfl, Nat.le_of_ble_eq_true rfl⟩ rfl hl.1 (Nat.le_of_ble_eq_true rfl) ⟨Nat.le_refl _, Nat.le_refl _⟩ hP hS dX10_chooses_141) hS (fun H locs hP hS => ?_)
          refine lv_aload_n hx hb dX10_chooses_144 rfl (lv_at hl 2 rfl) ?_
          refine r_getr C cf_10 hP sm_0 km_0 6 (by decide) rfl tw_149 dX10_chooses_145 ?_
          refine lv_iconst (v := 0) hx hb dX10_chooses_148 (by decide) ?_
          refine lv_aload_n hx hb dX10_chooses_149 rfl (lv_at hl 2 rfl) ?_
          refine r_getr C cf_10 hP sm_0 km_0 21 (by decide) rfl tw_155 dX10_chooses_150 ?_
          refine lv_iload hx hb dX10_chooses_153 (lv_at hl 0 rfl) ?_
          obtain ⟨q_7, hq_7, h⟩ := bd_inv h
          refine end_v (run_s (As := [.ref (adG g 6), .int (0 : Int32), .ref (adG g 12), .int x_2]) (rest := []) C ca_X10_copies (ctX10_copies 6 (isT_of sm_6 km_6) (0 : Int32) 12 (isT_of sm_12 km_12) x_2 hq_7) tw_409 ⟨Nat.le_of_ble_eq_true rfl, Nat.le_of_ble_eq_true rfl⟩ rfl hl.1 (Nat.le_of_ble_eq_true rfl) ⟨Nat.le_refl _, Nat.le_refl _⟩ hP hS dX10_chooses_155) hS (fun H locs hP hS => ?_)
          refine lv_iconst (v := 1) hx hb dX10_chooses_158 (by decide) ?_
          exact r_retz C hP hS (rt_ow1 h) (rt_ow2 h) rfl dX10_chooses_159
        · replace h := if_f c_ h
          refine lv_iconst (v := 0) hx hb dX10_chooses_117 (by decide) ?_
          exact r_retz C hP hS (rt_ow1 h) (rt_ow2 h) rfl dX10_chooses_118
    · replace h := if_t c_ h
      refine lv_iconst (v := 1) hx hb dX10_chooses_88 (by decide) ?_
      exact r_retz C hP hS (rt_ow1 h) (rt_ow2 h) rfl dX10_chooses_89
  · replace h := if_t c_ h
    refine lv_aload_n hx hb dX10_chooses_32 rfl (lv_at hl 2 rfl) ?_
    refine r_getr C cf_10 hP sm_0 km_0 21 (by decide) rfl tw_155 dX10_chooses_33 ?_
    refine lv_iload hx hb dX10_chooses_36 (lv_at hl 0 rfl) ?_
    refine lv_iconst (v := 2) hx hb dX10_chooses_38 (by decide) ?_
    refine lv_iadd hx hb dX10_chooses_39 ?_
    refine lv_iload_n hx hb dX10_chooses_40 rfl (lv_at hl 4 rfl) ?_
    refine lv_if_ne (tgt := 56) hx hb dX10_chooses_41 (by decide) (fun c_ => ?_) (fun c_ => ?_)
    · replace h := if_f c_ h
      refine lv_bipush (v := 20) hx hb dX10_chooses_56 (by decide) ?_
      refine lv_aload_n hx hb dX10_chooses_58 rfl (lv_at hl 2 rfl) ?_
      refine r_getr C cf_10 hP sm_0 km_0 21 (by decide) rfl tw_155 dX10_chooses_59 ?_
      refine lv_iload hx hb dX10_chooses_62 (lv_at hl 0 rfl) ?_
      refine lv_iconst (v := 2) hx hb dX10_chooses_64 (by decide) ?_
      refine lv_iadd hx hb dX10_chooses_65 ?_
      obtain ⟨g_8, h⟩ := gd_inv h
      refine r_iald C hP sm_12 km_12 rfl g_8 dX10_chooses_66 ?_
      refine lv_iconst (v := 3) hx hb dX10_chooses_67 (by decide) ?_
      refine lv_iadd hx hb dX10_chooses_68 ?_
      refine end_i (run_s (As := [.int (20 : Int32), .int ((q_3 12 (x_2 + (2 : Int32)).toNatClampNeg) + (3 : Int32))]) (rest := [.int (x_2 + (2 : Int32)), .ref (adG g 12)]) C ca_X10_less (ctX10_less (20 : Int32) ((q_3 12 (x_2 + (2 : Int32)).toNatClampNeg) + (3 : Int32)) rfl) tw_496 ⟨Nat.le_of_ble_eq_true rfl, Nat.le_of_ble_eq_true rfl⟩ rfl hl.1 (Nat.le_of_ble_eq_true rfl) ⟨Nat.le_refl _, Nat.le_refl _⟩ hP hS dX10_chooses_69) hS (fun H locs hP hS => ?_)
      exact wfX10_chooses_j72 C q_3 x2 (x_2 + (2 : Int32)) (fX10_less (20 : Int32) ((q_3 12 (x_2 + (2 : Int32)).toNatClampNeg) + (3 : Int32))) H locs ls h hP hS (lv_sub hl [4] rfl)
    · replace h := if_t c_ h
      refine lv_aload_n hx hb dX10_chooses_44 rfl (lv_at hl 2 rfl) ?_
      refine r_getr C cf_10 hP sm_0 km_0 21 (by decide) rfl tw_155 dX10_chooses_45 ?_
      refine lv_iload hx hb dX10_chooses_48 (lv_at hl 0 rfl) ?_
      refine lv_iconst (v := 2) hx hb dX10_chooses_50 (by decide) ?_
      refine lv_iadd hx hb dX10_chooses_51 ?_
      obtain ⟨g_10, h⟩ := gd_inv h
      refine r_iald C hP sm_12 km_12 rfl g_10 dX10_chooses_52 ?_
      refine lv_goto (tgt := 72) hx hb dX10_chooses_53 (by decide) ?_
      exact wfX10_chooses_j72 C q_3 x2 (x_2 + (2 : Int32)) (q_3 12 (x_2 + (2 : Int32)).toNatClampNeg) H locs ls h hP hS (lv_sub hl [4] rfl)

set_option maxRecDepth 100000 in
set_option maxHeartbeats 4000000 in
theorem ctX10_endsIn {l : Launch} {g : Gw} {σ : Sto} (x1 : Int32) (x2 : Int32) {Rz : (Sto × Int32)} (h : fX10_endsIn σ x1 x2 = some Rz) : MtG l yX10_endsIn cX10_endsIn 3 (some .int) 4 wkM g [.ref (adG g 0), .int x1, .int x2] σ (QiS wkM g Rz.1 Rz.2) := by
  refine mt_of (by decide) (Nat.le_of_ble_eq_true rfl) (fun p e s m below meth c ls H locs C hP hS hl => ?_)
  have C : Cx wkM g p s m _ meth c cX10_endsIn 3 RX10 (some .int) := C
  have hl : lv_has ls 3 [(0, .ref (adG g 0)), (1, .int x1), (2, .int x2)] := hl
  obtain ⟨hx, hb, hml, hown, hts, hr, hlk, hK, hZ⟩ := id C
  unfold fX10_endsIn at h
  refine lv_aload_n hx hb dX10_endsIn_0 rfl (lv_at hl 0 rfl) ?_
  refine r_getr C cf_10 hP sm_0 km_0 21 (by decide) rfl tw_155 dX10_endsIn_1 ?_
  refine lv_bipush (v := 59) hx hb dX10_endsIn_4 (by decide) ?_
  refine lv_iload_n hx hb dX10_endsIn_6 rfl (lv_at hl 1 rfl) ?_
  refine lv_imul hx hb dX10_endsIn_7 ?_
  refine lv_aload_n hx hb dX10_endsIn_8 rfl (lv_at hl 0 rfl) ?_
  refine r_getr C cf_10 hP sm_0 km_0 6 (by decide) rfl tw_149 dX10_endsIn_9 ?_
  refine lv_iconst (v := 0) hx hb dX10_endsIn_12 (by decide) ?_
  obtain ⟨q_1, hq_1, h⟩ := bd_inv h
  refine end_v (run_s (As := [.ref (adG g 12), .int ((59 : Int32) * x1), .ref (adG g 6), .int (0 : Int32)]) (rest := []) C ca_X10_copies (ctX10_copies 12 (isT_of sm_12 km_12) ((59 : Int32) * x1) 6 (isT_of sm_6 km_6) (0 : Int32) hq_1) tw_409 ⟨Nat.le_of_ble_eq_true rfl, Nat.le_of_ble_eq_true rfl⟩ rfl hl.1 (Nat.le_of_ble_eq_true rfl) ⟨Nat.le_refl _, Nat.le_refl _⟩ hP hS dX10_endsIn_13) hS (fun H locs hP hS => ?_)
  refine lv_aload_n hx hb dX10_endsIn_16 rfl (lv_at hl 0 rfl) ?_
  refine r_getr C cf_10 hP sm_0 km_0 6 (by decide) rfl tw_149 dX10_endsIn_17 ?_
  refine lv_iload_n hx hb dX10_endsIn_20 rfl (lv_at hl 2 rfl) ?_
  obtain ⟨q_2, hq_2, h⟩ := bd_inv h
  refine end_v (run_s (As := [.ref (adG g 6), .int x2]) (rest := []) C ca_X10_goesBy (ctX10_goesBy 6 ⟨sm_6, km_6⟩ x2 hq_2) tw_654 ⟨Nat.le_of_ble_eq_true rfl, Nat.le_of_ble_eq_true rfl⟩ rfl hl.1 (Nat.le_of_ble_eq_true rfl) ⟨Nat.le_refl _, Nat.le_refl _⟩ hP hS dX10_endsIn_21) hS (fun H locs hP hS => ?_)
  refine lv_aload_n hx hb dX10_endsIn_24 rfl (lv_at hl 0 rfl) ?_
  refine r_getr C cf_10 hP sm_0 km_0 6 (by decide) rfl tw_149 dX10_endsIn_25 ?_
  obtain ⟨q_3, hq_3, h⟩ := bd_inv h
  refine end_i (run_s (As := [.ref (adG g 6)]) (rest := []) C ca_X10_stones (ctX10_stones 6 ⟨sm_6, km_6⟩ hq_3) tw_785 ⟨Nat.le_of_ble_eq_true rfl, Nat.le_of_ble_eq_true rfl⟩ rfl hl.1 (Nat.le_of_ble_eq_true rfl) ⟨Nat.le_refl _, Nat.le_refl _⟩ hP hS dX10_endsIn_28) hS (fun H locs hP hS => ?_)
  exact r_reti C hP hS (rt_ow1 h) (rt_ow2 h) dX10_endsIn_31

set_option maxRecDepth 100000 in
set_option maxHeartbeats 4000000 in
theorem wfX10_byTurns_L55 {l : Launch} {g : Gw} {p : Program} {e : Env} {s : State} {m : MethodId} {args : Array Value} {below : List Frame} {meth : Method} {c : Code} (C : Cx wkM g p s m args meth c cX10_byTurns 6 RX10 (some .int)) {Rz : (Sto × Int32)} {k_95 : Sto → Int32 → Int32 → Int32 → Option (Sto × Int32)} : ∀ (n : Nat) (σ : Sto) (x1 : Int32) (x2 : Int32) (x3 : Int32) (x4 : Int32) (H : Heap) (locs : List Loc) (ls : Array Slot), fX10_byTurns_L55 k_95 n σ x1 x2 x3 x4 = some Rz → wS wkM g σ H → va_S (AS wkM g) s.heap H locs → lv_has ls 6 [(0, .ref (adG g 0)), (1, .int x1), (2, .int x2), (3, .int x3), (4, .int x4)] → (∀ (σ : Sto) (x1 : Int32) (x2 : Int32) (x3 : Int32) (H : Heap) (locs : List Loc) (ls : Array Slot), k_95 σ x1 x2 x3 = some Rz → wS wkM g σ H → va_S (AS wkM g) s.heap H locs → lv_has ls 6 [(0, .ref (adG g 0)), (1, .int x1), (2, .int x2), (3, .int x3)] → W p l e (rmS 5) s m args below meth c H locs 0 0 (MQ below (QiS wkM g Rz.1 Rz.2) args s 0 0 (AS wkM g)) (F0 m 95 ls [])) → W p l e (rmS 5) s m args below meth c H locs 0 0 (MQ below (QiS wkM g Rz.1 Rz.2) args s 0 0 (AS wkM g)) (F0 m 55 ls []) := by
  intro n
  induction n with
  | zero =>
    intro σ x1 x2 x3 x4 H locs ls h
    cases h
  | succ n ih =>
    intro σ x1 x2 x3 x4 H locs ls h hP hS hl hk_95
    obtain ⟨hx, hb, hml, hown, hts, hr, hlk, hK, hZ⟩ := id C
    rw [fX10_byTurns_L55] at h
    refine lv_iload hx hb dX10_byTurns_55 (lv_at hl 4 rfl) ?_
    refine lv_iconst (v := 5) hx hb dX10_byTurns_57 (by decide) ?_
    refine lv_icmp_ge (tgt := 95) hx hb dX10_byTurns_58 (by decide) (fun c_ => ?_) (fun c_ => ?_)
    · replace h := if_t c_ h
      exact hk_95 σ x1 x2 x3 H locs ls h hP hS (lv_sub hl [0, 1, 2, 3] rfl)
    · replace h := if_f c_ h
      refine lv_aload_n hx hb dX10_byTurns_61 rfl (lv_at hl 0 rfl) ?_
      refine r_getr C cf_10 hP sm_0 km_0 22 (by decide) rfl tw_156 dX10_byTurns_62 ?_
      refine lv_iload hx hb dX10_byTurns_65 (lv_at hl 4 rfl) ?_
      refine lv_iconst (v := 0) hx hb dX10_byTurns_67 (by decide) ?_
      obtain ⟨g_1, h⟩ := gd_inv h
      refine r_iast C hP hS sm_13 km_13 rfl g_1 dX10_byTurns_68 (fun H locs σ_2 eσ_2 hP hS => ?_)
      replace h := un_at eσ_2 h
      refine lv_aload_n hx hb dX10_byTurns_69 rfl (lv_at hl 0 rfl) ?_
      refine r_getr C cf_10 hP sm_0 km_0 23 (by decide) rfl tw_157 dX10_byTurns_70 ?_
      refine lv_iload hx hb dX10_byTurns_73 (lv_at hl 4 rfl) ?_
      refine lv_iload hx hb dX10_byTurns_75 (lv_at hl 4 rfl) ?_
      refine lv_iconst (v := 2) hx hb dX10_byTurns_77 (by decide) ?_
      refine lv_irem hx hb dX10_byTurns_78 (by decide) ?_
      refine lv_if_ne (tgt := 87) hx hb dX10_byTurns_79 (by decide) (fun c_ => ?_) (fun c_ => ?_)
      · replace h := if_f c_ h
        refine lv_iconst (v := (-1)) hx hb dX10_byTurns_87 (by decide) ?_
        refine r_iast C hP hS sm_14 km_14 rfl g_1 dX10_byTurns_88 (fun H locs σ_3 eσ_3 hP hS => ?_)
        replace h := un_at eσ_3 h
        obtain ⟨x_4, ex_4⟩ : ∃ y : Int32, y = x4 + (1 : Int32) := ⟨_, rfl⟩
        replace h := un_at ex_4 h
        refine lv_iinc (v := x_4) (lv' := [(4, .int x_4), (0, .ref (adG g 0)), (1, .int x1), (2, .int x2), (3, .int x3)]) hx hb dX10_byTurns_89 hl (k := 4) rfl (by rw [ex_4]; rfl) (by decide) rfl (fun ls hl => ?_)
        refine lv_goto (tgt := 55) hx hb dX10_byTurns_92 (by decide) ?_
        exact ih σ_3 x1 x2 x3 x_4 H locs ls h hP hS (lv_sub hl [1, 2, 3, 4, 0] rfl) hk_95
      · replace h := if_t c_ h
        refine lv_bipush (v := 99) hx hb dX10_byTurns_82 (by decide) ?_
        refine lv_goto (tgt := 88) hx hb dX10_byTurns_84 (by decide) ?_
        refine r_iast C hP hS sm_14 km_14 rfl g_1 dX10_byTurns_88 (fun H locs σ_5 eσ_5 hP hS => ?_)
        replace h := un_at eσ_5 h
        obtain ⟨x_6, ex_6⟩ : ∃ y : Int32, y = x4 + (1 : Int32) := ⟨_, rfl⟩
        replace h := un_at ex_6 h
        refine lv_iinc (v := x_6) (lv' := [(4, .int x_6), (0, .ref (adG g 0)), (1, .int x1), (2, .int x2), (3, .int x3)]) hx hb dX10_byTurns_89 hl (k := 4) rfl (by rw [ex_6]; rfl) (by decide) rfl (fun ls hl => ?_)
        refine lv_goto (tgt := 55) hx hb dX10_byTurns_92 (by decide) ?_
        exact ih σ_5 x1 x2 x3 x_6 H locs ls h hP hS (lv_sub hl [1, 2, 3, 4, 0] rfl) hk_95

set_option maxRecDepth 100000 in
set_option maxHeartbeats 4000000 in
theorem wfX10_byTurns_j180 {l : Launch} {g : Gw} {p : Program} {e : Env} {s : State} {m : MethodId} {args : Array Value} {below : List Frame} {meth : Method} {c : Code} (C : Cx wkM g p s m args meth c cX10_byTurns 6 RX10 (some .int)) {Rz : (Sto × Int32)} {k_95 : Sto → Int32 → Int32 → Int32 → Option (Sto × Int32)} : ∀ (σ : Sto) (x1 : Int32) (x2 : Int32) (x3 : Int32) (x5 : Int32) (y1 : Int32) (y2 : Int32) (H : Heap) (locs : List Loc) (ls : Array Slot), fX10_byTurns_j180 k_95 σ x1 x2 x3 x5 y1 y2 = some Rz → wS wkM g σ H → va_S (AS wkM g) s.heap H locs → lv_has ls 6 [(0, .ref (adG g 0)), (1, .int x1), (2, .int x2), (3, .int x3), (5, .int x5)] → (∀ (σ : Sto) (x1 : Int32) (x2 : Int32) (x3 : Int32) (H : Heap) (locs : List Loc) (ls : Array Slot), k_95 σ x1 x2 x3 = some Rz → wS wkM g σ H → va_S (AS wkM g) s.heap H locs → lv_has ls 6 [(0, .ref (adG g 0)), (1, .int x1), (2, .int x2), (3, .int x3)] → W p l e (rmS 5) s m args below meth c H locs 0 0 (MQ below (QiS wkM g Rz.1 Rz.2) args s 0 0 (AS wkM g)) (F0 m 95 ls [])) → W p l e (rmS 5) s m args below meth c H locs 0 0 (MQ below (QiS wkM g Rz.1 Rz.2) args s 0 0 (AS wkM g)) (F0 m 180 ls [.int y2, .int y1, .ref (adG g 14)]) := by
  intro σ x1 x2 x3 x5 y1 y2 H locs ls h hP hS hl hk_95
  obtain ⟨hx, hb, hml, hown, hts, hr, hlk, hK, hZ⟩ := id C
  unfold fX10_byTurns_j180 at h
  obtain ⟨g_1, h⟩ := gd_inv h
  refine r_iast C hP hS sm_14 km_14 rfl g_1 dX10_byTurns_180 (fun H locs σ_2 eσ_2 hP hS => ?_)
  replace h := un_at eσ_2 h
  obtain ⟨x_3, ex_3⟩ : ∃ y : Int32, y = x3 + (-1 : Int32) := ⟨_, rfl⟩
  replace h := un_at ex_3 h
  refine lv_iinc (v := x_3) (lv' := [(3, .int x_3), (0, .ref (adG g 0)), (1, .int x1), (2, .int x2), (5, .int x5)]) hx hb dX10_byTurns_181 hl (k := 3) rfl (by rw [ex_3]; rfl) (by decide) rfl (fun ls hl => ?_)
  refine lv_aload_n hx hb dX10_byTurns_184 rfl (lv_at hl 1 rfl) ?_
  refine r_getr C cf_10 hP sm_0 km_0 23 (by decide) rfl tw_157 dX10_byTurns_185 ?_
  refine lv_iload_n hx hb dX10_byTurns_188 rfl (lv_at hl 0 rfl) ?_
  refine lv_iload_n hx hb dX10_byTurns_189 rfl (lv_at hl 0 rfl) ?_
  refine lv_iconst (v := 2) hx hb dX10_byTurns_190 (by decide) ?_
  refine lv_irem hx hb dX10_byTurns_191 (by decide) ?_
  refine lv_if_ne (tgt := 209) hx hb dX10_byTurns_192 (by decide) (fun c_ => ?_) (fun c_ => ?_)
  · replace h := if_f c_ h
    refine lv_iload hx hb dX10_byTurns_209 (lv_at hl 4 rfl) ?_
    refine lv_aload_n hx hb dX10_byTurns_211 rfl (lv_at hl 1 rfl) ?_
    refine r_getr C cf_10 hP sm_0 km_0 23 (by decide) rfl tw_157 dX10_byTurns_212 ?_
    refine lv_iload_n hx hb dX10_byTurns_215 rfl (lv_at hl 0 rfl) ?_
    obtain ⟨g_4, h⟩ := gd_inv h
    refine r_iald C hP sm_14 km_14 rfl g_4 dX10_byTurns_216 ?_
    refine lv_icmp_le (tgt := 225) hx hb dX10_byTurns_217 (by decide) (fun c_ => ?_) (fun c_ => ?_)
    · replace h := if_t c_ h
      refine lv_aload_n hx hb dX10_byTurns_225 rfl (lv_at hl 1 rfl) ?_
      refine r_getr C cf_10 hP sm_0 km_0 23 (by decide) rfl tw_157 dX10_byTurns_226 ?_
      refine lv_iload_n hx hb dX10_byTurns_229 rfl (lv_at hl 0 rfl) ?_
      refine r_iald C hP sm_14 km_14 rfl g_4 dX10_byTurns_230 ?_
      refine r_iast C hP hS sm_14 km_14 rfl g_4 dX10_byTurns_231 (fun H locs σ_5 eσ_5 hP hS => ?_)
      replace h := un_at eσ_5 h
      refine lv_goto (tgt := 271) hx hb dX10_byTurns_232 (by decide) ?_
      refine lv_goto (tgt := 95) hx hb dX10_byTurns_271 (by decide) ?_
      exact hk_95 σ_5 x1 x2 x_3 H locs ls h hP hS (lv_sub hl [1, 2, 3, 0] rfl)
    · replace h := if_f c_ h
      refine lv_iload hx hb dX10_byTurns_220 (lv_at hl 4 rfl) ?_
      refine lv_goto (tgt := 231) hx hb dX10_byTurns_222 (by decide) ?_
      refine r_iast C hP hS sm_14 km_14 rfl g_4 dX10_byTurns_231 (fun H locs σ_6 eσ_6 hP hS => ?_)
      replace h := un_at eσ_6 h
      refine lv_goto (tgt := 271) hx hb dX10_byTurns_232 (by decide) ?_
      refine lv_goto (tgt := 95) hx hb dX10_byTurns_271 (by decide) ?_
      exact hk_95 σ_6 x1 x2 x_3 H locs ls h hP hS (lv_sub hl [1, 2, 3, 0] rfl)
  · replace h := if_t c_ h
    refine lv_aload_n hx hb dX10_byTurns_195 rfl (lv_at hl 1 rfl) ?_
    refine r_getr C cf_10 hP sm_0 km_0 23 (by decide) rfl tw_157 dX10_byTurns_196 ?_
    refine lv_iload_n hx hb dX10_byTurns_199 rfl (lv_at hl 0 rfl) ?_
    obtain ⟨g_7, h⟩ := gd_inv h
    refine r_iald C hP sm_14 km_14 rfl g_7 dX10_byTurns_200 ?_
    refine lv_iload hx hb dX10_byTurns_201 (lv_at hl 4 rfl) ?_
    refine end_i (run_s (As := [.int (σ_2 14 x_3.toNatClampNeg), .int x5]) (rest := [.int x_3, .ref (adG g 14)]) C ca_X10_less (ctX10_less (σ_2 14 x_3.toNatClampNeg) x5 rfl) tw_496 ⟨Nat.le_of_ble_eq_true rfl, Nat.le_of_ble_eq_true rfl⟩ rfl hl.1 (Nat.le_of_ble_eq_true rfl) ⟨Nat.le_refl _, Nat.le_refl _⟩ hP hS dX10_byTurns_203) hS (fun H locs hP hS => ?_)
    refine lv_goto (tgt := 231) hx hb dX10_byTurns_206 (by decide) ?_
    refine r_iast C hP hS sm_14 km_14 rfl g_7 dX10_byTurns_231 (fun H locs σ_9 eσ_9 hP hS => ?_)
    replace h := un_at eσ_9 h
    refine lv_goto (tgt := 271) hx hb dX10_byTurns_232 (by decide) ?_
    refine lv_goto (tgt := 95) hx hb dX10_byTurns_271 (by decide) ?_
    exact hk_95 σ_9 x1 x2 x_3 H locs ls h hP hS (lv_sub hl [1, 2, 3, 0] rfl)

set_option maxRecDepth 100000 in
set_option maxHeartbeats 4000000 in
theorem wfX10_byTurns_j147 {l : Launch} {g : Gw} {p : Program} {e : Env} {s : State} {m : MethodId} {args : Array Value} {below : List Frame} {meth : Method} {c : Code} (C : Cx wkM g p s m args meth c cX10_byTurns 6 RX10 (some .int)) {Rz : (Sto × Int32)} {k_95 : Sto → Int32 → Int32 → Int32 → Option (Sto × Int32)} : ∀ (σ : Sto) (x1 : Int32) (x2 : Int32) (x3 : Int32) (y0 : Int32) (H : Heap) (locs : List Loc) (ls : Array Slot), fX10_byTurns_j147 k_95 σ x1 x2 x3 y0 = some Rz → wS wkM g σ H → va_S (AS wkM g) s.heap H locs → lv_has ls 6 [(0, .ref (adG g 0)), (1, .int x1), (2, .int x2), (3, .int x3)] → (∀ (σ : Sto) (x1 : Int32) (x2 : Int32) (x3 : Int32) (H : Heap) (locs : List Loc) (ls : Array Slot), k_95 σ x1 x2 x3 = some Rz → wS wkM g σ H → va_S (AS wkM g) s.heap H locs → lv_has ls 6 [(0, .ref (adG g 0)), (1, .int x1), (2, .int x2), (3, .int x3)] → W p l e (rmS 5) s m args below meth c H locs 0 0 (MQ below (QiS wkM g Rz.1 Rz.2) args s 0 0 (AS wkM g)) (F0 m 95 ls [])) → W p l e (rmS 5) s m args below meth c H locs 0 0 (MQ below (QiS wkM g Rz.1 Rz.2) args s 0 0 (AS wkM g)) (F0 m 147 ls [.int y0]) := by
  intro σ x1 x2 x3 y0 H locs ls h hP hS hl hk_95
  obtain ⟨hx, hb, hml, hown, hts, hr, hlk, hK, hZ⟩ := id C
  unfold fX10_byTurns_j147 at h
  refine lv_istore (lv' := [(5, .int y0), (0, .ref (adG g 0)), (1, .int x1), (2, .int x2), (3, .int x3)]) hx hb dX10_byTurns_147 hl (by decide) rfl (fun ls hl => ?_)
  refine lv_iload_n hx hb dX10_byTurns_149 rfl (lv_at hl 4 rfl) ?_
  refine lv_if_ne (tgt := 156) hx hb dX10_byTurns_150 (by decide) (fun c_ => ?_) (fun c_ => ?_)
  · replace h := if_f c_ h
    refine lv_aload_n hx hb dX10_byTurns_156 rfl (lv_at hl 1 rfl) ?_
    refine r_getr C cf_10 hP sm_0 km_0 22 (by decide) rfl tw_156 dX10_byTurns_157 ?_
    refine lv_iload_n hx hb dX10_byTurns_160 rfl (lv_at hl 4 rfl) ?_
    refine lv_iconst (v := 0) hx hb dX10_byTurns_161 (by decide) ?_
    obtain ⟨g_1, h⟩ := gd_inv h
    refine r_iast C hP hS sm_13 km_13 rfl g_1 dX10_byTurns_162 (fun H locs σ_2 eσ_2 hP hS => ?_)
    replace h := un_at eσ_2 h
    refine lv_aload_n hx hb dX10_byTurns_163 rfl (lv_at hl 1 rfl) ?_
    refine r_getr C cf_10 hP sm_0 km_0 23 (by decide) rfl tw_157 dX10_byTurns_164 ?_
    refine lv_iload_n hx hb dX10_byTurns_167 rfl (lv_at hl 4 rfl) ?_
    refine lv_iload_n hx hb dX10_byTurns_168 rfl (lv_at hl 4 rfl) ?_
    refine lv_iconst (v := 2) hx hb dX10_byTurns_169 (by decide) ?_
    refine lv_irem hx hb dX10_byTurns_170 (by decide) ?_
    refine lv_if_ne (tgt := 179) hx hb dX10_byTurns_171 (by decide) (fun c_ => ?_) (fun c_ => ?_)
    · replace h := if_f c_ h
      refine lv_iconst (v := (-1)) hx hb dX10_byTurns_179 (by decide) ?_
      refine wfX10_byTurns_j180 C σ_2 x1 x2 x3 y0 x3 (-1 : Int32) H locs ls h hP hS (lv_sub hl [1, 2, 3, 4, 0] rfl) (fun σ_3 z_4 z_5 z_6 H locs ls h hP hS hl => ?_)
      exact hk_95 σ_3 z_4 z_5 z_6 H locs ls h hP hS (lv_sub hl [0, 1, 2, 3] rfl)
    · replace h := if_t c_ h
      refine lv_bipush (v := 99) hx hb dX10_byTurns_174 (by decide) ?_
      refine lv_goto (tgt := 180) hx hb dX10_byTurns_176 (by decide) ?_
      refine wfX10_byTurns_j180 C σ_2 x1 x2 x3 y0 x3 (99 : Int32) H locs ls h hP hS (lv_sub hl [1, 2, 3, 4, 0] rfl) (fun σ_7 z_8 z_9 z_10 H locs ls h hP hS hl => ?_)
      exact hk_95 σ_7 z_8 z_9 z_10 H locs ls h hP hS (lv_sub hl [0, 1, 2, 3] rfl)
  · replace h := if_t c_ h
    refine lv_iload hx hb dX10_byTurns_153 (lv_at hl 0 rfl) ?_
    exact r_reti C hP hS (rt_ow1 h) (rt_ow2 h) dX10_byTurns_155

set_option maxRecDepth 100000 in
set_option maxHeartbeats 4000000 in
theorem wfX10_byTurns_j127 {l : Launch} {g : Gw} {p : Program} {e : Env} {s : State} {m : MethodId} {args : Array Value} {below : List Frame} {meth : Method} {c : Code} (C : Cx wkM g p s m args meth c cX10_byTurns 6 RX10 (some .int)) {Rz : (Sto × Int32)} {k_95 : Sto → Int32 → Int32 → Int32 → Option (Sto × Int32)} : ∀ (σ : Sto) (x1 : Int32) (x2 : Int32) (x3 : Int32) (x4 : Int32) (H : Heap) (locs : List Loc) (ls : Array Slot), fX10_byTurns_j127 k_95 σ x1 x2 x3 x4 = some Rz → wS wkM g σ H → va_S (AS wkM g) s.heap H locs → lv_has ls 6 [(0, .ref (adG g 0)), (1, .int x1), (2, .int x2), (3, .int x3), (4, .int x4)] → (∀ (σ : Sto) (x1 : Int32) (x2 : Int32) (x3 : Int32) (H : Heap) (locs : List Loc) (ls : Array Slot), k_95 σ x1 x2 x3 = some Rz → wS wkM g σ H → va_S (AS wkM g) s.heap H locs → lv_has ls 6 [(0, .ref (adG g 0)), (1, .int x1), (2, .int x2), (3, .int x3)] → W p l e (rmS 5) s m args below meth c H locs 0 0 (MQ below (QiS wkM g Rz.1 Rz.2) args s 0 0 (AS wkM g)) (F0 m 95 ls [])) → W p l e (rmS 5) s m args below meth c H locs 0 0 (MQ below (QiS wkM g Rz.1 Rz.2) args s 0 0 (AS wkM g)) (F0 m 127 ls []) := by
  intro σ x1 x2 x3 x4 H locs ls h hP hS hl hk_95
  obtain ⟨hx, hb, hml, hown, hts, hr, hlk, hK, hZ⟩ := id C
  unfold fX10_byTurns_j127 at h
  refine lv_iload hx hb dX10_byTurns_127 (lv_at hl 4 rfl) ?_
  refine lv_if_eq (tgt := 141) hx hb dX10_byTurns_129 (by decide) (fun c_ => ?_) (fun c_ => ?_)
  · replace h := if_t c_ h
    refine lv_aload_n hx hb dX10_byTurns_141 rfl (lv_at hl 0 rfl) ?_
    refine r_getr C cf_10 hP sm_0 km_0 23 (by decide) rfl tw_157 dX10_byTurns_142 ?_
    refine lv_iload_n hx hb dX10_byTurns_145 rfl (lv_at hl 3 rfl) ?_
    obtain ⟨g_1, h⟩ := gd_inv h
    refine r_iald C hP sm_14 km_14 rfl g_1 dX10_byTurns_146 ?_
    refine wfX10_byTurns_j147 C σ x1 x2 x3 (σ 14 x3.toNatClampNeg) H locs ls h hP hS (lv_sub hl [0, 1, 2, 3] rfl) (fun σ_2 z_3 z_4 z_5 H locs ls h hP hS hl => ?_)
    exact hk_95 σ_2 z_3 z_4 z_5 H locs ls h hP hS (lv_sub hl [0, 1, 2, 3] rfl)
  · replace h := if_f c_ h
    refine lv_aload_n hx hb dX10_byTurns_132 rfl (lv_at hl 0 rfl) ?_
    refine lv_iload_n hx hb dX10_byTurns_133 rfl (lv_at hl 3 rfl) ?_
    refine lv_iload_n hx hb dX10_byTurns_134 rfl (lv_at hl 2 rfl) ?_
    obtain ⟨q_6, hq_6, h⟩ := bd_inv h
    refine end_i (run_v (As := [.int x3, .int x2]) (rest := []) C ca_X10_endsIn (ctX10_endsIn x3 x2 hq_6) cf_10 sm_0 km_0 tw_925 ⟨Nat.le_of_ble_eq_true rfl, Nat.le_of_ble_eq_true rfl⟩ rfl hl.1 (Nat.le_of_ble_eq_true rfl) ⟨Nat.le_refl _, Nat.le_refl _⟩ hP hS dX10_byTurns_135) hS (fun H locs hP hS => ?_)
    refine lv_goto (tgt := 147) hx hb dX10_byTurns_138 (by decide) ?_
    refine wfX10_byTurns_j147 C q_6.1 x1 x2 x3 q_6.2 H locs ls h hP hS (lv_sub hl [0, 1, 2, 3] rfl) (fun σ_7 z_8 z_9 z_10 H locs ls h hP hS hl => ?_)
    exact hk_95 σ_7 z_8 z_9 z_10 H locs ls h hP hS (lv_sub hl [0, 1, 2, 3] rfl)

set_option maxRecDepth 100000 in
set_option maxHeartbeats 4000000 in
theorem wfX10_byTurns_j109 {l : Launch} {g : Gw} {p : Program} {e : Env} {s : State} {m : MethodId} {args : Array Value} {below : List Frame} {meth : Method} {c : Code} (C : Cx wkM g p s m args meth c cX10_byTurns 6 RX10 (some .int)) {Rz : (Sto × Int32)} {k_95 : Sto → Int32 → Int32 → Int32 → Option (Sto × Int32)} : ∀ (σ : Sto) (x1 : Int32) (x2 : Int32) (x3 : Int32) (y0 : Int32) (H : Heap) (locs : List Loc) (ls : Array Slot), fX10_byTurns_j109 k_95 σ x1 x2 x3 y0 = some Rz → wS wkM g σ H → va_S (AS wkM g) s.heap H locs → lv_has ls 6 [(0, .ref (adG g 0)), (1, .int x1), (2, .int x2), (3, .int x3)] → (∀ (σ : Sto) (x1 : Int32) (x2 : Int32) (x3 : Int32) (H : Heap) (locs : List Loc) (ls : Array Slot), k_95 σ x1 x2 x3 = some Rz → wS wkM g σ H → va_S (AS wkM g) s.heap H locs → lv_has ls 6 [(0, .ref (adG g 0)), (1, .int x1), (2, .int x2), (3, .int x3)] → W p l e (rmS 5) s m args below meth c H locs 0 0 (MQ below (QiS wkM g Rz.1 Rz.2) args s 0 0 (AS wkM g)) (F0 m 95 ls [])) → W p l e (rmS 5) s m args below meth c H locs 0 0 (MQ below (QiS wkM g Rz.1 Rz.2) args s 0 0 (AS wkM g)) (F0 m 109 ls [.int y0]) := by
  intro σ x1 x2 x3 y0 H locs ls h hP hS hl hk_95
  obtain ⟨hx, hb, hml, hown, hts, hr, hlk, hK, hZ⟩ := id C
  unfold fX10_byTurns_j109 at h
  refine lv_istore (lv' := [(4, .int y0), (0, .ref (adG g 0)), (1, .int x1), (2, .int x2), (3, .int x3)]) hx hb dX10_byTurns_109 hl (by decide) rfl (fun ls hl => ?_)
  refine lv_iload hx hb dX10_byTurns_111 (lv_at hl 0 rfl) ?_
  refine lv_if_ne (tgt := 127) hx hb dX10_byTurns_113 (by decide) (fun c_ => ?_) (fun c_ => ?_)
  · replace h := if_f c_ h
    refine wfX10_byTurns_j127 C σ x1 x2 x3 y0 H locs ls h hP hS (lv_sub hl [1, 2, 3, 4, 0] rfl) (fun σ_1 z_2 z_3 z_4 H locs ls h hP hS hl => ?_)
    exact hk_95 σ_1 z_2 z_3 z_4 H locs ls h hP hS (lv_sub hl [0, 1, 2, 3] rfl)
  · replace h := if_t c_ h
    refine lv_aload_n hx hb dX10_byTurns_116 rfl (lv_at hl 1 rfl) ?_
    refine r_getr C cf_10 hP sm_0 km_0 22 (by decide) rfl tw_156 dX10_byTurns_117 ?_
    refine lv_iload_n hx hb dX10_byTurns_120 rfl (lv_at hl 4 rfl) ?_
    obtain ⟨g_5, h⟩ := gd_inv h
    refine r_iald C hP sm_13 km_13 rfl g_5 dX10_byTurns_121 ?_
    refine lv_bipush (v := 6) hx hb dX10_byTurns_122 (by decide) ?_
    refine lv_icmp_le (tgt := 235) hx hb dX10_byTurns_124 (by decide) (fun c_ => ?_) (fun c_ => ?_)
    · replace h := if_t c_ h
      refine lv_aload_n hx hb dX10_byTurns_235 rfl (lv_at hl 1 rfl) ?_
      refine r_getr C cf_10 hP sm_0 km_0 22 (by decide) rfl tw_156 dX10_byTurns_236 ?_
      refine lv_iload_n hx hb dX10_byTurns_239 rfl (lv_at hl 4 rfl) ?_
      refine r_iald C hP sm_13 km_13 rfl g_5 dX10_byTurns_240 ?_
      refine lv_topi (fun x_6 ex_6 => ?_)
      replace h := un_at ex_6 h
      refine lv_istore (lv' := [(5, .int x_6), (4, .int y0), (0, .ref (adG g 0)), (1, .int x1), (2, .int x2), (3, .int x3)]) hx hb dX10_byTurns_241 hl (by decide) rfl (fun ls hl => ?_)
      refine lv_aload_n hx hb dX10_byTurns_243 rfl (lv_at hl 2 rfl) ?_
      refine r_getr C cf_10 hP sm_0 km_0 22 (by decide) rfl tw_156 dX10_byTurns_244 ?_
      refine lv_iload_n hx hb dX10_byTurns_247 rfl (lv_at hl 5 rfl) ?_
      refine lv_dup2_11 hx hb dX10_byTurns_248 rfl rfl ?_
      refine r_iald C hP sm_13 km_13 rfl g_5 dX10_byTurns_249 ?_
      refine lv_iconst (v := 1) hx hb dX10_byTurns_250 (by decide) ?_
      refine lv_iadd hx hb dX10_byTurns_251 ?_
      refine r_iast C hP hS sm_13 km_13 rfl g_5 dX10_byTurns_252 (fun H locs σ_7 eσ_7 hP hS => ?_)
      replace h := un_at eσ_7 h
      refine lv_iload_n hx hb dX10_byTurns_253 rfl (lv_at hl 5 rfl) ?_
      refine lv_aload_n hx hb dX10_byTurns_254 rfl (lv_at hl 2 rfl) ?_
      refine lv_iload_n hx hb dX10_byTurns_255 rfl (lv_at hl 5 rfl) ?_
      refine lv_iload hx hb dX10_byTurns_256 (lv_at hl 0 rfl) ?_
      obtain ⟨q_8, hq_8, h⟩ := bd_inv h
      refine end_i (run_v (As := [.int x3, .int x_6]) (rest := [.int x3]) C ca_X10_chooses (ctX10_chooses x3 x_6 hq_8) cf_10 sm_0 km_0 tw_929 ⟨Nat.le_of_ble_eq_true rfl, Nat.le_of_ble_eq_true rfl⟩ rfl hl.1 (Nat.le_of_ble_eq_true rfl) ⟨Nat.le_refl _, Nat.le_refl _⟩ hP hS dX10_byTurns_258) hS (fun H locs hP hS => ?_)
      refine lv_if_eq (tgt := 268) hx hb dX10_byTurns_261 (by decide) (fun c_ => ?_) (fun c_ => ?_)
      · replace h := if_t c_ h
        refine lv_iconst (v := 0) hx hb dX10_byTurns_268 (by decide) ?_
        refine lv_iadd hx hb dX10_byTurns_269 ?_
        refine lv_topi (fun x_9 ex_9 => ?_)
        replace h := un_at ex_9 h
        refine lv_istore_n (lv' := [(3, .int x_9), (5, .int x_6), (4, .int y0), (0, .ref (adG g 0)), (1, .int x1), (2, .int x2)]) hx hb dX10_byTurns_270 rfl hl (by decide) rfl (fun ls hl => ?_)
        refine lv_goto (tgt := 95) hx hb dX10_byTurns_271 (by decide) ?_
        exact hk_95 q_8.1 x1 x2 x_9 H locs ls h hP hS (lv_sub hl [3, 4, 5, 0] rfl)
      · replace h := if_f c_ h
        refine lv_iconst (v := 1) hx hb dX10_byTurns_264 (by decide) ?_
        refine lv_goto (tgt := 269) hx hb dX10_byTurns_265 (by decide) ?_
        refine lv_iadd hx hb dX10_byTurns_269 ?_
        refine lv_topi (fun x_10 ex_10 => ?_)
        replace h := un_at ex_10 h
        refine lv_istore_n (lv' := [(3, .int x_10), (5, .int x_6), (4, .int y0), (0, .ref (adG g 0)), (1, .int x1), (2, .int x2)]) hx hb dX10_byTurns_270 rfl hl (by decide) rfl (fun ls hl => ?_)
        refine lv_goto (tgt := 95) hx hb dX10_byTurns_271 (by decide) ?_
        exact hk_95 q_8.1 x1 x2 x_10 H locs ls h hP hS (lv_sub hl [3, 4, 5, 0] rfl)
    · replace h := if_f c_ h
      refine wfX10_byTurns_j127 C σ x1 x2 x3 y0 H locs ls h hP hS (lv_sub hl [1, 2, 3, 4, 0] rfl) (fun σ_11 z_12 z_13 z_14 H locs ls h hP hS hl => ?_)
      exact hk_95 σ_11 z_12 z_13 z_14 H locs ls h hP hS (lv_sub hl [0, 1, 2, 3] rfl)

set_option maxRecDepth 100000 in
set_option maxHeartbeats 4000000 in
theorem wfX10_byTurns_L95 {l : Launch} {g : Gw} {p : Program} {e : Env} {s : State} {m : MethodId} {args : Array Value} {below : List Frame} {meth : Method} {c : Code} (C : Cx wkM g p s m args meth c cX10_byTurns 6 RX10 (some .int)) {Rz : (Sto × Int32)} : ∀ (n : Nat) (σ : Sto) (x1 : Int32) (x2 : Int32) (x3 : Int32) (H : Heap) (locs : List Loc) (ls : Array Slot), fX10_byTurns_L95 n σ x1 x2 x3 = some Rz → wS wkM g σ H → va_S (AS wkM g) s.heap H locs → lv_has ls 6 [(0, .ref (adG g 0)), (1, .int x1), (2, .int x2), (3, .int x3)] → W p l e (rmS 5) s m args below meth c H locs 0 0 (MQ below (QiS wkM g Rz.1 Rz.2) args s 0 0 (AS wkM g)) (F0 m 95 ls []) := by
  intro n
  induction n with
  | zero =>
    intro σ x1 x2 x3 H locs ls h
    cases h
  | succ n ih =>
    intro σ x1 x2 x3 H locs ls h hP hS hl
    obtain ⟨hx, hb, hml, hown, hts, hr, hlk, hK, hZ⟩ := id C
    rw [fX10_byTurns_L95] at h
    refine lv_iload_n hx hb dX10_byTurns_95 rfl (lv_at hl 3 rfl) ?_
    refine lv_if_lt (tgt := 274) hx hb dX10_byTurns_96 (by decide) (fun c_ => ?_) (fun c_ => ?_)
    · replace h := if_t c_ h
      refine lv_ldc hx hb hown (hts _ tw_718) dX10_byTurns_274 ?_
      exact r_reti C hP hS (rt_ow1 h) (rt_ow2 h) dX10_byTurns_276
    · replace h := if_f c_ h
      refine lv_iload_n hx hb dX10_byTurns_99 rfl (lv_at hl 3 rfl) ?_
      refine lv_iload_n hx hb dX10_byTurns_100 rfl (lv_at hl 1 rfl) ?_
      refine lv_icmp_ne (tgt := 108) hx hb dX10_byTurns_101 (by decide) (fun c_ => ?_) (fun c_ => ?_)
      · replace h := if_f c_ h
        refine lv_iconst (v := 0) hx hb dX10_byTurns_108 (by decide) ?_
        refine wfX10_byTurns_j109 C σ x1 x2 x3 (0 : Int32) H locs ls h hP hS (lv_sub hl [0, 1, 2, 3] rfl) (fun σ_1 z_2 z_3 z_4 H locs ls h hP hS hl => ?_)
        exact ih σ_1 z_2 z_3 z_4 H locs ls h hP hS (lv_sub hl [0, 1, 2, 3] rfl)
      · replace h := if_t c_ h
        refine lv_iconst (v := 1) hx hb dX10_byTurns_104 (by decide) ?_
        refine lv_goto (tgt := 109) hx hb dX10_byTurns_105 (by decide) ?_
        refine wfX10_byTurns_j109 C σ x1 x2 x3 (1 : Int32) H locs ls h hP hS (lv_sub hl [0, 1, 2, 3] rfl) (fun σ_5 z_6 z_7 z_8 H locs ls h hP hS hl => ?_)
        exact ih σ_5 z_6 z_7 z_8 H locs ls h hP hS (lv_sub hl [0, 1, 2, 3] rfl)

set_option maxRecDepth 100000 in
set_option maxHeartbeats 4000000 in
theorem ctX10_byTurns {l : Launch} {g : Gw} {σ : Sto} (x1 : Int32) (x2 : Int32) {Rz : (Sto × Int32)} (h : fX10_byTurns σ x1 x2 = some Rz) : MtG l yX10_byTurns cX10_byTurns 6 (some .int) 5 wkM g [.ref (adG g 0), .int x1, .int x2] σ (QiS wkM g Rz.1 Rz.2) := by
  refine mt_of (by decide) (Nat.le_of_ble_eq_true rfl) (fun p e s m below meth c ls H locs C hP hS hl => ?_)
  have C : Cx wkM g p s m _ meth c cX10_byTurns 6 RX10 (some .int) := C
  have hl : lv_has ls 6 [(0, .ref (adG g 0)), (1, .int x1), (2, .int x2)] := hl
  obtain ⟨hx, hb, hml, hown, hts, hr, hlk, hK, hZ⟩ := id C
  unfold fX10_byTurns at h
  refine lv_aload_n hx hb dX10_byTurns_0 rfl (lv_at hl 0 rfl) ?_
  refine end_i (run_v (As := []) (rest := []) C ca_X10_isThere (ctX10_isThere rfl) cf_10 sm_0 km_0 tw_482 ⟨Nat.le_of_ble_eq_true rfl, Nat.le_of_ble_eq_true rfl⟩ rfl hl.1 (Nat.le_of_ble_eq_true rfl) ⟨Nat.le_refl _, Nat.le_refl _⟩ hP hS dX10_byTurns_1) hS (fun H locs hP hS => ?_)
  refine lv_if_ne (tgt := 10) hx hb dX10_byTurns_4 (by decide) (fun c_ => ?_) (fun c_ => ?_)
  · replace h := if_f c_ h
    refine lv_iload_n hx hb dX10_byTurns_10 rfl (lv_at hl 1 rfl) ?_
    refine lv_i2l hx hb dX10_byTurns_11 rfl ?_
    refine lv_lconst (v := 0) hx hb dX10_byTurns_12 (by decide) ?_
    refine lv_ldc2 hx hb hown (hts _ tw_777) dX10_byTurns_13 ?_
    refine end_i (run_s (As := [.long x1.toInt64, .long (0 : Int64), .long (4 : Int64)]) (rest := []) C ca_X10_in (ctX10_in x1.toInt64 (0 : Int64) (4 : Int64) rfl) tw_193 ⟨Nat.le_of_ble_eq_true rfl, Nat.le_of_ble_eq_true rfl⟩ rfl hl.1 (Nat.le_of_ble_eq_true rfl) ⟨Nat.le_refl _, Nat.le_refl _⟩ hP hS dX10_byTurns_16) hS (fun H locs hP hS => ?_)
    refine lv_if_eq (tgt := 34) hx hb dX10_byTurns_19 (by decide) (fun c_ => ?_) (fun c_ => ?_)
    · replace h := if_t c_ h
      refine lv_ldc hx hb hown (hts _ tw_188) dX10_byTurns_34 ?_
      exact r_reti C hP hS (rt_ow1 h) (rt_ow2 h) dX10_byTurns_36
    · replace h := if_f c_ h
      refine lv_iload_n hx hb dX10_byTurns_22 rfl (lv_at hl 2 rfl) ?_
      refine lv_i2l hx hb dX10_byTurns_23 rfl ?_
      refine lv_lconst (v := 1) hx hb dX10_byTurns_24 (by decide) ?_
      refine lv_ldc2 hx hb hown (hts _ tw_567) dX10_byTurns_25 ?_
      refine end_i (run_s (As := [.long x2.toInt64, .long (1 : Int64), .long (20 : Int64)]) (rest := []) C ca_X10_in (ctX10_in x2.toInt64 (1 : Int64) (20 : Int64) rfl) tw_193 ⟨Nat.le_of_ble_eq_true rfl, Nat.le_of_ble_eq_true rfl⟩ rfl hl.1 (Nat.le_of_ble_eq_true rfl) ⟨Nat.le_refl _, Nat.le_refl _⟩ hP hS dX10_byTurns_28) hS (fun H locs hP hS => ?_)
      refine lv_if_ne (tgt := 37) hx hb dX10_byTurns_31 (by decide) (fun c_ => ?_) (fun c_ => ?_)
      · replace h := if_f c_ h
        refine lv_aload_n hx hb dX10_byTurns_37 rfl (lv_at hl 0 rfl) ?_
        refine r_getr C cf_10 hP sm_0 km_0 4 (by decide) rfl tw_147 dX10_byTurns_38 ?_
        refine lv_iconst (v := 0) hx hb dX10_byTurns_41 (by decide) ?_
        refine lv_aload_n hx hb dX10_byTurns_42 rfl (lv_at hl 0 rfl) ?_
        refine r_getr C cf_10 hP sm_0 km_0 21 (by decide) rfl tw_155 dX10_byTurns_43 ?_
        refine lv_iconst (v := 0) hx hb dX10_byTurns_46 (by decide) ?_
        obtain ⟨q_4, hq_4, h⟩ := bd_inv h
        refine end_v (run_s (As := [.ref (adG g 4), .int (0 : Int32), .ref (adG g 12), .int (0 : Int32)]) (rest := []) C ca_X10_copies (ctX10_copies 4 (isT_of sm_4 km_4) (0 : Int32) 12 (isT_of sm_12 km_12) (0 : Int32) hq_4) tw_409 ⟨Nat.le_of_ble_eq_true rfl, Nat.le_of_ble_eq_true rfl⟩ rfl hl.1 (Nat.le_of_ble_eq_true rfl) ⟨Nat.le_refl _, Nat.le_refl _⟩ hP hS dX10_byTurns_47) hS (fun H locs hP hS => ?_)
        refine lv_iconst (v := 0) hx hb dX10_byTurns_50 (by decide) ?_
        refine lv_istore_n (lv' := [(3, .int (0 : Int32)), (0, .ref (adG g 0)), (1, .int x1), (2, .int x2)]) hx hb dX10_byTurns_51 rfl hl (by decide) rfl (fun ls hl => ?_)
        refine lv_iconst (v := 0) hx hb dX10_byTurns_52 (by decide) ?_
        refine lv_istore (lv' := [(4, .int (0 : Int32)), (3, .int (0 : Int32)), (0, .ref (adG g 0)), (1, .int x1), (2, .int x2)]) hx hb dX10_byTurns_53 hl (by decide) rfl (fun ls hl => ?_)
        refine wfX10_byTurns_L55 C fu q_4 x1 x2 (0 : Int32) (0 : Int32) H locs ls h hP hS (lv_sub hl [2, 3, 4, 1, 0] rfl) (fun σ_5 z_6 z_7 z_8 H locs ls h hP hS hl => ?_)
        exact wfX10_byTurns_L95 C fu σ_5 z_6 z_7 z_8 H locs ls h hP hS (lv_sub hl [0, 1, 2, 3] rfl)
      · replace h := if_t c_ h
        refine lv_ldc hx hb hown (hts _ tw_188) dX10_byTurns_34 ?_
        exact r_reti C hP hS (rt_ow1 h) (rt_ow2 h) dX10_byTurns_36
  · replace h := if_t c_ h
    refine lv_ldc hx hb hown (hts _ tw_436) dX10_byTurns_7 ?_
    exact r_reti C hP hS (rt_ow1 h) (rt_ow2 h) dX10_byTurns_9

set_option maxRecDepth 100000 in
set_option maxHeartbeats 4000000 in
theorem wfX10_fits_j64 {l : Launch} {g : Gw} {p : Program} {e : Env} {s : State} {m : MethodId} {args : Array Value} {below : List Frame} {meth : Method} {c : Code} (C : Cx wkM g p s m args meth c cX10_fits 8 RX10 (some .boolean)) {Rz : (Sto × Int32)} {k_6 : Sto → Int32 → Int32 → Int32 → Int32 → Int32 → Int32 → Int32 → Option (Sto × Int32)} : ∀ (σ : Sto) (x1 : Int32) (x2 : Int32) (x3 : Int32) (x4 : Int32) (x5 : Int32) (x7 : Int32) (y0 : Int32) (y1 : Int32) (H : Heap) (locs : List Loc) (ls : Array Slot), fX10_fits_j64 k_6 σ x1 x2 x3 x4 x5 x7 y0 y1 = some Rz → wS wkM g σ H → va_S (AS wkM g) s.heap H locs → lv_has ls 8 [(0, .ref (adG g 0)), (1, .int x1), (2, .int x2), (3, .int x3), (4, .int x4), (5, .int x5), (7, .int x7)] → (∀ (σ : Sto) (x1 : Int32) (x2 : Int32) (x3 : Int32) (x4 : Int32) (x5 : Int32) (x6 : Int32) (x7 : Int32) (H : Heap) (locs : List Loc) (ls : Array Slot), k_6 σ x1 x2 x3 x4 x5 x6 x7 = some Rz → wS wkM g σ H → va_S (AS wkM g) s.heap H locs → lv_has ls 8 [(0, .ref (adG g 0)), (1, .int x1), (2, .int x2), (3, .int x3), (4, .int x4), (5, .int x5), (6, .int x6), (7, .int x7)] → W p l e (rmS 3) s m args below meth c H locs 0 0 (MQ below (QiS wkM g Rz.1 Rz.2) args s 0 0 (AS wkM g)) (F0 m 6 ls [])) → W p l e (rmS 3) s m args below meth c H locs 0 0 (MQ below (QiS wkM g Rz.1 Rz.2) args s 0 0 (AS wkM g)) (F0 m 64 ls [.int y1, .int y0]) := by
  intro σ x1 x2 x3 x4 x5 x7 y0 y1 H locs ls h hP hS hl hk_6
  obtain ⟨hx, hb, hml, hown, hts, hr, hlk, hK, hZ⟩ := id C
  unfold fX10_fits_j64 at h
  refine lv_icmp_ne (tgt := 71) hx hb dX10_fits_64 (by decide) (fun c_ => ?_) (fun c_ => ?_)
  · replace h := if_f c_ h
    refine lv_iconst (v := 0) hx hb dX10_fits_71 (by decide) ?_
    refine lv_istore (lv' := [(6, .int (0 : Int32)), (0, .ref (adG g 0)), (1, .int x1), (2, .int x2), (3, .int x3), (4, .int x4), (5, .int x5), (7, .int x7)]) hx hb dX10_fits_72 hl (by decide) rfl (fun ls hl => ?_)
    obtain ⟨x_1, ex_1⟩ : ∃ y : Int32, y = x7 + (1 : Int32) := ⟨_, rfl⟩
    replace h := un_at ex_1 h
    refine lv_iinc (v := x_1) (lv' := [(7, .int x_1), (6, .int (0 : Int32)), (0, .ref (adG g 0)), (1, .int x1), (2, .int x2), (3, .int x3), (4, .int x4), (5, .int x5)]) hx hb dX10_fits_74 hl (k := 7) rfl (by rw [ex_1]; rfl) (by decide) rfl (fun ls hl => ?_)
    refine lv_goto (tgt := 6) hx hb dX10_fits_77 (by decide) ?_
    exact hk_6 σ x1 x2 x3 x4 x5 (0 : Int32) x_1 H locs ls h hP hS (lv_sub hl [2, 3, 4, 5, 6, 7, 1, 0] rfl)
  · replace h := if_t c_ h
    refine lv_iconst (v := 1) hx hb dX10_fits_67 (by decide) ?_
    refine lv_goto (tgt := 72) hx hb dX10_fits_68 (by decide) ?_
    refine lv_istore (lv' := [(6, .int (1 : Int32)), (0, .ref (adG g 0)), (1, .int x1), (2, .int x2), (3, .int x3), (4, .int x4), (5, .int x5), (7, .int x7)]) hx hb dX10_fits_72 hl (by decide) rfl (fun ls hl => ?_)
    obtain ⟨x_2, ex_2⟩ : ∃ y : Int32, y = x7 + (1 : Int32) := ⟨_, rfl⟩
    replace h := un_at ex_2 h
    refine lv_iinc (v := x_2) (lv' := [(7, .int x_2), (6, .int (1 : Int32)), (0, .ref (adG g 0)), (1, .int x1), (2, .int x2), (3, .int x3), (4, .int x4), (5, .int x5)]) hx hb dX10_fits_74 hl (k := 7) rfl (by rw [ex_2]; rfl) (by decide) rfl (fun ls hl => ?_)
    refine lv_goto (tgt := 6) hx hb dX10_fits_77 (by decide) ?_
    exact hk_6 σ x1 x2 x3 x4 x5 (1 : Int32) x_2 H locs ls h hP hS (lv_sub hl [2, 3, 4, 5, 6, 7, 1, 0] rfl)

set_option maxRecDepth 100000 in
set_option maxHeartbeats 4000000 in
theorem wfX10_fits_L6 {l : Launch} {g : Gw} {p : Program} {e : Env} {s : State} {m : MethodId} {args : Array Value} {below : List Frame} {meth : Method} {c : Code} (C : Cx wkM g p s m args meth c cX10_fits 8 RX10 (some .boolean)) {Rz : (Sto × Int32)} : ∀ (n : Nat) (σ : Sto) (x1 : Int32) (x2 : Int32) (x3 : Int32) (x4 : Int32) (x5 : Int32) (x6 : Int32) (x7 : Int32) (H : Heap) (locs : List Loc) (ls : Array Slot), fX10_fits_L6 n σ x1 x2 x3 x4 x5 x6 x7 = some Rz → wS wkM g σ H → va_S (AS wkM g) s.heap H locs → lv_has ls 8 [(0, .ref (adG g 0)), (1, .int x1), (2, .int x2), (3, .int x3), (4, .int x4), (5, .int x5), (6, .int x6), (7, .int x7)] → W p l e (rmS 3) s m args below meth c H locs 0 0 (MQ below (QiS wkM g Rz.1 Rz.2) args s 0 0 (AS wkM g)) (F0 m 6 ls []) := by
  intro n
  induction n with
  | zero =>
    intro σ x1 x2 x3 x4 x5 x6 x7 H locs ls h
    cases h
  | succ n ih =>
    intro σ x1 x2 x3 x4 x5 x6 x7 H locs ls h hP hS hl
    obtain ⟨hx, hb, hml, hown, hts, hr, hlk, hK, hZ⟩ := id C
    rw [fX10_fits_L6] at h
    refine lv_iload hx hb dX10_fits_6 (lv_at hl 7 rfl) ?_
    refine lv_iload hx hb dX10_fits_8 (lv_at hl 5 rfl) ?_
    refine lv_icmp_ge (tgt := 80) hx hb dX10_fits_10 (by decide) (fun c_ => ?_) (fun c_ => ?_)
    · replace h := if_t c_ h
      refine lv_iload hx hb dX10_fits_80 (lv_at hl 6 rfl) ?_
      obtain ⟨g_1, h⟩ := gd_inv h
      exact r_retz C hP hS (rt_ow1 h) (rt_ow2 h) (isB_nar g_1) dX10_fits_82
    · replace h := if_f c_ h
      refine lv_aload_n hx hb dX10_fits_13 rfl (lv_at hl 0 rfl) ?_
      refine r_getr C cf_10 hP sm_0 km_0 6 (by decide) rfl tw_149 dX10_fits_14 ?_
      obtain ⟨q_2, hq_2, h⟩ := bd_inv h
      refine end_v (run_s (As := [.ref (adG g 6)]) (rest := []) C ca_X10_passes (ctX10_passes 6 ⟨sm_6, km_6⟩ hq_2) tw_490 ⟨Nat.le_of_ble_eq_true rfl, Nat.le_of_ble_eq_true rfl⟩ rfl hl.1 (Nat.le_of_ble_eq_true rfl) ⟨Nat.le_refl _, Nat.le_refl _⟩ hP hS dX10_fits_17) hS (fun H locs hP hS => ?_)
      refine lv_iload hx hb dX10_fits_20 (lv_at hl 6 rfl) ?_
      refine lv_if_eq (tgt := 71) hx hb dX10_fits_22 (by decide) (fun c_ => ?_) (fun c_ => ?_)
      · replace h := if_t c_ h
        refine lv_iconst (v := 0) hx hb dX10_fits_71 (by decide) ?_
        refine lv_istore (lv' := [(6, .int (0 : Int32)), (0, .ref (adG g 0)), (1, .int x1), (2, .int x2), (3, .int x3), (4, .int x4), (5, .int x5), (7, .int x7)]) hx hb dX10_fits_72 hl (by decide) rfl (fun ls hl => ?_)
        obtain ⟨x_3, ex_3⟩ : ∃ y : Int32, y = x7 + (1 : Int32) := ⟨_, rfl⟩
        replace h := un_at ex_3 h
        refine lv_iinc (v := x_3) (lv' := [(7, .int x_3), (6, .int (0 : Int32)), (0, .ref (adG g 0)), (1, .int x1), (2, .int x2), (3, .int x3), (4, .int x4), (5, .int x5)]) hx hb dX10_fits_74 hl (k := 7) rfl (by rw [ex_3]; rfl) (by decide) rfl (fun ls hl => ?_)
        refine lv_goto (tgt := 6) hx hb dX10_fits_77 (by decide) ?_
        exact ih q_2 x1 x2 x3 x4 x5 (0 : Int32) x_3 H locs ls h hP hS (lv_sub hl [2, 3, 4, 5, 6, 7, 1, 0] rfl)
      · replace h := if_f c_ h
        refine lv_aload_n hx hb dX10_fits_25 rfl (lv_at hl 0 rfl) ?_
        refine r_getr C cf_10 hP sm_0 km_0 2 (by decide) rfl tw_146 dX10_fits_26 ?_
        refine lv_bipush (v := 40) hx hb dX10_fits_29 (by decide) ?_
        refine lv_iload_n hx hb dX10_fits_31 rfl (lv_at hl 3 rfl) ?_
        refine lv_imul hx hb dX10_fits_32 ?_
        refine lv_iload hx hb dX10_fits_33 (lv_at hl 4 rfl) ?_
        refine lv_iadd hx hb dX10_fits_35 ?_
        refine lv_iload hx hb dX10_fits_36 (lv_at hl 7 rfl) ?_
        refine lv_iadd hx hb dX10_fits_38 ?_
        obtain ⟨g_4, h⟩ := gd_inv h
        refine r_iald C hP sm_3 km_3 rfl g_4 dX10_fits_39 ?_
        refine lv_iload_n hx hb dX10_fits_40 rfl (lv_at hl 1 rfl) ?_
        refine lv_if_ge (tgt := 56) hx hb dX10_fits_41 (by decide) (fun c_ => ?_) (fun c_ => ?_)
        · replace h := if_t c_ h
          refine lv_aload_n hx hb dX10_fits_56 rfl (lv_at hl 0 rfl) ?_
          refine r_getr C cf_10 hP sm_0 km_0 6 (by decide) rfl tw_149 dX10_fits_57 ?_
          refine lv_iload_n hx hb dX10_fits_60 rfl (lv_at hl 1 rfl) ?_
          obtain ⟨q_5, hq_5, h⟩ := bd_inv h
          refine end_i (run_s (As := [.ref (adG g 6), .int x1]) (rest := [.int (q_2 3 ((((40 : Int32) * x3) + x4) + x7).toNatClampNeg)]) C ca_X10_whereOf (ctX10_whereOf 6 ⟨sm_6, km_6⟩ x1 hq_5) tw_555 ⟨Nat.le_of_ble_eq_true rfl, Nat.le_of_ble_eq_true rfl⟩ rfl hl.1 (Nat.le_of_ble_eq_true rfl) ⟨Nat.le_refl _, Nat.le_refl _⟩ hP hS dX10_fits_61) hS (fun H locs hP hS => ?_)
          refine wfX10_fits_j64 C q_2 x1 x2 x3 x4 x5 x7 (q_2 3 ((((40 : Int32) * x3) + x4) + x7).toNatClampNeg) q_5 H locs ls h hP hS (lv_sub hl [0, 1, 2, 3, 4, 5, 7] rfl) (fun σ_6 z_7 z_8 z_9 z_10 z_11 z_12 z_13 H locs ls h hP hS hl => ?_)
          exact ih σ_6 z_7 z_8 z_9 z_10 z_11 z_12 z_13 H locs ls h hP hS (lv_sub hl [0, 1, 2, 3, 4, 5, 6, 7] rfl)
        · replace h := if_f c_ h
          refine lv_aload_n hx hb dX10_fits_44 rfl (lv_at hl 0 rfl) ?_
          refine r_getr C cf_10 hP sm_0 km_0 6 (by decide) rfl tw_149 dX10_fits_45 ?_
          refine lv_bipush (v := 15) hx hb dX10_fits_48 (by decide) ?_
          refine lv_iload_n hx hb dX10_fits_50 rfl (lv_at hl 2 rfl) ?_
          refine lv_iadd hx hb dX10_fits_51 ?_
          obtain ⟨g_14, h⟩ := gd_inv h
          refine r_iald C hP sm_6 km_6 rfl g_14 dX10_fits_52 ?_
          refine lv_goto (tgt := 64) hx hb dX10_fits_53 (by decide) ?_
          refine wfX10_fits_j64 C q_2 x1 x2 x3 x4 x5 x7 (q_2 3 ((((40 : Int32) * x3) + x4) + x7).toNatClampNeg) (q_2 6 ((15 : Int32) + x2).toNatClampNeg) H locs ls h hP hS (lv_sub hl [0, 1, 2, 3, 4, 5, 7] rfl) (fun σ_15 z_16 z_17 z_18 z_19 z_20 z_21 z_22 H locs ls h hP hS hl => ?_)
          exact ih σ_15 z_16 z_17 z_18 z_19 z_20 z_21 z_22 H locs ls h hP hS (lv_sub hl [0, 1, 2, 3, 4, 5, 6, 7] rfl)

set_option maxRecDepth 100000 in
set_option maxHeartbeats 4000000 in
theorem ctX10_fits {l : Launch} {g : Gw} {σ : Sto} (x1 : Int32) (x2 : Int32) (x3 : Int32) (x4 : Int32) (x5 : Int32) {Rz : (Sto × Int32)} (h : fX10_fits σ x1 x2 x3 x4 x5 = some Rz) : MtG l yX10_fits cX10_fits 8 (some .boolean) 3 wkM g [.ref (adG g 0), .int x1, .int x2, .int x3, .int x4, .int x5] σ (QiS wkM g Rz.1 Rz.2) := by
  refine mt_of (by decide) (Nat.le_of_ble_eq_true rfl) (fun p e s m below meth c ls H locs C hP hS hl => ?_)
  have C : Cx wkM g p s m _ meth c cX10_fits 8 RX10 (some .boolean) := C
  have hl : lv_has ls 8 [(0, .ref (adG g 0)), (1, .int x1), (2, .int x2), (3, .int x3), (4, .int x4), (5, .int x5)] := hl
  obtain ⟨hx, hb, hml, hown, hts, hr, hlk, hK, hZ⟩ := id C
  unfold fX10_fits at h
  refine lv_iconst (v := 1) hx hb dX10_fits_0 (by decide) ?_
  refine lv_istore (lv' := [(6, .int (1 : Int32)), (0, .ref (adG g 0)), (1, .int x1), (2, .int x2), (3, .int x3), (4, .int x4), (5, .int x5)]) hx hb dX10_fits_1 hl (by decide) rfl (fun ls hl => ?_)
  refine lv_iconst (v := 0) hx hb dX10_fits_3 (by decide) ?_
  refine lv_istore (lv' := [(7, .int (0 : Int32)), (6, .int (1 : Int32)), (0, .ref (adG g 0)), (1, .int x1), (2, .int x2), (3, .int x3), (4, .int x4), (5, .int x5)]) hx hb dX10_fits_4 hl (by decide) rfl (fun ls hl => ?_)
  exact wfX10_fits_L6 C fu σ x1 x2 x3 x4 x5 (1 : Int32) (0 : Int32) H locs ls h hP hS (lv_sub hl [2, 3, 4, 5, 6, 7, 1, 0] rfl)

set_option maxRecDepth 100000 in
set_option maxHeartbeats 4000000 in
theorem ctX10_lacks {l : Launch} {g : Gw} {σ : Sto} (x1 : Int32) (x2 : Int32) (x3 : Int32) {Rz : (Sto × Int32)} (h : fX10_lacks σ x1 x2 x3 = some Rz) : MtG l yX10_lacks cX10_lacks 4 (some .int) 1 wkM g [.ref (adG g 0), .int x1, .int x2, .int x3] σ (QiS wkM g Rz.1 Rz.2) := by
  refine mt_of (by decide) (Nat.le_of_ble_eq_true rfl) (fun p e s m below meth c ls H locs C hP hS hl => ?_)
  have C : Cx wkM g p s m _ meth c cX10_lacks 4 RX10 (some .int) := C
  have hl : lv_has ls 4 [(0, .ref (adG g 0)), (1, .int x1), (2, .int x2), (3, .int x3)] := hl
  obtain ⟨hx, hb, hml, hown, hts, hr, hlk, hK, hZ⟩ := id C
  unfold fX10_lacks at h
  refine lv_aload_n hx hb dX10_lacks_0 rfl (lv_at hl 0 rfl) ?_
  refine r_getr C cf_10 hP sm_0 km_0 1 (by decide) rfl tw_145 dX10_lacks_1 ?_
  refine lv_iload_n hx hb dX10_lacks_4 rfl (lv_at hl 1 rfl) ?_
  obtain ⟨g_1, h⟩ := gd_inv h
  refine r_iald C hP sm_2 km_2 rfl g_1 dX10_lacks_5 ?_
  refine lv_if_ge (tgt := 15) hx hb dX10_lacks_6 (by decide) (fun c_ => ?_) (fun c_ => ?_)
  · replace h := if_t c_ h
    refine lv_iload_n hx hb dX10_lacks_15 rfl (lv_at hl 2 rfl) ?_
    refine lv_if_lt (tgt := 35) hx hb dX10_lacks_16 (by decide) (fun c_ => ?_) (fun c_ => ?_)
    · replace h := if_t c_ h
      refine lv_aload_n hx hb dX10_lacks_35 rfl (lv_at hl 0 rfl) ?_
      refine lv_iconst (v := 2) hx hb dX10_lacks_36 (by decide) ?_
      obtain ⟨q_2, eq_2⟩ : ∃ z, z = fX10_found σ (2 : Int32) := ⟨_, rfl⟩
      replace h := un_at eq_2 h
      refine end_i (run_v (As := [.int (2 : Int32)]) (rest := []) C ca_X10_found (ctX10_found (2 : Int32) eq_2.symm) cf_10 sm_0 km_0 tw_196 ⟨Nat.le_of_ble_eq_true rfl, Nat.le_of_ble_eq_true rfl⟩ rfl hl.1 (Nat.le_of_ble_eq_true rfl) ⟨Nat.le_refl _, Nat.le_refl _⟩ hP hS dX10_lacks_37) hS (fun H locs hP hS => ?_)
      refine lv_goto (tgt := 44) hx hb dX10_lacks_40 (by decide) ?_
      exact r_reti C hP hS (rt_ow1 h) (rt_ow2 h) dX10_lacks_44
    · replace h := if_f c_ h
      refine lv_iload_n hx hb dX10_lacks_19 rfl (lv_at hl 2 rfl) ?_
      refine lv_i2l hx hb dX10_lacks_20 rfl ?_
      refine lv_iload_n hx hb dX10_lacks_21 rfl (lv_at hl 3 rfl) ?_
      refine lv_i2l hx hb dX10_lacks_22 rfl ?_
      refine lv_ladd hx hb dX10_lacks_23 ?_
      refine lv_aload_n hx hb dX10_lacks_24 rfl (lv_at hl 0 rfl) ?_
      refine r_getr C cf_10 hP sm_0 km_0 1 (by decide) rfl tw_145 dX10_lacks_25 ?_
      refine lv_iload_n hx hb dX10_lacks_28 rfl (lv_at hl 1 rfl) ?_
      refine r_iald C hP sm_2 km_2 rfl g_1 dX10_lacks_29 ?_
      refine lv_i2l hx hb dX10_lacks_30 rfl ?_
      refine W.lcmp hx hb dX10_lacks_31 ?_
      refine lv_if_le (tgt := 43) hx hb dX10_lacks_32 (by decide) (fun c_ => ?_) (fun c_ => ?_)
      · replace h := if_t c_ h
        refine lv_iconst (v := 0) hx hb dX10_lacks_43 (by decide) ?_
        exact r_reti C hP hS (rt_ow1 h) (rt_ow2 h) dX10_lacks_44
      · replace h := if_f c_ h
        refine lv_aload_n hx hb dX10_lacks_35 rfl (lv_at hl 0 rfl) ?_
        refine lv_iconst (v := 2) hx hb dX10_lacks_36 (by decide) ?_
        obtain ⟨q_3, eq_3⟩ : ∃ z, z = fX10_found σ (2 : Int32) := ⟨_, rfl⟩
        replace h := un_at eq_3 h
        refine end_i (run_v (As := [.int (2 : Int32)]) (rest := []) C ca_X10_found (ctX10_found (2 : Int32) eq_3.symm) cf_10 sm_0 km_0 tw_196 ⟨Nat.le_of_ble_eq_true rfl, Nat.le_of_ble_eq_true rfl⟩ rfl hl.1 (Nat.le_of_ble_eq_true rfl) ⟨Nat.le_refl _, Nat.le_refl _⟩ hP hS dX10_lacks_37) hS (fun H locs hP hS => ?_)
        refine lv_goto (tgt := 44) hx hb dX10_lacks_40 (by decide) ?_
        exact r_reti C hP hS (rt_ow1 h) (rt_ow2 h) dX10_lacks_44
  · replace h := if_f c_ h
    refine lv_aload_n hx hb dX10_lacks_9 rfl (lv_at hl 0 rfl) ?_
    refine lv_iconst (v := 1) hx hb dX10_lacks_10 (by decide) ?_
    obtain ⟨q_4, eq_4⟩ : ∃ z, z = fX10_found σ (1 : Int32) := ⟨_, rfl⟩
    replace h := un_at eq_4 h
    refine end_i (run_v (As := [.int (1 : Int32)]) (rest := []) C ca_X10_found (ctX10_found (1 : Int32) eq_4.symm) cf_10 sm_0 km_0 tw_196 ⟨Nat.le_of_ble_eq_true rfl, Nat.le_of_ble_eq_true rfl⟩ rfl hl.1 (Nat.le_of_ble_eq_true rfl) ⟨Nat.le_refl _, Nat.le_refl _⟩ hP hS dX10_lacks_11) hS (fun H locs hP hS => ?_)
    exact r_reti C hP hS (rt_ow1 h) (rt_ow2 h) dX10_lacks_14

set_option maxRecDepth 100000 in
set_option maxHeartbeats 4000000 in
theorem wfX10_who_L145 {l : Launch} {g : Gw} {p : Program} {e : Env} {s : State} {m : MethodId} {args : Array Value} {below : List Frame} {meth : Method} {c : Code} (C : Cx wkM g p s m args meth c cX10_who 11 RX10 (some .int)) {Rz : (Sto × Int32)} : ∀ (n : Nat) (σ : Sto) (x1 : Int32) (x3 : Int32) (x4 : Int32) (x5 : Int32) (x7 : Int32) (x8 : Int32) (x9 : Int32) (x10 : Int32) (H : Heap) (locs : List Loc) (ls : Array Slot), fX10_who_L145 n σ x1 x3 x4 x5 x7 x8 x9 x10 = some Rz → wS wkM g σ H → va_S (AS wkM g) s.heap H locs → lv_has ls 11 [(0, .ref (adG g 0)), (1, .int x1), (3, .int x3), (4, .int x4), (5, .int x5), (7, .int x7), (8, .int x8), (9, .int x9), (10, .int x10)] → W p l e (rmS 5) s m args below meth c H locs 0 0 (MQ below (QiS wkM g Rz.1 Rz.2) args s 0 0 (AS wkM g)) (F0 m 145 ls []) := by
  intro n
  induction n with
  | zero =>
    intro σ x1 x3 x4 x5 x7 x8 x9 x10 H locs ls h
    cases h
  | succ n ih =>
    intro σ x1 x3 x4 x5 x7 x8 x9 x10 H locs ls h hP hS hl
    obtain ⟨hx, hb, hml, hown, hts, hr, hlk, hK, hZ⟩ := id C
    rw [fX10_who_L145] at h
    refine lv_iload hx hb dX10_who_145 (lv_at hl 8 rfl) ?_
    refine lv_iload hx hb dX10_who_147 (lv_at hl 6 rfl) ?_
    refine lv_icmp_gt (tgt := 199) hx hb dX10_who_149 (by decide) (fun c_ => ?_) (fun c_ => ?_)
    · replace h := if_t c_ h
      refine lv_aload_n hx hb dX10_who_199 rfl (lv_at hl 0 rfl) ?_
      refine lv_iload hx hb dX10_who_200 (lv_at hl 7 rfl) ?_
      obtain ⟨q_1, eq_1⟩ : ∃ z, z = fX10_well σ x9 := ⟨_, rfl⟩
      replace h := un_at eq_1 h
      refine end_i (run_v (As := [.int x9]) (rest := []) C ca_X10_well (ctX10_well x9 eq_1.symm) cf_10 sm_0 km_0 tw_202 ⟨Nat.le_of_ble_eq_true rfl, Nat.le_of_ble_eq_true rfl⟩ rfl hl.1 (Nat.le_of_ble_eq_true rfl) ⟨Nat.le_refl _, Nat.le_refl _⟩ hP hS dX10_who_202) hS (fun H locs hP hS => ?_)
      exact r_reti C hP hS (rt_ow1 h) (rt_ow2 h) dX10_who_205
    · replace h := if_f c_ h
      refine lv_aload_n hx hb dX10_who_152 rfl (lv_at hl 0 rfl) ?_
      refine lv_iconst (v := 0) hx hb dX10_who_153 (by decide) ?_
      obtain ⟨q_2, hq_2, h⟩ := bd_inv h
      refine end_v (run_v (As := [.int (0 : Int32)]) (rest := []) C ca_X10_laysAside (ctX10_laysAside (0 : Int32) hq_2) cf_10 sm_0 km_0 tw_650 ⟨Nat.le_of_ble_eq_true rfl, Nat.le_of_ble_eq_true rfl⟩ rfl hl.1 (Nat.le_of_ble_eq_true rfl) ⟨Nat.le_refl _, Nat.le_refl _⟩ hP hS dX10_who_154) hS (fun H locs hP hS => ?_)
      refine lv_aload_n hx hb dX10_who_157 rfl (lv_at hl 0 rfl) ?_
      refine r_getr C cf_10 hP sm_0 km_0 6 (by decide) rfl tw_149 dX10_who_158 ?_
      refine lv_iload hx hb dX10_who_161 (lv_at hl 5 rfl) ?_
      refine lv_iload hx hb dX10_who_163 (lv_at hl 8 rfl) ?_
      obtain ⟨g_3, h⟩ := gd_inv h
      refine r_iast C hP hS sm_6 km_6 rfl g_3 dX10_who_165 (fun H locs σ_4 eσ_4 hP hS => ?_)
      replace h := un_at eσ_4 h
      refine lv_iload hx hb dX10_who_166 (lv_at hl 7 rfl) ?_
      refine lv_aload_n hx hb dX10_who_168 rfl (lv_at hl 0 rfl) ?_
      refine lv_iload_n hx hb dX10_who_169 rfl (lv_at hl 1 rfl) ?_
      refine lv_iconst (v := 0) hx hb dX10_who_170 (by decide) ?_
      refine lv_iload_n hx hb dX10_who_171 rfl (lv_at hl 2 rfl) ?_
      refine lv_iload hx hb dX10_who_172 (lv_at hl 3 rfl) ?_
      refine lv_iload hx hb dX10_who_174 (lv_at hl 4 rfl) ?_
      obtain ⟨q_5, hq_5, h⟩ := bd_inv h
      refine end_i (run_v (As := [.int x1, .int (0 : Int32), .int x3, .int x4, .int x5]) (rest := [.int x9]) C ca_X10_fits (ctX10_fits x1 (0 : Int32) x3 x4 x5 hq_5) cf_10 sm_0 km_0 tw_972 ⟨Nat.le_of_ble_eq_true rfl, Nat.le_of_ble_eq_true rfl⟩ rfl hl.1 (Nat.le_of_ble_eq_true rfl) ⟨Nat.le_refl _, Nat.le_refl _⟩ hP hS dX10_who_176) hS (fun H locs hP hS => ?_)
      refine lv_if_eq (tgt := 189) hx hb dX10_who_179 (by decide) (fun c_ => ?_) (fun c_ => ?_)
      · replace h := if_t c_ h
        refine lv_iconst (v := 0) hx hb dX10_who_189 (by decide) ?_
        refine lv_ior hx hb dX10_who_190 ?_
        refine lv_topi (fun x_6 ex_6 => ?_)
        replace h := un_at ex_6 h
        refine lv_istore (lv' := [(9, .int x_6), (0, .ref (adG g 0)), (1, .int x1), (3, .int x3), (4, .int x4), (5, .int x5), (7, .int x7), (8, .int x8), (10, .int x10)]) hx hb dX10_who_191 hl (by decide) rfl (fun ls hl => ?_)
        obtain ⟨x_7, ex_7⟩ : ∃ y : Int32, y = x10 + (1 : Int32) := ⟨_, rfl⟩
        replace h := un_at ex_7 h
        refine lv_iinc (v := x_7) (lv' := [(10, .int x_7), (9, .int x_6), (0, .ref (adG g 0)), (1, .int x1), (3, .int x3), (4, .int x4), (5, .int x5), (7, .int x7), (8, .int x8)]) hx hb dX10_who_193 hl (k := 8) rfl (by rw [ex_7]; rfl) (by decide) rfl (fun ls hl => ?_)
        refine lv_goto (tgt := 145) hx hb dX10_who_196 (by decide) ?_
        exact ih q_5.1 x1 x3 x4 x5 x7 x8 x_6 x_7 H locs ls h hP hS (lv_sub hl [2, 3, 4, 5, 6, 7, 8, 1, 0] rfl)
      · replace h := if_f c_ h
        refine lv_iconst (v := 1) hx hb dX10_who_182 (by decide) ?_
        refine lv_iload hx hb dX10_who_183 (lv_at hl 8 rfl) ?_
        refine lv_ishl hx hb dX10_who_185 ?_
        refine lv_goto (tgt := 190) hx hb dX10_who_186 (by decide) ?_
        refine lv_ior hx hb dX10_who_190 ?_
        refine lv_topi (fun x_8 ex_8 => ?_)
        replace h := un_at ex_8 h
        refine lv_istore (lv' := [(9, .int x_8), (0, .ref (adG g 0)), (1, .int x1), (3, .int x3), (4, .int x4), (5, .int x5), (7, .int x7), (8, .int x8), (10, .int x10)]) hx hb dX10_who_191 hl (by decide) rfl (fun ls hl => ?_)
        obtain ⟨x_9, ex_9⟩ : ∃ y : Int32, y = x10 + (1 : Int32) := ⟨_, rfl⟩
        replace h := un_at ex_9 h
        refine lv_iinc (v := x_9) (lv' := [(10, .int x_9), (9, .int x_8), (0, .ref (adG g 0)), (1, .int x1), (3, .int x3), (4, .int x4), (5, .int x5), (7, .int x7), (8, .int x8)]) hx hb dX10_who_193 hl (k := 8) rfl (by rw [ex_9]; rfl) (by decide) rfl (fun ls hl => ?_)
        refine lv_goto (tgt := 145) hx hb dX10_who_196 (by decide) ?_
        exact ih q_5.1 x1 x3 x4 x5 x7 x8 x_8 x_9 H locs ls h hP hS (lv_sub hl [2, 3, 4, 5, 6, 7, 8, 1, 0] rfl)

set_option maxRecDepth 100000 in
set_option maxHeartbeats 4000000 in
theorem wfX10_who_j143 {l : Launch} {g : Gw} {p : Program} {e : Env} {s : State} {m : MethodId} {args : Array Value} {below : List Frame} {meth : Method} {c : Code} (C : Cx wkM g p s m args meth c cX10_who 11 RX10 (some .int)) {Rz : (Sto × Int32)} : ∀ (σ : Sto) (x1 : Int32) (x3 : Int32) (x4 : Int32) (x5 : Int32) (x7 : Int32) (x8 : Int32) (x9 : Int32) (y0 : Int32) (H : Heap) (locs : List Loc) (ls : Array Slot), fX10_who_j143 σ x1 x3 x4 x5 x7 x8 x9 y0 = some Rz → wS wkM g σ H → va_S (AS wkM g) s.heap H locs → lv_has ls 11 [(0, .ref (adG g 0)), (1, .int x1), (3, .int x3), (4, .int x4), (5, .int x5), (7, .int x7), (8, .int x8), (9, .int x9)] → W p l e (rmS 5) s m args below meth c H locs 0 0 (MQ below (QiS wkM g Rz.1 Rz.2) args s 0 0 (AS wkM g)) (F0 m 143 ls [.int y0]) := by
  intro σ x1 x3 x4 x5 x7 x8 x9 y0 H locs ls h hP hS hl
  obtain ⟨hx, hb, hml, hown, hts, hr, hlk, hK, hZ⟩ := id C
  unfold fX10_who_j143 at h
  refine lv_istore (lv' := [(10, .int y0), (0, .ref (adG g 0)), (1, .int x1), (3, .int x3), (4, .int x4), (5, .int x5), (7, .int x7), (8, .int x8), (9, .int x9)]) hx hb dX10_who_143 hl (by decide) rfl (fun ls hl => ?_)
  exact wfX10_who_L145 C fu σ x1 x3 x4 x5 x7 x8 x9 y0 H locs ls h hP hS (lv_sub hl [1, 2, 3, 4, 5, 6, 7, 8, 0] rfl)

set_option maxRecDepth 100000 in
set_option maxHeartbeats 4000000 in
theorem wfX10_who_j128 {l : Launch} {g : Gw} {p : Program} {e : Env} {s : State} {m : MethodId} {args : Array Value} {below : List Frame} {meth : Method} {c : Code} (C : Cx wkM g p s m args meth c cX10_who 11 RX10 (some .int)) {Rz : (Sto × Int32)} : ∀ (σ : Sto) (x1 : Int32) (x2 : Int32) (x3 : Int32) (x4 : Int32) (x5 : Int32) (x7 : Int32) (y0 : Int32) (H : Heap) (locs : List Loc) (ls : Array Slot), fX10_who_j128 σ x1 x2 x3 x4 x5 x7 y0 = some Rz → wS wkM g σ H → va_S (AS wkM g) s.heap H locs → lv_has ls 11 [(0, .ref (adG g 0)), (1, .int x1), (2, .int x2), (3, .int x3), (4, .int x4), (5, .int x5), (7, .int x7)] → W p l e (rmS 5) s m args below meth c H locs 0 0 (MQ below (QiS wkM g Rz.1 Rz.2) args s 0 0 (AS wkM g)) (F0 m 128 ls [.int y0]) := by
  intro σ x1 x2 x3 x4 x5 x7 y0 H locs ls h hP hS hl
  obtain ⟨hx, hb, hml, hown, hts, hr, hlk, hK, hZ⟩ := id C
  unfold fX10_who_j128 at h
  refine lv_istore (lv' := [(8, .int y0), (0, .ref (adG g 0)), (1, .int x1), (2, .int x2), (3, .int x3), (4, .int x4), (5, .int x5), (7, .int x7)]) hx hb dX10_who_128 hl (by decide) rfl (fun ls hl => ?_)
  refine lv_iconst (v := 0) hx hb dX10_who_130 (by decide) ?_
  refine lv_istore (lv' := [(9, .int (0 : Int32)), (8, .int y0), (0, .ref (adG g 0)), (1, .int x1), (2, .int x2), (3, .int x3), (4, .int x4), (5, .int x5), (7, .int x7)]) hx hb dX10_who_131 hl (by decide) rfl (fun ls hl => ?_)
  refine lv_iload_n hx hb dX10_who_133 rfl (lv_at hl 4 rfl) ?_
  refine lv_iconst (v := 2) hx hb dX10_who_134 (by decide) ?_
  refine lv_icmp_ge (tgt := 142) hx hb dX10_who_135 (by decide) (fun c_ => ?_) (fun c_ => ?_)
  · replace h := if_t c_ h
    refine lv_iconst (v := 0) hx hb dX10_who_142 (by decide) ?_
    exact wfX10_who_j143 C σ x1 x3 x4 x5 x7 y0 (0 : Int32) (0 : Int32) H locs ls h hP hS (lv_sub hl [2, 3, 5, 6, 7, 8, 1, 0] rfl)
  · replace h := if_f c_ h
    refine lv_iconst (v := 1) hx hb dX10_who_138 (by decide) ?_
    refine lv_goto (tgt := 143) hx hb dX10_who_139 (by decide) ?_
    exact wfX10_who_j143 C σ x1 x3 x4 x5 x7 y0 (0 : Int32) (1 : Int32) H locs ls h hP hS (lv_sub hl [2, 3, 5, 6, 7, 8, 1, 0] rfl)

set_option maxRecDepth 100000 in
set_option maxHeartbeats 4000000 in
theorem wfX10_who_j98 {l : Launch} {g : Gw} {p : Program} {e : Env} {s : State} {m : MethodId} {args : Array Value} {below : List Frame} {meth : Method} {c : Code} (C : Cx wkM g p s m args meth c cX10_who 11 RX10 (some .int)) {Rz : (Sto × Int32)} : ∀ (σ : Sto) (x1 : Int32) (x2 : Int32) (x3 : Int32) (x4 : Int32) (x5 : Int32) (y0 : Int32) (H : Heap) (locs : List Loc) (ls : Array Slot), fX10_who_j98 σ x1 x2 x3 x4 x5 y0 = some Rz → wS wkM g σ H → va_S (AS wkM g) s.heap H locs → lv_has ls 11 [(0, .ref (adG g 0)), (1, .int x1), (2, .int x2), (3, .int x3), (4, .int x4), (5, .int x5)] → W p l e (rmS 5) s m args below meth c H locs 0 0 (MQ below (QiS wkM g Rz.1 Rz.2) args s 0 0 (AS wkM g)) (F0 m 98 ls [.int y0]) := by
  intro σ x1 x2 x3 x4 x5 y0 H locs ls h hP hS hl
  obtain ⟨hx, hb, hml, hown, hts, hr, hlk, hK, hZ⟩ := id C
  unfold fX10_who_j98 at h
  refine lv_iload_n hx hb dX10_who_98 rfl (lv_at hl 1 rfl) ?_
  refine lv_iadd hx hb dX10_who_99 ?_
  refine lv_topi (fun x_1 ex_1 => ?_)
  replace h := un_at ex_1 h
  refine lv_istore (lv' := [(7, .int x_1), (0, .ref (adG g 0)), (1, .int x1), (2, .int x2), (3, .int x3), (4, .int x4), (5, .int x5)]) hx hb dX10_who_100 hl (by decide) rfl (fun ls hl => ?_)
  refine lv_iload_n hx hb dX10_who_102 rfl (lv_at hl 3 rfl) ?_
  refine lv_if_ne (tgt := 110) hx hb dX10_who_103 (by decide) (fun c_ => ?_) (fun c_ => ?_)
  · replace h := if_f c_ h
    refine lv_iload_n hx hb dX10_who_110 rfl (lv_at hl 3 rfl) ?_
    refine lv_iconst (v := 1) hx hb dX10_who_111 (by decide) ?_
    refine lv_icmp_ne (tgt := 120) hx hb dX10_who_112 (by decide) (fun c_ => ?_) (fun c_ => ?_)
    · replace h := if_f c_ h
      refine lv_aload_n hx hb dX10_who_120 rfl (lv_at hl 1 rfl) ?_
      refine r_getr C cf_10 hP sm_0 km_0 4 (by decide) rfl tw_147 dX10_who_121 ?_
      refine lv_iconst (v := 0) hx hb dX10_who_124 (by decide) ?_
      refine r_iald C hP sm_4 km_4 (j := 0) (by decide) (by decide) dX10_who_125 ?_
      refine lv_iconst (v := 1) hx hb dX10_who_126 (by decide) ?_
      refine lv_isub hx hb dX10_who_127 ?_
      exact wfX10_who_j128 C σ x1 x2 x3 x4 x5 x_1 ((σ 4 0) - (1 : Int32)) H locs ls h hP hS (lv_sub hl [1, 2, 3, 4, 5, 6, 0] rfl)
    · replace h := if_t c_ h
      refine lv_bipush (v := 9) hx hb dX10_who_115 (by decide) ?_
      refine lv_goto (tgt := 128) hx hb dX10_who_117 (by decide) ?_
      exact wfX10_who_j128 C σ x1 x2 x3 x4 x5 x_1 (9 : Int32) H locs ls h hP hS (lv_sub hl [1, 2, 3, 4, 5, 6, 0] rfl)
  · replace h := if_t c_ h
    refine lv_iconst (v := 5) hx hb dX10_who_106 (by decide) ?_
    refine lv_goto (tgt := 128) hx hb dX10_who_107 (by decide) ?_
    exact wfX10_who_j128 C σ x1 x2 x3 x4 x5 x_1 (5 : Int32) H locs ls h hP hS (lv_sub hl [1, 2, 3, 4, 5, 6, 0] rfl)
