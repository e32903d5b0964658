set_option maxRecDepth 100000 in
set_option maxHeartbeats 4000000 in
theorem wfX10_keeps_L26 {l : Launch} {g : Gw} {p : Program} {e : Env} {s : State} {m : MethodId} {args : Array Value} {below : List Frame} {meth : Method} {c : Code} (C : Cx wkM g p s m args meth c cX10_keeps 7 RX10 (some .int)) {Rz : (Sto × Int32)} : ∀ (n : Nat) (σ : Sto) (x1 : Int32) (x3 : Int32) (x4 : Int32) (x5 : Int32) (H : Heap) (locs : List Loc) (ls : Array Slot), fX10_keeps_L26 n σ x1 x3 x4 x5 = some Rz → wS wkM g σ H → va_S (AS wkM g) s.heap H locs → lv_has ls 7 [(0, .ref (adG g 0)), (1, .int x1), (3, .int x3), (4, .int x4), (5, .int x5)] → W p l e (rmS 5) s m args below meth c H locs 0 0 (MQ below (QiS wkM g Rz.1 Rz.2) args s 0 0 (AS wkM g)) (F0 m 26 ls []) := by
  intro n
  induction n with
  | zero =>
    intro σ x1 x3 x4 x5 H locs ls h
    cases h
  | succ n ih =>
    intro σ x1 x3 x4 x5 H locs ls h hP hS hl
    obtain ⟨hx, hb, hml, hown, hts, hr, hlk, hK, hZ⟩ := id C
    rw [fX10_keeps_L26] at h
    refine lv_iload hx hb dX10_keeps_26 (lv_at hl 4 rfl) ?_
    refine lv_if_le (tgt := 95) hx hb dX10_keeps_28 (by decide) (fun c_ => ?_) (fun c_ => ?_)
    · replace h := if_t c_ h
      refine lv_aload_n hx hb dX10_keeps_95 rfl (lv_at hl 0 rfl) ?_
      refine r_getr C cf_10 hP sm_0 km_0 6 (by decide) rfl tw_149 dX10_keeps_96 ?_
      refine lv_iload_n hx hb dX10_keeps_99 rfl (lv_at hl 2 rfl) ?_
      obtain ⟨q_1, hq_1, h⟩ := bd_inv h
      refine end_v (run_s (As := [.ref (adG g 6), .int x3]) (rest := []) C ca_X10_goesBy (ctX10_goesBy 6 ⟨sm_6, km_6⟩ x3 hq_1) tw_654 ⟨Nat.le_of_ble_eq_true rfl, Nat.le_of_ble_eq_true rfl⟩ rfl hl.1 (Nat.le_of_ble_eq_true rfl) ⟨Nat.le_refl _, Nat.le_refl _⟩ hP hS dX10_keeps_100) hS (fun H locs hP hS => ?_)
      refine lv_aload_n hx hb dX10_keeps_103 rfl (lv_at hl 0 rfl) ?_
      refine r_getr C cf_10 hP sm_0 km_0 6 (by decide) rfl tw_149 dX10_keeps_104 ?_
      obtain ⟨q_2, hq_2, h⟩ := bd_inv h
      refine end_i (run_s (As := [.ref (adG g 6)]) (rest := []) C ca_X10_stones (ctX10_stones 6 ⟨sm_6, km_6⟩ hq_2) tw_785 ⟨Nat.le_of_ble_eq_true rfl, Nat.le_of_ble_eq_true rfl⟩ rfl hl.1 (Nat.le_of_ble_eq_true rfl) ⟨Nat.le_refl _, Nat.le_refl _⟩ hP hS dX10_keeps_107) hS (fun H locs hP hS => ?_)
      exact r_reti C hP hS (rt_ow1 h) (rt_ow2 h) dX10_keeps_110
    · replace h := if_f c_ h
      refine lv_iload_n hx hb dX10_keeps_31 rfl (lv_at hl 1 rfl) ?_
      refine lv_iload hx hb dX10_keeps_32 (lv_at hl 4 rfl) ?_
      obtain ⟨g_3, h⟩ := gd_inv h
      refine lv_idiv hx hb dX10_keeps_34 (nz_ne g_3) ?_
      refine lv_iload hx hb dX10_keeps_35 (lv_at hl 3 rfl) ?_
      obtain ⟨g_4, h⟩ := gd_inv h
      refine lv_irem hx hb dX10_keeps_37 (nz_ne g_4) ?_
      refine lv_topi (fun x_5 ex_5 => ?_)
      replace h := un_at ex_5 h
      refine lv_istore (lv' := [(6, .int x_5), (0, .ref (adG g 0)), (1, .int x1), (3, .int x3), (4, .int x4), (5, .int x5)]) hx hb dX10_keeps_38 hl (by decide) rfl (fun ls hl => ?_)
      refine lv_iload hx hb dX10_keeps_40 (lv_at hl 0 rfl) ?_
      refine lv_aload_n hx hb dX10_keeps_42 rfl (lv_at hl 1 rfl) ?_
      refine r_getr C cf_10 hP sm_0 km_0 4 (by decide) rfl tw_147 dX10_keeps_43 ?_
      refine lv_iconst (v := 1) hx hb dX10_keeps_46 (by decide) ?_
      refine r_iald C hP sm_4 km_4 (j := 1) (by decide) (by decide) dX10_keeps_47 ?_
      refine lv_icmp_ge (tgt := 78) hx hb dX10_keeps_48 (by decide) (fun c_ => ?_) (fun c_ => ?_)
      · replace h := if_t c_ h
        refine lv_aload_n hx hb dX10_keeps_78 rfl (lv_at hl 1 rfl) ?_
        refine r_getr C cf_10 hP sm_0 km_0 6 (by decide) rfl tw_149 dX10_keeps_79 ?_
        obtain ⟨q_6, hq_6, h⟩ := bd_inv h
        refine end_v (run_s (As := [.ref (adG g 6)]) (rest := []) C ca_X10_passes (ctX10_passes 6 ⟨sm_6, km_6⟩ hq_6) tw_490 ⟨Nat.le_of_ble_eq_true rfl, Nat.le_of_ble_eq_true rfl⟩ rfl hl.1 (Nat.le_of_ble_eq_true rfl) ⟨Nat.le_refl _, Nat.le_refl _⟩ hP hS dX10_keeps_82) hS (fun H locs hP hS => ?_)
        refine lv_iload hx hb dX10_keeps_85 (lv_at hl 5 rfl) ?_
        refine lv_iload hx hb dX10_keeps_87 (lv_at hl 4 rfl) ?_
        refine lv_idiv hx hb dX10_keeps_89 (nz_ne g_4) ?_
        refine lv_topi (fun x_7 ex_7 => ?_)
        replace h := un_at ex_7 h
        refine lv_istore (lv' := [(5, .int x_7), (6, .int x_5), (0, .ref (adG g 0)), (1, .int x1), (3, .int x3), (4, .int x4)]) hx hb dX10_keeps_90 hl (by decide) rfl (fun ls hl => ?_)
        refine lv_goto (tgt := 26) hx hb dX10_keeps_92 (by decide) ?_
        exact ih q_6 x1 x3 x4 x_7 H locs ls h hP hS (lv_sub hl [2, 3, 4, 5, 0] rfl)
      · replace h := if_f c_ h
        refine lv_aload_n hx hb dX10_keeps_51 rfl (lv_at hl 1 rfl) ?_
        refine r_getr C cf_10 hP sm_0 km_0 6 (by decide) rfl tw_149 dX10_keeps_52 ?_
        refine lv_iload hx hb dX10_keeps_55 (lv_at hl 0 rfl) ?_
        refine lv_aload_n hx hb dX10_keeps_57 rfl (lv_at hl 1 rfl) ?_
        refine r_getr C cf_10 hP sm_0 km_0 6 (by decide) rfl tw_149 dX10_keeps_58 ?_
        refine lv_bipush (v := 53) hx hb dX10_keeps_61 (by decide) ?_
        refine lv_iload hx hb dX10_keeps_63 (lv_at hl 0 rfl) ?_
        refine lv_iadd hx hb dX10_keeps_65 ?_
        obtain ⟨g_8, h⟩ := gd_inv h
        refine r_iald C hP sm_6 km_6 rfl g_8 dX10_keeps_66 ?_
        refine lv_if_ne (tgt := 74) hx hb dX10_keeps_67 (by decide) (fun c_ => ?_) (fun c_ => ?_)
        · replace h := if_f c_ h
          refine lv_iconst (v := 0) hx hb dX10_keeps_74 (by decide) ?_
          obtain ⟨q_9, hq_9, h⟩ := bd_inv h
          refine end_v (run_s (As := [.ref (adG g 6), .int x_5, .int (0 : Int32)]) (rest := []) C ca_X10_goes (ctX10_goes 6 ⟨sm_6, km_6⟩ x_5 (0 : Int32) hq_9) tw_505 ⟨Nat.le_of_ble_eq_true rfl, Nat.le_of_ble_eq_true rfl⟩ rfl hl.1 (Nat.le_of_ble_eq_true rfl) ⟨Nat.le_refl _, Nat.le_refl _⟩ hP hS dX10_keeps_75) hS (fun H locs hP hS => ?_)
          refine lv_aload_n hx hb dX10_keeps_78 rfl (lv_at hl 1 rfl) ?_
          refine r_getr C cf_10 hP sm_0 km_0 6 (by decide) rfl tw_149 dX10_keeps_79 ?_
          obtain ⟨q_10, hq_10, h⟩ := bd_inv h
          refine end_v (run_s (As := [.ref (adG g 6)]) (rest := []) C ca_X10_passes (ctX10_passes 6 ⟨sm_6, km_6⟩ hq_10) tw_490 ⟨Nat.le_of_ble_eq_true rfl, Nat.le_of_ble_eq_true rfl⟩ rfl hl.1 (Nat.le_of_ble_eq_true rfl) ⟨Nat.le_refl _, Nat.le_refl _⟩ hP hS dX10_keeps_82) hS (fun H locs hP hS => ?_)
          refine lv_iload hx hb dX10_keeps_85 (lv_at hl 5 rfl) ?_
          refine lv_iload hx hb dX10_keeps_87 (lv_at hl 4 rfl) ?_
          refine lv_idiv hx hb dX10_keeps_89 (nz_ne g_4) ?_
          refine lv_topi (fun x_11 ex_11 => ?_)
          replace h := un_at ex_11 h
          refine lv_istore (lv' := [(5, .int x_11), (6, .int x_5), (0, .ref (adG g 0)), (1, .int x1), (3, .int x3), (4, .int x4)]) hx hb dX10_keeps_90 hl (by decide) rfl (fun ls hl => ?_)
          refine lv_goto (tgt := 26) hx hb dX10_keeps_92 (by decide) ?_
          exact ih q_10 x1 x3 x4 x_11 H locs ls h hP hS (lv_sub hl [2, 3, 4, 5, 0] rfl)
        · replace h := if_t c_ h
          refine lv_iconst (v := 1) hx hb dX10_keeps_70 (by decide) ?_
          refine lv_goto (tgt := 75) hx hb dX10_keeps_71 (by decide) ?_
          obtain ⟨q_12, hq_12, h⟩ := bd_inv h
          refine end_v (run_s (As := [.ref (adG g 6), .int x_5, .int (1 : Int32)]) (rest := []) C ca_X10_goes (ctX10_goes 6 ⟨sm_6, km_6⟩ x_5 (1 : Int32) hq_12) tw_505 ⟨Nat.le_of_ble_eq_true rfl, Nat.le_of_ble_eq_true rfl⟩ rfl hl.1 (Nat.le_of_ble_eq_true rfl) ⟨Nat.le_refl _, Nat.le_refl _⟩ hP hS dX10_keeps_75) hS (fun H locs hP hS => ?_)
          refine lv_aload_n hx hb dX10_keeps_78 rfl (lv_at hl 1 rfl) ?_
          refine r_getr C cf_10 hP sm_0 km_0 6 (by decide) rfl tw_149 dX10_keeps_79 ?_
          obtain ⟨q_13, hq_13, h⟩ := bd_inv h
          refine end_v (run_s (As := [.ref (adG g 6)]) (rest := []) C ca_X10_passes (ctX10_passes 6 ⟨sm_6, km_6⟩ hq_13) tw_490 ⟨Nat.le_of_ble_eq_true rfl, Nat.le_of_ble_eq_true rfl⟩ rfl hl.1 (Nat.le_of_ble_eq_true rfl) ⟨Nat.le_refl _, Nat.le_refl _⟩ hP hS dX10_keeps_82) hS (fun H locs hP hS => ?_)
          refine lv_iload hx hb dX10_keeps_85 (lv_at hl 5 rfl) ?_
          refine lv_iload hx hb dX10_keeps_87 (lv_at hl 4 rfl) ?_
          refine lv_idiv hx hb dX10_keeps_89 (nz_ne g_4) ?_
          refine lv_topi (fun x_14 ex_14 => ?_)
          replace h := un_at ex_14 h
          refine lv_istore (lv' := [(5, .int x_14), (6, .int x_5), (0, .ref (adG g 0)), (1, .int x1), (3, .int x3), (4, .int x4)]) hx hb dX10_keeps_90 hl (by decide) rfl (fun ls hl => ?_)
          refine lv_goto (tgt := 26) hx hb dX10_keeps_92 (by decide) ?_
          exact ih q_13 x1 x3 x4 x_14 H locs ls h hP hS (lv_sub hl [2, 3, 4, 5, 0] rfl)

set_option maxRecDepth 100000 in
set_option maxHeartbeats 4000000 in
theorem ctX10_keeps {l : Launch} {g : Gw} {σ : Sto} (x1 : Int32) (x2 : Int32) (x3 : Int32) {Rz : (Sto × Int32)} (h : fX10_keeps σ x1 x2 x3 = some Rz) : MtG l yX10_keeps cX10_keeps 7 (some .int) 5 wkM g [.ref (adG g 0), .int x1, .int x2, .int x3] σ (QiS wkM g Rz.1 Rz.2) := by
  refine mt_of (by decide) (Nat.le_of_ble_eq_true rfl) (fun p e s m below meth c ls H locs C hP hS hl => ?_)
  have C : Cx wkM g p s m _ meth c cX10_keeps 7 RX10 (some .int) := C
  have hl : lv_has ls 7 [(0, .ref (adG g 0)), (1, .int x1), (2, .int x2), (3, .int x3)] := hl
  obtain ⟨hx, hb, hml, hown, hts, hr, hlk, hK, hZ⟩ := id C
  unfold fX10_keeps at h
  refine lv_aload_n hx hb dX10_keeps_0 rfl (lv_at hl 0 rfl) ?_
  refine r_getr C cf_10 hP sm_0 km_0 4 (by decide) rfl tw_147 dX10_keeps_1 ?_
  refine lv_iconst (v := 1) hx hb dX10_keeps_4 (by decide) ?_
  refine r_iald C hP sm_4 km_4 (j := 1) (by decide) (by decide) dX10_keeps_5 ?_
  refine lv_iconst (v := 1) hx hb dX10_keeps_6 (by decide) ?_
  refine lv_iadd hx hb dX10_keeps_7 ?_
  refine lv_topi (fun x_1 ex_1 => ?_)
  replace h := un_at ex_1 h
  refine lv_istore (lv' := [(4, .int x_1), (0, .ref (adG g 0)), (1, .int x1), (2, .int x2), (3, .int x3)]) hx hb dX10_keeps_8 hl (by decide) rfl (fun ls hl => ?_)
  refine lv_aload_n hx hb dX10_keeps_10 rfl (lv_at hl 1 rfl) ?_
  refine lv_iconst (v := 0) hx hb dX10_keeps_11 (by decide) ?_
  obtain ⟨q_2, hq_2, h⟩ := bd_inv h
  refine end_v (run_v (As := [.int (0 : Int32)]) (rest := []) C ca_X10_laysAside (ctX10_laysAside (0 : Int32) hq_2) cf_10 sm_0 km_0 tw_650 ⟨Nat.le_of_ble_eq_true rfl, Nat.le_of_ble_eq_true rfl⟩ rfl hl.1 (Nat.le_of_ble_eq_true rfl) ⟨Nat.le_refl _, Nat.le_refl _⟩ hP hS dX10_keeps_12) hS (fun H locs hP hS => ?_)
  refine lv_iload hx hb dX10_keeps_15 (lv_at hl 0 rfl) ?_
  refine lv_iload_n hx hb dX10_keeps_17 rfl (lv_at hl 3 rfl) ?_
  obtain ⟨q_3, hq_3, h⟩ := bd_inv h
  refine end_i (run_s (As := [.int x_1, .int x2]) (rest := []) C ca_X10_power (ctX10_power x_1 x2 hq_3) tw_778 ⟨Nat.le_of_ble_eq_true rfl, Nat.le_of_ble_eq_true rfl⟩ rfl hl.1 (Nat.le_of_ble_eq_true rfl) ⟨Nat.le_refl _, Nat.le_refl _⟩ hP hS dX10_keeps_18) hS (fun H locs hP hS => ?_)
  refine lv_iload hx hb dX10_keeps_21 (lv_at hl 0 rfl) ?_
  obtain ⟨g_4, h⟩ := gd_inv h
  refine lv_idiv hx hb dX10_keeps_23 (nz_ne g_4) ?_
  refine lv_topi (fun x_5 ex_5 => ?_)
  replace h := un_at ex_5 h
  refine lv_istore (lv' := [(5, .int x_5), (4, .int x_1), (0, .ref (adG g 0)), (1, .int x1), (2, .int x2), (3, .int x3)]) hx hb dX10_keeps_24 hl (by decide) rfl (fun ls hl => ?_)
  exact wfX10_keeps_L26 C fu q_2 x1 x3 x_1 x_5 H locs ls h hP hS (lv_sub hl [2, 3, 5, 1, 0] rfl)

set_option maxRecDepth 100000 in
set_option maxHeartbeats 4000000 in
theorem wfX10_carries_L62 {l : Launch} {g : Gw} {p : Program} {e : Env} {s : State} {m : MethodId} {args : Array Value} {below : List Frame} {meth : Method} {c : Code} (C : Cx wkM g p s m args meth c cX10_carries 9 RX10 (some .int)) {Rz : (Sto × Int32)} {k_114 : Sto → Int32 → Int32 → Int32 → Int32 → Int32 → Option (Sto × Int32)} : ∀ (n : Nat) (σ : Sto) (x1 : Int32) (x2 : Int32) (x3 : Int32) (x4 : Int32) (x5 : Int32) (x6 : Int32) (x7 : Int32) (H : Heap) (locs : List Loc) (ls : Array Slot), fX10_carries_L62 k_114 n σ x1 x2 x3 x4 x5 x6 x7 = some Rz → wS wkM g σ H → va_S (AS wkM g) s.heap H locs → lv_has ls 9 [(0, .ref (adG g 0)), (1, .int x1), (2, .int x2), (3, .int x3), (4, .int x4), (5, .int x5), (6, .int x6), (7, .int x7)] → (∀ (σ : Sto) (x1 : Int32) (x3 : Int32) (x4 : Int32) (x5 : Int32) (x6 : Int32) (H : Heap) (locs : List Loc) (ls : Array Slot), k_114 σ x1 x3 x4 x5 x6 = some Rz → wS wkM g σ H → va_S (AS wkM g) s.heap H locs → lv_has ls 9 [(1, .int x1), (3, .int x3), (4, .int x4), (5, .int x5), (6, .int x6)] → W p l e (rmS 6) s m args below meth c H locs 0 0 (MQ below (QiS wkM g Rz.1 Rz.2) args s 0 0 (AS wkM g)) (F0 m 114 ls [])) → W p l e (rmS 6) s m args below meth c H locs 0 0 (MQ below (QiS wkM g Rz.1 Rz.2) args s 0 0 (AS wkM g)) (F0 m 62 ls []) := by
  intro n
  induction n with
  | zero =>
    intro σ x1 x2 x3 x4 x5 x6 x7 H locs ls h
    cases h
  | succ n ih =>
    intro σ x1 x2 x3 x4 x5 x6 x7 H locs ls h hP hS hl hk_114
    obtain ⟨hx, hb, hml, hown, hts, hr, hlk, hK, hZ⟩ := id C
    rw [fX10_carries_L62] at h
    refine lv_iload hx hb dX10_carries_62 (lv_at hl 7 rfl) ?_
    refine lv_iload hx hb dX10_carries_64 (lv_at hl 4 rfl) ?_
    refine lv_iload_n hx hb dX10_carries_66 rfl (lv_at hl 1 rfl) ?_
    obtain ⟨q_1, hq_1, h⟩ := bd_inv h
    refine end_i (run_s (As := [.int x4, .int x1]) (rest := [.int x7]) C ca_X10_power (ctX10_power x4 x1 hq_1) tw_778 ⟨Nat.le_of_ble_eq_true rfl, Nat.le_of_ble_eq_true rfl⟩ rfl hl.1 (Nat.le_of_ble_eq_true rfl) ⟨Nat.le_refl _, Nat.le_refl _⟩ hP hS dX10_carries_67) hS (fun H locs hP hS => ?_)
    refine lv_icmp_ge (tgt := 114) hx hb dX10_carries_70 (by decide) (fun c_ => ?_) (fun c_ => ?_)
    · replace h := if_t c_ h
      exact hk_114 σ x1 x3 x4 x5 x6 H locs ls h hP hS (lv_sub hl [1, 3, 4, 5, 6] rfl)
    · replace h := if_f c_ h
      refine lv_aload_n hx hb dX10_carries_73 rfl (lv_at hl 0 rfl) ?_
      refine lv_iload hx hb dX10_carries_74 (lv_at hl 7 rfl) ?_
      refine lv_iload_n hx hb dX10_carries_76 rfl (lv_at hl 1 rfl) ?_
      refine lv_iload_n hx hb dX10_carries_77 rfl (lv_at hl 2 rfl) ?_
      obtain ⟨q_2, hq_2, h⟩ := bd_inv h
      refine end_i (run_v (As := [.int x7, .int x1, .int x2]) (rest := []) C ca_X10_keeps (ctX10_keeps x7 x1 x2 hq_2) cf_10 sm_0 km_0 tw_781 ⟨Nat.le_of_ble_eq_true rfl, Nat.le_of_ble_eq_true rfl⟩ rfl hl.1 (Nat.le_of_ble_eq_true rfl) ⟨Nat.le_refl _, Nat.le_refl _⟩ hP hS dX10_carries_78) hS (fun H locs hP hS => ?_)
      refine lv_istore (lv' := [(8, .int q_2.2), (0, .ref (adG g 0)), (1, .int x1), (2, .int x2), (3, .int x3), (4, .int x4), (5, .int x5), (6, .int x6), (7, .int x7)]) hx hb dX10_carries_81 hl (by decide) rfl (fun ls hl => ?_)
      refine lv_iload hx hb dX10_carries_83 (lv_at hl 0 rfl) ?_
      refine lv_iload hx hb dX10_carries_85 (lv_at hl 6 rfl) ?_
      refine lv_icmp_ge (tgt := 95) hx hb dX10_carries_87 (by decide) (fun c_ => ?_) (fun c_ => ?_)
      · replace h := if_t c_ h
        refine lv_iload hx hb dX10_carries_95 (lv_at hl 7 rfl) ?_
        refine lv_istore (lv' := [(6, .int x6), (8, .int q_2.2), (0, .ref (adG g 0)), (1, .int x1), (2, .int x2), (3, .int x3), (4, .int x4), (5, .int x5), (7, .int x7)]) hx hb dX10_carries_97 hl (by decide) rfl (fun ls hl => ?_)
        refine lv_iload hx hb dX10_carries_99 (lv_at hl 7 rfl) ?_
        refine lv_iload hx hb dX10_carries_101 (lv_at hl 1 rfl) ?_
        refine end_i (run_s (As := [.int x5, .int q_2.2]) (rest := []) C ca_X10_less (ctX10_less x5 q_2.2 rfl) tw_496 ⟨Nat.le_of_ble_eq_true rfl, Nat.le_of_ble_eq_true rfl⟩ rfl hl.1 (Nat.le_of_ble_eq_true rfl) ⟨Nat.le_refl _, Nat.le_refl _⟩ hP hS dX10_carries_103) hS (fun H locs hP hS => ?_)
        refine lv_topi (fun x_4 ex_4 => ?_)
        replace h := un_at ex_4 h
        refine lv_istore (lv' := [(5, .int x_4), (6, .int x6), (8, .int q_2.2), (0, .ref (adG g 0)), (1, .int x1), (2, .int x2), (3, .int x3), (4, .int x4), (7, .int x7)]) hx hb dX10_carries_106 hl (by decide) rfl (fun ls hl => ?_)
        obtain ⟨x_5, ex_5⟩ : ∃ y : Int32, y = x7 + (1 : Int32) := ⟨_, rfl⟩
        replace h := un_at ex_5 h
        refine lv_iinc (v := x_5) (lv' := [(7, .int x_5), (5, .int x_4), (6, .int x6), (8, .int q_2.2), (0, .ref (adG g 0)), (1, .int x1), (2, .int x2), (3, .int x3), (4, .int x4)]) hx hb dX10_carries_108 hl (k := 8) rfl (by rw [ex_5]; rfl) (by decide) rfl (fun ls hl => ?_)
        refine lv_goto (tgt := 62) hx hb dX10_carries_111 (by decide) ?_
        exact ih q_2.1 x1 x2 x3 x4 x_4 x6 x_5 H locs ls h hP hS (lv_sub hl [4, 5, 6, 7, 8, 1, 2, 0] rfl) hk_114
      · replace h := if_f c_ h
        refine lv_iload hx hb dX10_carries_90 (lv_at hl 8 rfl) ?_
        refine lv_goto (tgt := 97) hx hb dX10_carries_92 (by decide) ?_
        refine lv_istore (lv' := [(6, .int x7), (8, .int q_2.2), (0, .ref (adG g 0)), (1, .int x1), (2, .int x2), (3, .int x3), (4, .int x4), (5, .int x5), (7, .int x7)]) hx hb dX10_carries_97 hl (by decide) rfl (fun ls hl => ?_)
        refine lv_iload hx hb dX10_carries_99 (lv_at hl 7 rfl) ?_
        refine lv_iload hx hb dX10_carries_101 (lv_at hl 1 rfl) ?_
        refine end_i (run_s (As := [.int x5, .int q_2.2]) (rest := []) C ca_X10_less (ctX10_less x5 q_2.2 rfl) tw_496 ⟨Nat.le_of_ble_eq_true rfl, Nat.le_of_ble_eq_true rfl⟩ rfl hl.1 (Nat.le_of_ble_eq_true rfl) ⟨Nat.le_refl _, Nat.le_refl _⟩ hP hS dX10_carries_103) hS (fun H locs hP hS => ?_)
        refine lv_topi (fun x_7 ex_7 => ?_)
        replace h := un_at ex_7 h
        refine lv_istore (lv' := [(5, .int x_7), (6, .int x7), (8, .int q_2.2), (0, .ref (adG g 0)), (1, .int x1), (2, .int x2), (3, .int x3), (4, .int x4), (7, .int x7)]) hx hb dX10_carries_106 hl (by decide) rfl (fun ls hl => ?_)
        obtain ⟨x_8, ex_8⟩ : ∃ y : Int32, y = x7 + (1 : Int32) := ⟨_, rfl⟩
        replace h := un_at ex_8 h
        refine lv_iinc (v := x_8) (lv' := [(7, .int x_8), (5, .int x_7), (6, .int x7), (8, .int q_2.2), (0, .ref (adG g 0)), (1, .int x1), (2, .int x2), (3, .int x3), (4, .int x4)]) hx hb dX10_carries_108 hl (k := 8) rfl (by rw [ex_8]; rfl) (by decide) rfl (fun ls hl => ?_)
        refine lv_goto (tgt := 62) hx hb dX10_carries_111 (by decide) ?_
        exact ih q_2.1 x1 x2 x3 x4 x_7 x7 x_8 H locs ls h hP hS (lv_sub hl [4, 5, 6, 7, 8, 1, 2, 0] rfl) hk_114

set_option maxRecDepth 100000 in
set_option maxHeartbeats 4000000 in
theorem wfX10_carries_j149 {l : Launch} {g : Gw} {p : Program} {e : Env} {s : State} {m : MethodId} {args : Array Value} {below : List Frame} {meth : Method} {c : Code} (C : Cx wkM g p s m args meth c cX10_carries 9 RX10 (some .int)) {Rz : (Sto × Int32)} : ∀ (σ : Sto) (x4 : Int32) (y0 : Int32) (H : Heap) (locs : List Loc) (ls : Array Slot), fX10_carries_j149 σ x4 y0 = some Rz → wS wkM g σ H → va_S (AS wkM g) s.heap H locs → lv_has ls 9 [(4, .int x4)] → W p l e (rmS 6) s m args below meth c H locs 0 0 (MQ below (QiS wkM g Rz.1 Rz.2) args s 0 0 (AS wkM g)) (F0 m 149 ls [.int y0]) := by
  intro σ x4 y0 H locs ls h hP hS hl
  obtain ⟨hx, hb, hml, hown, hts, hr, hlk, hK, hZ⟩ := id C
  unfold fX10_carries_j149 at h
  refine lv_istore (lv' := [(7, .int y0), (4, .int x4)]) hx hb dX10_carries_149 hl (by decide) rfl (fun ls hl => ?_)
  refine lv_iload hx hb dX10_carries_151 (lv_at hl 0 rfl) ?_
  refine lv_iload hx hb dX10_carries_153 (lv_at hl 1 rfl) ?_
  refine lv_iconst (v := 1) hx hb dX10_carries_155 (by decide) ?_
  refine lv_isub hx hb dX10_carries_156 ?_
  refine lv_icmp_ge (tgt := 165) hx hb dX10_carries_157 (by decide) (fun c_ => ?_) (fun c_ => ?_)
  · replace h := if_t c_ h
    refine lv_ldc hx hb hown (hts _ tw_718) dX10_carries_165 ?_
    exact r_reti C hP hS (rt_ow1 h) (rt_ow2 h) dX10_carries_167
  · replace h := if_f c_ h
    refine lv_iload hx hb dX10_carries_160 (lv_at hl 0 rfl) ?_
    refine lv_goto (tgt := 167) hx hb dX10_carries_162 (by decide) ?_
    exact r_reti C hP hS (rt_ow1 h) (rt_ow2 h) dX10_carries_167

set_option maxRecDepth 100000 in
set_option maxHeartbeats 4000000 in
theorem ctX10_carries {l : Launch} {g : Gw} {σ : Sto} (x1 : Int32) (x2 : Int32) (x3 : Int32) {Rz : (Sto × Int32)} (h : fX10_carries σ x1 x2 x3 = some Rz) : MtG l yX10_carries cX10_carries 9 (some .int) 6 wkM g [.ref (adG g 0), .int x1, .int x2, .int x3] σ (QiS wkM g Rz.1 Rz.2) := by
  refine mt_of (by decide) (Nat.le_of_ble_eq_true rfl) (fun p e s m below meth c ls H locs C hP hS hl => ?_)
  have C : Cx wkM g p s m _ meth c cX10_carries 9 RX10 (some .int) := C
  have hl : lv_has ls 9 [(0, .ref (adG g 0)), (1, .int x1), (2, .int x2), (3, .int x3)] := hl
  obtain ⟨hx, hb, hml, hown, hts, hr, hlk, hK, hZ⟩ := id C
  unfold fX10_carries at h
  refine lv_aload_n hx hb dX10_carries_0 rfl (lv_at hl 0 rfl) ?_
  refine end_i (run_v (As := []) (rest := []) C ca_X10_isThere (ctX10_isThere rfl) cf_10 sm_0 km_0 tw_482 ⟨Nat.le_of_ble_eq_true rfl, Nat.le_of_ble_eq_true rfl⟩ rfl hl.1 (Nat.le_of_ble_eq_true rfl) ⟨Nat.le_refl _, Nat.le_refl _⟩ hP hS dX10_carries_1) hS (fun H locs hP hS => ?_)
  refine lv_if_ne (tgt := 10) hx hb dX10_carries_4 (by decide) (fun c_ => ?_) (fun c_ => ?_)
  · replace h := if_f c_ h
    refine lv_iload_n hx hb dX10_carries_10 rfl (lv_at hl 1 rfl) ?_
    refine lv_i2l hx hb dX10_carries_11 rfl ?_
    refine lv_lconst (v := 1) hx hb dX10_carries_12 (by decide) ?_
    refine lv_ldc2 hx hb hown (hts _ tw_777) dX10_carries_13 ?_
    refine end_i (run_s (As := [.long x1.toInt64, .long (1 : Int64), .long (4 : Int64)]) (rest := []) C ca_X10_in (ctX10_in x1.toInt64 (1 : Int64) (4 : Int64) rfl) tw_193 ⟨Nat.le_of_ble_eq_true rfl, Nat.le_of_ble_eq_true rfl⟩ rfl hl.1 (Nat.le_of_ble_eq_true rfl) ⟨Nat.le_refl _, Nat.le_refl _⟩ hP hS dX10_carries_16) hS (fun H locs hP hS => ?_)
    refine lv_if_eq (tgt := 39) hx hb dX10_carries_19 (by decide) (fun c_ => ?_) (fun c_ => ?_)
    · replace h := if_t c_ h
      refine lv_ldc hx hb hown (hts _ tw_188) dX10_carries_39 ?_
      exact r_reti C hP hS (rt_ow1 h) (rt_ow2 h) dX10_carries_41
    · replace h := if_f c_ h
      refine lv_iload_n hx hb dX10_carries_22 rfl (lv_at hl 2 rfl) ?_
      refine lv_i2l hx hb dX10_carries_23 rfl ?_
      refine lv_lconst (v := 0) hx hb dX10_carries_24 (by decide) ?_
      refine lv_ldc2 hx hb hown (hts _ tw_567) dX10_carries_25 ?_
      refine end_i (run_s (As := [.long x2.toInt64, .long (0 : Int64), .long (20 : Int64)]) (rest := []) C ca_X10_in (ctX10_in x2.toInt64 (0 : Int64) (20 : Int64) rfl) tw_193 ⟨Nat.le_of_ble_eq_true rfl, Nat.le_of_ble_eq_true rfl⟩ rfl hl.1 (Nat.le_of_ble_eq_true rfl) ⟨Nat.le_refl _, Nat.le_refl _⟩ hP hS dX10_carries_28) hS (fun H locs hP hS => ?_)
      refine lv_if_eq (tgt := 39) hx hb dX10_carries_31 (by decide) (fun c_ => ?_) (fun c_ => ?_)
      · replace h := if_t c_ h
        refine lv_ldc hx hb hown (hts _ tw_188) dX10_carries_39 ?_
        exact r_reti C hP hS (rt_ow1 h) (rt_ow2 h) dX10_carries_41
      · replace h := if_f c_ h
        refine lv_iload_n hx hb dX10_carries_34 rfl (lv_at hl 3 rfl) ?_
        refine lv_iconst (v := (-1)) hx hb dX10_carries_35 (by decide) ?_
        refine lv_icmp_ge (tgt := 42) hx hb dX10_carries_36 (by decide) (fun c_ => ?_) (fun c_ => ?_)
        · replace h := if_t c_ h
          refine lv_aload_n hx hb dX10_carries_42 rfl (lv_at hl 0 rfl) ?_
          refine r_getr C cf_10 hP sm_0 km_0 4 (by decide) rfl tw_147 dX10_carries_43 ?_
          refine lv_iconst (v := 1) hx hb dX10_carries_46 (by decide) ?_
          refine r_iald C hP sm_4 km_4 (j := 1) (by decide) (by decide) dX10_carries_47 ?_
          refine lv_iconst (v := 1) hx hb dX10_carries_48 (by decide) ?_
          refine lv_iadd hx hb dX10_carries_49 ?_
          refine lv_topi (fun x_4 ex_4 => ?_)
          replace h := un_at ex_4 h
          refine lv_istore (lv' := [(4, .int x_4), (0, .ref (adG g 0)), (1, .int x1), (2, .int x2), (3, .int x3)]) hx hb dX10_carries_50 hl (by decide) rfl (fun ls hl => ?_)
          refine lv_bipush (v := 99) hx hb dX10_carries_52 (by decide) ?_
          refine lv_istore (lv' := [(5, .int (99 : Int32)), (4, .int x_4), (0, .ref (adG g 0)), (1, .int x1), (2, .int x2), (3, .int x3)]) hx hb dX10_carries_54 hl (by decide) rfl (fun ls hl => ?_)
          refine lv_iconst (v := 0) hx hb dX10_carries_56 (by decide) ?_
          refine lv_istore (lv' := [(6, .int (0 : Int32)), (5, .int (99 : Int32)), (4, .int x_4), (0, .ref (adG g 0)), (1, .int x1), (2, .int x2), (3, .int x3)]) hx hb dX10_carries_57 hl (by decide) rfl (fun ls hl => ?_)
          refine lv_iconst (v := 0) hx hb dX10_carries_59 (by decide) ?_
          refine lv_istore (lv' := [(7, .int (0 : Int32)), (6, .int (0 : Int32)), (5, .int (99 : Int32)), (4, .int x_4), (0, .ref (adG g 0)), (1, .int x1), (2, .int x2), (3, .int x3)]) hx hb dX10_carries_60 hl (by decide) rfl (fun ls hl => ?_)
          refine wfX10_carries_L62 C fu σ x1 x2 x3 x_4 (99 : Int32) (0 : Int32) (0 : Int32) H locs ls h hP hS (lv_sub hl [4, 5, 6, 7, 3, 2, 1, 0] rfl) (fun σ_5 z_6 z_7 z_8 z_9 z_10 H locs ls h hP hS hl => ?_)
          refine lv_iload_n hx hb dX10_carries_114 rfl (lv_at hl 1 rfl) ?_
          refine lv_if_ge (tgt := 121) hx hb dX10_carries_115 (by decide) (fun c_ => ?_) (fun c_ => ?_)
          · replace h := if_t c_ h
            refine lv_iload_n hx hb dX10_carries_121 rfl (lv_at hl 1 rfl) ?_
            refine lv_iload_n hx hb dX10_carries_122 rfl (lv_at hl 0 rfl) ?_
            refine lv_icmp_ge (tgt := 145) hx hb dX10_carries_123 (by decide) (fun c_ => ?_) (fun c_ => ?_)
            · replace h := if_t c_ h
              refine lv_iload hx hb dX10_carries_145 (lv_at hl 2 rfl) ?_
              refine lv_iconst (v := 1) hx hb dX10_carries_147 (by decide) ?_
              refine lv_isub hx hb dX10_carries_148 ?_
              exact wfX10_carries_j149 C σ_5 z_8 (z_8 - (1 : Int32)) H locs ls h hP hS (lv_sub hl [2] rfl)
            · replace h := if_f c_ h
              refine lv_iload hx hb dX10_carries_126 (lv_at hl 4 rfl) ?_
              refine lv_iload hx hb dX10_carries_128 (lv_at hl 2 rfl) ?_
              refine lv_iload_n hx hb dX10_carries_130 rfl (lv_at hl 0 rfl) ?_
              refine lv_iconst (v := 1) hx hb dX10_carries_131 (by decide) ?_
              refine lv_isub hx hb dX10_carries_132 ?_
              refine lv_iload_n hx hb dX10_carries_133 rfl (lv_at hl 1 rfl) ?_
              refine lv_isub hx hb dX10_carries_134 ?_
              obtain ⟨q_11, hq_11, h⟩ := bd_inv h
              refine end_i (run_s (As := [.int z_8, .int ((z_6 - (1 : Int32)) - z_7)]) (rest := [.int z_10]) C ca_X10_power (ctX10_power z_8 ((z_6 - (1 : Int32)) - z_7) hq_11) tw_778 ⟨Nat.le_of_ble_eq_true rfl, Nat.le_of_ble_eq_true rfl⟩ rfl hl.1 (Nat.le_of_ble_eq_true rfl) ⟨Nat.le_refl _, Nat.le_refl _⟩ hP hS dX10_carries_135) hS (fun H locs hP hS => ?_)
              obtain ⟨g_12, h⟩ := gd_inv h
              refine lv_idiv hx hb dX10_carries_138 (nz_ne g_12) ?_
              refine lv_iload hx hb dX10_carries_139 (lv_at hl 2 rfl) ?_
              obtain ⟨g_13, h⟩ := gd_inv h
              refine lv_irem hx hb dX10_carries_141 (nz_ne g_13) ?_
              refine lv_goto (tgt := 149) hx hb dX10_carries_142 (by decide) ?_
              exact wfX10_carries_j149 C σ_5 z_8 (irm (z_10 / q_11) z_8) H locs ls h hP hS (lv_sub hl [2] rfl)
          · replace h := if_f c_ h
            refine lv_iload hx hb dX10_carries_118 (lv_at hl 3 rfl) ?_
            exact r_reti C hP hS (rt_ow1 h) (rt_ow2 h) dX10_carries_120
        · replace h := if_f c_ h
          refine lv_ldc hx hb hown (hts _ tw_188) dX10_carries_39 ?_
          exact r_reti C hP hS (rt_ow1 h) (rt_ow2 h) dX10_carries_41
  · replace h := if_t c_ h
    refine lv_ldc hx hb hown (hts _ tw_436) dX10_carries_7 ?_
    exact r_reti C hP hS (rt_ow1 h) (rt_ow2 h) dX10_carries_9

set_option maxRecDepth 100000 in
set_option maxHeartbeats 4000000 in
theorem wfX10_dam_L54 {l : Launch} {g : Gw} {p : Program} {e : Env} {s : State} {m : MethodId} {args : Array Value} {below : List Frame} {meth : Method} {c : Code} (C : Cx wkM g p s m args meth c cX10_dam 8 RX10 (some .int)) {Rz : (Sto × Int32)} {k_129 : Sto → Int32 → Int32 → Int32 → Option (Sto × Int32)} : ∀ (n : Nat) (σ : Sto) (x1 : Int32) (x2 : Int32) (x3 : Int32) (x4 : Int32) (x5 : Int32) (x6 : Int32) (H : Heap) (locs : List Loc) (ls : Array Slot), fX10_dam_L54 k_129 n σ x1 x2 x3 x4 x5 x6 = some Rz → wS wkM g σ H → va_S (AS wkM g) s.heap H locs → lv_has ls 8 [(0, .ref (adG g 0)), (1, .int x1), (2, .int x2), (3, .int x3), (4, .int x4), (5, .int x5), (6, .int x6)] → (∀ (σ : Sto) (x3 : Int32) (x4 : Int32) (x5 : Int32) (H : Heap) (locs : List Loc) (ls : Array Slot), k_129 σ x3 x4 x5 = some Rz → wS wkM g σ H → va_S (AS wkM g) s.heap H locs → lv_has ls 8 [(3, .int x3), (4, .int x4), (5, .int x5)] → W p l e (rmS 5) s m args below meth c H locs 0 0 (MQ below (QiS wkM g Rz.1 Rz.2) args s 0 0 (AS wkM g)) (F0 m 129 ls [])) → W p l e (rmS 5) s m args below meth c H locs 0 0 (MQ below (QiS wkM g Rz.1 Rz.2) args s 0 0 (AS wkM g)) (F0 m 54 ls []) := by
  intro n
  induction n with
  | zero =>
    intro σ x1 x2 x3 x4 x5 x6 H locs ls h
    cases h
  | succ n ih =>
    intro σ x1 x2 x3 x4 x5 x6 H locs ls h hP hS hl hk_129
    obtain ⟨hx, hb, hml, hown, hts, hr, hlk, hK, hZ⟩ := id C
    rw [fX10_dam_L54] at h
    refine lv_iload hx hb dX10_dam_54 (lv_at hl 6 rfl) ?_
    refine lv_aload_n hx hb dX10_dam_56 rfl (lv_at hl 0 rfl) ?_
    refine r_getr C cf_10 hP sm_0 km_0 4 (by decide) rfl tw_147 dX10_dam_57 ?_
    refine lv_iconst (v := 0) hx hb dX10_dam_60 (by decide) ?_
    refine r_iald C hP sm_4 km_4 (j := 0) (by decide) (by decide) dX10_dam_61 ?_
    refine lv_icmp_ge (tgt := 129) hx hb dX10_dam_62 (by decide) (fun c_ => ?_) (fun c_ => ?_)
    · replace h := if_t c_ h
      exact hk_129 σ x3 x4 x5 H locs ls h hP hS (lv_sub hl [3, 4, 5] rfl)
    · replace h := if_f c_ h
      refine lv_aload_n hx hb dX10_dam_65 rfl (lv_at hl 0 rfl) ?_
      refine lv_iconst (v := 0) hx hb dX10_dam_66 (by decide) ?_
      obtain ⟨q_1, hq_1, h⟩ := bd_inv h
      refine end_v (run_v (As := [.int (0 : Int32)]) (rest := []) C ca_X10_laysAside (ctX10_laysAside (0 : Int32) hq_1) cf_10 sm_0 km_0 tw_650 ⟨Nat.le_of_ble_eq_true rfl, Nat.le_of_ble_eq_true rfl⟩ rfl hl.1 (Nat.le_of_ble_eq_true rfl) ⟨Nat.le_refl _, Nat.le_refl _⟩ hP hS dX10_dam_67) hS (fun H locs hP hS => ?_)
      refine lv_aload_n hx hb dX10_dam_70 rfl (lv_at hl 0 rfl) ?_
      refine r_getr C cf_10 hP sm_0 km_0 6 (by decide) rfl tw_149 dX10_dam_71 ?_
      refine lv_bipush (v := 25) hx hb dX10_dam_74 (by decide) ?_
      refine lv_iload hx hb dX10_dam_76 (lv_at hl 6 rfl) ?_
      refine lv_iadd hx hb dX10_dam_78 ?_
      refine lv_iload_n hx hb dX10_dam_79 rfl (lv_at hl 1 rfl) ?_
      obtain ⟨g_2, h⟩ := gd_inv h
      refine r_iast C hP hS sm_6 km_6 rfl g_2 dX10_dam_80 (fun H locs σ_3 eσ_3 hP hS => ?_)
      replace h := un_at eσ_3 h
      refine lv_aload_n hx hb dX10_dam_81 rfl (lv_at hl 0 rfl) ?_
      refine r_getr C cf_10 hP sm_0 km_0 6 (by decide) rfl tw_149 dX10_dam_82 ?_
      refine lv_iload_n hx hb dX10_dam_85 rfl (lv_at hl 2 rfl) ?_
      obtain ⟨q_4, hq_4, h⟩ := bd_inv h
      refine end_v (run_s (As := [.ref (adG g 6), .int x2]) (rest := []) C ca_X10_goesBy (ctX10_goesBy 6 ⟨sm_6, km_6⟩ x2 hq_4) tw_654 ⟨Nat.le_of_ble_eq_true rfl, Nat.le_of_ble_eq_true rfl⟩ rfl hl.1 (Nat.le_of_ble_eq_true rfl) ⟨Nat.le_refl _, Nat.le_refl _⟩ hP hS dX10_dam_86) hS (fun H locs hP hS => ?_)
      refine lv_aload_n hx hb dX10_dam_89 rfl (lv_at hl 0 rfl) ?_
      refine r_getr C cf_10 hP sm_0 km_0 6 (by decide) rfl tw_149 dX10_dam_90 ?_
      obtain ⟨q_5, hq_5, h⟩ := bd_inv h
      refine end_i (run_s (As := [.ref (adG g 6)]) (rest := []) C ca_X10_stones (ctX10_stones 6 ⟨sm_6, km_6⟩ hq_5) tw_785 ⟨Nat.le_of_ble_eq_true rfl, Nat.le_of_ble_eq_true rfl⟩ rfl hl.1 (Nat.le_of_ble_eq_true rfl) ⟨Nat.le_refl _, Nat.le_refl _⟩ hP hS dX10_dam_93) hS (fun H locs hP hS => ?_)
      refine lv_istore (lv' := [(7, .int q_5), (0, .ref (adG g 0)), (1, .int x1), (2, .int x2), (3, .int x3), (4, .int x4), (5, .int x5), (6, .int x6)]) hx hb dX10_dam_96 hl (by decide) rfl (fun ls hl => ?_)
      refine lv_iload hx hb dX10_dam_98 (lv_at hl 0 rfl) ?_
      refine lv_iload hx hb dX10_dam_100 (lv_at hl 5 rfl) ?_
      refine lv_icmp_ge (tgt := 110) hx hb dX10_dam_102 (by decide) (fun c_ => ?_) (fun c_ => ?_)
      · replace h := if_t c_ h
        refine lv_iload hx hb dX10_dam_110 (lv_at hl 6 rfl) ?_
        refine lv_istore (lv' := [(5, .int x5), (7, .int q_5), (0, .ref (adG g 0)), (1, .int x1), (2, .int x2), (3, .int x3), (4, .int x4), (6, .int x6)]) hx hb dX10_dam_112 hl (by decide) rfl (fun ls hl => ?_)
        refine lv_iload hx hb dX10_dam_114 (lv_at hl 6 rfl) ?_
        refine lv_iload hx hb dX10_dam_116 (lv_at hl 1 rfl) ?_
        refine end_i (run_s (As := [.int x4, .int q_5]) (rest := []) C ca_X10_less (ctX10_less x4 q_5 rfl) tw_496 ⟨Nat.le_of_ble_eq_true rfl, Nat.le_of_ble_eq_true rfl⟩ rfl hl.1 (Nat.le_of_ble_eq_true rfl) ⟨Nat.le_refl _, Nat.le_refl _⟩ hP hS dX10_dam_118) hS (fun H locs hP hS => ?_)
        refine lv_topi (fun x_7 ex_7 => ?_)
        replace h := un_at ex_7 h
        refine lv_istore (lv' := [(4, .int x_7), (5, .int x5), (7, .int q_5), (0, .ref (adG g 0)), (1, .int x1), (2, .int x2), (3, .int x3), (6, .int x6)]) hx hb dX10_dam_121 hl (by decide) rfl (fun ls hl => ?_)
        obtain ⟨x_8, ex_8⟩ : ∃ y : Int32, y = x6 + (1 : Int32) := ⟨_, rfl⟩
        replace h := un_at ex_8 h
        refine lv_iinc (v := x_8) (lv' := [(6, .int x_8), (4, .int x_7), (5, .int x5), (7, .int q_5), (0, .ref (adG g 0)), (1, .int x1), (2, .int x2), (3, .int x3)]) hx hb dX10_dam_123 hl (k := 7) rfl (by rw [ex_8]; rfl) (by decide) rfl (fun ls hl => ?_)
        refine lv_goto (tgt := 54) hx hb dX10_dam_126 (by decide) ?_
        exact ih q_4 x1 x2 x3 x_7 x5 x_8 H locs ls h hP hS (lv_sub hl [4, 5, 6, 7, 1, 2, 0] rfl) hk_129
      · replace h := if_f c_ h
        refine lv_iload hx hb dX10_dam_105 (lv_at hl 7 rfl) ?_
        refine lv_goto (tgt := 112) hx hb dX10_dam_107 (by decide) ?_
        refine lv_istore (lv' := [(5, .int x6), (7, .int q_5), (0, .ref (adG g 0)), (1, .int x1), (2, .int x2), (3, .int x3), (4, .int x4), (6, .int x6)]) hx hb dX10_dam_112 hl (by decide) rfl (fun ls hl => ?_)
        refine lv_iload hx hb dX10_dam_114 (lv_at hl 6 rfl) ?_
        refine lv_iload hx hb dX10_dam_116 (lv_at hl 1 rfl) ?_
        refine end_i (run_s (As := [.int x4, .int q_5]) (rest := []) C ca_X10_less (ctX10_less x4 q_5 rfl) tw_496 ⟨Nat.le_of_ble_eq_true rfl, Nat.le_of_ble_eq_true rfl⟩ rfl hl.1 (Nat.le_of_ble_eq_true rfl) ⟨Nat.le_refl _, Nat.le_refl _⟩ hP hS dX10_dam_118) hS (fun H locs hP hS => ?_)
        refine lv_topi (fun x_10 ex_10 => ?_)
        replace h := un_at ex_10 h
        refine lv_istore (lv' := [(4, .int x_10), (5, .int x6), (7, .int q_5), (0, .ref (adG g 0)), (1, .int x1), (2, .int x2), (3, .int x3), (6, .int x6)]) hx hb dX10_dam_121 hl (by decide) rfl (fun ls hl => ?_)
        obtain ⟨x_11, ex_11⟩ : ∃ y : Int32, y = x6 + (1 : Int32) := ⟨_, rfl⟩
        replace h := un_at ex_11 h
        refine lv_iinc (v := x_11) (lv' := [(6, .int x_11), (4, .int x_10), (5, .int x6), (7, .int q_5), (0, .ref (adG g 0)), (1, .int x1), (2, .int x2), (3, .int x3)]) hx hb dX10_dam_123 hl (k := 7) rfl (by rw [ex_11]; rfl) (by decide) rfl (fun ls hl => ?_)
        refine lv_goto (tgt := 54) hx hb dX10_dam_126 (by decide) ?_
        exact ih q_4 x1 x2 x3 x_10 x6 x_11 H locs ls h hP hS (lv_sub hl [4, 5, 6, 7, 1, 2, 0] rfl) hk_129

set_option maxRecDepth 100000 in
set_option maxHeartbeats 4000000 in
theorem ctX10_dam {l : Launch} {g : Gw} {σ : Sto} (x1 : Int32) (x2 : Int32) (x3 : Int32) {Rz : (Sto × Int32)} (h : fX10_dam σ x1 x2 x3 = some Rz) : MtG l yX10_dam cX10_dam 8 (some .int) 5 wkM g [.ref (adG g 0), .int x1, .int x2, .int x3] σ (QiS wkM g Rz.1 Rz.2) := by
  refine mt_of (by decide) (Nat.le_of_ble_eq_true rfl) (fun p e s m below meth c ls H locs C hP hS hl => ?_)
  have C : Cx wkM g p s m _ meth c cX10_dam 8 RX10 (some .int) := C
  have hl : lv_has ls 8 [(0, .ref (adG g 0)), (1, .int x1), (2, .int x2), (3, .int x3)] := hl
  obtain ⟨hx, hb, hml, hown, hts, hr, hlk, hK, hZ⟩ := id C
  unfold fX10_dam at h
  refine lv_aload_n hx hb dX10_dam_0 rfl (lv_at hl 0 rfl) ?_
  refine end_i (run_v (As := []) (rest := []) C ca_X10_isThere (ctX10_isThere rfl) cf_10 sm_0 km_0 tw_482 ⟨Nat.le_of_ble_eq_true rfl, Nat.le_of_ble_eq_true rfl⟩ rfl hl.1 (Nat.le_of_ble_eq_true rfl) ⟨Nat.le_refl _, Nat.le_refl _⟩ hP hS dX10_dam_1) hS (fun H locs hP hS => ?_)
  refine lv_if_ne (tgt := 10) hx hb dX10_dam_4 (by decide) (fun c_ => ?_) (fun c_ => ?_)
  · replace h := if_f c_ h
    refine lv_iload_n hx hb dX10_dam_10 rfl (lv_at hl 1 rfl) ?_
    refine lv_i2l hx hb dX10_dam_11 rfl ?_
    refine lv_lconst (v := 1) hx hb dX10_dam_12 (by decide) ?_
    refine lv_ldc2 hx hb hown (hts _ tw_524) dX10_dam_13 ?_
    refine end_i (run_s (As := [.long x1.toInt64, .long (1 : Int64), .long (9 : Int64)]) (rest := []) C ca_X10_in (ctX10_in x1.toInt64 (1 : Int64) (9 : Int64) rfl) tw_193 ⟨Nat.le_of_ble_eq_true rfl, Nat.le_of_ble_eq_true rfl⟩ rfl hl.1 (Nat.le_of_ble_eq_true rfl) ⟨Nat.le_refl _, Nat.le_refl _⟩ hP hS dX10_dam_16) hS (fun H locs hP hS => ?_)
    refine lv_if_eq (tgt := 41) hx hb dX10_dam_19 (by decide) (fun c_ => ?_) (fun c_ => ?_)
    · replace h := if_t c_ h
      refine lv_ldc hx hb hown (hts _ tw_188) dX10_dam_41 ?_
      exact r_reti C hP hS (rt_ow1 h) (rt_ow2 h) dX10_dam_43
    · replace h := if_f c_ h
      refine lv_iload_n hx hb dX10_dam_22 rfl (lv_at hl 2 rfl) ?_
      refine lv_i2l hx hb dX10_dam_23 rfl ?_
      refine lv_lconst (v := 1) hx hb dX10_dam_24 (by decide) ?_
      refine lv_ldc2 hx hb hown (hts _ tw_816) dX10_dam_25 ?_
      refine end_i (run_s (As := [.long x2.toInt64, .long (1 : Int64), .long (40 : Int64)]) (rest := []) C ca_X10_in (ctX10_in x2.toInt64 (1 : Int64) (40 : Int64) rfl) tw_193 ⟨Nat.le_of_ble_eq_true rfl, Nat.le_of_ble_eq_true rfl⟩ rfl hl.1 (Nat.le_of_ble_eq_true rfl) ⟨Nat.le_refl _, Nat.le_refl _⟩ hP hS dX10_dam_28) hS (fun H locs hP hS => ?_)
      refine lv_if_eq (tgt := 41) hx hb dX10_dam_31 (by decide) (fun c_ => ?_) (fun c_ => ?_)
      · replace h := if_t c_ h
        refine lv_ldc hx hb hown (hts _ tw_188) dX10_dam_41 ?_
        exact r_reti C hP hS (rt_ow1 h) (rt_ow2 h) dX10_dam_43
      · replace h := if_f c_ h
        refine lv_iload_n hx hb dX10_dam_34 rfl (lv_at hl 3 rfl) ?_
        refine end_i (run_s (As := [.int x3]) (rest := []) C ca_X10_isTwo (ctX10_isTwo x3 rfl) tw_697 ⟨Nat.le_of_ble_eq_true rfl, Nat.le_of_ble_eq_true rfl⟩ rfl hl.1 (Nat.le_of_ble_eq_true rfl) ⟨Nat.le_refl _, Nat.le_refl _⟩ hP hS dX10_dam_35) hS (fun H locs hP hS => ?_)
        refine lv_if_ne (tgt := 44) hx hb dX10_dam_38 (by decide) (fun c_ => ?_) (fun c_ => ?_)
        · replace h := if_f c_ h
          refine lv_bipush (v := 99) hx hb dX10_dam_44 (by decide) ?_
          refine lv_istore (lv' := [(4, .int (99 : Int32)), (0, .ref (adG g 0)), (1, .int x1), (2, .int x2), (3, .int x3)]) hx hb dX10_dam_46 hl (by decide) rfl (fun ls hl => ?_)
          refine lv_iconst (v := 0) hx hb dX10_dam_48 (by decide) ?_
          refine lv_istore (lv' := [(5, .int (0 : Int32)), (4, .int (99 : Int32)), (0, .ref (adG g 0)), (1, .int x1), (2, .int x2), (3, .int x3)]) hx hb dX10_dam_49 hl (by decide) rfl (fun ls hl => ?_)
          refine lv_iconst (v := 0) hx hb dX10_dam_51 (by decide) ?_
          refine lv_istore (lv' := [(6, .int (0 : Int32)), (5, .int (0 : Int32)), (4, .int (99 : Int32)), (0, .ref (adG g 0)), (1, .int x1), (2, .int x2), (3, .int x3)]) hx hb dX10_dam_52 hl (by decide) rfl (fun ls hl => ?_)
          refine wfX10_dam_L54 C fu σ x1 x2 x3 (99 : Int32) (0 : Int32) (0 : Int32) H locs ls h hP hS (lv_sub hl [3, 4, 5, 6, 2, 1, 0] rfl) (fun σ_5 z_6 z_7 z_8 H locs ls h hP hS hl => ?_)
          refine lv_iload_n hx hb dX10_dam_129 rfl (lv_at hl 0 rfl) ?_
          refine lv_if_ne (tgt := 138) hx hb dX10_dam_130 (by decide) (fun c_ => ?_) (fun c_ => ?_)
          · replace h := if_f c_ h
            refine lv_iload hx hb dX10_dam_138 (lv_at hl 1 rfl) ?_
            exact r_reti C hP hS (rt_ow1 h) (rt_ow2 h) dX10_dam_140
          · replace h := if_t c_ h
            refine lv_iload hx hb dX10_dam_133 (lv_at hl 2 rfl) ?_
            refine lv_goto (tgt := 140) hx hb dX10_dam_135 (by decide) ?_
            exact r_reti C hP hS (rt_ow1 h) (rt_ow2 h) dX10_dam_140
        · replace h := if_t c_ h
          refine lv_ldc hx hb hown (hts _ tw_188) dX10_dam_41 ?_
          exact r_reti C hP hS (rt_ow1 h) (rt_ow2 h) dX10_dam_43
  · replace h := if_t c_ h
    refine lv_ldc hx hb hown (hts _ tw_436) dX10_dam_7 ?_
    exact r_reti C hP hS (rt_ow1 h) (rt_ow2 h) dX10_dam_9

set_option maxRecDepth 100000 in
set_option maxHeartbeats 4000000 in
theorem wfX10_hold_L34 {l : Launch} {g : Gw} {p : Program} {e : Env} {s : State} {m : MethodId} {args : Array Value} {below : List Frame} {meth : Method} {c : Code} (C : Cx wkM g p s m args meth c cX10_hold 5 RX10 (some .int)) {Rz : (Sto × Int32)} : ∀ (n : Nat) (σ : Sto) (x1 : Int32) (x2 : Int32) (x3 : Int32) (x4 : Int32) (H : Heap) (locs : List Loc) (ls : Array Slot), fX10_hold_L34 n σ x1 x2 x3 x4 = some Rz → wS wkM g σ H → va_S (AS wkM g) s.heap H locs → lv_has ls 5 [(0, .ref (adG g 0)), (1, .int x1), (2, .int x2), (3, .int x3), (4, .int x4)] → W p l e (rmS 5) s m args below meth c H locs 0 0 (MQ below (QiS wkM g Rz.1 Rz.2) args s 0 0 (AS wkM g)) (F0 m 34 ls []) := by
  intro n
  induction n with
  | zero =>
    intro σ x1 x2 x3 x4 H locs ls h
    cases h
  | succ n ih =>
    intro σ x1 x2 x3 x4 H locs ls h hP hS hl
    obtain ⟨hx, hb, hml, hown, hts, hr, hlk, hK, hZ⟩ := id C
    rw [fX10_hold_L34] at h
    refine lv_iload hx hb dX10_hold_34 (lv_at hl 4 rfl) ?_
    refine lv_bipush (v := 10) hx hb dX10_hold_36 (by decide) ?_
    refine lv_icmp_ge (tgt := 85) hx hb dX10_hold_38 (by decide) (fun c_ => ?_) (fun c_ => ?_)
    · replace h := if_t c_ h
      refine lv_ldc hx hb hown (hts _ tw_718) dX10_hold_85 ?_
      exact r_reti C hP hS (rt_ow1 h) (rt_ow2 h) dX10_hold_87
    · replace h := if_f c_ h
      refine lv_aload_n hx hb dX10_hold_41 rfl (lv_at hl 0 rfl) ?_
      refine lv_iconst (v := 0) hx hb dX10_hold_42 (by decide) ?_
      obtain ⟨q_1, hq_1, h⟩ := bd_inv h
      refine end_v (run_v (As := [.int (0 : Int32)]) (rest := []) C ca_X10_laysAside (ctX10_laysAside (0 : Int32) hq_1) cf_10 sm_0 km_0 tw_650 ⟨Nat.le_of_ble_eq_true rfl, Nat.le_of_ble_eq_true rfl⟩ rfl hl.1 (Nat.le_of_ble_eq_true rfl) ⟨Nat.le_refl _, Nat.le_refl _⟩ hP hS dX10_hold_43) hS (fun H locs hP hS => ?_)
      refine lv_aload_n hx hb dX10_hold_46 rfl (lv_at hl 0 rfl) ?_
      refine r_getr C cf_10 hP sm_0 km_0 6 (by decide) rfl tw_149 dX10_hold_47 ?_
      refine lv_bipush (v := 25) hx hb dX10_hold_50 (by decide) ?_
      refine lv_iload_n hx hb dX10_hold_52 rfl (lv_at hl 2 rfl) ?_
      refine lv_iadd hx hb dX10_hold_53 ?_
      refine lv_iload hx hb dX10_hold_54 (lv_at hl 4 rfl) ?_
      obtain ⟨g_2, h⟩ := gd_inv h
      refine r_iast C hP hS sm_6 km_6 rfl g_2 dX10_hold_56 (fun H locs σ_3 eσ_3 hP hS => ?_)
      replace h := un_at eσ_3 h
      refine lv_aload_n hx hb dX10_hold_57 rfl (lv_at hl 0 rfl) ?_
      refine r_getr C cf_10 hP sm_0 km_0 6 (by decide) rfl tw_149 dX10_hold_58 ?_
      refine lv_iload_n hx hb dX10_hold_61 rfl (lv_at hl 3 rfl) ?_
      obtain ⟨q_4, hq_4, h⟩ := bd_inv h
      refine end_v (run_s (As := [.ref (adG g 6), .int x3]) (rest := []) C ca_X10_goesBy (ctX10_goesBy 6 ⟨sm_6, km_6⟩ x3 hq_4) tw_654 ⟨Nat.le_of_ble_eq_true rfl, Nat.le_of_ble_eq_true rfl⟩ rfl hl.1 (Nat.le_of_ble_eq_true rfl) ⟨Nat.le_refl _, Nat.le_refl _⟩ hP hS dX10_hold_62) hS (fun H locs hP hS => ?_)
      refine lv_aload_n hx hb dX10_hold_65 rfl (lv_at hl 0 rfl) ?_
      refine r_getr C cf_10 hP sm_0 km_0 6 (by decide) rfl tw_149 dX10_hold_66 ?_
      refine lv_iload_n hx hb dX10_hold_69 rfl (lv_at hl 1 rfl) ?_
      obtain ⟨q_5, hq_5, h⟩ := bd_inv h
      refine end_i (run_s (As := [.ref (adG g 6), .int x1]) (rest := []) C ca_X10_lies (ctX10_lies 6 ⟨sm_6, km_6⟩ x1 hq_5) tw_502 ⟨Nat.le_of_ble_eq_true rfl, Nat.le_of_ble_eq_true rfl⟩ rfl hl.1 (Nat.le_of_ble_eq_true rfl) ⟨Nat.le_refl _, Nat.le_refl _⟩ hP hS dX10_hold_70) hS (fun H locs hP hS => ?_)
      refine lv_if_ne (tgt := 79) hx hb dX10_hold_73 (by decide) (fun c_ => ?_) (fun c_ => ?_)
      · replace h := if_f c_ h
        obtain ⟨x_6, ex_6⟩ : ∃ y : Int32, y = x4 + (1 : Int32) := ⟨_, rfl⟩
        replace h := un_at ex_6 h
        refine lv_iinc (v := x_6) (lv' := [(4, .int x_6), (0, .ref (adG g 0)), (1, .int x1), (2, .int x2), (3, .int x3)]) hx hb dX10_hold_79 hl (k := 4) rfl (by rw [ex_6]; rfl) (by decide) rfl (fun ls hl => ?_)
        refine lv_goto (tgt := 34) hx hb dX10_hold_82 (by decide) ?_
        exact ih q_4 x1 x2 x3 x_6 H locs ls h hP hS (lv_sub hl [1, 2, 3, 4, 0] rfl)
      · replace h := if_t c_ h
        refine lv_iload hx hb dX10_hold_76 (lv_at hl 4 rfl) ?_
        exact r_reti C hP hS (rt_ow1 h) (rt_ow2 h) dX10_hold_78

set_option maxRecDepth 100000 in
set_option maxHeartbeats 4000000 in
theorem ctX10_hold {l : Launch} {g : Gw} {σ : Sto} (x1 : Int32) (x2 : Int32) (x3 : Int32) {Rz : (Sto × Int32)} (h : fX10_hold σ x1 x2 x3 = some Rz) : MtG l yX10_hold cX10_hold 5 (some .int) 5 wkM g [.ref (adG g 0), .int x1, .int x2, .int x3] σ (QiS wkM g Rz.1 Rz.2) := by
  refine mt_of (by decide) (Nat.le_of_ble_eq_true rfl) (fun p e s m below meth c ls H locs C hP hS hl => ?_)
  have C : Cx wkM g p s m _ meth c cX10_hold 5 RX10 (some .int) := C
  have hl : lv_has ls 5 [(0, .ref (adG g 0)), (1, .int x1), (2, .int x2), (3, .int x3)] := hl
  obtain ⟨hx, hb, hml, hown, hts, hr, hlk, hK, hZ⟩ := id C
  unfold fX10_hold at h
  refine lv_aload_n hx hb dX10_hold_0 rfl (lv_at hl 0 rfl) ?_
  refine lv_iload_n hx hb dX10_hold_1 rfl (lv_at hl 1 rfl) ?_
  refine end_i (run_v (As := [.int x1]) (rest := []) C ca_X10_isRoom (ctX10_isRoom x1 rfl) cf_10 sm_0 km_0 tw_525 ⟨Nat.le_of_ble_eq_true rfl, Nat.le_of_ble_eq_true rfl⟩ rfl hl.1 (Nat.le_of_ble_eq_true rfl) ⟨Nat.le_refl _, Nat.le_refl _⟩ hP hS dX10_hold_2) hS (fun H locs hP hS => ?_)
  refine lv_if_eq (tgt := 28) hx hb dX10_hold_5 (by decide) (fun c_ => ?_) (fun c_ => ?_)
  · replace h := if_t c_ h
    refine lv_ldc hx hb hown (hts _ tw_188) dX10_hold_28 ?_
    exact r_reti C hP hS (rt_ow1 h) (rt_ow2 h) dX10_hold_30
  · replace h := if_f c_ h
    refine lv_aload_n hx hb dX10_hold_8 rfl (lv_at hl 0 rfl) ?_
    refine lv_iload_n hx hb dX10_hold_9 rfl (lv_at hl 2 rfl) ?_
    refine end_i (run_v (As := [.int x2]) (rest := []) C ca_X10_isRoom (ctX10_isRoom x2 rfl) cf_10 sm_0 km_0 tw_525 ⟨Nat.le_of_ble_eq_true rfl, Nat.le_of_ble_eq_true rfl⟩ rfl hl.1 (Nat.le_of_ble_eq_true rfl) ⟨Nat.le_refl _, Nat.le_refl _⟩ hP hS dX10_hold_10) hS (fun H locs hP hS => ?_)
    refine lv_if_eq (tgt := 28) hx hb dX10_hold_13 (by decide) (fun c_ => ?_) (fun c_ => ?_)
    · replace h := if_t c_ h
      refine lv_ldc hx hb hown (hts _ tw_188) dX10_hold_28 ?_
      exact r_reti C hP hS (rt_ow1 h) (rt_ow2 h) dX10_hold_30
    · replace h := if_f c_ h
      refine lv_iload_n hx hb dX10_hold_16 rfl (lv_at hl 3 rfl) ?_
      refine lv_i2l hx hb dX10_hold_17 rfl ?_
      refine lv_lconst (v := 1) hx hb dX10_hold_18 (by decide) ?_
      refine lv_ldc2 hx hb hown (hts _ tw_816) dX10_hold_19 ?_
      refine end_i (run_s (As := [.long x3.toInt64, .long (1 : Int64), .long (40 : Int64)]) (rest := []) C ca_X10_in (ctX10_in x3.toInt64 (1 : Int64) (40 : Int64) rfl) tw_193 ⟨Nat.le_of_ble_eq_true rfl, Nat.le_of_ble_eq_true rfl⟩ rfl hl.1 (Nat.le_of_ble_eq_true rfl) ⟨Nat.le_refl _, Nat.le_refl _⟩ hP hS dX10_hold_22) hS (fun H locs hP hS => ?_)
      refine lv_if_ne (tgt := 31) hx hb dX10_hold_25 (by decide) (fun c_ => ?_) (fun c_ => ?_)
      · replace h := if_f c_ h
        refine lv_iconst (v := 0) hx hb dX10_hold_31 (by decide) ?_
        refine lv_istore (lv' := [(4, .int (0 : Int32)), (0, .ref (adG g 0)), (1, .int x1), (2, .int x2), (3, .int x3)]) hx hb dX10_hold_32 hl (by decide) rfl (fun ls hl => ?_)
        exact wfX10_hold_L34 C fu σ x1 x2 x3 (0 : Int32) H locs ls h hP hS (lv_sub hl [1, 2, 3, 4, 0] rfl)
      · replace h := if_t c_ h
        refine lv_ldc hx hb hown (hts _ tw_188) dX10_hold_28 ?_
        exact r_reti C hP hS (rt_ow1 h) (rt_ow2 h) dX10_hold_30

set_option maxRecDepth 100000 in
set_option maxHeartbeats 4000000 in
theorem wfX10_spare_L28 {l : Launch} {g : Gw} {p : Program} {e : Env} {s : State} {m : MethodId} {args : Array Value} {below : List Frame} {meth : Method} {c : Code} (C : Cx wkM g p s m args meth c cX10_spare 3 RX10 (some .int)) {Rz : (Sto × Int32)} : ∀ (n : Nat) (σ : Sto) (x1 : Int32) (x2 : Int32) (H : Heap) (locs : List Loc) (ls : Array Slot), fX10_spare_L28 n σ x1 x2 = some Rz → wS wkM g σ H → va_S (AS wkM g) s.heap H locs → lv_has ls 3 [(0, .ref (adG g 0)), (1, .int x1), (2, .int x2)] → W p l e (rmS 5) s m args below meth c H locs 0 0 (MQ below (QiS wkM g Rz.1 Rz.2) args s 0 0 (AS wkM g)) (F0 m 28 ls []) := by
  intro n
  induction n with
  | zero =>
    intro σ x1 x2 H locs ls h
    cases h
  | succ n ih =>
    intro σ x1 x2 H locs ls h hP hS hl
    obtain ⟨hx, hb, hml, hown, hts, hr, hlk, hK, hZ⟩ := id C
    rw [fX10_spare_L28] at h
    refine lv_iload_n hx hb dX10_spare_28 rfl (lv_at hl 2 rfl) ?_
    refine lv_if_lt (tgt := 79) hx hb dX10_spare_29 (by decide) (fun c_ => ?_) (fun c_ => ?_)
    · replace h := if_t c_ h
      refine lv_ldc hx hb hown (hts _ tw_718) dX10_spare_79 ?_
      exact r_reti C hP hS (rt_ow1 h) (rt_ow2 h) dX10_spare_81
    · replace h := if_f c_ h
      refine lv_aload_n hx hb dX10_spare_32 rfl (lv_at hl 0 rfl) ?_
      refine lv_iconst (v := 0) hx hb dX10_spare_33 (by decide) ?_
      obtain ⟨q_1, hq_1, h⟩ := bd_inv h
      refine end_v (run_v (As := [.int (0 : Int32)]) (rest := []) C ca_X10_laysAside (ctX10_laysAside (0 : Int32) hq_1) cf_10 sm_0 km_0 tw_650 ⟨Nat.le_of_ble_eq_true rfl, Nat.le_of_ble_eq_true rfl⟩ rfl hl.1 (Nat.le_of_ble_eq_true rfl) ⟨Nat.le_refl _, Nat.le_refl _⟩ hP hS dX10_spare_34) hS (fun H locs hP hS => ?_)
      refine lv_aload_n hx hb dX10_spare_37 rfl (lv_at hl 0 rfl) ?_
      refine r_getr C cf_10 hP sm_0 km_0 6 (by decide) rfl tw_149 dX10_spare_38 ?_
      refine lv_iconst (v := 2) hx hb dX10_spare_41 (by decide) ?_
      refine lv_iload_n hx hb dX10_spare_42 rfl (lv_at hl 2 rfl) ?_
      refine r_iast C hP hS sm_6 km_6 (j := 2) (by decide) (by decide) dX10_spare_43 (fun H locs σ_2 eσ_2 hP hS => ?_)
      replace h := un_at eσ_2 h
      refine lv_aload_n hx hb dX10_spare_44 rfl (lv_at hl 0 rfl) ?_
      refine r_getr C cf_10 hP sm_0 km_0 6 (by decide) rfl tw_149 dX10_spare_45 ?_
      refine lv_iload_n hx hb dX10_spare_48 rfl (lv_at hl 1 rfl) ?_
      obtain ⟨q_3, hq_3, h⟩ := bd_inv h
      refine end_v (run_s (As := [.ref (adG g 6), .int x1]) (rest := []) C ca_X10_goesBy (ctX10_goesBy 6 ⟨sm_6, km_6⟩ x1 hq_3) tw_654 ⟨Nat.le_of_ble_eq_true rfl, Nat.le_of_ble_eq_true rfl⟩ rfl hl.1 (Nat.le_of_ble_eq_true rfl) ⟨Nat.le_refl _, Nat.le_refl _⟩ hP hS dX10_spare_49) hS (fun H locs hP hS => ?_)
      refine lv_aload_n hx hb dX10_spare_52 rfl (lv_at hl 0 rfl) ?_
      refine r_getr C cf_10 hP sm_0 km_0 6 (by decide) rfl tw_149 dX10_spare_53 ?_
      refine lv_iconst (v := 2) hx hb dX10_spare_56 (by decide) ?_
      obtain ⟨q_4, hq_4, h⟩ := bd_inv h
      refine end_i (run_s (As := [.ref (adG g 6), .int (2 : Int32)]) (rest := []) C ca_X10_those (ctX10_those 6 ⟨sm_6, km_6⟩ (2 : Int32) hq_4) tw_508 ⟨Nat.le_of_ble_eq_true rfl, Nat.le_of_ble_eq_true rfl⟩ rfl hl.1 (Nat.le_of_ble_eq_true rfl) ⟨Nat.le_refl _, Nat.le_refl _⟩ hP hS dX10_spare_57) hS (fun H locs hP hS => ?_)
      refine lv_aload_n hx hb dX10_spare_60 rfl (lv_at hl 0 rfl) ?_
      refine r_getr C cf_10 hP sm_0 km_0 4 (by decide) rfl tw_147 dX10_spare_61 ?_
      refine lv_iconst (v := 2) hx hb dX10_spare_64 (by decide) ?_
      obtain ⟨q_5, hq_5, h⟩ := bd_inv h
      refine end_i (run_s (As := [.ref (adG g 4), .int (2 : Int32)]) (rest := [.int q_4]) C ca_X10_those (ctX10_those 4 ⟨sm_4, km_4⟩ (2 : Int32) hq_5) tw_508 ⟨Nat.le_of_ble_eq_true rfl, Nat.le_of_ble_eq_true rfl⟩ rfl hl.1 (Nat.le_of_ble_eq_true rfl) ⟨Nat.le_refl _, Nat.le_refl _⟩ hP hS dX10_spare_65) hS (fun H locs hP hS => ?_)
      refine lv_icmp_ne (tgt := 73) hx hb dX10_spare_68 (by decide) (fun c_ => ?_) (fun c_ => ?_)
      · replace h := if_f c_ h
        obtain ⟨x_6, ex_6⟩ : ∃ y : Int32, y = x2 + (-1 : Int32) := ⟨_, rfl⟩
        replace h := un_at ex_6 h
        refine lv_iinc (v := x_6) (lv' := [(2, .int x_6), (0, .ref (adG g 0)), (1, .int x1)]) hx hb dX10_spare_73 hl (k := 2) rfl (by rw [ex_6]; rfl) (by decide) rfl (fun ls hl => ?_)
        refine lv_goto (tgt := 28) hx hb dX10_spare_76 (by decide) ?_
        exact ih q_3 x1 x_6 H locs ls h hP hS (lv_sub hl [1, 2, 0] rfl)
      · replace h := if_t c_ h
        refine lv_iload_n hx hb dX10_spare_71 rfl (lv_at hl 2 rfl) ?_
        exact r_reti C hP hS (rt_ow1 h) (rt_ow2 h) dX10_spare_72

set_option maxRecDepth 100000 in
set_option maxHeartbeats 4000000 in
theorem ctX10_spare {l : Launch} {g : Gw} {σ : Sto} (x1 : Int32) {Rz : (Sto × Int32)} (h : fX10_spare σ x1 = some Rz) : MtG l yX10_spare cX10_spare 3 (some .int) 5 wkM g [.ref (adG g 0), .int x1] σ (QiS wkM g Rz.1 Rz.2) := by
  refine mt_of (by decide) (Nat.le_of_ble_eq_true rfl) (fun p e s m below meth c ls H locs C hP hS hl => ?_)
  have C : Cx wkM g p s m _ meth c cX10_spare 3 RX10 (some .int) := C
  have hl : lv_has ls 3 [(0, .ref (adG g 0)), (1, .int x1)] := hl
  obtain ⟨hx, hb, hml, hown, hts, hr, hlk, hK, hZ⟩ := id C
  unfold fX10_spare at h
  refine lv_aload_n hx hb dX10_spare_0 rfl (lv_at hl 0 rfl) ?_
  refine end_i (run_v (As := []) (rest := []) C ca_X10_isThere (ctX10_isThere rfl) cf_10 sm_0 km_0 tw_482 ⟨Nat.le_of_ble_eq_true rfl, Nat.le_of_ble_eq_true rfl⟩ rfl hl.1 (Nat.le_of_ble_eq_true rfl) ⟨Nat.le_refl _, Nat.le_refl _⟩ hP hS dX10_spare_1) hS (fun H locs hP hS => ?_)
  refine lv_if_ne (tgt := 10) hx hb dX10_spare_4 (by decide) (fun c_ => ?_) (fun c_ => ?_)
  · replace h := if_f c_ h
    refine lv_iload_n hx hb dX10_spare_10 rfl (lv_at hl 1 rfl) ?_
    refine lv_i2l hx hb dX10_spare_11 rfl ?_
    refine lv_lconst (v := 1) hx hb dX10_spare_12 (by decide) ?_
    refine lv_ldc2 hx hb hown (hts _ tw_816) dX10_spare_13 ?_
    refine end_i (run_s (As := [.long x1.toInt64, .long (1 : Int64), .long (40 : Int64)]) (rest := []) C ca_X10_in (ctX10_in x1.toInt64 (1 : Int64) (40 : Int64) rfl) tw_193 ⟨Nat.le_of_ble_eq_true rfl, Nat.le_of_ble_eq_true rfl⟩ rfl hl.1 (Nat.le_of_ble_eq_true rfl) ⟨Nat.le_refl _, Nat.le_refl _⟩ hP hS dX10_spare_16) hS (fun H locs hP hS => ?_)
    refine lv_if_ne (tgt := 25) hx hb dX10_spare_19 (by decide) (fun c_ => ?_) (fun c_ => ?_)
    · replace h := if_f c_ h
      refine lv_bipush (v := 20) hx hb dX10_spare_25 (by decide) ?_
      refine lv_istore_n (lv' := [(2, .int (20 : Int32)), (0, .ref (adG g 0)), (1, .int x1)]) hx hb dX10_spare_27 rfl hl (by decide) rfl (fun ls hl => ?_)
      exact wfX10_spare_L28 C fu σ x1 (20 : Int32) H locs ls h hP hS (lv_sub hl [1, 2, 0] rfl)
    · replace h := if_t c_ h
      refine lv_ldc hx hb hown (hts _ tw_188) dX10_spare_22 ?_
      exact r_reti C hP hS (rt_ow1 h) (rt_ow2 h) dX10_spare_24
  · replace h := if_t c_ h
    refine lv_ldc hx hb hown (hts _ tw_436) dX10_spare_7 ?_
    exact r_reti C hP hS (rt_ow1 h) (rt_ow2 h) dX10_spare_9

set_option maxRecDepth 100000 in
set_option maxHeartbeats 4000000 in
theorem wfX10_highOf_L4 {l : Launch} {g : Gw} {p : Program} {e : Env} {s : State} {m : MethodId} {args : Array Value} {below : List Frame} {meth : Method} {c : Code} {σ : Sto} (C : Cx wkM g p s m args meth c cX10_highOf 4 RX10 (some .int)) {Rz : Int32} : ∀ (n : Nat) (x1 : Int32) (x2 : Int32) (x3 : Int32) (H : Heap) (locs : List Loc) (ls : Array Slot), fX10_highOf_L4 σ n x1 x2 x3 = some Rz → wS wkM g σ H → va_S (AS wkM g) s.heap H locs → lv_has ls 4 [(0, .ref (adG g 0)), (1, .int x1), (2, .int x2), (3, .int x3)] → W p l e (rmS 1) s m args below meth c H locs 0 0 (MQ below (QiS wkM g σ Rz) args s 0 0 (AS wkM g)) (F0 m 4 ls []) := by
  intro n
  induction n with
  | zero =>
    intro x1 x2 x3 H locs ls h
    cases h
  | succ n ih =>
    intro x1 x2 x3 H locs ls h hP hS hl
    obtain ⟨hx, hb, hml, hown, hts, hr, hlk, hK, hZ⟩ := id C
    rw [fX10_highOf_L4] at h
    refine lv_iload_n hx hb dX10_highOf_4 rfl (lv_at hl 3 rfl) ?_
    refine lv_aload_n hx hb dX10_highOf_5 rfl (lv_at hl 0 rfl) ?_
    refine r_getr C cf_10 hP sm_0 km_0 4 (by decide) rfl tw_147 dX10_highOf_6 ?_
    refine lv_iconst (v := 1) hx hb dX10_highOf_9 (by decide) ?_
    refine r_iald C hP sm_4 km_4 (j := 1) (by decide) (by decide) dX10_highOf_10 ?_
    refine lv_icmp_ge (tgt := 44) hx hb dX10_highOf_11 (by decide) (fun c_ => ?_) (fun c_ => ?_)
    · replace h := if_t c_ h
      refine lv_iload_n hx hb dX10_highOf_44 rfl (lv_at hl 2 rfl) ?_
      exact r_reti C hP hS rfl (rt_o h) dX10_highOf_45
    · replace h := if_f c_ h
      refine lv_iload_n hx hb dX10_highOf_14 rfl (lv_at hl 2 rfl) ?_
      refine lv_iload_n hx hb dX10_highOf_15 rfl (lv_at hl 1 rfl) ?_
      refine lv_iload_n hx hb dX10_highOf_16 rfl (lv_at hl 3 rfl) ?_
      refine end_i (run_s (As := [.int x1, .int x3]) (rest := [.int x2]) C ca_X10_has (ctX10_has x1 x3 rfl) tw_865 ⟨Nat.le_of_ble_eq_true rfl, Nat.le_of_ble_eq_true rfl⟩ rfl hl.1 (Nat.le_of_ble_eq_true rfl) ⟨Nat.le_refl _, Nat.le_refl _⟩ hP hS dX10_highOf_17) hS (fun H locs hP hS => ?_)
      refine lv_if_eq (tgt := 35) hx hb dX10_highOf_20 (by decide) (fun c_ => ?_) (fun c_ => ?_)
      · replace h := if_t c_ h
        refine lv_iconst (v := 0) hx hb dX10_highOf_35 (by decide) ?_
        refine lv_iadd hx hb dX10_highOf_36 ?_
        refine lv_topi (fun x_2 ex_2 => ?_)
        replace h := un_at ex_2 h
        refine lv_istore_n (lv' := [(2, .int x_2), (0, .ref (adG g 0)), (1, .int x1), (3, .int x3)]) hx hb dX10_highOf_37 rfl hl (by decide) rfl (fun ls hl => ?_)
        obtain ⟨x_3, ex_3⟩ : ∃ y : Int32, y = x3 + (1 : Int32) := ⟨_, rfl⟩
        replace h := un_at ex_3 h
        refine lv_iinc (v := x_3) (lv' := [(3, .int x_3), (2, .int x_2), (0, .ref (adG g 0)), (1, .int x1)]) hx hb dX10_highOf_38 hl (k := 3) rfl (by rw [ex_3]; rfl) (by decide) rfl (fun ls hl => ?_)
        refine lv_goto (tgt := 4) hx hb dX10_highOf_41 (by decide) ?_
        exact ih x1 x_2 x_3 H locs ls h hP hS (lv_sub hl [2, 3, 1, 0] rfl)
      · replace h := if_f c_ h
        refine lv_aload_n hx hb dX10_highOf_23 rfl (lv_at hl 0 rfl) ?_
        refine r_getr C cf_10 hP sm_0 km_0 4 (by decide) rfl tw_147 dX10_highOf_24 ?_
        refine lv_bipush (v := 41) hx hb dX10_highOf_27 (by decide) ?_
        refine lv_iload_n hx hb dX10_highOf_29 rfl (lv_at hl 3 rfl) ?_
        refine lv_iadd hx hb dX10_highOf_30 ?_
        obtain ⟨g_4, h⟩ := gd_inv h
        refine r_iald C hP sm_4 km_4 rfl g_4 dX10_highOf_31 ?_
        refine lv_goto (tgt := 36) hx hb dX10_highOf_32 (by decide) ?_
        refine lv_iadd hx hb dX10_highOf_36 ?_
        refine lv_topi (fun x_5 ex_5 => ?_)
        replace h := un_at ex_5 h
        refine lv_istore_n (lv' := [(2, .int x_5), (0, .ref (adG g 0)), (1, .int x1), (3, .int x3)]) hx hb dX10_highOf_37 rfl hl (by decide) rfl (fun ls hl => ?_)
        obtain ⟨x_6, ex_6⟩ : ∃ y : Int32, y = x3 + (1 : Int32) := ⟨_, rfl⟩
        replace h := un_at ex_6 h
        refine lv_iinc (v := x_6) (lv' := [(3, .int x_6), (2, .int x_5), (0, .ref (adG g 0)), (1, .int x1)]) hx hb dX10_highOf_38 hl (k := 3) rfl (by rw [ex_6]; rfl) (by decide) rfl (fun ls hl => ?_)
        refine lv_goto (tgt := 4) hx hb dX10_highOf_41 (by decide) ?_
        exact ih x1 x_5 x_6 H locs ls h hP hS (lv_sub hl [2, 3, 1, 0] rfl)

set_option maxRecDepth 100000 in
set_option maxHeartbeats 4000000 in
theorem ctX10_highOf {l : Launch} {g : Gw} {σ : Sto} (x1 : Int32) {Rz : Int32} (h : fX10_highOf σ x1 = some Rz) : MtG l yX10_highOf cX10_highOf 4 (some .int) 1 wkM g [.ref (adG g 0), .int x1] σ (QiS wkM g σ Rz) := by
  refine mt_of (by decide) (Nat.le_of_ble_eq_true rfl) (fun p e s m below meth c ls H locs C hP hS hl => ?_)
  have C : Cx wkM g p s m _ meth c cX10_highOf 4 RX10 (some .int) := C
  have hl : lv_has ls 4 [(0, .ref (adG g 0)), (1, .int x1)] := hl
  obtain ⟨hx, hb, hml, hown, hts, hr, hlk, hK, hZ⟩ := id C
  unfold fX10_highOf at h
  refine lv_iconst (v := 0) hx hb dX10_highOf_0 (by decide) ?_
  refine lv_istore_n (lv' := [(2, .int (0 : Int32)), (0, .ref (adG g 0)), (1, .int x1)]) hx hb dX10_highOf_1 rfl hl (by decide) rfl (fun ls hl => ?_)
  refine lv_iconst (v := 0) hx hb dX10_highOf_2 (by decide) ?_
  refine lv_istore_n (lv' := [(3, .int (0 : Int32)), (2, .int (0 : Int32)), (0, .ref (adG g 0)), (1, .int x1)]) hx hb dX10_highOf_3 rfl hl (by decide) rfl (fun ls hl => ?_)
  exact wfX10_highOf_L4 C fu x1 (0 : Int32) (0 : Int32) H locs ls h hP hS (lv_sub hl [2, 3, 1, 0] rfl)

set_option maxRecDepth 100000 in
set_option maxHeartbeats 4000000 in
theorem wfX10_sets_L58 {l : Launch} {g : Gw} {p : Program} {e : Env} {s : State} {m : MethodId} {args : Array Value} {below : List Frame} {meth : Method} {c : Code} {σ : Sto} (C : Cx wkM g p s m args meth c cX10_sets 8 RX10 (some .int)) {Rz : Int32} {k_107 : Int32 → Int32 → Int32 → Int32 → Option Int32} : ∀ (n : Nat) (x1 : Int32) (x2 : Int32) (x3 : Int32) (x4 : Int32) (x5 : Int32) (x6 : Int32) (x7 : Int32) (H : Heap) (locs : List Loc) (ls : Array Slot), fX10_sets_L58 k_107 σ n x1 x2 x3 x4 x5 x6 x7 = some Rz → wS wkM g σ H → va_S (AS wkM g) s.heap H locs → lv_has ls 8 [(0, .ref (adG g 0)), (1, .int x1), (2, .int x2), (3, .int x3), (4, .int x4), (5, .int x5), (6, .int x6), (7, .int x7)] → (∀ (x2 : Int32) (x4 : Int32) (x5 : Int32) (x6 : Int32) (H : Heap) (locs : List Loc) (ls : Array Slot), k_107 x2 x4 x5 x6 = some Rz → wS wkM g σ H → va_S (AS wkM g) s.heap H locs → lv_has ls 8 [(2, .int x2), (4, .int x4), (5, .int x5), (6, .int x6)] → W p l e (rmS 2) s m args below meth c H locs 0 0 (MQ below (QiS wkM g σ Rz) args s 0 0 (AS wkM g)) (F0 m 107 ls [])) → W p l e (rmS 2) s m args below meth c H locs 0 0 (MQ below (QiS wkM g σ Rz) args s 0 0 (AS wkM g)) (F0 m 58 ls []) := by
  intro n
  induction n with
  | zero =>
    intro x1 x2 x3 x4 x5 x6 x7 H locs ls h
    cases h
  | succ n ih =>
    intro x1 x2 x3 x4 x5 x6 x7 H locs ls h hP hS hl hk_107
    obtain ⟨hx, hb, hml, hown, hts, hr, hlk, hK, hZ⟩ := id C
    rw [fX10_sets_L58] at h
    refine lv_iload hx hb dX10_sets_58 (lv_at hl 7 rfl) ?_
    refine lv_bipush (v := 64) hx hb dX10_sets_60 (by decide) ?_
    refine lv_icmp_ge (tgt := 107) hx hb dX10_sets_62 (by decide) (fun c_ => ?_) (fun c_ => ?_)
    · replace h := if_t c_ h
      exact hk_107 x2 x4 x5 x6 H locs ls h hP hS (lv_sub hl [2, 4, 5, 6] rfl)
    · replace h := if_f c_ h
      refine lv_iload hx hb dX10_sets_65 (lv_at hl 7 rfl) ?_
      refine lv_iload_n hx hb dX10_sets_67 rfl (lv_at hl 3 rfl) ?_
      refine lv_iconst (v := (-1)) hx hb dX10_sets_68 (by decide) ?_
      refine lv_ixor hx hb dX10_sets_69 ?_
      refine lv_iand hx hb dX10_sets_70 ?_
      refine lv_if_ne (tgt := 101) hx hb dX10_sets_71 (by decide) (fun c_ => ?_) (fun c_ => ?_)
      · replace h := if_f c_ h
        obtain ⟨x_1, ex_1⟩ : ∃ y : Int32, y = x7 + (1 : Int32) := ⟨_, rfl⟩
        replace h := un_at ex_1 h
        refine lv_iinc (v := x_1) (lv' := [(7, .int x_1), (0, .ref (adG g 0)), (1, .int x1), (2, .int x2), (3, .int x3), (4, .int x4), (5, .int x5), (6, .int x6)]) hx hb dX10_sets_101 hl (k := 7) rfl (by rw [ex_1]; rfl) (by decide) rfl (fun ls hl => ?_)
        refine lv_goto (tgt := 58) hx hb dX10_sets_104 (by decide) ?_
        exact ih x1 x2 x3 x4 x5 x6 x_1 H locs ls h hP hS (lv_sub hl [1, 2, 3, 4, 5, 6, 7, 0] rfl) hk_107
      · replace h := if_t c_ h
        refine lv_aload_n hx hb dX10_sets_74 rfl (lv_at hl 0 rfl) ?_
        refine lv_iload hx hb dX10_sets_75 (lv_at hl 7 rfl) ?_
        obtain ⟨q_2, hq_2, h⟩ := bd_inv h
        refine end_i (run_v (As := [.int x7]) (rest := []) C ca_X10_highOf (ctX10_highOf x7 hq_2) cf_10 sm_0 km_0 tw_861 ⟨Nat.le_of_ble_eq_true rfl, Nat.le_of_ble_eq_true rfl⟩ rfl hl.1 (Nat.le_of_ble_eq_true rfl) ⟨Nat.le_refl _, Nat.le_refl _⟩ hP hS dX10_sets_77) hS (fun H locs hP hS => ?_)
        refine lv_iload_n hx hb dX10_sets_80 rfl (lv_at hl 1 rfl) ?_
        refine lv_icmp_ne (tgt := 101) hx hb dX10_sets_81 (by decide) (fun c_ => ?_) (fun c_ => ?_)
        · replace h := if_f c_ h
          obtain ⟨x_3, ex_3⟩ : ∃ y : Int32, y = x7 + (1 : Int32) := ⟨_, rfl⟩
          replace h := un_at ex_3 h
          refine lv_iinc (v := x_3) (lv' := [(7, .int x_3), (0, .ref (adG g 0)), (1, .int x1), (2, .int x2), (3, .int x3), (4, .int x4), (5, .int x5), (6, .int x6)]) hx hb dX10_sets_101 hl (k := 7) rfl (by rw [ex_3]; rfl) (by decide) rfl (fun ls hl => ?_)
          refine lv_goto (tgt := 58) hx hb dX10_sets_104 (by decide) ?_
          exact ih x1 x2 x3 x4 x5 x6 x_3 H locs ls h hP hS (lv_sub hl [1, 2, 3, 4, 5, 6, 7, 0] rfl) hk_107
        · replace h := if_t c_ h
          obtain ⟨x_4, ex_4⟩ : ∃ y : Int32, y = x4 + (1 : Int32) := ⟨_, rfl⟩
          replace h := un_at ex_4 h
          refine lv_iinc (v := x_4) (lv' := [(4, .int x_4), (0, .ref (adG g 0)), (1, .int x1), (2, .int x2), (3, .int x3), (5, .int x5), (6, .int x6), (7, .int x7)]) hx hb dX10_sets_84 hl (k := 4) rfl (by rw [ex_4]; rfl) (by decide) rfl (fun ls hl => ?_)
          refine lv_iload hx hb dX10_sets_87 (lv_at hl 5 rfl) ?_
          refine lv_iload hx hb dX10_sets_89 (lv_at hl 7 rfl) ?_
          refine lv_iand hx hb dX10_sets_91 ?_
          refine lv_topi (fun x_5 ex_5 => ?_)
          replace h := un_at ex_5 h
          refine lv_istore (lv' := [(5, .int x_5), (4, .int x_4), (0, .ref (adG g 0)), (1, .int x1), (2, .int x2), (3, .int x3), (6, .int x6), (7, .int x7)]) hx hb dX10_sets_92 hl (by decide) rfl (fun ls hl => ?_)
          refine lv_iload hx hb dX10_sets_94 (lv_at hl 6 rfl) ?_
          refine lv_iload hx hb dX10_sets_96 (lv_at hl 7 rfl) ?_
          refine lv_ior hx hb dX10_sets_98 ?_
          refine lv_topi (fun x_6 ex_6 => ?_)
          replace h := un_at ex_6 h
          refine lv_istore (lv' := [(6, .int x_6), (5, .int x_5), (4, .int x_4), (0, .ref (adG g 0)), (1, .int x1), (2, .int x2), (3, .int x3), (7, .int x7)]) hx hb dX10_sets_99 hl (by decide) rfl (fun ls hl => ?_)
          obtain ⟨x_7, ex_7⟩ : ∃ y : Int32, y = x7 + (1 : Int32) := ⟨_, rfl⟩
          replace h := un_at ex_7 h
          refine lv_iinc (v := x_7) (lv' := [(7, .int x_7), (6, .int x_6), (5, .int x_5), (4, .int x_4), (0, .ref (adG g 0)), (1, .int x1), (2, .int x2), (3, .int x3)]) hx hb dX10_sets_101 hl (k := 7) rfl (by rw [ex_7]; rfl) (by decide) rfl (fun ls hl => ?_)
          refine lv_goto (tgt := 58) hx hb dX10_sets_104 (by decide) ?_
          exact ih x1 x2 x3 x_4 x_5 x_6 x_7 H locs ls h hP hS (lv_sub hl [4, 5, 6, 7, 3, 2, 1, 0] rfl) hk_107

set_option maxRecDepth 100000 in
set_option maxHeartbeats 4000000 in
theorem ctX10_sets {l : Launch} {g : Gw} {σ : Sto} (x1 : Int32) (x2 : Int32) {Rz : Int32} (h : fX10_sets σ x1 x2 = some Rz) : MtG l yX10_sets cX10_sets 8 (some .int) 2 wkM g [.ref (adG g 0), .int x1, .int x2] σ (QiS wkM g σ Rz) := by
  refine mt_of (by decide) (Nat.le_of_ble_eq_true rfl) (fun p e s m below meth c ls H locs C hP hS hl => ?_)
  have C : Cx wkM g p s m _ meth c cX10_sets 8 RX10 (some .int) := C
  have hl : lv_has ls 8 [(0, .ref (adG g 0)), (1, .int x1), (2, .int x2)] := hl
  obtain ⟨hx, hb, hml, hown, hts, hr, hlk, hK, hZ⟩ := id C
  unfold fX10_sets at h
  refine lv_aload_n hx hb dX10_sets_0 rfl (lv_at hl 0 rfl) ?_
  refine end_i (run_v (As := []) (rest := []) C ca_X10_isThere (ctX10_isThere rfl) cf_10 sm_0 km_0 tw_482 ⟨Nat.le_of_ble_eq_true rfl, Nat.le_of_ble_eq_true rfl⟩ rfl hl.1 (Nat.le_of_ble_eq_true rfl) ⟨Nat.le_refl _, Nat.le_refl _⟩ hP hS dX10_sets_1) hS (fun H locs hP hS => ?_)
  refine lv_if_ne (tgt := 10) hx hb dX10_sets_4 (by decide) (fun c_ => ?_) (fun c_ => ?_)
  · replace h := if_f c_ h
    refine lv_iload_n hx hb dX10_sets_10 rfl (lv_at hl 1 rfl) ?_
    refine lv_i2l hx hb dX10_sets_11 rfl ?_
    refine lv_lconst (v := 0) hx hb dX10_sets_12 (by decide) ?_
    refine lv_ldc2 hx hb hown (hts _ tw_860) dX10_sets_13 ?_
    refine end_i (run_s (As := [.long x1.toInt64, .long (0 : Int64), .long (54 : Int64)]) (rest := []) C ca_X10_in (ctX10_in x1.toInt64 (0 : Int64) (54 : Int64) rfl) tw_193 ⟨Nat.le_of_ble_eq_true rfl, Nat.le_of_ble_eq_true rfl⟩ rfl hl.1 (Nat.le_of_ble_eq_true rfl) ⟨Nat.le_refl _, Nat.le_refl _⟩ hP hS dX10_sets_16) hS (fun H locs hP hS => ?_)
    refine lv_if_eq (tgt := 34) hx hb dX10_sets_19 (by decide) (fun c_ => ?_) (fun c_ => ?_)
    · replace h := if_t c_ h
      refine lv_ldc hx hb hown (hts _ tw_188) dX10_sets_34 ?_
      exact r_reti C hP hS rfl (rt_o h) dX10_sets_36
    · replace h := if_f c_ h
      refine lv_iload_n hx hb dX10_sets_22 rfl (lv_at hl 2 rfl) ?_
      refine lv_i2l hx hb dX10_sets_23 rfl ?_
      refine lv_lconst (v := 0) hx hb dX10_sets_24 (by decide) ?_
      refine lv_ldc2 hx hb hown (hts _ tw_187) dX10_sets_25 ?_
      refine end_i (run_s (As := [.long x2.toInt64, .long (0 : Int64), .long (2 : Int64)]) (rest := []) C ca_X10_in (ctX10_in x2.toInt64 (0 : Int64) (2 : Int64) rfl) tw_193 ⟨Nat.le_of_ble_eq_true rfl, Nat.le_of_ble_eq_true rfl⟩ rfl hl.1 (Nat.le_of_ble_eq_true rfl) ⟨Nat.le_refl _, Nat.le_refl _⟩ hP hS dX10_sets_28) hS (fun H locs hP hS => ?_)
      refine lv_if_ne (tgt := 37) hx hb dX10_sets_31 (by decide) (fun c_ => ?_) (fun c_ => ?_)
      · replace h := if_f c_ h
        refine lv_aload_n hx hb dX10_sets_37 rfl (lv_at hl 0 rfl) ?_
        refine r_getr C cf_10 hP sm_0 km_0 4 (by decide) rfl tw_147 dX10_sets_38 ?_
        refine lv_iconst (v := 0) hx hb dX10_sets_41 (by decide) ?_
        obtain ⟨q_4, hq_4, h⟩ := bd_inv h
        refine end_i (run_s (As := [.ref (adG g 4), .int (0 : Int32)]) (rest := []) C ca_X10_those (ctX10_those 4 ⟨sm_4, km_4⟩ (0 : Int32) hq_4) tw_508 ⟨Nat.le_of_ble_eq_true rfl, Nat.le_of_ble_eq_true rfl⟩ rfl hl.1 (Nat.le_of_ble_eq_true rfl) ⟨Nat.le_refl _, Nat.le_refl _⟩ hP hS dX10_sets_42) hS (fun H locs hP hS => ?_)
        refine lv_istore_n (lv' := [(3, .int q_4), (0, .ref (adG g 0)), (1, .int x1), (2, .int x2)]) hx hb dX10_sets_45 rfl hl (by decide) rfl (fun ls hl => ?_)
        refine lv_iconst (v := 0) hx hb dX10_sets_46 (by decide) ?_
        refine lv_istore (lv' := [(4, .int (0 : Int32)), (3, .int q_4), (0, .ref (adG g 0)), (1, .int x1), (2, .int x2)]) hx hb dX10_sets_47 hl (by decide) rfl (fun ls hl => ?_)
        refine lv_iload_n hx hb dX10_sets_49 rfl (lv_at hl 1 rfl) ?_
        refine lv_istore (lv' := [(5, .int q_4), (4, .int (0 : Int32)), (3, .int q_4), (0, .ref (adG g 0)), (1, .int x1), (2, .int x2)]) hx hb dX10_sets_50 hl (by decide) rfl (fun ls hl => ?_)
        refine lv_iconst (v := 0) hx hb dX10_sets_52 (by decide) ?_
        refine lv_istore (lv' := [(6, .int (0 : Int32)), (5, .int q_4), (4, .int (0 : Int32)), (3, .int q_4), (0, .ref (adG g 0)), (1, .int x1), (2, .int x2)]) hx hb dX10_sets_53 hl (by decide) rfl (fun ls hl => ?_)
        refine lv_iconst (v := 0) hx hb dX10_sets_55 (by decide) ?_
        refine lv_istore (lv' := [(7, .int (0 : Int32)), (6, .int (0 : Int32)), (5, .int q_4), (4, .int (0 : Int32)), (3, .int q_4), (0, .ref (adG g 0)), (1, .int x1), (2, .int x2)]) hx hb dX10_sets_56 hl (by decide) rfl (fun ls hl => ?_)
        refine wfX10_sets_L58 C fu x1 x2 q_4 (0 : Int32) q_4 (0 : Int32) (0 : Int32) H locs ls h hP hS (lv_sub hl [5, 6, 7, 4, 3, 2, 1, 0] rfl) (fun z_5 z_6 z_7 z_8 H locs ls h hP hS hl => ?_)
        refine lv_iload_n hx hb dX10_sets_107 rfl (lv_at hl 0 rfl) ?_
        refine lv_if_ne (tgt := 116) hx hb dX10_sets_108 (by decide) (fun c_ => ?_) (fun c_ => ?_)
        · replace h := if_f c_ h
          refine lv_iload_n hx hb dX10_sets_116 rfl (lv_at hl 0 rfl) ?_
          refine lv_iconst (v := 2) hx hb dX10_sets_117 (by decide) ?_
          refine lv_icmp_ne (tgt := 126) hx hb dX10_sets_118 (by decide) (fun c_ => ?_) (fun c_ => ?_)
          · replace h := if_f c_ h
            refine lv_iload hx hb dX10_sets_126 (lv_at hl 1 rfl) ?_
            refine lv_if_ne (tgt := 135) hx hb dX10_sets_128 (by decide) (fun c_ => ?_) (fun c_ => ?_)
            · replace h := if_f c_ h
              refine lv_iload hx hb dX10_sets_135 (lv_at hl 2 rfl) ?_
              exact r_reti C hP hS rfl (rt_o h) dX10_sets_137
            · replace h := if_t c_ h
              refine lv_iconst (v := 0) hx hb dX10_sets_131 (by decide) ?_
              refine lv_goto (tgt := 137) hx hb dX10_sets_132 (by decide) ?_
              exact r_reti C hP hS rfl (rt_o h) dX10_sets_137
          · replace h := if_t c_ h
            refine lv_iload hx hb dX10_sets_121 (lv_at hl 3 rfl) ?_
            refine lv_goto (tgt := 137) hx hb dX10_sets_123 (by decide) ?_
            exact r_reti C hP hS rfl (rt_o h) dX10_sets_137
        · replace h := if_t c_ h
          refine lv_iload hx hb dX10_sets_111 (lv_at hl 1 rfl) ?_
          refine lv_goto (tgt := 137) hx hb dX10_sets_113 (by decide) ?_
          exact r_reti C hP hS rfl (rt_o h) dX10_sets_137
      · replace h := if_t c_ h
        refine lv_ldc hx hb hown (hts _ tw_188) dX10_sets_34 ?_
        exact r_reti C hP hS rfl (rt_o h) dX10_sets_36
  · replace h := if_t c_ h
    refine lv_ldc hx hb hown (hts _ tw_436) dX10_sets_7 ?_
    exact r_reti C hP hS rfl (rt_o h) dX10_sets_9

set_option maxRecDepth 100000 in
set_option maxHeartbeats 4000000 in
theorem wfX10_share_j104 {l : Launch} {g : Gw} {p : Program} {e : Env} {s : State} {m : MethodId} {args : Array Value} {below : List Frame} {meth : Method} {c : Code} {σ : Sto} (C : Cx wkM g p s m args meth c cX10_share 8 RX10 (some .int)) {Rz : Int32} {k_63 : Int32 → Int32 → Int32 → Int32 → Int32 → Int32 → Int32 → Option Int32} : ∀ (x1 : Int32) (x2 : Int32) (x3 : Int32) (x4 : Int32) (x6 : Int32) (x7 : Int32) (y0 : Int32) (y1 : Int32) (H : Heap) (locs : List Loc) (ls : Array Slot), fX10_share_j104 k_63 σ x1 x2 x3 x4 x6 x7 y0 y1 = some Rz → wS wkM g σ H → va_S (AS wkM g) s.heap H locs → lv_has ls 8 [(0, .ref (adG g 0)), (1, .int x1), (2, .int x2), (3, .int x3), (4, .int x4), (6, .int x6), (7, .int x7)] → (∀ (x1 : Int32) (x2 : Int32) (x3 : Int32) (x4 : Int32) (x5 : Int32) (x6 : Int32) (x7 : Int32) (H : Heap) (locs : List Loc) (ls : Array Slot), k_63 x1 x2 x3 x4 x5 x6 x7 = some Rz → wS wkM g σ H → va_S (AS wkM g) s.heap H locs → lv_has ls 8 [(0, .ref (adG g 0)), (1, .int x1), (2, .int x2), (3, .int x3), (4, .int x4), (5, .int x5), (6, .int x6), (7, .int x7)] → W p l e (rmS 2) s m args below meth c H locs 0 0 (MQ below (QiS wkM g σ Rz) args s 0 0 (AS wkM g)) (F0 m 63 ls [])) → W p l e (rmS 2) s m args below meth c H locs 0 0 (MQ below (QiS wkM g σ Rz) args s 0 0 (AS wkM g)) (F0 m 104 ls [.int y1, .int y0]) := by
  intro x1 x2 x3 x4 x6 x7 y0 y1 H locs ls h hP hS hl hk_63
  obtain ⟨hx, hb, hml, hown, hts, hr, hlk, hK, hZ⟩ := id C
  unfold fX10_share_j104 at h
  refine lv_isub hx hb dX10_share_104 ?_
  refine lv_topi (fun x_1 ex_1 => ?_)
  replace h := un_at ex_1 h
  refine lv_istore (lv' := [(5, .int x_1), (0, .ref (adG g 0)), (1, .int x1), (2, .int x2), (3, .int x3), (4, .int x4), (6, .int x6), (7, .int x7)]) hx hb dX10_share_105 hl (by decide) rfl (fun ls hl => ?_)
  refine lv_iload hx hb dX10_share_107 (lv_at hl 6 rfl) ?_
  refine lv_iload_n hx hb dX10_share_109 rfl (lv_at hl 4 rfl) ?_
  refine lv_iload hx hb dX10_share_110 (lv_at hl 7 rfl) ?_
  refine end_i (run_s (As := [.int x3, .int x7]) (rest := [.int x6]) C ca_X10_has (ctX10_has x3 x7 rfl) tw_865 ⟨Nat.le_of_ble_eq_true rfl, Nat.le_of_ble_eq_true rfl⟩ rfl hl.1 (Nat.le_of_ble_eq_true rfl) ⟨Nat.le_refl _, Nat.le_refl _⟩ hP hS dX10_share_112) hS (fun H locs hP hS => ?_)
  refine lv_if_eq (tgt := 128) hx hb dX10_share_115 (by decide) (fun c_ => ?_) (fun c_ => ?_)
  · replace h := if_t c_ h
    refine lv_iconst (v := 0) hx hb dX10_share_128 (by decide) ?_
    refine lv_iadd hx hb dX10_share_129 ?_
    refine lv_topi (fun x_3 ex_3 => ?_)
    replace h := un_at ex_3 h
    refine lv_istore (lv' := [(6, .int x_3), (5, .int x_1), (0, .ref (adG g 0)), (1, .int x1), (2, .int x2), (3, .int x3), (4, .int x4), (7, .int x7)]) hx hb dX10_share_130 hl (by decide) rfl (fun ls hl => ?_)
    obtain ⟨x_4, ex_4⟩ : ∃ y : Int32, y = x7 + (1 : Int32) := ⟨_, rfl⟩
    replace h := un_at ex_4 h
    refine lv_iinc (v := x_4) (lv' := [(7, .int x_4), (6, .int x_3), (5, .int x_1), (0, .ref (adG g 0)), (1, .int x1), (2, .int x2), (3, .int x3), (4, .int x4)]) hx hb dX10_share_132 hl (k := 7) rfl (by rw [ex_4]; rfl) (by decide) rfl (fun ls hl => ?_)
    refine lv_goto (tgt := 63) hx hb dX10_share_135 (by decide) ?_
    exact hk_63 x1 x2 x3 x4 x_1 x_3 x_4 H locs ls h hP hS (lv_sub hl [3, 4, 5, 6, 7, 2, 1, 0] rfl)
  · replace h := if_f c_ h
    refine lv_iload hx hb dX10_share_118 (lv_at hl 7 rfl) ?_
    refine lv_iload_n hx hb dX10_share_120 rfl (lv_at hl 2 rfl) ?_
    refine lv_icmp_ge (tgt := 128) hx hb dX10_share_121 (by decide) (fun c_ => ?_) (fun c_ => ?_)
    · replace h := if_t c_ h
      refine lv_iconst (v := 0) hx hb dX10_share_128 (by decide) ?_
      refine lv_iadd hx hb dX10_share_129 ?_
      refine lv_topi (fun x_5 ex_5 => ?_)
      replace h := un_at ex_5 h
      refine lv_istore (lv' := [(6, .int x_5), (5, .int x_1), (0, .ref (adG g 0)), (1, .int x1), (2, .int x2), (3, .int x3), (4, .int x4), (7, .int x7)]) hx hb dX10_share_130 hl (by decide) rfl (fun ls hl => ?_)
      obtain ⟨x_6, ex_6⟩ : ∃ y : Int32, y = x7 + (1 : Int32) := ⟨_, rfl⟩
      replace h := un_at ex_6 h
      refine lv_iinc (v := x_6) (lv' := [(7, .int x_6), (6, .int x_5), (5, .int x_1), (0, .ref (adG g 0)), (1, .int x1), (2, .int x2), (3, .int x3), (4, .int x4)]) hx hb dX10_share_132 hl (k := 7) rfl (by rw [ex_6]; rfl) (by decide) rfl (fun ls hl => ?_)
      refine lv_goto (tgt := 63) hx hb dX10_share_135 (by decide) ?_
      exact hk_63 x1 x2 x3 x4 x_1 x_5 x_6 H locs ls h hP hS (lv_sub hl [3, 4, 5, 6, 7, 2, 1, 0] rfl)
    · replace h := if_f c_ h
      refine lv_iconst (v := 1) hx hb dX10_share_124 (by decide) ?_
      refine lv_goto (tgt := 129) hx hb dX10_share_125 (by decide) ?_
      refine lv_iadd hx hb dX10_share_129 ?_
      refine lv_topi (fun x_7 ex_7 => ?_)
      replace h := un_at ex_7 h
      refine lv_istore (lv' := [(6, .int x_7), (5, .int x_1), (0, .ref (adG g 0)), (1, .int x1), (2, .int x2), (3, .int x3), (4, .int x4), (7, .int x7)]) hx hb dX10_share_130 hl (by decide) rfl (fun ls hl => ?_)
      obtain ⟨x_8, ex_8⟩ : ∃ y : Int32, y = x7 + (1 : Int32) := ⟨_, rfl⟩
      replace h := un_at ex_8 h
      refine lv_iinc (v := x_8) (lv' := [(7, .int x_8), (6, .int x_7), (5, .int x_1), (0, .ref (adG g 0)), (1, .int x1), (2, .int x2), (3, .int x3), (4, .int x4)]) hx hb dX10_share_132 hl (k := 7) rfl (by rw [ex_8]; rfl) (by decide) rfl (fun ls hl => ?_)
      refine lv_goto (tgt := 63) hx hb dX10_share_135 (by decide) ?_
      exact hk_63 x1 x2 x3 x4 x_1 x_7 x_8 H locs ls h hP hS (lv_sub hl [3, 4, 5, 6, 7, 2, 1, 0] rfl)
