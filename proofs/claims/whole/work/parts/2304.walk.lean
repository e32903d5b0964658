set_option maxRecDepth 100000 in
set_option maxHeartbeats 4000000 in
theorem ctX5_partOf {l : Launch} {g : Gw} {σ : Sto} (v1 : Nat) (hv1 : isV v1) (x2 : Int32) (x3 : Int32) {Rz : Int32} (h : fX5_partOf σ v1 x2 x3 = some Rz) : MtG l yX5_partOf cX5_partOf 9 (some .int) 1 wkX g [.ref (adG g 10), .ref (adG g v1), .int x2, .int x3] σ (QiS wkX g σ Rz) := by
  refine mt_of (by decide) (Nat.le_of_ble_eq_true rfl) (fun p e s m below meth c ls H locs C hP hS hl => ?_)
  have C : Cx wkX g p s m _ meth c cX5_partOf 9 RX5 (some .int) := C
  have hl : lv_has ls 9 [(0, .ref (adG g 10)), (1, .ref (adG g v1)), (2, .int x2), (3, .int x3)] := hl
  obtain ⟨hx, hb, hml, hown, hts, hr, hlk, hK, hZ⟩ := id C
  unfold fX5_partOf at h
  refine lv_aload_n hx hb dX5_partOf_0 rfl (lv_at hl 1 rfl) ?_
  refine lv_bipush (v := 20) hx hb dX5_partOf_1 (by decide) ?_
  obtain ⟨q_1, hq_1, h⟩ := bd_inv h
  refine end_i (run_v (As := [.int (20 : Int32)]) (rest := []) C ca_X8_allAt (ctX8_allAt v1 hv1 (20 : Int32) hq_1) cf_8 (sv_0 hv1) (kv_0 hv1) tw_692 ⟨Nat.le_of_ble_eq_true rfl, Nat.le_of_ble_eq_true rfl⟩ rfl hl.1 (Nat.le_of_ble_eq_true rfl) ⟨Nat.le_refl _, Nat.le_refl _⟩ hP hS dX5_partOf_3) hS (fun H locs hP hS => ?_)
  refine lv_istore (lv' := [(4, .int q_1), (0, .ref (adG g 10)), (1, .ref (adG g v1)), (2, .int x2), (3, .int x3)]) hx hb dX5_partOf_6 hl (by decide) rfl (fun ls hl => ?_)
  refine lv_aload_n hx hb dX5_partOf_8 rfl (lv_at hl 2 rfl) ?_
  refine lv_iload hx hb dX5_partOf_9 (lv_at hl 0 rfl) ?_
  obtain ⟨q_2, hq_2, h⟩ := bd_inv h
  refine end_i (run_s (As := [.ref (adG g v1), .int q_1]) (rest := []) C ca_X5_highOfAll (ctX5_highOfAll v1 hv1 q_1 hq_2) tw_852 ⟨Nat.le_of_ble_eq_true rfl, Nat.le_of_ble_eq_true rfl⟩ rfl hl.1 (Nat.le_of_ble_eq_true rfl) ⟨Nat.le_refl _, Nat.le_refl _⟩ hP hS dX5_partOf_11) hS (fun H locs hP hS => ?_)
  refine lv_istore (lv' := [(5, .int q_2), (4, .int q_1), (0, .ref (adG g 10)), (1, .ref (adG g v1)), (2, .int x2), (3, .int x3)]) hx hb dX5_partOf_14 hl (by decide) rfl (fun ls hl => ?_)
  refine lv_iload hx hb dX5_partOf_16 (lv_at hl 1 rfl) ?_
  refine lv_iload_n hx hb dX5_partOf_18 rfl (lv_at hl 4 rfl) ?_
  refine lv_ishr hx hb dX5_partOf_19 ?_
  refine lv_iconst (v := 1) hx hb dX5_partOf_20 (by decide) ?_
  refine lv_iand hx hb dX5_partOf_21 ?_
  refine lv_if_eq (tgt := 30) hx hb dX5_partOf_22 (by decide) (fun c_ => ?_) (fun c_ => ?_)
  · replace h := if_t c_ h
    refine lv_iconst (v := 0) hx hb dX5_partOf_30 (by decide) ?_
    exact r_reti C hP hS rfl (rt_o h) dX5_partOf_31
  · replace h := if_f c_ h
    refine lv_iload hx hb dX5_partOf_25 (lv_at hl 0 rfl) ?_
    refine lv_if_gt (tgt := 32) hx hb dX5_partOf_27 (by decide) (fun c_ => ?_) (fun c_ => ?_)
    · replace h := if_t c_ h
      refine lv_iload_n hx hb dX5_partOf_32 rfl (lv_at hl 5 rfl) ?_
      refine lv_istore (lv' := [(6, .int x3), (5, .int q_2), (4, .int q_1), (0, .ref (adG g 10)), (1, .ref (adG g v1)), (2, .int x2), (3, .int x3)]) hx hb dX5_partOf_33 hl (by decide) rfl (fun ls hl => ?_)
      refine lv_iconst (v := 0) hx hb dX5_partOf_35 (by decide) ?_
      refine lv_istore (lv' := [(7, .int (0 : Int32)), (6, .int x3), (5, .int q_2), (4, .int q_1), (0, .ref (adG g 10)), (1, .ref (adG g v1)), (2, .int x2), (3, .int x3)]) hx hb dX5_partOf_36 hl (by decide) rfl (fun ls hl => ?_)
      refine lv_iconst (v := 0) hx hb dX5_partOf_38 (by decide) ?_
      refine lv_istore (lv' := [(8, .int (0 : Int32)), (7, .int (0 : Int32)), (6, .int x3), (5, .int q_2), (4, .int q_1), (0, .ref (adG g 10)), (1, .ref (adG g v1)), (2, .int x2), (3, .int x3)]) hx hb dX5_partOf_39 hl (by decide) rfl (fun ls hl => ?_)
      refine wfX5_partOf_L41 C v1 hv1 fu x2 x3 q_1 q_2 x3 (0 : Int32) (0 : Int32) H locs ls h hP hS (lv_sub hl [6, 7, 8, 4, 3, 2, 1, 0] rfl) (fun z_3 z_4 z_5 z_6 z_7 H locs ls h hP hS hl => ?_)
      refine lv_iload_n hx hb dX5_partOf_100 rfl (lv_at hl 2 rfl) ?_
      refine lv_aload_n hx hb dX5_partOf_101 rfl (lv_at hl 0 rfl) ?_
      refine r_getr C cf_8 hP (sv_0 hv1) (kv_0 hv1) 9 (by decide) rfl tw_855 dX5_partOf_102 ?_
      refine lv_iload_n hx hb dX5_partOf_105 rfl (lv_at hl 1 rfl) ?_
      obtain ⟨g_8, h⟩ := gd_inv h
      refine r_iald C hP (sv_5 hv1) (kv_5 hv1) rfl g_8 dX5_partOf_106 ?_
      refine lv_imul hx hb dX5_partOf_107 ?_
      refine lv_iload hx hb dX5_partOf_108 (lv_at hl 3 rfl) ?_
      obtain ⟨g_9, h⟩ := gd_inv h
      refine lv_idiv hx hb dX5_partOf_110 (nz_ne g_9) ?_
      refine lv_iload hx hb dX5_partOf_111 (lv_at hl 5 rfl) ?_
      refine lv_iload hx hb dX5_partOf_113 (lv_at hl 4 rfl) ?_
      refine lv_icmp_ge (tgt := 122) hx hb dX5_partOf_115 (by decide) (fun c_ => ?_) (fun c_ => ?_)
      · replace h := if_t c_ h
        refine lv_iconst (v := 0) hx hb dX5_partOf_122 (by decide) ?_
        refine lv_iadd hx hb dX5_partOf_123 ?_
        exact r_reti C hP hS rfl (rt_o h) dX5_partOf_124
      · replace h := if_f c_ h
        refine lv_iconst (v := 1) hx hb dX5_partOf_118 (by decide) ?_
        refine lv_goto (tgt := 123) hx hb dX5_partOf_119 (by decide) ?_
        refine lv_iadd hx hb dX5_partOf_123 ?_
        exact r_reti C hP hS rfl (rt_o h) dX5_partOf_124
    · replace h := if_f c_ h
      refine lv_iconst (v := 0) hx hb dX5_partOf_30 (by decide) ?_
      exact r_reti C hP hS rfl (rt_o h) dX5_partOf_31

set_option maxRecDepth 100000 in
set_option maxHeartbeats 4000000 in
theorem wfX5_hear_L14 {l : Launch} {g : Gw} {p : Program} {e : Env} {s : State} {m : MethodId} {args : Array Value} {below : List Frame} {meth : Method} {c : Code} (C : Cx wkX g p s m args meth c cX5_hear 6 RX5 none) {Rz : Sto} : ∀ (n : Nat) (σ : Sto) (x2 : Int32) (x3 : Int32) (x5 : Int32) (H : Heap) (locs : List Loc) (ls : Array Slot), fX5_hear_L14 n σ x2 x3 x5 = some Rz → wS wkX g σ H → va_S (AS wkX g) s.heap H locs → lv_has ls 6 [(0, .ref (adG g 10)), (1, .ref (adG g 1)), (2, .int x2), (3, .int x3), (5, .int x5)] → W p l e (rmS 2) s m args below meth c H locs 0 0 (MQ below (QvS wkX g Rz) args s 0 0 (AS wkX g)) (F0 m 14 ls []) := by
  intro n
  induction n with
  | zero =>
    intro σ x2 x3 x5 H locs ls h
    cases h
  | succ n ih =>
    intro σ x2 x3 x5 H locs ls h hP hS hl
    obtain ⟨hx, hb, hml, hown, hts, hr, hlk, hK, hZ⟩ := id C
    rw [fX5_hear_L14] at h
    refine lv_iload hx hb dX5_hear_14 (lv_at hl 4 rfl) ?_
    refine lv_aload_n hx hb dX5_hear_16 rfl (lv_at hl 0 rfl) ?_
    refine r_geti C cf_5 hP sx_10 kx_10 3 (by decide) rfl tw_98 dX5_hear_17 ?_
    refine lv_icmp_ge (tgt := 45) hx hb dX5_hear_20 (by decide) (fun c_ => ?_) (fun c_ => ?_)
    · replace h := if_t c_ h
      exact r_retv C hP hS (rt_o h) dX5_hear_45
    · replace h := if_f c_ h
      refine lv_aload_n hx hb dX5_hear_23 rfl (lv_at hl 0 rfl) ?_
      refine r_getr C cf_5 hP sx_10 kx_10 2 (by decide) rfl tw_97 dX5_hear_24 ?_
      refine lv_iload hx hb dX5_hear_27 (lv_at hl 4 rfl) ?_
      refine lv_aload_n hx hb dX5_hear_29 rfl (lv_at hl 1 rfl) ?_
      refine lv_iload_n hx hb dX5_hear_30 rfl (lv_at hl 2 rfl) ?_
      refine lv_iload_n hx hb dX5_hear_31 rfl (lv_at hl 3 rfl) ?_
      refine lv_iload hx hb dX5_hear_32 (lv_at hl 4 rfl) ?_
      refine lv_iadd hx hb dX5_hear_34 ?_
      obtain ⟨q_1, hq_1, h⟩ := bd_inv h
      refine end_i (run_v (As := [.int x2, .int (x3 + x5)]) (rest := [.int x5, .ref (adG g 13)]) C ca_X4_item (ctX4_item x2 (x3 + x5) hq_1) cf_4 sx_1 kx_1 tw_942 ⟨Nat.le_of_ble_eq_true rfl, Nat.le_of_ble_eq_true rfl⟩ rfl hl.1 (Nat.le_of_ble_eq_true rfl) ⟨Nat.le_refl _, Nat.le_refl _⟩ hP hS dX5_hear_35) hS (fun H locs hP hS => ?_)
      obtain ⟨g_2, h⟩ := gd_inv h
      refine r_iast C hP hS sx_13 kx_13 rfl g_2 dX5_hear_38 (fun H locs σ_3 eσ_3 hP hS => ?_)
      replace h := un_at eσ_3 h
      obtain ⟨x_4, ex_4⟩ : ∃ y : Int32, y = x5 + (1 : Int32) := ⟨_, rfl⟩
      replace h := un_at ex_4 h
      refine lv_iinc (v := x_4) (lv' := [(5, .int x_4), (0, .ref (adG g 10)), (1, .ref (adG g 1)), (2, .int x2), (3, .int x3)]) hx hb dX5_hear_39 hl (k := 4) rfl (by rw [ex_4]; rfl) (by decide) rfl (fun ls hl => ?_)
      refine lv_goto (tgt := 14) hx hb dX5_hear_42 (by decide) ?_
      exact ih σ_3 x2 x3 x_4 H locs ls h hP hS (lv_sub hl [1, 2, 3, 4, 0] rfl)

set_option maxRecDepth 100000 in
set_option maxHeartbeats 4000000 in
theorem ctX5_hear {l : Launch} {g : Gw} {σ : Sto} (x2 : Int32) (x3 : Int32) (x4 : Int32) {Rz : Sto} (h : fX5_hear σ x2 x3 x4 = some Rz) : MtG l yX5_hear cX5_hear 6 none 2 wkX g [.ref (adG g 10), .ref (adG g 1), .int x2, .int x3, .int x4] σ (QvS wkX g Rz) := by
  refine mt_of (by decide) (Nat.le_of_ble_eq_true rfl) (fun p e s m below meth c ls H locs C hP hS hl => ?_)
  have C : Cx wkX g p s m _ meth c cX5_hear 6 RX5 none := C
  have hl : lv_has ls 6 [(0, .ref (adG g 10)), (1, .ref (adG g 1)), (2, .int x2), (3, .int x3), (4, .int x4)] := hl
  obtain ⟨hx, hb, hml, hown, hts, hr, hlk, hK, hZ⟩ := id C
  unfold fX5_hear at h
  refine lv_aload_n hx hb dX5_hear_0 rfl (lv_at hl 0 rfl) ?_
  refine lv_iload hx hb dX5_hear_1 (lv_at hl 4 rfl) ?_
  refine lv_bipush (v := 12) hx hb dX5_hear_3 (by decide) ?_
  refine r_min C hl.1 tw_941 tw_460 tw_105 tw_461 ⟨Nat.le_of_ble_eq_true rfl, Nat.le_of_ble_eq_true rfl⟩ (Nat.le_refl _) (Nat.le_refl _) dX5_hear_5 ?_
  refine r_puti C cf_5 hP hS sx_10 kx_10 3 (by decide) rfl rfl rfl tw_98 dX5_hear_8 (fun H locs σ_1 eσ_1 hP hS => ?_)
  replace h := un_at eσ_1 h
  refine lv_iconst (v := 0) hx hb dX5_hear_11 (by decide) ?_
  refine lv_istore (lv' := [(5, .int (0 : Int32)), (0, .ref (adG g 10)), (1, .ref (adG g 1)), (2, .int x2), (3, .int x3), (4, .int x4)]) hx hb dX5_hear_12 hl (by decide) rfl (fun ls hl => ?_)
  exact wfX5_hear_L14 C fu σ_1 x2 x3 (0 : Int32) H locs ls h hP hS (lv_sub hl [1, 2, 3, 4, 0] rfl)

set_option maxRecDepth 100000 in
set_option maxHeartbeats 4000000 in
theorem wfX5_goesAsHeard_L5 {l : Launch} {g : Gw} {p : Program} {e : Env} {s : State} {m : MethodId} {args : Array Value} {below : List Frame} {meth : Method} {c : Code} {σ : Sto} (C : Cx wkX g p s m args meth c cX5_goesAsHeard 5 RX5 (some .boolean)) {Rz : Int32} : ∀ (n : Nat) (x1 : Int32) (x3 : Int32) (x4 : Int32) (H : Heap) (locs : List Loc) (ls : Array Slot), fX5_goesAsHeard_L5 σ n x1 x3 x4 = some Rz → wS wkX g σ H → va_S (AS wkX g) s.heap H locs → lv_has ls 5 [(0, .ref (adG g 10)), (1, .int x1), (3, .int x3), (4, .int x4)] → W p l e (rmS 3) s m args below meth c H locs 0 0 (MQ below (QiS wkX g σ Rz) args s 0 0 (AS wkX g)) (F0 m 5 ls []) := by
  intro n
  induction n with
  | zero =>
    intro x1 x3 x4 H locs ls h
    cases h
  | succ n ih =>
    intro x1 x3 x4 H locs ls h hP hS hl
    obtain ⟨hx, hb, hml, hown, hts, hr, hlk, hK, hZ⟩ := id C
    rw [fX5_goesAsHeard_L5] at h
    refine lv_iload hx hb dX5_goesAsHeard_5 (lv_at hl 3 rfl) ?_
    refine lv_aload_n hx hb dX5_goesAsHeard_7 rfl (lv_at hl 0 rfl) ?_
    refine r_geti C cf_5 hP sx_10 kx_10 3 (by decide) rfl tw_98 dX5_goesAsHeard_8 ?_
    refine lv_icmp_ge (tgt := 49) hx hb dX5_goesAsHeard_11 (by decide) (fun c_ => ?_) (fun c_ => ?_)
    · replace h := if_t c_ h
      refine lv_iconst (v := 1) hx hb dX5_goesAsHeard_49 (by decide) ?_
      exact r_retz C hP hS rfl (rt_o h) rfl dX5_goesAsHeard_50
    · replace h := if_f c_ h
      refine lv_aload_n hx hb dX5_goesAsHeard_14 rfl (lv_at hl 0 rfl) ?_
      refine r_getr C cf_5 hP sx_10 kx_10 1 (by decide) rfl tw_96 dX5_goesAsHeard_15 ?_
      refine lv_aload_n hx hb dX5_goesAsHeard_18 rfl (lv_at hl 0 rfl) ?_
      refine r_getr C cf_5 hP sx_10 kx_10 0 (by decide) rfl tw_92 dX5_goesAsHeard_19 ?_
      refine lv_iload_n hx hb dX5_goesAsHeard_22 rfl (lv_at hl 1 rfl) ?_
      refine lv_iload_n hx hb dX5_goesAsHeard_23 rfl (lv_at hl 2 rfl) ?_
      refine lv_iload hx hb dX5_goesAsHeard_24 (lv_at hl 3 rfl) ?_
      obtain ⟨q_1, hq_1, h⟩ := bd_inv h
      refine end_i (run_v (As := [.ref (adG g 260), .int x1, .int x3, .int x4]) (rest := []) C ca_X2_placeAfter (ctX2_placeAfter 11 if_11 260 iv_260 x1 x3 x4 hq_1) cf_2 (sf_0 if_11) (kf_0 if_11) tw_713 ⟨Nat.le_of_ble_eq_true rfl, Nat.le_of_ble_eq_true rfl⟩ rfl hl.1 (Nat.le_of_ble_eq_true rfl) ⟨Nat.le_refl _, Nat.le_refl _⟩ hP hS dX5_goesAsHeard_26) hS (fun H locs hP hS => ?_)
      refine lv_istore_n (lv' := [(3, .int q_1), (0, .ref (adG g 10)), (1, .int x1), (4, .int x4)]) hx hb dX5_goesAsHeard_29 rfl hl (by decide) rfl (fun ls hl => ?_)
      refine lv_iload_n hx hb dX5_goesAsHeard_30 rfl (lv_at hl 0 rfl) ?_
      refine lv_aload_n hx hb dX5_goesAsHeard_31 rfl (lv_at hl 1 rfl) ?_
      refine r_getr C cf_5 hP sx_10 kx_10 2 (by decide) rfl tw_97 dX5_goesAsHeard_32 ?_
      refine lv_iload hx hb dX5_goesAsHeard_35 (lv_at hl 3 rfl) ?_
      obtain ⟨g_2, h⟩ := gd_inv h
      refine r_iald C hP sx_13 kx_13 rfl g_2 dX5_goesAsHeard_37 ?_
      refine lv_icmp_eq (tgt := 43) hx hb dX5_goesAsHeard_38 (by decide) (fun c_ => ?_) (fun c_ => ?_)
      · replace h := if_t c_ h
        obtain ⟨x_3, ex_3⟩ : ∃ y : Int32, y = x4 + (1 : Int32) := ⟨_, rfl⟩
        replace h := un_at ex_3 h
        refine lv_iinc (v := x_3) (lv' := [(4, .int x_3), (3, .int q_1), (0, .ref (adG g 10)), (1, .int x1)]) hx hb dX5_goesAsHeard_43 hl (k := 3) rfl (by rw [ex_3]; rfl) (by decide) rfl (fun ls hl => ?_)
        refine lv_goto (tgt := 5) hx hb dX5_goesAsHeard_46 (by decide) ?_
        exact ih x1 q_1 x_3 H locs ls h hP hS (lv_sub hl [2, 3, 1, 0] rfl)
      · replace h := if_f c_ h
        refine lv_iconst (v := 0) hx hb dX5_goesAsHeard_41 (by decide) ?_
        exact r_retz C hP hS rfl (rt_o h) rfl dX5_goesAsHeard_42

set_option maxRecDepth 100000 in
set_option maxHeartbeats 4000000 in
theorem ctX5_goesAsHeard {l : Launch} {g : Gw} {σ : Sto} (x1 : Int32) (x2 : Int32) {Rz : Int32} (h : fX5_goesAsHeard σ x1 x2 = some Rz) : MtG l yX5_goesAsHeard cX5_goesAsHeard 5 (some .boolean) 3 wkX g [.ref (adG g 10), .int x1, .int x2] σ (QiS wkX g σ Rz) := by
  refine mt_of (by decide) (Nat.le_of_ble_eq_true rfl) (fun p e s m below meth c ls H locs C hP hS hl => ?_)
  have C : Cx wkX g p s m _ meth c cX5_goesAsHeard 5 RX5 (some .boolean) := C
  have hl : lv_has ls 5 [(0, .ref (adG g 10)), (1, .int x1), (2, .int x2)] := hl
  obtain ⟨hx, hb, hml, hown, hts, hr, hlk, hK, hZ⟩ := id C
  unfold fX5_goesAsHeard at h
  refine lv_iload_n hx hb dX5_goesAsHeard_0 rfl (lv_at hl 2 rfl) ?_
  refine lv_istore_n (lv' := [(3, .int x2), (0, .ref (adG g 10)), (1, .int x1), (2, .int x2)]) hx hb dX5_goesAsHeard_1 rfl hl (by decide) rfl (fun ls hl => ?_)
  refine lv_iconst (v := 0) hx hb dX5_goesAsHeard_2 (by decide) ?_
  refine lv_istore (lv' := [(4, .int (0 : Int32)), (3, .int x2), (0, .ref (adG g 10)), (1, .int x1), (2, .int x2)]) hx hb dX5_goesAsHeard_3 hl (by decide) rfl (fun ls hl => ?_)
  exact wfX5_goesAsHeard_L5 C fu x1 x2 (0 : Int32) H locs ls h hP hS (lv_sub hl [2, 3, 1, 0] rfl)

set_option maxRecDepth 100000 in
set_option maxHeartbeats 4000000 in
theorem wfX5_kindsThatFit_L28 {l : Launch} {g : Gw} {p : Program} {e : Env} {s : State} {m : MethodId} {args : Array Value} {below : List Frame} {meth : Method} {c : Code} (C : Cx wkX g p s m args meth c cX5_kindsThatFit 5 RX5 (some .int)) (v1 : Nat) (hv1 : isV v1) {Rz : (Sto × Int32)} : ∀ (n : Nat) (σ : Sto) (x2 : Int32) (x3 : Int32) (x4 : Int32) (H : Heap) (locs : List Loc) (ls : Array Slot), fX5_kindsThatFit_L28 v1 n σ x2 x3 x4 = some Rz → wS wkX g σ H → va_S (AS wkX g) s.heap H locs → lv_has ls 5 [(0, .ref (adG g 10)), (1, .ref (adG g v1)), (2, .int x2), (3, .int x3), (4, .int x4)] → W p l e (rmS 4) s m args below meth c H locs 0 0 (MQ below (QiS wkX g Rz.1 Rz.2) args s 0 0 (AS wkX g)) (F0 m 28 ls []) := by
  intro n
  induction n with
  | zero =>
    intro σ x2 x3 x4 H locs ls h
    cases h
  | succ n ih =>
    intro σ x2 x3 x4 H locs ls h hP hS hl
    obtain ⟨hx, hb, hml, hown, hts, hr, hlk, hK, hZ⟩ := id C
    rw [fX5_kindsThatFit_L28] at h
    refine lv_iload hx hb dX5_kindsThatFit_28 (lv_at hl 4 rfl) ?_
    refine lv_iconst (v := 5) hx hb dX5_kindsThatFit_30 (by decide) ?_
    refine lv_icmp_gt (tgt := 76) hx hb dX5_kindsThatFit_31 (by decide) (fun c_ => ?_) (fun c_ => ?_)
    · replace h := if_t c_ h
      refine lv_iload_n hx hb dX5_kindsThatFit_76 rfl (lv_at hl 3 rfl) ?_
      exact r_reti C hP hS (rt_ow1 h) (rt_ow2 h) dX5_kindsThatFit_77
    · replace h := if_f c_ h
      refine lv_aload_n hx hb dX5_kindsThatFit_34 rfl (lv_at hl 0 rfl) ?_
      refine r_getr C cf_5 hP sx_10 kx_10 0 (by decide) rfl tw_92 dX5_kindsThatFit_35 ?_
      refine r_getr C cf_8 hP (sv_0 iv_260) (kv_0 iv_260) 8 (by decide) rfl tw_950 dX5_kindsThatFit_38 ?_
      refine lv_iload_n hx hb dX5_kindsThatFit_41 rfl (lv_at hl 2 rfl) ?_
      refine lv_iload hx hb dX5_kindsThatFit_42 (lv_at hl 4 rfl) ?_
      obtain ⟨g_1, h⟩ := gd_inv h
      refine r_iast C hP hS (sv_4 iv_260) (kv_4 iv_260) rfl g_1 dX5_kindsThatFit_44 (fun H locs σ_2 eσ_2 hP hS => ?_)
      replace h := un_at eσ_2 h
      refine lv_iload_n hx hb dX5_kindsThatFit_45 rfl (lv_at hl 3 rfl) ?_
      refine lv_aload_n hx hb dX5_kindsThatFit_46 rfl (lv_at hl 0 rfl) ?_
      refine lv_iload_n hx hb dX5_kindsThatFit_47 rfl (lv_at hl 2 rfl) ?_
      refine lv_aload_n hx hb dX5_kindsThatFit_48 rfl (lv_at hl 1 rfl) ?_
      refine r_getr C cf_8 hP (sv_0 hv1) (kv_0 hv1) 10 (by decide) rfl tw_625 dX5_kindsThatFit_49 ?_
      refine lv_iload_n hx hb dX5_kindsThatFit_52 rfl (lv_at hl 2 rfl) ?_
      refine r_iald C hP (sv_6 hv1) (kv_6 hv1) rfl g_1 dX5_kindsThatFit_53 ?_
      obtain ⟨q_3, hq_3, h⟩ := bd_inv h
      refine end_i (run_v (As := [.int x2, .int (σ_2 (v1 + 6) x2.toNatClampNeg)]) (rest := [.int x3]) C ca_X5_goesAsHeard (ctX5_goesAsHeard x2 (σ_2 (v1 + 6) x2.toNatClampNeg) hq_3) cf_5 sx_10 kx_10 tw_951 ⟨Nat.le_of_ble_eq_true rfl, Nat.le_of_ble_eq_true rfl⟩ rfl hl.1 (Nat.le_of_ble_eq_true rfl) ⟨Nat.le_refl _, Nat.le_refl _⟩ hP hS dX5_kindsThatFit_54) hS (fun H locs hP hS => ?_)
      refine lv_if_eq (tgt := 67) hx hb dX5_kindsThatFit_57 (by decide) (fun c_ => ?_) (fun c_ => ?_)
      · replace h := if_t c_ h
        refine lv_iconst (v := 0) hx hb dX5_kindsThatFit_67 (by decide) ?_
        refine lv_ior hx hb dX5_kindsThatFit_68 ?_
        refine lv_topi (fun x_4 ex_4 => ?_)
        replace h := un_at ex_4 h
        refine lv_istore_n (lv' := [(3, .int x_4), (0, .ref (adG g 10)), (1, .ref (adG g v1)), (2, .int x2), (4, .int x4)]) hx hb dX5_kindsThatFit_69 rfl hl (by decide) rfl (fun ls hl => ?_)
        obtain ⟨x_5, ex_5⟩ : ∃ y : Int32, y = x4 + (1 : Int32) := ⟨_, rfl⟩
        replace h := un_at ex_5 h
        refine lv_iinc (v := x_5) (lv' := [(4, .int x_5), (3, .int x_4), (0, .ref (adG g 10)), (1, .ref (adG g v1)), (2, .int x2)]) hx hb dX5_kindsThatFit_70 hl (k := 4) rfl (by rw [ex_5]; rfl) (by decide) rfl (fun ls hl => ?_)
        refine lv_goto (tgt := 28) hx hb dX5_kindsThatFit_73 (by decide) ?_
        exact ih σ_2 x2 x_4 x_5 H locs ls h hP hS (lv_sub hl [2, 3, 4, 1, 0] rfl)
      · replace h := if_f c_ h
        refine lv_iconst (v := 1) hx hb dX5_kindsThatFit_60 (by decide) ?_
        refine lv_iload hx hb dX5_kindsThatFit_61 (lv_at hl 4 rfl) ?_
        refine lv_ishl hx hb dX5_kindsThatFit_63 ?_
        refine lv_goto (tgt := 68) hx hb dX5_kindsThatFit_64 (by decide) ?_
        refine lv_ior hx hb dX5_kindsThatFit_68 ?_
        refine lv_topi (fun x_6 ex_6 => ?_)
        replace h := un_at ex_6 h
        refine lv_istore_n (lv' := [(3, .int x_6), (0, .ref (adG g 10)), (1, .ref (adG g v1)), (2, .int x2), (4, .int x4)]) hx hb dX5_kindsThatFit_69 rfl hl (by decide) rfl (fun ls hl => ?_)
        obtain ⟨x_7, ex_7⟩ : ∃ y : Int32, y = x4 + (1 : Int32) := ⟨_, rfl⟩
        replace h := un_at ex_7 h
        refine lv_iinc (v := x_7) (lv' := [(4, .int x_7), (3, .int x_6), (0, .ref (adG g 10)), (1, .ref (adG g v1)), (2, .int x2)]) hx hb dX5_kindsThatFit_70 hl (k := 4) rfl (by rw [ex_7]; rfl) (by decide) rfl (fun ls hl => ?_)
        refine lv_goto (tgt := 28) hx hb dX5_kindsThatFit_73 (by decide) ?_
        exact ih σ_2 x2 x_6 x_7 H locs ls h hP hS (lv_sub hl [2, 3, 4, 1, 0] rfl)

set_option maxRecDepth 100000 in
set_option maxHeartbeats 4000000 in
theorem ctX5_kindsThatFit {l : Launch} {g : Gw} {σ : Sto} (v1 : Nat) (hv1 : isV v1) (x2 : Int32) {Rz : (Sto × Int32)} (h : fX5_kindsThatFit σ v1 x2 = some Rz) : MtG l yX5_kindsThatFit cX5_kindsThatFit 5 (some .int) 4 wkX g [.ref (adG g 10), .ref (adG g v1), .int x2] σ (QiS wkX g Rz.1 Rz.2) := by
  refine mt_of (by decide) (Nat.le_of_ble_eq_true rfl) (fun p e s m below meth c ls H locs C hP hS hl => ?_)
  have C : Cx wkX g p s m _ meth c cX5_kindsThatFit 5 RX5 (some .int) := C
  have hl : lv_has ls 5 [(0, .ref (adG g 10)), (1, .ref (adG g v1)), (2, .int x2)] := hl
  obtain ⟨hx, hb, hml, hown, hts, hr, hlk, hK, hZ⟩ := id C
  unfold fX5_kindsThatFit at h
  refine lv_aload_n hx hb dX5_kindsThatFit_0 rfl (lv_at hl 0 rfl) ?_
  refine r_getr C cf_5 hP sx_10 kx_10 0 (by decide) rfl tw_92 dX5_kindsThatFit_1 ?_
  refine lv_aload_n hx hb dX5_kindsThatFit_4 rfl (lv_at hl 1 rfl) ?_
  obtain ⟨q_1, eq_1⟩ : ∃ z, z = fX8_become σ 260 v1 := ⟨_, rfl⟩
  replace h := un_at eq_1 h
  refine end_v (run_v (As := [.ref (adG g v1)]) (rest := []) C ca_X8_become (ctX8_become 260 iv_260 v1 hv1 eq_1.symm) cf_8 (sv_0 iv_260) (kv_0 iv_260) tw_681 ⟨Nat.le_of_ble_eq_true rfl, Nat.le_of_ble_eq_true rfl⟩ rfl hl.1 (Nat.le_of_ble_eq_true rfl) ⟨Nat.le_refl _, Nat.le_refl _⟩ hP hS dX5_kindsThatFit_5) hS (fun H locs hP hS => ?_)
  refine lv_aload_n hx hb dX5_kindsThatFit_8 rfl (lv_at hl 0 rfl) ?_
  refine r_getr C cf_5 hP sx_10 kx_10 1 (by decide) rfl tw_96 dX5_kindsThatFit_9 ?_
  refine lv_aload_n hx hb dX5_kindsThatFit_12 rfl (lv_at hl 0 rfl) ?_
  refine r_getr C cf_5 hP sx_10 kx_10 0 (by decide) rfl tw_92 dX5_kindsThatFit_13 ?_
  refine lv_aload_n hx hb dX5_kindsThatFit_16 rfl (lv_at hl 0 rfl) ?_
  refine r_geti C cf_5 hP sx_10 kx_10 3 (by decide) rfl tw_98 dX5_kindsThatFit_17 ?_
  obtain ⟨q_2, hq_2, h⟩ := bd_inv h
  refine end_v (run_v (As := [.ref (adG g 260), .int (q_1 10 3)]) (rest := []) C ca_X2_tell (ctX2_tell 11 if_11 260 iv_260 (q_1 10 3) hq_2) cf_2 (sf_0 if_11) (kf_0 if_11) tw_626 ⟨Nat.le_of_ble_eq_true rfl, Nat.le_of_ble_eq_true rfl⟩ rfl hl.1 (Nat.le_of_ble_eq_true rfl) ⟨Nat.le_refl _, Nat.le_refl _⟩ hP hS dX5_kindsThatFit_20) hS (fun H locs hP hS => ?_)
  refine lv_iconst (v := 0) hx hb dX5_kindsThatFit_23 (by decide) ?_
  refine lv_istore_n (lv' := [(3, .int (0 : Int32)), (0, .ref (adG g 10)), (1, .ref (adG g v1)), (2, .int x2)]) hx hb dX5_kindsThatFit_24 rfl hl (by decide) rfl (fun ls hl => ?_)
  refine lv_iconst (v := 1) hx hb dX5_kindsThatFit_25 (by decide) ?_
  refine lv_istore (lv' := [(4, .int (1 : Int32)), (3, .int (0 : Int32)), (0, .ref (adG g 10)), (1, .ref (adG g v1)), (2, .int x2)]) hx hb dX5_kindsThatFit_26 hl (by decide) rfl (fun ls hl => ?_)
  exact wfX5_kindsThatFit_L28 C v1 hv1 fu q_2 x2 (0 : Int32) (1 : Int32) H locs ls h hP hS (lv_sub hl [2, 3, 4, 1, 0] rfl)

set_option maxRecDepth 100000 in
set_option maxHeartbeats 4000000 in
theorem wfX5_highsThatFit_L28 {l : Launch} {g : Gw} {p : Program} {e : Env} {s : State} {m : MethodId} {args : Array Value} {below : List Frame} {meth : Method} {c : Code} (C : Cx wkX g p s m args meth c cX5_highsThatFit 5 RX5 (some .int)) (v1 : Nat) (hv1 : isV v1) {Rz : (Sto × Int32)} : ∀ (n : Nat) (σ : Sto) (x2 : Int32) (x3 : Int32) (x4 : Int32) (H : Heap) (locs : List Loc) (ls : Array Slot), fX5_highsThatFit_L28 v1 n σ x2 x3 x4 = some Rz → wS wkX g σ H → va_S (AS wkX g) s.heap H locs → lv_has ls 5 [(0, .ref (adG g 10)), (1, .ref (adG g v1)), (2, .int x2), (3, .int x3), (4, .int x4)] → W p l e (rmS 4) s m args below meth c H locs 0 0 (MQ below (QiS wkX g Rz.1 Rz.2) args s 0 0 (AS wkX g)) (F0 m 28 ls []) := by
  intro n
  induction n with
  | zero =>
    intro σ x2 x3 x4 H locs ls h
    cases h
  | succ n ih =>
    intro σ x2 x3 x4 H locs ls h hP hS hl
    obtain ⟨hx, hb, hml, hown, hts, hr, hlk, hK, hZ⟩ := id C
    rw [fX5_highsThatFit_L28] at h
    refine lv_iload hx hb dX5_highsThatFit_28 (lv_at hl 4 rfl) ?_
    refine lv_bipush (v := 9) hx hb dX5_highsThatFit_30 (by decide) ?_
    refine lv_icmp_gt (tgt := 77) hx hb dX5_highsThatFit_32 (by decide) (fun c_ => ?_) (fun c_ => ?_)
    · replace h := if_t c_ h
      refine lv_iload_n hx hb dX5_highsThatFit_77 rfl (lv_at hl 3 rfl) ?_
      exact r_reti C hP hS (rt_ow1 h) (rt_ow2 h) dX5_highsThatFit_78
    · replace h := if_f c_ h
      refine lv_aload_n hx hb dX5_highsThatFit_35 rfl (lv_at hl 0 rfl) ?_
      refine r_getr C cf_5 hP sx_10 kx_10 0 (by decide) rfl tw_92 dX5_highsThatFit_36 ?_
      refine r_getr C cf_8 hP (sv_0 iv_260) (kv_0 iv_260) 9 (by decide) rfl tw_855 dX5_highsThatFit_39 ?_
      refine lv_iload_n hx hb dX5_highsThatFit_42 rfl (lv_at hl 2 rfl) ?_
      refine lv_iload hx hb dX5_highsThatFit_43 (lv_at hl 4 rfl) ?_
      obtain ⟨g_1, h⟩ := gd_inv h
      refine r_iast C hP hS (sv_5 iv_260) (kv_5 iv_260) rfl g_1 dX5_highsThatFit_45 (fun H locs σ_2 eσ_2 hP hS => ?_)
      replace h := un_at eσ_2 h
      refine lv_iload_n hx hb dX5_highsThatFit_46 rfl (lv_at hl 3 rfl) ?_
      refine lv_aload_n hx hb dX5_highsThatFit_47 rfl (lv_at hl 0 rfl) ?_
      refine lv_iload_n hx hb dX5_highsThatFit_48 rfl (lv_at hl 2 rfl) ?_
      refine lv_aload_n hx hb dX5_highsThatFit_49 rfl (lv_at hl 1 rfl) ?_
      refine r_getr C cf_8 hP (sv_0 hv1) (kv_0 hv1) 10 (by decide) rfl tw_625 dX5_highsThatFit_50 ?_
      refine lv_iload_n hx hb dX5_highsThatFit_53 rfl (lv_at hl 2 rfl) ?_
      refine r_iald C hP (sv_6 hv1) (kv_6 hv1) rfl g_1 dX5_highsThatFit_54 ?_
      obtain ⟨q_3, hq_3, h⟩ := bd_inv h
      refine end_i (run_v (As := [.int x2, .int (σ_2 (v1 + 6) x2.toNatClampNeg)]) (rest := [.int x3]) C ca_X5_goesAsHeard (ctX5_goesAsHeard x2 (σ_2 (v1 + 6) x2.toNatClampNeg) hq_3) cf_5 sx_10 kx_10 tw_951 ⟨Nat.le_of_ble_eq_true rfl, Nat.le_of_ble_eq_true rfl⟩ rfl hl.1 (Nat.le_of_ble_eq_true rfl) ⟨Nat.le_refl _, Nat.le_refl _⟩ hP hS dX5_highsThatFit_55) hS (fun H locs hP hS => ?_)
      refine lv_if_eq (tgt := 68) hx hb dX5_highsThatFit_58 (by decide) (fun c_ => ?_) (fun c_ => ?_)
      · replace h := if_t c_ h
        refine lv_iconst (v := 0) hx hb dX5_highsThatFit_68 (by decide) ?_
        refine lv_ior hx hb dX5_highsThatFit_69 ?_
        refine lv_topi (fun x_4 ex_4 => ?_)
        replace h := un_at ex_4 h
        refine lv_istore_n (lv' := [(3, .int x_4), (0, .ref (adG g 10)), (1, .ref (adG g v1)), (2, .int x2), (4, .int x4)]) hx hb dX5_highsThatFit_70 rfl hl (by decide) rfl (fun ls hl => ?_)
        obtain ⟨x_5, ex_5⟩ : ∃ y : Int32, y = x4 + (1 : Int32) := ⟨_, rfl⟩
        replace h := un_at ex_5 h
        refine lv_iinc (v := x_5) (lv' := [(4, .int x_5), (3, .int x_4), (0, .ref (adG g 10)), (1, .ref (adG g v1)), (2, .int x2)]) hx hb dX5_highsThatFit_71 hl (k := 4) rfl (by rw [ex_5]; rfl) (by decide) rfl (fun ls hl => ?_)
        refine lv_goto (tgt := 28) hx hb dX5_highsThatFit_74 (by decide) ?_
        exact ih σ_2 x2 x_4 x_5 H locs ls h hP hS (lv_sub hl [2, 3, 4, 1, 0] rfl)
      · replace h := if_f c_ h
        refine lv_iconst (v := 1) hx hb dX5_highsThatFit_61 (by decide) ?_
        refine lv_iload hx hb dX5_highsThatFit_62 (lv_at hl 4 rfl) ?_
        refine lv_ishl hx hb dX5_highsThatFit_64 ?_
        refine lv_goto (tgt := 69) hx hb dX5_highsThatFit_65 (by decide) ?_
        refine lv_ior hx hb dX5_highsThatFit_69 ?_
        refine lv_topi (fun x_6 ex_6 => ?_)
        replace h := un_at ex_6 h
        refine lv_istore_n (lv' := [(3, .int x_6), (0, .ref (adG g 10)), (1, .ref (adG g v1)), (2, .int x2), (4, .int x4)]) hx hb dX5_highsThatFit_70 rfl hl (by decide) rfl (fun ls hl => ?_)
        obtain ⟨x_7, ex_7⟩ : ∃ y : Int32, y = x4 + (1 : Int32) := ⟨_, rfl⟩
        replace h := un_at ex_7 h
        refine lv_iinc (v := x_7) (lv' := [(4, .int x_7), (3, .int x_6), (0, .ref (adG g 10)), (1, .ref (adG g v1)), (2, .int x2)]) hx hb dX5_highsThatFit_71 hl (k := 4) rfl (by rw [ex_7]; rfl) (by decide) rfl (fun ls hl => ?_)
        refine lv_goto (tgt := 28) hx hb dX5_highsThatFit_74 (by decide) ?_
        exact ih σ_2 x2 x_6 x_7 H locs ls h hP hS (lv_sub hl [2, 3, 4, 1, 0] rfl)

set_option maxRecDepth 100000 in
set_option maxHeartbeats 4000000 in
theorem ctX5_highsThatFit {l : Launch} {g : Gw} {σ : Sto} (v1 : Nat) (hv1 : isV v1) (x2 : Int32) {Rz : (Sto × Int32)} (h : fX5_highsThatFit σ v1 x2 = some Rz) : MtG l yX5_highsThatFit cX5_highsThatFit 5 (some .int) 4 wkX g [.ref (adG g 10), .ref (adG g v1), .int x2] σ (QiS wkX g Rz.1 Rz.2) := by
  refine mt_of (by decide) (Nat.le_of_ble_eq_true rfl) (fun p e s m below meth c ls H locs C hP hS hl => ?_)
  have C : Cx wkX g p s m _ meth c cX5_highsThatFit 5 RX5 (some .int) := C
  have hl : lv_has ls 5 [(0, .ref (adG g 10)), (1, .ref (adG g v1)), (2, .int x2)] := hl
  obtain ⟨hx, hb, hml, hown, hts, hr, hlk, hK, hZ⟩ := id C
  unfold fX5_highsThatFit at h
  refine lv_aload_n hx hb dX5_highsThatFit_0 rfl (lv_at hl 0 rfl) ?_
  refine r_getr C cf_5 hP sx_10 kx_10 0 (by decide) rfl tw_92 dX5_highsThatFit_1 ?_
  refine lv_aload_n hx hb dX5_highsThatFit_4 rfl (lv_at hl 1 rfl) ?_
  obtain ⟨q_1, eq_1⟩ : ∃ z, z = fX8_become σ 260 v1 := ⟨_, rfl⟩
  replace h := un_at eq_1 h
  refine end_v (run_v (As := [.ref (adG g v1)]) (rest := []) C ca_X8_become (ctX8_become 260 iv_260 v1 hv1 eq_1.symm) cf_8 (sv_0 iv_260) (kv_0 iv_260) tw_681 ⟨Nat.le_of_ble_eq_true rfl, Nat.le_of_ble_eq_true rfl⟩ rfl hl.1 (Nat.le_of_ble_eq_true rfl) ⟨Nat.le_refl _, Nat.le_refl _⟩ hP hS dX5_highsThatFit_5) hS (fun H locs hP hS => ?_)
  refine lv_aload_n hx hb dX5_highsThatFit_8 rfl (lv_at hl 0 rfl) ?_
  refine r_getr C cf_5 hP sx_10 kx_10 1 (by decide) rfl tw_96 dX5_highsThatFit_9 ?_
  refine lv_aload_n hx hb dX5_highsThatFit_12 rfl (lv_at hl 0 rfl) ?_
  refine r_getr C cf_5 hP sx_10 kx_10 0 (by decide) rfl tw_92 dX5_highsThatFit_13 ?_
  refine lv_aload_n hx hb dX5_highsThatFit_16 rfl (lv_at hl 0 rfl) ?_
  refine r_geti C cf_5 hP sx_10 kx_10 3 (by decide) rfl tw_98 dX5_highsThatFit_17 ?_
  obtain ⟨q_2, hq_2, h⟩ := bd_inv h
  refine end_v (run_v (As := [.ref (adG g 260), .int (q_1 10 3)]) (rest := []) C ca_X2_tell (ctX2_tell 11 if_11 260 iv_260 (q_1 10 3) hq_2) cf_2 (sf_0 if_11) (kf_0 if_11) tw_626 ⟨Nat.le_of_ble_eq_true rfl, Nat.le_of_ble_eq_true rfl⟩ rfl hl.1 (Nat.le_of_ble_eq_true rfl) ⟨Nat.le_refl _, Nat.le_refl _⟩ hP hS dX5_highsThatFit_20) hS (fun H locs hP hS => ?_)
  refine lv_iconst (v := 0) hx hb dX5_highsThatFit_23 (by decide) ?_
  refine lv_istore_n (lv' := [(3, .int (0 : Int32)), (0, .ref (adG g 10)), (1, .ref (adG g v1)), (2, .int x2)]) hx hb dX5_highsThatFit_24 rfl hl (by decide) rfl (fun ls hl => ?_)
  refine lv_iconst (v := 1) hx hb dX5_highsThatFit_25 (by decide) ?_
  refine lv_istore (lv' := [(4, .int (1 : Int32)), (3, .int (0 : Int32)), (0, .ref (adG g 10)), (1, .ref (adG g v1)), (2, .int x2)]) hx hb dX5_highsThatFit_26 hl (by decide) rfl (fun ls hl => ?_)
  exact wfX5_highsThatFit_L28 C v1 hv1 fu q_2 x2 (0 : Int32) (1 : Int32) H locs ls h hP hS (lv_sub hl [2, 3, 4, 1, 0] rfl)

set_option maxRecDepth 100000 in
set_option maxHeartbeats 4000000 in
theorem wfX5_roomsThatFit_L28 {l : Launch} {g : Gw} {p : Program} {e : Env} {s : State} {m : MethodId} {args : Array Value} {below : List Frame} {meth : Method} {c : Code} (C : Cx wkX g p s m args meth c cX5_roomsThatFit 5 RX5 (some .int)) (v1 : Nat) (hv1 : isV v1) {Rz : (Sto × Int32)} : ∀ (n : Nat) (σ : Sto) (x2 : Int32) (x3 : Int32) (x4 : Int32) (H : Heap) (locs : List Loc) (ls : Array Slot), fX5_roomsThatFit_L28 v1 n σ x2 x3 x4 = some Rz → wS wkX g σ H → va_S (AS wkX g) s.heap H locs → lv_has ls 5 [(0, .ref (adG g 10)), (1, .ref (adG g v1)), (2, .int x2), (3, .int x3), (4, .int x4)] → W p l e (rmS 4) s m args below meth c H locs 0 0 (MQ below (QiS wkX g Rz.1 Rz.2) args s 0 0 (AS wkX g)) (F0 m 28 ls []) := by
  intro n
  induction n with
  | zero =>
    intro σ x2 x3 x4 H locs ls h
    cases h
  | succ n ih =>
    intro σ x2 x3 x4 H locs ls h hP hS hl
    obtain ⟨hx, hb, hml, hown, hts, hr, hlk, hK, hZ⟩ := id C
    rw [fX5_roomsThatFit_L28] at h
    refine lv_iload hx hb dX5_roomsThatFit_28 (lv_at hl 4 rfl) ?_
    refine lv_aload_n hx hb dX5_roomsThatFit_30 rfl (lv_at hl 1 rfl) ?_
    refine r_geti C cf_8 hP (sv_0 hv1) (kv_0 hv1) 0 (by decide) rfl tw_731 dX5_roomsThatFit_31 ?_
    refine lv_icmp_ge (tgt := 64) hx hb dX5_roomsThatFit_34 (by decide) (fun c_ => ?_) (fun c_ => ?_)
    · replace h := if_t c_ h
      refine lv_iload_n hx hb dX5_roomsThatFit_64 rfl (lv_at hl 3 rfl) ?_
      exact r_reti C hP hS (rt_ow1 h) (rt_ow2 h) dX5_roomsThatFit_65
    · replace h := if_f c_ h
      refine lv_iload_n hx hb dX5_roomsThatFit_37 rfl (lv_at hl 3 rfl) ?_
      refine lv_aload_n hx hb dX5_roomsThatFit_38 rfl (lv_at hl 0 rfl) ?_
      refine lv_iload_n hx hb dX5_roomsThatFit_39 rfl (lv_at hl 2 rfl) ?_
      refine lv_iload hx hb dX5_roomsThatFit_40 (lv_at hl 4 rfl) ?_
      obtain ⟨q_1, hq_1, h⟩ := bd_inv h
      refine end_i (run_v (As := [.int x2, .int x4]) (rest := [.int x3]) C ca_X5_goesAsHeard (ctX5_goesAsHeard x2 x4 hq_1) cf_5 sx_10 kx_10 tw_951 ⟨Nat.le_of_ble_eq_true rfl, Nat.le_of_ble_eq_true rfl⟩ rfl hl.1 (Nat.le_of_ble_eq_true rfl) ⟨Nat.le_refl _, Nat.le_refl _⟩ hP hS dX5_roomsThatFit_42) hS (fun H locs hP hS => ?_)
      refine lv_if_eq (tgt := 55) hx hb dX5_roomsThatFit_45 (by decide) (fun c_ => ?_) (fun c_ => ?_)
      · replace h := if_t c_ h
        refine lv_iconst (v := 0) hx hb dX5_roomsThatFit_55 (by decide) ?_
        refine lv_ior hx hb dX5_roomsThatFit_56 ?_
        refine lv_topi (fun x_2 ex_2 => ?_)
        replace h := un_at ex_2 h
        refine lv_istore_n (lv' := [(3, .int x_2), (0, .ref (adG g 10)), (1, .ref (adG g v1)), (2, .int x2), (4, .int x4)]) hx hb dX5_roomsThatFit_57 rfl hl (by decide) rfl (fun ls hl => ?_)
        obtain ⟨x_3, ex_3⟩ : ∃ y : Int32, y = x4 + (1 : Int32) := ⟨_, rfl⟩
        replace h := un_at ex_3 h
        refine lv_iinc (v := x_3) (lv' := [(4, .int x_3), (3, .int x_2), (0, .ref (adG g 10)), (1, .ref (adG g v1)), (2, .int x2)]) hx hb dX5_roomsThatFit_58 hl (k := 4) rfl (by rw [ex_3]; rfl) (by decide) rfl (fun ls hl => ?_)
        refine lv_goto (tgt := 28) hx hb dX5_roomsThatFit_61 (by decide) ?_
        exact ih σ x2 x_2 x_3 H locs ls h hP hS (lv_sub hl [2, 3, 4, 1, 0] rfl)
      · replace h := if_f c_ h
        refine lv_iconst (v := 1) hx hb dX5_roomsThatFit_48 (by decide) ?_
        refine lv_iload hx hb dX5_roomsThatFit_49 (lv_at hl 4 rfl) ?_
        refine lv_ishl hx hb dX5_roomsThatFit_51 ?_
        refine lv_goto (tgt := 56) hx hb dX5_roomsThatFit_52 (by decide) ?_
        refine lv_ior hx hb dX5_roomsThatFit_56 ?_
        refine lv_topi (fun x_4 ex_4 => ?_)
        replace h := un_at ex_4 h
        refine lv_istore_n (lv' := [(3, .int x_4), (0, .ref (adG g 10)), (1, .ref (adG g v1)), (2, .int x2), (4, .int x4)]) hx hb dX5_roomsThatFit_57 rfl hl (by decide) rfl (fun ls hl => ?_)
        obtain ⟨x_5, ex_5⟩ : ∃ y : Int32, y = x4 + (1 : Int32) := ⟨_, rfl⟩
        replace h := un_at ex_5 h
        refine lv_iinc (v := x_5) (lv' := [(4, .int x_5), (3, .int x_4), (0, .ref (adG g 10)), (1, .ref (adG g v1)), (2, .int x2)]) hx hb dX5_roomsThatFit_58 hl (k := 4) rfl (by rw [ex_5]; rfl) (by decide) rfl (fun ls hl => ?_)
        refine lv_goto (tgt := 28) hx hb dX5_roomsThatFit_61 (by decide) ?_
        exact ih σ x2 x_4 x_5 H locs ls h hP hS (lv_sub hl [2, 3, 4, 1, 0] rfl)

set_option maxRecDepth 100000 in
set_option maxHeartbeats 4000000 in
theorem ctX5_roomsThatFit {l : Launch} {g : Gw} {σ : Sto} (v1 : Nat) (hv1 : isV v1) (x2 : Int32) {Rz : (Sto × Int32)} (h : fX5_roomsThatFit σ v1 x2 = some Rz) : MtG l yX5_roomsThatFit cX5_roomsThatFit 5 (some .int) 4 wkX g [.ref (adG g 10), .ref (adG g v1), .int x2] σ (QiS wkX g Rz.1 Rz.2) := by
  refine mt_of (by decide) (Nat.le_of_ble_eq_true rfl) (fun p e s m below meth c ls H locs C hP hS hl => ?_)
  have C : Cx wkX g p s m _ meth c cX5_roomsThatFit 5 RX5 (some .int) := C
  have hl : lv_has ls 5 [(0, .ref (adG g 10)), (1, .ref (adG g v1)), (2, .int x2)] := hl
  obtain ⟨hx, hb, hml, hown, hts, hr, hlk, hK, hZ⟩ := id C
  unfold fX5_roomsThatFit at h
  refine lv_aload_n hx hb dX5_roomsThatFit_0 rfl (lv_at hl 0 rfl) ?_
  refine r_getr C cf_5 hP sx_10 kx_10 0 (by decide) rfl tw_92 dX5_roomsThatFit_1 ?_
  refine lv_aload_n hx hb dX5_roomsThatFit_4 rfl (lv_at hl 1 rfl) ?_
  obtain ⟨q_1, eq_1⟩ : ∃ z, z = fX8_become σ 260 v1 := ⟨_, rfl⟩
  replace h := un_at eq_1 h
  refine end_v (run_v (As := [.ref (adG g v1)]) (rest := []) C ca_X8_become (ctX8_become 260 iv_260 v1 hv1 eq_1.symm) cf_8 (sv_0 iv_260) (kv_0 iv_260) tw_681 ⟨Nat.le_of_ble_eq_true rfl, Nat.le_of_ble_eq_true rfl⟩ rfl hl.1 (Nat.le_of_ble_eq_true rfl) ⟨Nat.le_refl _, Nat.le_refl _⟩ hP hS dX5_roomsThatFit_5) hS (fun H locs hP hS => ?_)
  refine lv_aload_n hx hb dX5_roomsThatFit_8 rfl (lv_at hl 0 rfl) ?_
  refine r_getr C cf_5 hP sx_10 kx_10 1 (by decide) rfl tw_96 dX5_roomsThatFit_9 ?_
  refine lv_aload_n hx hb dX5_roomsThatFit_12 rfl (lv_at hl 0 rfl) ?_
  refine r_getr C cf_5 hP sx_10 kx_10 0 (by decide) rfl tw_92 dX5_roomsThatFit_13 ?_
  refine lv_aload_n hx hb dX5_roomsThatFit_16 rfl (lv_at hl 0 rfl) ?_
  refine r_geti C cf_5 hP sx_10 kx_10 3 (by decide) rfl tw_98 dX5_roomsThatFit_17 ?_
  obtain ⟨q_2, hq_2, h⟩ := bd_inv h
  refine end_v (run_v (As := [.ref (adG g 260), .int (q_1 10 3)]) (rest := []) C ca_X2_tell (ctX2_tell 11 if_11 260 iv_260 (q_1 10 3) hq_2) cf_2 (sf_0 if_11) (kf_0 if_11) tw_626 ⟨Nat.le_of_ble_eq_true rfl, Nat.le_of_ble_eq_true rfl⟩ rfl hl.1 (Nat.le_of_ble_eq_true rfl) ⟨Nat.le_refl _, Nat.le_refl _⟩ hP hS dX5_roomsThatFit_20) hS (fun H locs hP hS => ?_)
  refine lv_iconst (v := 0) hx hb dX5_roomsThatFit_23 (by decide) ?_
  refine lv_istore_n (lv' := [(3, .int (0 : Int32)), (0, .ref (adG g 10)), (1, .ref (adG g v1)), (2, .int x2)]) hx hb dX5_roomsThatFit_24 rfl hl (by decide) rfl (fun ls hl => ?_)
  refine lv_iconst (v := 0) hx hb dX5_roomsThatFit_25 (by decide) ?_
  refine lv_istore (lv' := [(4, .int (0 : Int32)), (3, .int (0 : Int32)), (0, .ref (adG g 10)), (1, .ref (adG g v1)), (2, .int x2)]) hx hb dX5_roomsThatFit_26 hl (by decide) rfl (fun ls hl => ?_)
  exact wfX5_roomsThatFit_L28 C v1 hv1 fu q_2 x2 (0 : Int32) (0 : Int32) H locs ls h hP hS (lv_sub hl [2, 3, 4, 1, 0] rfl)

set_option maxRecDepth 100000 in
set_option maxHeartbeats 4000000 in
theorem wfX5_liesAsHeard_L17 {l : Launch} {g : Gw} {p : Program} {e : Env} {s : State} {m : MethodId} {args : Array Value} {below : List Frame} {meth : Method} {c : Code} (C : Cx wkX g p s m args meth c cX5_liesAsHeard 3 RX5 (some .boolean)) {Rz : (Sto × Int32)} : ∀ (n : Nat) (σ : Sto) (x1 : Int32) (x2 : Int32) (H : Heap) (locs : List Loc) (ls : Array Slot), fX5_liesAsHeard_L17 n σ x1 x2 = some Rz → wS wkX g σ H → va_S (AS wkX g) s.heap H locs → lv_has ls 3 [(0, .ref (adG g 10)), (1, .int x1), (2, .int x2)] → W p l e (rmS 4) s m args below meth c H locs 0 0 (MQ below (QiS wkX g Rz.1 Rz.2) args s 0 0 (AS wkX g)) (F0 m 17 ls []) := by
  intro n
  induction n with
  | zero =>
    intro σ x1 x2 H locs ls h
    cases h
  | succ n ih =>
    intro σ x1 x2 H locs ls h hP hS hl
    obtain ⟨hx, hb, hml, hown, hts, hr, hlk, hK, hZ⟩ := id C
    rw [fX5_liesAsHeard_L17] at h
    refine lv_iload_n hx hb dX5_liesAsHeard_17 rfl (lv_at hl 2 rfl) ?_
    refine lv_aload_n hx hb dX5_liesAsHeard_18 rfl (lv_at hl 0 rfl) ?_
    refine r_geti C cf_5 hP sx_10 kx_10 3 (by decide) rfl tw_98 dX5_liesAsHeard_19 ?_
    refine lv_icmp_ge (tgt := 53) hx hb dX5_liesAsHeard_22 (by decide) (fun c_ => ?_) (fun c_ => ?_)
    · replace h := if_t c_ h
      refine lv_iconst (v := 1) hx hb dX5_liesAsHeard_53 (by decide) ?_
      exact r_retz C hP hS (rt_ow1 h) (rt_ow2 h) rfl dX5_liesAsHeard_54
    · replace h := if_f c_ h
      refine lv_aload_n hx hb dX5_liesAsHeard_25 rfl (lv_at hl 0 rfl) ?_
      refine r_getr C cf_5 hP sx_10 kx_10 1 (by decide) rfl tw_96 dX5_liesAsHeard_26 ?_
      refine lv_iload_n hx hb dX5_liesAsHeard_29 rfl (lv_at hl 1 rfl) ?_
      refine lv_iload_n hx hb dX5_liesAsHeard_30 rfl (lv_at hl 2 rfl) ?_
      refine lv_iconst (v := 1) hx hb dX5_liesAsHeard_31 (by decide) ?_
      refine lv_iadd hx hb dX5_liesAsHeard_32 ?_
      obtain ⟨q_1, hq_1, h⟩ := bd_inv h
      refine end_i (run_v (As := [.int x1, .int (x2 + (1 : Int32))]) (rest := []) C ca_X2_lavaIn (ctX2_lavaIn 11 if_11 x1 (x2 + (1 : Int32)) hq_1) cf_2 (sf_0 if_11) (kf_0 if_11) tw_665 ⟨Nat.le_of_ble_eq_true rfl, Nat.le_of_ble_eq_true rfl⟩ rfl hl.1 (Nat.le_of_ble_eq_true rfl) ⟨Nat.le_refl _, Nat.le_refl _⟩ hP hS dX5_liesAsHeard_33) hS (fun H locs hP hS => ?_)
      refine lv_aload_n hx hb dX5_liesAsHeard_36 rfl (lv_at hl 0 rfl) ?_
      refine r_getr C cf_5 hP sx_10 kx_10 2 (by decide) rfl tw_97 dX5_liesAsHeard_37 ?_
      refine lv_iload_n hx hb dX5_liesAsHeard_40 rfl (lv_at hl 2 rfl) ?_
      obtain ⟨g_2, h⟩ := gd_inv h
      refine r_iald C hP sx_13 kx_13 rfl g_2 dX5_liesAsHeard_41 ?_
      refine lv_icmp_eq (tgt := 47) hx hb dX5_liesAsHeard_42 (by decide) (fun c_ => ?_) (fun c_ => ?_)
      · replace h := if_t c_ h
        obtain ⟨x_3, ex_3⟩ : ∃ y : Int32, y = x2 + (1 : Int32) := ⟨_, rfl⟩
        replace h := un_at ex_3 h
        refine lv_iinc (v := x_3) (lv' := [(2, .int x_3), (0, .ref (adG g 10)), (1, .int x1)]) hx hb dX5_liesAsHeard_47 hl (k := 2) rfl (by rw [ex_3]; rfl) (by decide) rfl (fun ls hl => ?_)
        refine lv_goto (tgt := 17) hx hb dX5_liesAsHeard_50 (by decide) ?_
        exact ih σ x1 x_3 H locs ls h hP hS (lv_sub hl [1, 2, 0] rfl)
      · replace h := if_f c_ h
        refine lv_iconst (v := 0) hx hb dX5_liesAsHeard_45 (by decide) ?_
        exact r_retz C hP hS (rt_ow1 h) (rt_ow2 h) rfl dX5_liesAsHeard_46

set_option maxRecDepth 100000 in
set_option maxHeartbeats 4000000 in
theorem ctX5_liesAsHeard {l : Launch} {g : Gw} {σ : Sto} (x1 : Int32) {Rz : (Sto × Int32)} (h : fX5_liesAsHeard σ x1 = some Rz) : MtG l yX5_liesAsHeard cX5_liesAsHeard 3 (some .boolean) 4 wkX g [.ref (adG g 10), .int x1] σ (QiS wkX g Rz.1 Rz.2) := by
  refine mt_of (by decide) (Nat.le_of_ble_eq_true rfl) (fun p e s m below meth c ls H locs C hP hS hl => ?_)
  have C : Cx wkX g p s m _ meth c cX5_liesAsHeard 3 RX5 (some .boolean) := C
  have hl : lv_has ls 3 [(0, .ref (adG g 10)), (1, .int x1)] := hl
  obtain ⟨hx, hb, hml, hown, hts, hr, hlk, hK, hZ⟩ := id C
  unfold fX5_liesAsHeard at h
  refine lv_aload_n hx hb dX5_liesAsHeard_0 rfl (lv_at hl 0 rfl) ?_
  refine r_getr C cf_5 hP sx_10 kx_10 1 (by decide) rfl tw_96 dX5_liesAsHeard_1 ?_
  refine lv_aload_n hx hb dX5_liesAsHeard_4 rfl (lv_at hl 0 rfl) ?_
  refine r_getr C cf_5 hP sx_10 kx_10 0 (by decide) rfl tw_92 dX5_liesAsHeard_5 ?_
  refine lv_aload_n hx hb dX5_liesAsHeard_8 rfl (lv_at hl 0 rfl) ?_
  refine r_geti C cf_5 hP sx_10 kx_10 3 (by decide) rfl tw_98 dX5_liesAsHeard_9 ?_
  obtain ⟨q_1, hq_1, h⟩ := bd_inv h
  refine end_v (run_v (As := [.ref (adG g 260), .int (σ 10 3)]) (rest := []) C ca_X2_tell (ctX2_tell 11 if_11 260 iv_260 (σ 10 3) hq_1) cf_2 (sf_0 if_11) (kf_0 if_11) tw_626 ⟨Nat.le_of_ble_eq_true rfl, Nat.le_of_ble_eq_true rfl⟩ rfl hl.1 (Nat.le_of_ble_eq_true rfl) ⟨Nat.le_refl _, Nat.le_refl _⟩ hP hS dX5_liesAsHeard_12) hS (fun H locs hP hS => ?_)
  refine lv_iconst (v := 0) hx hb dX5_liesAsHeard_15 (by decide) ?_
  refine lv_istore_n (lv' := [(2, .int (0 : Int32)), (0, .ref (adG g 10)), (1, .int x1)]) hx hb dX5_liesAsHeard_16 rfl hl (by decide) rfl (fun ls hl => ?_)
  exact wfX5_liesAsHeard_L17 C fu q_1 x1 (0 : Int32) H locs ls h hP hS (lv_sub hl [1, 2, 0] rfl)

set_option maxRecDepth 100000 in
set_option maxHeartbeats 4000000 in
theorem wfX5_floorsThatFit_L13 {l : Launch} {g : Gw} {p : Program} {e : Env} {s : State} {m : MethodId} {args : Array Value} {below : List Frame} {meth : Method} {c : Code} (C : Cx wkX g p s m args meth c cX5_floorsThatFit 5 RX5 (some .int)) (v1 : Nat) (hv1 : isV v1) {Rz : (Sto × Int32)} : ∀ (n : Nat) (σ : Sto) (x2 : Int32) (x3 : Int32) (x4 : Int32) (H : Heap) (locs : List Loc) (ls : Array Slot), fX5_floorsThatFit_L13 v1 n σ x2 x3 x4 = some Rz → wS wkX g σ H → va_S (AS wkX g) s.heap H locs → lv_has ls 5 [(0, .ref (adG g 10)), (2, .int x2), (3, .int x3), (4, .int x4)] → W p l e (rmS 5) s m args below meth c H locs 0 0 (MQ below (QiS wkX g Rz.1 Rz.2) args s 0 0 (AS wkX g)) (F0 m 13 ls []) := by
  intro n
  induction n with
  | zero =>
    intro σ x2 x3 x4 H locs ls h
    cases h
  | succ n ih =>
    intro σ x2 x3 x4 H locs ls h hP hS hl
    obtain ⟨hx, hb, hml, hown, hts, hr, hlk, hK, hZ⟩ := id C
    rw [fX5_floorsThatFit_L13] at h
    refine lv_iload hx hb dX5_floorsThatFit_13 (lv_at hl 3 rfl) ?_
    refine lv_bipush (v := 9) hx hb dX5_floorsThatFit_15 (by decide) ?_
    refine lv_icmp_gt (tgt := 56) hx hb dX5_floorsThatFit_17 (by decide) (fun c_ => ?_) (fun c_ => ?_)
    · replace h := if_t c_ h
      refine lv_iload_n hx hb dX5_floorsThatFit_56 rfl (lv_at hl 2 rfl) ?_
      exact r_reti C hP hS (rt_ow1 h) (rt_ow2 h) dX5_floorsThatFit_57
    · replace h := if_f c_ h
      refine lv_aload_n hx hb dX5_floorsThatFit_20 rfl (lv_at hl 0 rfl) ?_
      refine r_getr C cf_5 hP sx_10 kx_10 0 (by decide) rfl tw_92 dX5_floorsThatFit_21 ?_
      refine r_getr C cf_8 hP (sv_0 iv_260) (kv_0 iv_260) 5 (by decide) rfl tw_985 dX5_floorsThatFit_24 ?_
      refine lv_iload_n hx hb dX5_floorsThatFit_27 rfl (lv_at hl 1 rfl) ?_
      refine lv_iload hx hb dX5_floorsThatFit_28 (lv_at hl 3 rfl) ?_
      obtain ⟨g_1, h⟩ := gd_inv h
      refine r_iast C hP hS (sv_1 iv_260) (kv_1 iv_260) rfl g_1 dX5_floorsThatFit_30 (fun H locs σ_2 eσ_2 hP hS => ?_)
      replace h := un_at eσ_2 h
      refine lv_iload_n hx hb dX5_floorsThatFit_31 rfl (lv_at hl 2 rfl) ?_
      refine lv_aload_n hx hb dX5_floorsThatFit_32 rfl (lv_at hl 0 rfl) ?_
      refine lv_iload_n hx hb dX5_floorsThatFit_33 rfl (lv_at hl 1 rfl) ?_
      obtain ⟨q_3, hq_3, h⟩ := bd_inv h
      refine end_i (run_v (As := [.int x2]) (rest := [.int x3]) C ca_X5_liesAsHeard (ctX5_liesAsHeard x2 hq_3) cf_5 sx_10 kx_10 tw_986 ⟨Nat.le_of_ble_eq_true rfl, Nat.le_of_ble_eq_true rfl⟩ rfl hl.1 (Nat.le_of_ble_eq_true rfl) ⟨Nat.le_refl _, Nat.le_refl _⟩ hP hS dX5_floorsThatFit_34) hS (fun H locs hP hS => ?_)
      refine lv_if_eq (tgt := 47) hx hb dX5_floorsThatFit_37 (by decide) (fun c_ => ?_) (fun c_ => ?_)
      · replace h := if_t c_ h
        refine lv_iconst (v := 0) hx hb dX5_floorsThatFit_47 (by decide) ?_
        refine lv_ior hx hb dX5_floorsThatFit_48 ?_
        refine lv_topi (fun x_4 ex_4 => ?_)
        replace h := un_at ex_4 h
        refine lv_istore_n (lv' := [(3, .int x_4), (0, .ref (adG g 10)), (2, .int x2), (4, .int x4)]) hx hb dX5_floorsThatFit_49 rfl hl (by decide) rfl (fun ls hl => ?_)
        obtain ⟨x_5, ex_5⟩ : ∃ y : Int32, y = x4 + (1 : Int32) := ⟨_, rfl⟩
        replace h := un_at ex_5 h
        refine lv_iinc (v := x_5) (lv' := [(4, .int x_5), (3, .int x_4), (0, .ref (adG g 10)), (2, .int x2)]) hx hb dX5_floorsThatFit_50 hl (k := 3) rfl (by rw [ex_5]; rfl) (by decide) rfl (fun ls hl => ?_)
        refine lv_goto (tgt := 13) hx hb dX5_floorsThatFit_53 (by decide) ?_
        exact ih q_3.1 x2 x_4 x_5 H locs ls h hP hS (lv_sub hl [2, 3, 1, 0] rfl)
      · replace h := if_f c_ h
        refine lv_iconst (v := 1) hx hb dX5_floorsThatFit_40 (by decide) ?_
        refine lv_iload hx hb dX5_floorsThatFit_41 (lv_at hl 3 rfl) ?_
        refine lv_ishl hx hb dX5_floorsThatFit_43 ?_
        refine lv_goto (tgt := 48) hx hb dX5_floorsThatFit_44 (by decide) ?_
        refine lv_ior hx hb dX5_floorsThatFit_48 ?_
        refine lv_topi (fun x_6 ex_6 => ?_)
        replace h := un_at ex_6 h
        refine lv_istore_n (lv' := [(3, .int x_6), (0, .ref (adG g 10)), (2, .int x2), (4, .int x4)]) hx hb dX5_floorsThatFit_49 rfl hl (by decide) rfl (fun ls hl => ?_)
        obtain ⟨x_7, ex_7⟩ : ∃ y : Int32, y = x4 + (1 : Int32) := ⟨_, rfl⟩
        replace h := un_at ex_7 h
        refine lv_iinc (v := x_7) (lv' := [(4, .int x_7), (3, .int x_6), (0, .ref (adG g 10)), (2, .int x2)]) hx hb dX5_floorsThatFit_50 hl (k := 3) rfl (by rw [ex_7]; rfl) (by decide) rfl (fun ls hl => ?_)
        refine lv_goto (tgt := 13) hx hb dX5_floorsThatFit_53 (by decide) ?_
        exact ih q_3.1 x2 x_6 x_7 H locs ls h hP hS (lv_sub hl [2, 3, 1, 0] rfl)

set_option maxRecDepth 100000 in
set_option maxHeartbeats 4000000 in
theorem ctX5_floorsThatFit {l : Launch} {g : Gw} {σ : Sto} (v1 : Nat) (hv1 : isV v1) (x2 : Int32) {Rz : (Sto × Int32)} (h : fX5_floorsThatFit σ v1 x2 = some Rz) : MtG l yX5_floorsThatFit cX5_floorsThatFit 5 (some .int) 5 wkX g [.ref (adG g 10), .ref (adG g v1), .int x2] σ (QiS wkX g Rz.1 Rz.2) := by
  refine mt_of (by decide) (Nat.le_of_ble_eq_true rfl) (fun p e s m below meth c ls H locs C hP hS hl => ?_)
  have C : Cx wkX g p s m _ meth c cX5_floorsThatFit 5 RX5 (some .int) := C
  have hl : lv_has ls 5 [(0, .ref (adG g 10)), (1, .ref (adG g v1)), (2, .int x2)] := hl
  obtain ⟨hx, hb, hml, hown, hts, hr, hlk, hK, hZ⟩ := id C
  unfold fX5_floorsThatFit at h
  refine lv_aload_n hx hb dX5_floorsThatFit_0 rfl (lv_at hl 0 rfl) ?_
  refine r_getr C cf_5 hP sx_10 kx_10 0 (by decide) rfl tw_92 dX5_floorsThatFit_1 ?_
  refine lv_aload_n hx hb dX5_floorsThatFit_4 rfl (lv_at hl 1 rfl) ?_
  obtain ⟨q_1, eq_1⟩ : ∃ z, z = fX8_become σ 260 v1 := ⟨_, rfl⟩
  replace h := un_at eq_1 h
  refine end_v (run_v (As := [.ref (adG g v1)]) (rest := []) C ca_X8_become (ctX8_become 260 iv_260 v1 hv1 eq_1.symm) cf_8 (sv_0 iv_260) (kv_0 iv_260) tw_681 ⟨Nat.le_of_ble_eq_true rfl, Nat.le_of_ble_eq_true rfl⟩ rfl hl.1 (Nat.le_of_ble_eq_true rfl) ⟨Nat.le_refl _, Nat.le_refl _⟩ hP hS dX5_floorsThatFit_5) hS (fun H locs hP hS => ?_)
  refine lv_iconst (v := 0) hx hb dX5_floorsThatFit_8 (by decide) ?_
  refine lv_istore_n (lv' := [(3, .int (0 : Int32)), (0, .ref (adG g 10)), (1, .ref (adG g v1)), (2, .int x2)]) hx hb dX5_floorsThatFit_9 rfl hl (by decide) rfl (fun ls hl => ?_)
  refine lv_iconst (v := 0) hx hb dX5_floorsThatFit_10 (by decide) ?_
  refine lv_istore (lv' := [(4, .int (0 : Int32)), (3, .int (0 : Int32)), (0, .ref (adG g 10)), (1, .ref (adG g v1)), (2, .int x2)]) hx hb dX5_floorsThatFit_11 hl (by decide) rfl (fun ls hl => ?_)
  exact wfX5_floorsThatFit_L13 C v1 hv1 fu q_1 x2 (0 : Int32) (0 : Int32) H locs ls h hP hS (lv_sub hl [2, 4, 1, 0] rfl)

set_option maxRecDepth 100000 in
set_option maxHeartbeats 4000000 in
theorem wfX5_feedsThatFit_L13 {l : Launch} {g : Gw} {p : Program} {e : Env} {s : State} {m : MethodId} {args : Array Value} {below : List Frame} {meth : Method} {c : Code} (C : Cx wkX g p s m args meth c cX5_feedsThatFit 5 RX5 (some .int)) (v1 : Nat) (hv1 : isV v1) {Rz : (Sto × Int32)} : ∀ (n : Nat) (σ : Sto) (x2 : Int32) (x3 : Int32) (x4 : Int32) (H : Heap) (locs : List Loc) (ls : Array Slot), fX5_feedsThatFit_L13 v1 n σ x2 x3 x4 = some Rz → wS wkX g σ H → va_S (AS wkX g) s.heap H locs → lv_has ls 5 [(0, .ref (adG g 10)), (2, .int x2), (3, .int x3), (4, .int x4)] → W p l e (rmS 5) s m args below meth c H locs 0 0 (MQ below (QiS wkX g Rz.1 Rz.2) args s 0 0 (AS wkX g)) (F0 m 13 ls []) := by
  intro n
  induction n with
  | zero =>
    intro σ x2 x3 x4 H locs ls h
    cases h
  | succ n ih =>
    intro σ x2 x3 x4 H locs ls h hP hS hl
    obtain ⟨hx, hb, hml, hown, hts, hr, hlk, hK, hZ⟩ := id C
    rw [fX5_feedsThatFit_L13] at h
    refine lv_iload hx hb dX5_feedsThatFit_13 (lv_at hl 3 rfl) ?_
    refine lv_bipush (v := 20) hx hb dX5_feedsThatFit_15 (by decide) ?_
    refine lv_icmp_gt (tgt := 54) hx hb dX5_feedsThatFit_17 (by decide) (fun c_ => ?_) (fun c_ => ?_)
    · replace h := if_t c_ h
      refine lv_iload_n hx hb dX5_feedsThatFit_54 rfl (lv_at hl 2 rfl) ?_
      exact r_reti C hP hS (rt_ow1 h) (rt_ow2 h) dX5_feedsThatFit_55
    · replace h := if_f c_ h
      refine lv_aload_n hx hb dX5_feedsThatFit_20 rfl (lv_at hl 0 rfl) ?_
      refine r_getr C cf_5 hP sx_10 kx_10 0 (by decide) rfl tw_92 dX5_feedsThatFit_21 ?_
      refine lv_iload hx hb dX5_feedsThatFit_24 (lv_at hl 3 rfl) ?_
      refine r_puti C cf_8 hP hS (sv_0 iv_260) (kv_0 iv_260) 2 (by decide) rfl rfl rfl tw_837 dX5_feedsThatFit_26 (fun H locs σ_1 eσ_1 hP hS => ?_)
      replace h := un_at eσ_1 h
      refine lv_iload_n hx hb dX5_feedsThatFit_29 rfl (lv_at hl 2 rfl) ?_
      refine lv_aload_n hx hb dX5_feedsThatFit_30 rfl (lv_at hl 0 rfl) ?_
      refine lv_iload_n hx hb dX5_feedsThatFit_31 rfl (lv_at hl 1 rfl) ?_
      obtain ⟨q_2, hq_2, h⟩ := bd_inv h
      refine end_i (run_v (As := [.int x2]) (rest := [.int x3]) C ca_X5_liesAsHeard (ctX5_liesAsHeard x2 hq_2) cf_5 sx_10 kx_10 tw_986 ⟨Nat.le_of_ble_eq_true rfl, Nat.le_of_ble_eq_true rfl⟩ rfl hl.1 (Nat.le_of_ble_eq_true rfl) ⟨Nat.le_refl _, Nat.le_refl _⟩ hP hS dX5_feedsThatFit_32) hS (fun H locs hP hS => ?_)
      refine lv_if_eq (tgt := 45) hx hb dX5_feedsThatFit_35 (by decide) (fun c_ => ?_) (fun c_ => ?_)
      · replace h := if_t c_ h
        refine lv_iconst (v := 0) hx hb dX5_feedsThatFit_45 (by decide) ?_
        refine lv_ior hx hb dX5_feedsThatFit_46 ?_
        refine lv_topi (fun x_3 ex_3 => ?_)
        replace h := un_at ex_3 h
        refine lv_istore_n (lv' := [(3, .int x_3), (0, .ref (adG g 10)), (2, .int x2), (4, .int x4)]) hx hb dX5_feedsThatFit_47 rfl hl (by decide) rfl (fun ls hl => ?_)
        obtain ⟨x_4, ex_4⟩ : ∃ y : Int32, y = x4 + (1 : Int32) := ⟨_, rfl⟩
        replace h := un_at ex_4 h
        refine lv_iinc (v := x_4) (lv' := [(4, .int x_4), (3, .int x_3), (0, .ref (adG g 10)), (2, .int x2)]) hx hb dX5_feedsThatFit_48 hl (k := 3) rfl (by rw [ex_4]; rfl) (by decide) rfl (fun ls hl => ?_)
        refine lv_goto (tgt := 13) hx hb dX5_feedsThatFit_51 (by decide) ?_
        exact ih q_2.1 x2 x_3 x_4 H locs ls h hP hS (lv_sub hl [2, 3, 1, 0] rfl)
      · replace h := if_f c_ h
        refine lv_iconst (v := 1) hx hb dX5_feedsThatFit_38 (by decide) ?_
        refine lv_iload hx hb dX5_feedsThatFit_39 (lv_at hl 3 rfl) ?_
        refine lv_ishl hx hb dX5_feedsThatFit_41 ?_
        refine lv_goto (tgt := 46) hx hb dX5_feedsThatFit_42 (by decide) ?_
        refine lv_ior hx hb dX5_feedsThatFit_46 ?_
        refine lv_topi (fun x_5 ex_5 => ?_)
        replace h := un_at ex_5 h
        refine lv_istore_n (lv' := [(3, .int x_5), (0, .ref (adG g 10)), (2, .int x2), (4, .int x4)]) hx hb dX5_feedsThatFit_47 rfl hl (by decide) rfl (fun ls hl => ?_)
        obtain ⟨x_6, ex_6⟩ : ∃ y : Int32, y = x4 + (1 : Int32) := ⟨_, rfl⟩
        replace h := un_at ex_6 h
        refine lv_iinc (v := x_6) (lv' := [(4, .int x_6), (3, .int x_5), (0, .ref (adG g 10)), (2, .int x2)]) hx hb dX5_feedsThatFit_48 hl (k := 3) rfl (by rw [ex_6]; rfl) (by decide) rfl (fun ls hl => ?_)
        refine lv_goto (tgt := 13) hx hb dX5_feedsThatFit_51 (by decide) ?_
        exact ih q_2.1 x2 x_5 x_6 H locs ls h hP hS (lv_sub hl [2, 3, 1, 0] rfl)

set_option maxRecDepth 100000 in
set_option maxHeartbeats 4000000 in
theorem ctX5_feedsThatFit {l : Launch} {g : Gw} {σ : Sto} (v1 : Nat) (hv1 : isV v1) (x2 : Int32) {Rz : (Sto × Int32)} (h : fX5_feedsThatFit σ v1 x2 = some Rz) : MtG l yX5_feedsThatFit cX5_feedsThatFit 5 (some .int) 5 wkX g [.ref (adG g 10), .ref (adG g v1), .int x2] σ (QiS wkX g Rz.1 Rz.2) := by
  refine mt_of (by decide) (Nat.le_of_ble_eq_true rfl) (fun p e s m below meth c ls H locs C hP hS hl => ?_)
  have C : Cx wkX g p s m _ meth c cX5_feedsThatFit 5 RX5 (some .int) := C
  have hl : lv_has ls 5 [(0, .ref (adG g 10)), (1, .ref (adG g v1)), (2, .int x2)] := hl
  obtain ⟨hx, hb, hml, hown, hts, hr, hlk, hK, hZ⟩ := id C
  unfold fX5_feedsThatFit at h
  refine lv_aload_n hx hb dX5_feedsThatFit_0 rfl (lv_at hl 0 rfl) ?_
  refine r_getr C cf_5 hP sx_10 kx_10 0 (by decide) rfl tw_92 dX5_feedsThatFit_1 ?_
  refine lv_aload_n hx hb dX5_feedsThatFit_4 rfl (lv_at hl 1 rfl) ?_
  obtain ⟨q_1, eq_1⟩ : ∃ z, z = fX8_become σ 260 v1 := ⟨_, rfl⟩
  replace h := un_at eq_1 h
  refine end_v (run_v (As := [.ref (adG g v1)]) (rest := []) C ca_X8_become (ctX8_become 260 iv_260 v1 hv1 eq_1.symm) cf_8 (sv_0 iv_260) (kv_0 iv_260) tw_681 ⟨Nat.le_of_ble_eq_true rfl, Nat.le_of_ble_eq_true rfl⟩ rfl hl.1 (Nat.le_of_ble_eq_true rfl) ⟨Nat.le_refl _, Nat.le_refl _⟩ hP hS dX5_feedsThatFit_5) hS (fun H locs hP hS => ?_)
  refine lv_iconst (v := 0) hx hb dX5_feedsThatFit_8 (by decide) ?_
  refine lv_istore_n (lv' := [(3, .int (0 : Int32)), (0, .ref (adG g 10)), (1, .ref (adG g v1)), (2, .int x2)]) hx hb dX5_feedsThatFit_9 rfl hl (by decide) rfl (fun ls hl => ?_)
  refine lv_iconst (v := 0) hx hb dX5_feedsThatFit_10 (by decide) ?_
  refine lv_istore (lv' := [(4, .int (0 : Int32)), (3, .int (0 : Int32)), (0, .ref (adG g 10)), (1, .ref (adG g v1)), (2, .int x2)]) hx hb dX5_feedsThatFit_11 hl (by decide) rfl (fun ls hl => ?_)
  exact wfX5_feedsThatFit_L13 C v1 hv1 fu q_1 x2 (0 : Int32) (0 : Int32) H locs ls h hP hS (lv_sub hl [2, 4, 1, 0] rfl)

set_option maxRecDepth 100000 in
set_option maxHeartbeats 4000000 in
theorem wfX5_wallsThatStand_L4 {l : Launch} {g : Gw} {p : Program} {e : Env} {s : State} {m : MethodId} {args : Array Value} {below : List Frame} {meth : Method} {c : Code} {σ : Sto} (C : Cx wkX g p s m args meth c cX5_wallsThatStand 3 RX5 (some .int)) (v0 : Nat) (hv0 : isV v0) {Rz : Int32} : ∀ (n : Nat) (x1 : Int32) (x2 : Int32) (H : Heap) (locs : List Loc) (ls : Array Slot), fX5_wallsThatStand_L4 v0 σ n x1 x2 = some Rz → wS wkX g σ H → va_S (AS wkX g) s.heap H locs → lv_has ls 3 [(0, .ref (adG g v0)), (1, .int x1), (2, .int x2)] → W p l e (rmS 0) s m args below meth c H locs 0 0 (MQ below (QiS wkX g σ Rz) args s 0 0 (AS wkX g)) (F0 m 4 ls []) := by
  intro n
  induction n with
  | zero =>
    intro x1 x2 H locs ls h
    cases h
  | succ n ih =>
    intro x1 x2 H locs ls h hP hS hl
    obtain ⟨hx, hb, hml, hown, hts, hr, hlk, hK, hZ⟩ := id C
    rw [fX5_wallsThatStand_L4] at h
    refine lv_iload_n hx hb dX5_wallsThatStand_4 rfl (lv_at hl 2 rfl) ?_
    refine lv_aload_n hx hb dX5_wallsThatStand_5 rfl (lv_at hl 0 rfl) ?_
    refine r_geti C cf_8 hP (sv_0 hv0) (kv_0 hv0) 0 (by decide) rfl tw_731 dX5_wallsThatStand_6 ?_
    refine lv_icmp_ge (tgt := 37) hx hb dX5_wallsThatStand_9 (by decide) (fun c_ => ?_) (fun c_ => ?_)
    · replace h := if_t c_ h
      refine lv_iload_n hx hb dX5_wallsThatStand_37 rfl (lv_at hl 1 rfl) ?_
      exact r_reti C hP hS rfl (rt_o h) dX5_wallsThatStand_38
    · replace h := if_f c_ h
      refine lv_iload_n hx hb dX5_wallsThatStand_12 rfl (lv_at hl 1 rfl) ?_
      refine lv_aload_n hx hb dX5_wallsThatStand_13 rfl (lv_at hl 0 rfl) ?_
      refine r_getr C cf_8 hP (sv_0 hv0) (kv_0 hv0) 7 (by decide) rfl tw_803 dX5_wallsThatStand_14 ?_
      refine lv_iload_n hx hb dX5_wallsThatStand_17 rfl (lv_at hl 2 rfl) ?_
      obtain ⟨g_1, h⟩ := gd_inv h
      refine r_iald C hP (sv_3 hv0) (kv_3 hv0) rfl g_1 dX5_wallsThatStand_18 ?_
      refine lv_if_eq (tgt := 28) hx hb dX5_wallsThatStand_19 (by decide) (fun c_ => ?_) (fun c_ => ?_)
      · replace h := if_t c_ h
        refine lv_iconst (v := 0) hx hb dX5_wallsThatStand_28 (by decide) ?_
        refine lv_ior hx hb dX5_wallsThatStand_29 ?_
        refine lv_topi (fun x_2 ex_2 => ?_)
        replace h := un_at ex_2 h
        refine lv_istore_n (lv' := [(1, .int x_2), (0, .ref (adG g v0)), (2, .int x2)]) hx hb dX5_wallsThatStand_30 rfl hl (by decide) rfl (fun ls hl => ?_)
        obtain ⟨x_3, ex_3⟩ : ∃ y : Int32, y = x2 + (1 : Int32) := ⟨_, rfl⟩
        replace h := un_at ex_3 h
        refine lv_iinc (v := x_3) (lv' := [(2, .int x_3), (1, .int x_2), (0, .ref (adG g v0))]) hx hb dX5_wallsThatStand_31 hl (k := 2) rfl (by rw [ex_3]; rfl) (by decide) rfl (fun ls hl => ?_)
        refine lv_goto (tgt := 4) hx hb dX5_wallsThatStand_34 (by decide) ?_
        exact ih x_2 x_3 H locs ls h hP hS (lv_sub hl [2, 1, 0] rfl)
      · replace h := if_f c_ h
        refine lv_iconst (v := 1) hx hb dX5_wallsThatStand_22 (by decide) ?_
        refine lv_iload_n hx hb dX5_wallsThatStand_23 rfl (lv_at hl 2 rfl) ?_
        refine lv_ishl hx hb dX5_wallsThatStand_24 ?_
        refine lv_goto (tgt := 29) hx hb dX5_wallsThatStand_25 (by decide) ?_
        refine lv_ior hx hb dX5_wallsThatStand_29 ?_
        refine lv_topi (fun x_4 ex_4 => ?_)
        replace h := un_at ex_4 h
        refine lv_istore_n (lv' := [(1, .int x_4), (0, .ref (adG g v0)), (2, .int x2)]) hx hb dX5_wallsThatStand_30 rfl hl (by decide) rfl (fun ls hl => ?_)
        obtain ⟨x_5, ex_5⟩ : ∃ y : Int32, y = x2 + (1 : Int32) := ⟨_, rfl⟩
        replace h := un_at ex_5 h
        refine lv_iinc (v := x_5) (lv' := [(2, .int x_5), (1, .int x_4), (0, .ref (adG g v0))]) hx hb dX5_wallsThatStand_31 hl (k := 2) rfl (by rw [ex_5]; rfl) (by decide) rfl (fun ls hl => ?_)
        refine lv_goto (tgt := 4) hx hb dX5_wallsThatStand_34 (by decide) ?_
        exact ih x_4 x_5 H locs ls h hP hS (lv_sub hl [2, 1, 0] rfl)

set_option maxRecDepth 100000 in
set_option maxHeartbeats 4000000 in
theorem ctX5_wallsThatStand {l : Launch} {g : Gw} {σ : Sto} (v0 : Nat) (hv0 : isV v0) {Rz : Int32} (h : fX5_wallsThatStand σ v0 = some Rz) : MtG l yX5_wallsThatStand cX5_wallsThatStand 3 (some .int) 0 wkX g [.ref (adG g v0)] σ (QiS wkX g σ Rz) := by
  refine mt_of (by decide) (Nat.le_of_ble_eq_true rfl) (fun p e s m below meth c ls H locs C hP hS hl => ?_)
  have C : Cx wkX g p s m _ meth c cX5_wallsThatStand 3 RX5 (some .int) := C
  have hl : lv_has ls 3 [(0, .ref (adG g v0))] := hl
  obtain ⟨hx, hb, hml, hown, hts, hr, hlk, hK, hZ⟩ := id C
  unfold fX5_wallsThatStand at h
  refine lv_iconst (v := 0) hx hb dX5_wallsThatStand_0 (by decide) ?_
  refine lv_istore_n (lv' := [(1, .int (0 : Int32)), (0, .ref (adG g v0))]) hx hb dX5_wallsThatStand_1 rfl hl (by decide) rfl (fun ls hl => ?_)
  refine lv_iconst (v := 0) hx hb dX5_wallsThatStand_2 (by decide) ?_
  refine lv_istore_n (lv' := [(2, .int (0 : Int32)), (1, .int (0 : Int32)), (0, .ref (adG g v0))]) hx hb dX5_wallsThatStand_3 rfl hl (by decide) rfl (fun ls hl => ?_)
  exact wfX5_wallsThatStand_L4 C v0 hv0 fu (0 : Int32) (0 : Int32) H locs ls h hP hS (lv_sub hl [2, 1, 0] rfl)

set_option maxRecDepth 100000 in
set_option maxHeartbeats 4000000 in
theorem wfX5_casesOf_L5 {l : Launch} {g : Gw} {p : Program} {e : Env} {s : State} {m : MethodId} {args : Array Value} {below : List Frame} {meth : Method} {c : Code} {σ : Sto} (C : Cx wkX g p s m args meth c cX5_casesOf 6 RX5 (some .long)) {Rz : Int64} : ∀ (n : Nat) (x0 : Int32) (x1 : Int32) (x2 : Int32) (x3 : Int64) (x5 : Int32) (H : Heap) (locs : List Loc) (ls : Array Slot), fX5_casesOf_L5 n x0 x1 x2 x3 x5 = some Rz → wS wkX g σ H → va_S (AS wkX g) s.heap H locs → lv_has ls 6 [(0, .int x0), (1, .int x1), (2, .int x2), (3, .long x3), (5, .int x5)] → W p l e (rmS 0) s m args below meth c H locs 0 0 (MQ below (QlS wkX g σ Rz) args s 0 0 (AS wkX g)) (F0 m 5 ls []) := by
  intro n
  induction n with
  | zero =>
    intro x0 x1 x2 x3 x5 H locs ls h
    cases h
  | succ n ih =>
    intro x0 x1 x2 x3 x5 H locs ls h hP hS hl
    obtain ⟨hx, hb, hml, hown, hts, hr, hlk, hK, hZ⟩ := id C
    rw [fX5_casesOf_L5] at h
    refine lv_iload hx hb dX5_casesOf_5 (lv_at hl 4 rfl) ?_
    refine lv_bipush (v := 10) hx hb dX5_casesOf_7 (by decide) ?_
    refine lv_icmp_ge (tgt := 51) hx hb dX5_casesOf_9 (by decide) (fun c_ => ?_) (fun c_ => ?_)
    · replace h := if_t c_ h
      refine lv_lload_n hx hb dX5_casesOf_51 rfl (lv_at hl 3 rfl) ?_
      exact r_retl C hP hS rfl (rt_o h) dX5_casesOf_52
    · replace h := if_f c_ h
      refine lv_iload_n hx hb dX5_casesOf_12 rfl (lv_at hl 0 rfl) ?_
      refine lv_iload hx hb dX5_casesOf_13 (lv_at hl 4 rfl) ?_
      refine lv_ishr hx hb dX5_casesOf_15 ?_
      refine lv_iconst (v := 1) hx hb dX5_casesOf_16 (by decide) ?_
      refine lv_iand hx hb dX5_casesOf_17 ?_
      refine lv_iconst (v := 1) hx hb dX5_casesOf_18 (by decide) ?_
      refine lv_icmp_ne (tgt := 45) hx hb dX5_casesOf_19 (by decide) (fun c_ => ?_) (fun c_ => ?_)
      · replace h := if_f c_ h
        obtain ⟨x_1, ex_1⟩ : ∃ y : Int32, y = x5 + (1 : Int32) := ⟨_, rfl⟩
        replace h := un_at ex_1 h
        refine lv_iinc (v := x_1) (lv' := [(5, .int x_1), (0, .int x0), (1, .int x1), (2, .int x2), (3, .long x3)]) hx hb dX5_casesOf_45 hl (k := 4) rfl (by rw [ex_1]; rfl) (by decide) rfl (fun ls hl => ?_)
        refine lv_goto (tgt := 5) hx hb dX5_casesOf_48 (by decide) ?_
        exact ih x0 x1 x2 x3 x_1 H locs ls h hP hS (lv_sub hl [1, 2, 3, 4, 0] rfl)
      · replace h := if_t c_ h
        refine lv_lload_n hx hb dX5_casesOf_22 rfl (lv_at hl 3 rfl) ?_
        refine lv_iload_n hx hb dX5_casesOf_23 rfl (lv_at hl 1 rfl) ?_
        refine lv_iload hx hb dX5_casesOf_24 (lv_at hl 4 rfl) ?_
        refine lv_ishr hx hb dX5_casesOf_26 ?_
        refine lv_iconst (v := 1) hx hb dX5_casesOf_27 (by decide) ?_
        refine lv_iand hx hb dX5_casesOf_28 ?_
        refine lv_iconst (v := 1) hx hb dX5_casesOf_29 (by decide) ?_
        refine lv_icmp_ne (tgt := 38) hx hb dX5_casesOf_30 (by decide) (fun c_ => ?_) (fun c_ => ?_)
        · replace h := if_f c_ h
          refine lv_bipush (v := 10) hx hb dX5_casesOf_38 (by decide) ?_
          refine lv_iload_n hx hb dX5_casesOf_40 rfl (lv_at hl 2 rfl) ?_
          refine lv_isub hx hb dX5_casesOf_41 ?_
          refine lv_i2l hx hb dX5_casesOf_42 rfl ?_
          refine lv_lmul hx hb dX5_casesOf_43 ?_
          refine lv_topl (fun x_2 ex_2 => ?_)
          replace h := un_at ex_2 h
          refine lv_lstore_n (lv' := [(3, .long x_2), (0, .int x0), (1, .int x1), (2, .int x2), (5, .int x5)]) hx hb dX5_casesOf_44 rfl hl (by decide) rfl (fun ls hl => ?_)
          obtain ⟨x_3, ex_3⟩ : ∃ y : Int32, y = x5 + (1 : Int32) := ⟨_, rfl⟩
          replace h := un_at ex_3 h
          refine lv_iinc (v := x_3) (lv' := [(5, .int x_3), (3, .long x_2), (0, .int x0), (1, .int x1), (2, .int x2)]) hx hb dX5_casesOf_45 hl (k := 4) rfl (by rw [ex_3]; rfl) (by decide) rfl (fun ls hl => ?_)
          refine lv_goto (tgt := 5) hx hb dX5_casesOf_48 (by decide) ?_
          exact ih x0 x1 x2 x_2 x_3 H locs ls h hP hS (lv_sub hl [2, 3, 4, 1, 0] rfl)
        · replace h := if_t c_ h
          refine lv_iload_n hx hb dX5_casesOf_33 rfl (lv_at hl 2 rfl) ?_
          refine lv_i2l hx hb dX5_casesOf_34 rfl ?_
          refine lv_goto (tgt := 43) hx hb dX5_casesOf_35 (by decide) ?_
          refine lv_lmul hx hb dX5_casesOf_43 ?_
          refine lv_topl (fun x_4 ex_4 => ?_)
          replace h := un_at ex_4 h
          refine lv_lstore_n (lv' := [(3, .long x_4), (0, .int x0), (1, .int x1), (2, .int x2), (5, .int x5)]) hx hb dX5_casesOf_44 rfl hl (by decide) rfl (fun ls hl => ?_)
          obtain ⟨x_5, ex_5⟩ : ∃ y : Int32, y = x5 + (1 : Int32) := ⟨_, rfl⟩
          replace h := un_at ex_5 h
          refine lv_iinc (v := x_5) (lv' := [(5, .int x_5), (3, .long x_4), (0, .int x0), (1, .int x1), (2, .int x2)]) hx hb dX5_casesOf_45 hl (k := 4) rfl (by rw [ex_5]; rfl) (by decide) rfl (fun ls hl => ?_)
          refine lv_goto (tgt := 5) hx hb dX5_casesOf_48 (by decide) ?_
          exact ih x0 x1 x2 x_4 x_5 H locs ls h hP hS (lv_sub hl [2, 3, 4, 1, 0] rfl)

set_option maxRecDepth 100000 in
set_option maxHeartbeats 4000000 in
theorem ctX5_casesOf {l : Launch} {g : Gw} {σ : Sto} (x0 : Int32) (x1 : Int32) (x2 : Int32) {Rz : Int64} (h : fX5_casesOf x0 x1 x2 = some Rz) : MtG l yX5_casesOf cX5_casesOf 6 (some .long) 0 wkX g [.int x0, .int x1, .int x2] σ (QlS wkX g σ Rz) := by
  refine mt_of (by decide) (Nat.le_of_ble_eq_true rfl) (fun p e s m below meth c ls H locs C hP hS hl => ?_)
  have C : Cx wkX g p s m _ meth c cX5_casesOf 6 RX5 (some .long) := C
  have hl : lv_has ls 6 [(0, .int x0), (1, .int x1), (2, .int x2)] := hl
  obtain ⟨hx, hb, hml, hown, hts, hr, hlk, hK, hZ⟩ := id C
  unfold fX5_casesOf at h
  refine lv_lconst (v := 1) hx hb dX5_casesOf_0 (by decide) ?_
  refine lv_lstore_n (lv' := [(3, .long (1 : Int64)), (0, .int x0), (1, .int x1), (2, .int x2)]) hx hb dX5_casesOf_1 rfl hl (by decide) rfl (fun ls hl => ?_)
  refine lv_iconst (v := 0) hx hb dX5_casesOf_2 (by decide) ?_
  refine lv_istore (lv' := [(5, .int (0 : Int32)), (3, .long (1 : Int64)), (0, .int x0), (1, .int x1), (2, .int x2)]) hx hb dX5_casesOf_3 hl (by decide) rfl (fun ls hl => ?_)
  exact wfX5_casesOf_L5 C fu x0 x1 x2 (1 : Int64) (0 : Int32) H locs ls h hP hS (lv_sub hl [2, 3, 4, 1, 0] rfl)

set_option maxRecDepth 100000 in
set_option maxHeartbeats 4000000 in
theorem wfX5_isSpared_L11 {l : Launch} {g : Gw} {p : Program} {e : Env} {s : State} {m : MethodId} {args : Array Value} {below : List Frame} {meth : Method} {c : Code} (C : Cx wkX g p s m args meth c cX5_isSpared 7 RX5 (some .boolean)) (v1 : Nat) (hv1 : isV v1) {Rz : (Sto × Int32)} {k_48 : Sto → Int32 → Int32 → Option (Sto × Int32)} : ∀ (n : Nat) (σ : Sto) (x2 : Int32) (x3 : Int32) (x4 : Int32) (x5 : Int32) (H : Heap) (locs : List Loc) (ls : Array Slot), fX5_isSpared_L11 k_48 v1 n σ x2 x3 x4 x5 = some Rz → wS wkX g σ H → va_S (AS wkX g) s.heap H locs → lv_has ls 7 [(0, .ref (adG g 10)), (1, .ref (adG g v1)), (2, .int x2), (3, .int x3), (4, .int x4), (5, .int x5)] → (∀ (σ : Sto) (x2 : Int32) (x3 : Int32) (H : Heap) (locs : List Loc) (ls : Array Slot), k_48 σ x2 x3 = some Rz → wS wkX g σ H → va_S (AS wkX g) s.heap H locs → lv_has ls 7 [(0, .ref (adG g 10)), (1, .ref (adG g v1)), (2, .int x2), (3, .int x3)] → W p l e (rmS 3) s m args below meth c H locs 0 0 (MQ below (QiS wkX g Rz.1 Rz.2) args s 0 0 (AS wkX g)) (F0 m 48 ls [])) → W p l e (rmS 3) s m args below meth c H locs 0 0 (MQ below (QiS wkX g Rz.1 Rz.2) args s 0 0 (AS wkX g)) (F0 m 11 ls []) := by
  intro n
  induction n with
  | zero =>
    intro σ x2 x3 x4 x5 H locs ls h
    cases h
  | succ n ih =>
    intro σ x2 x3 x4 x5 H locs ls h hP hS hl hk_48
    obtain ⟨hx, hb, hml, hown, hts, hr, hlk, hK, hZ⟩ := id C
    rw [fX5_isSpared_L11] at h
    refine lv_iload hx hb dX5_isSpared_11 (lv_at hl 5 rfl) ?_
    refine lv_aload_n hx hb dX5_isSpared_13 rfl (lv_at hl 1 rfl) ?_
    refine r_geti C cf_8 hP (sv_0 hv1) (kv_0 hv1) 0 (by decide) rfl tw_731 dX5_isSpared_14 ?_
    refine lv_icmp_ge (tgt := 48) hx hb dX5_isSpared_17 (by decide) (fun c_ => ?_) (fun c_ => ?_)
    · replace h := if_t c_ h
      exact hk_48 σ x2 x3 H locs ls h hP hS (lv_sub hl [0, 1, 2, 3] rfl)
    · replace h := if_f c_ h
      refine lv_iload hx hb dX5_isSpared_20 (lv_at hl 4 rfl) ?_
      refine lv_iload hx hb dX5_isSpared_22 (lv_at hl 5 rfl) ?_
      refine lv_ishr hx hb dX5_isSpared_24 ?_
      refine lv_iconst (v := 1) hx hb dX5_isSpared_25 (by decide) ?_
      refine lv_iand hx hb dX5_isSpared_26 ?_
      refine lv_iconst (v := 1) hx hb dX5_isSpared_27 (by decide) ?_
      refine lv_icmp_ne (tgt := 42) hx hb dX5_isSpared_28 (by decide) (fun c_ => ?_) (fun c_ => ?_)
      · replace h := if_f c_ h
        obtain ⟨x_1, ex_1⟩ : ∃ y : Int32, y = x5 + (1 : Int32) := ⟨_, rfl⟩
        replace h := un_at ex_1 h
        refine lv_iinc (v := x_1) (lv' := [(5, .int x_1), (0, .ref (adG g 10)), (1, .ref (adG g v1)), (2, .int x2), (3, .int x3), (4, .int x4)]) hx hb dX5_isSpared_42 hl (k := 5) rfl (by rw [ex_1]; rfl) (by decide) rfl (fun ls hl => ?_)
        refine lv_goto (tgt := 11) hx hb dX5_isSpared_45 (by decide) ?_
        exact ih σ x2 x3 x4 x_1 H locs ls h hP hS (lv_sub hl [1, 2, 3, 4, 5, 0] rfl) hk_48
      · replace h := if_t c_ h
        refine lv_aload_n hx hb dX5_isSpared_31 rfl (lv_at hl 0 rfl) ?_
        refine r_getr C cf_5 hP sx_10 kx_10 0 (by decide) rfl tw_92 dX5_isSpared_32 ?_
        refine r_getr C cf_8 hP (sv_0 iv_260) (kv_0 iv_260) 7 (by decide) rfl tw_803 dX5_isSpared_35 ?_
        refine lv_iload hx hb dX5_isSpared_38 (lv_at hl 5 rfl) ?_
        refine lv_iconst (v := 0) hx hb dX5_isSpared_40 (by decide) ?_
        obtain ⟨g_2, h⟩ := gd_inv h
        refine r_iast C hP hS (sv_3 iv_260) (kv_3 iv_260) rfl g_2 dX5_isSpared_41 (fun H locs σ_3 eσ_3 hP hS => ?_)
        replace h := un_at eσ_3 h
        obtain ⟨x_4, ex_4⟩ : ∃ y : Int32, y = x5 + (1 : Int32) := ⟨_, rfl⟩
        replace h := un_at ex_4 h
        refine lv_iinc (v := x_4) (lv' := [(5, .int x_4), (0, .ref (adG g 10)), (1, .ref (adG g v1)), (2, .int x2), (3, .int x3), (4, .int x4)]) hx hb dX5_isSpared_42 hl (k := 5) rfl (by rw [ex_4]; rfl) (by decide) rfl (fun ls hl => ?_)
        refine lv_goto (tgt := 11) hx hb dX5_isSpared_45 (by decide) ?_
        exact ih σ_3 x2 x3 x4 x_4 H locs ls h hP hS (lv_sub hl [1, 2, 3, 4, 5, 0] rfl) hk_48
