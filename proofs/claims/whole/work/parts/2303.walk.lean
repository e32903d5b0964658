set_option maxRecDepth 100000 in
set_option maxHeartbeats 4000000 in
theorem ctX5_stonesBehind {l : Launch} {g : Gw} {σ : Sto} (v1 : Nat) (hv1 : isV v1) (x2 : Int32) {Rz : (Sto × Int32)} (h : fX5_stonesBehind σ v1 x2 = some Rz) : MtG l yX5_stonesBehind cX5_stonesBehind 3 (some .int) 5 wkX g [.ref (adG g 10), .ref (adG g v1), .int x2] σ (QiS wkX g Rz.1 Rz.2) := by
  refine mt_of (by decide) (Nat.le_of_ble_eq_true rfl) (fun p e s m below meth c ls H locs C hP hS hl => ?_)
  have C : Cx wkX g p s m _ meth c cX5_stonesBehind 3 RX5 (some .int) := C
  have hl : lv_has ls 3 [(0, .ref (adG g 10)), (1, .ref (adG g v1)), (2, .int x2)] := hl
  obtain ⟨hx, hb, hml, hown, hts, hr, hlk, hK, hZ⟩ := id C
  unfold fX5_stonesBehind at h
  refine lv_aload_n hx hb dX5_stonesBehind_0 rfl (lv_at hl 0 rfl) ?_
  refine r_getr C cf_5 hP sx_10 kx_10 0 (by decide) rfl tw_92 dX5_stonesBehind_1 ?_
  refine lv_aload_n hx hb dX5_stonesBehind_4 rfl (lv_at hl 1 rfl) ?_
  obtain ⟨q_1, eq_1⟩ : ∃ z, z = fX8_become σ 260 v1 := ⟨_, rfl⟩
  replace h := un_at eq_1 h
  refine end_v (run_v (As := [.ref (adG g v1)]) (rest := []) C ca_X8_become (ctX8_become 260 iv_260 v1 hv1 eq_1.symm) cf_8 (sv_0 iv_260) (kv_0 iv_260) tw_681 ⟨Nat.le_of_ble_eq_true rfl, Nat.le_of_ble_eq_true rfl⟩ rfl hl.1 (Nat.le_of_ble_eq_true rfl) ⟨Nat.le_refl _, Nat.le_refl _⟩ hP hS dX5_stonesBehind_5) hS (fun H locs hP hS => ?_)
  refine lv_aload_n hx hb dX5_stonesBehind_8 rfl (lv_at hl 0 rfl) ?_
  refine lv_iload_n hx hb dX5_stonesBehind_9 rfl (lv_at hl 2 rfl) ?_
  obtain ⟨q_2, hq_2, h⟩ := bd_inv h
  refine end_v (run_v (As := [.int x2]) (rest := []) C ca_X5_passTrial (ctX5_passTrial x2 hq_2) cf_5 sx_10 kx_10 tw_682 ⟨Nat.le_of_ble_eq_true rfl, Nat.le_of_ble_eq_true rfl⟩ rfl hl.1 (Nat.le_of_ble_eq_true rfl) ⟨Nat.le_refl _, Nat.le_refl _⟩ hP hS dX5_stonesBehind_10) hS (fun H locs hP hS => ?_)
  refine lv_aload_n hx hb dX5_stonesBehind_13 rfl (lv_at hl 0 rfl) ?_
  refine r_getr C cf_5 hP sx_10 kx_10 0 (by decide) rfl tw_92 dX5_stonesBehind_14 ?_
  obtain ⟨q_3, hq_3, h⟩ := bd_inv h
  refine end_i (run_v (As := []) (rest := []) C ca_X8_stones (ctX8_stones 260 iv_260 hq_3) cf_8 (sv_0 iv_260) (kv_0 iv_260) tw_687 ⟨Nat.le_of_ble_eq_true rfl, Nat.le_of_ble_eq_true rfl⟩ rfl hl.1 (Nat.le_of_ble_eq_true rfl) ⟨Nat.le_refl _, Nat.le_refl _⟩ hP hS dX5_stonesBehind_17) hS (fun H locs hP hS => ?_)
  exact r_reti C hP hS (rt_ow1 h) (rt_ow2 h) dX5_stonesBehind_20

set_option maxRecDepth 100000 in
set_option maxHeartbeats 4000000 in
theorem wfX8_allAt_L4 {l : Launch} {g : Gw} {p : Program} {e : Env} {s : State} {m : MethodId} {args : Array Value} {below : List Frame} {meth : Method} {c : Code} {σ : Sto} (C : Cx wkX g p s m args meth c cX8_allAt 4 RX8 (some .int)) (v0 : Nat) (hv0 : isV v0) {Rz : Int32} : ∀ (n : Nat) (x1 : Int32) (x2 : Int32) (x3 : Int32) (H : Heap) (locs : List Loc) (ls : Array Slot), fX8_allAt_L4 v0 σ n x1 x2 x3 = some Rz → wS wkX g σ H → va_S (AS wkX g) s.heap H locs → lv_has ls 4 [(0, .ref (adG g v0)), (1, .int x1), (2, .int x2), (3, .int x3)] → W p l e (rmS 0) s m args below meth c H locs 0 0 (MQ below (QiS wkX g σ Rz) args s 0 0 (AS wkX g)) (F0 m 4 ls []) := by
  intro n
  induction n with
  | zero =>
    intro x1 x2 x3 H locs ls h
    cases h
  | succ n ih =>
    intro x1 x2 x3 H locs ls h hP hS hl
    obtain ⟨hx, hb, hml, hown, hts, hr, hlk, hK, hZ⟩ := id C
    rw [fX8_allAt_L4] at h
    refine lv_iload_n hx hb dX8_allAt_4 rfl (lv_at hl 3 rfl) ?_
    refine lv_aload_n hx hb dX8_allAt_5 rfl (lv_at hl 0 rfl) ?_
    refine r_geti C cf_8 hP (sv_0 hv0) (kv_0 hv0) 1 (by decide) rfl tw_69 dX8_allAt_6 ?_
    refine lv_icmp_ge (tgt := 34) hx hb dX8_allAt_9 (by decide) (fun c_ => ?_) (fun c_ => ?_)
    · replace h := if_t c_ h
      refine lv_iload_n hx hb dX8_allAt_34 rfl (lv_at hl 2 rfl) ?_
      exact r_reti C hP hS rfl (rt_o h) dX8_allAt_35
    · replace h := if_f c_ h
      refine lv_aload_n hx hb dX8_allAt_12 rfl (lv_at hl 0 rfl) ?_
      refine r_getr C cf_8 hP (sv_0 hv0) (kv_0 hv0) 10 (by decide) rfl tw_78 dX8_allAt_13 ?_
      refine lv_iload_n hx hb dX8_allAt_16 rfl (lv_at hl 3 rfl) ?_
      obtain ⟨g_1, h⟩ := gd_inv h
      refine r_iald C hP (sv_6 hv0) (kv_6 hv0) rfl g_1 dX8_allAt_17 ?_
      refine lv_iload_n hx hb dX8_allAt_18 rfl (lv_at hl 1 rfl) ?_
      refine lv_icmp_ne (tgt := 28) hx hb dX8_allAt_19 (by decide) (fun c_ => ?_) (fun c_ => ?_)
      · replace h := if_f c_ h
        obtain ⟨x_2, ex_2⟩ : ∃ y : Int32, y = x3 + (1 : Int32) := ⟨_, rfl⟩
        replace h := un_at ex_2 h
        refine lv_iinc (v := x_2) (lv' := [(3, .int x_2), (0, .ref (adG g v0)), (1, .int x1), (2, .int x2)]) hx hb dX8_allAt_28 hl (k := 3) rfl (by rw [ex_2]; rfl) (by decide) rfl (fun ls hl => ?_)
        refine lv_goto (tgt := 4) hx hb dX8_allAt_31 (by decide) ?_
        exact ih x1 x2 x_2 H locs ls h hP hS (lv_sub hl [1, 2, 3, 0] rfl)
      · replace h := if_t c_ h
        refine lv_iload_n hx hb dX8_allAt_22 rfl (lv_at hl 2 rfl) ?_
        refine lv_iconst (v := 1) hx hb dX8_allAt_23 (by decide) ?_
        refine lv_iload_n hx hb dX8_allAt_24 rfl (lv_at hl 3 rfl) ?_
        refine lv_ishl hx hb dX8_allAt_25 ?_
        refine lv_ior hx hb dX8_allAt_26 ?_
        refine lv_topi (fun x_3 ex_3 => ?_)
        replace h := un_at ex_3 h
        refine lv_istore_n (lv' := [(2, .int x_3), (0, .ref (adG g v0)), (1, .int x1), (3, .int x3)]) hx hb dX8_allAt_27 rfl hl (by decide) rfl (fun ls hl => ?_)
        obtain ⟨x_4, ex_4⟩ : ∃ y : Int32, y = x3 + (1 : Int32) := ⟨_, rfl⟩
        replace h := un_at ex_4 h
        refine lv_iinc (v := x_4) (lv' := [(3, .int x_4), (2, .int x_3), (0, .ref (adG g v0)), (1, .int x1)]) hx hb dX8_allAt_28 hl (k := 3) rfl (by rw [ex_4]; rfl) (by decide) rfl (fun ls hl => ?_)
        refine lv_goto (tgt := 4) hx hb dX8_allAt_31 (by decide) ?_
        exact ih x1 x_3 x_4 H locs ls h hP hS (lv_sub hl [2, 3, 1, 0] rfl)

set_option maxRecDepth 100000 in
set_option maxHeartbeats 4000000 in
theorem ctX8_allAt {l : Launch} {g : Gw} {σ : Sto} (v0 : Nat) (hv0 : isV v0) (x1 : Int32) {Rz : Int32} (h : fX8_allAt σ v0 x1 = some Rz) : MtG l yX8_allAt cX8_allAt 4 (some .int) 0 wkX g [.ref (adG g v0), .int x1] σ (QiS wkX g σ Rz) := by
  refine mt_of (by decide) (Nat.le_of_ble_eq_true rfl) (fun p e s m below meth c ls H locs C hP hS hl => ?_)
  have C : Cx wkX g p s m _ meth c cX8_allAt 4 RX8 (some .int) := C
  have hl : lv_has ls 4 [(0, .ref (adG g v0)), (1, .int x1)] := hl
  obtain ⟨hx, hb, hml, hown, hts, hr, hlk, hK, hZ⟩ := id C
  unfold fX8_allAt at h
  refine lv_iconst (v := 0) hx hb dX8_allAt_0 (by decide) ?_
  refine lv_istore_n (lv' := [(2, .int (0 : Int32)), (0, .ref (adG g v0)), (1, .int x1)]) hx hb dX8_allAt_1 rfl hl (by decide) rfl (fun ls hl => ?_)
  refine lv_iconst (v := 0) hx hb dX8_allAt_2 (by decide) ?_
  refine lv_istore_n (lv' := [(3, .int (0 : Int32)), (2, .int (0 : Int32)), (0, .ref (adG g v0)), (1, .int x1)]) hx hb dX8_allAt_3 rfl hl (by decide) rfl (fun ls hl => ?_)
  exact wfX8_allAt_L4 C v0 hv0 fu x1 (0 : Int32) (0 : Int32) H locs ls h hP hS (lv_sub hl [2, 3, 1, 0] rfl)

set_option maxRecDepth 100000 in
set_option maxHeartbeats 4000000 in
theorem ctX5_outsBehind {l : Launch} {g : Gw} {σ : Sto} (v1 : Nat) (hv1 : isV v1) (x2 : Int32) {Rz : (Sto × Int32)} (h : fX5_outsBehind σ v1 x2 = some Rz) : MtG l yX5_outsBehind cX5_outsBehind 3 (some .int) 5 wkX g [.ref (adG g 10), .ref (adG g v1), .int x2] σ (QiS wkX g Rz.1 Rz.2) := by
  refine mt_of (by decide) (Nat.le_of_ble_eq_true rfl) (fun p e s m below meth c ls H locs C hP hS hl => ?_)
  have C : Cx wkX g p s m _ meth c cX5_outsBehind 3 RX5 (some .int) := C
  have hl : lv_has ls 3 [(0, .ref (adG g 10)), (1, .ref (adG g v1)), (2, .int x2)] := hl
  obtain ⟨hx, hb, hml, hown, hts, hr, hlk, hK, hZ⟩ := id C
  unfold fX5_outsBehind at h
  refine lv_aload_n hx hb dX5_outsBehind_0 rfl (lv_at hl 0 rfl) ?_
  refine r_getr C cf_5 hP sx_10 kx_10 0 (by decide) rfl tw_92 dX5_outsBehind_1 ?_
  refine lv_aload_n hx hb dX5_outsBehind_4 rfl (lv_at hl 1 rfl) ?_
  obtain ⟨q_1, eq_1⟩ : ∃ z, z = fX8_become σ 260 v1 := ⟨_, rfl⟩
  replace h := un_at eq_1 h
  refine end_v (run_v (As := [.ref (adG g v1)]) (rest := []) C ca_X8_become (ctX8_become 260 iv_260 v1 hv1 eq_1.symm) cf_8 (sv_0 iv_260) (kv_0 iv_260) tw_681 ⟨Nat.le_of_ble_eq_true rfl, Nat.le_of_ble_eq_true rfl⟩ rfl hl.1 (Nat.le_of_ble_eq_true rfl) ⟨Nat.le_refl _, Nat.le_refl _⟩ hP hS dX5_outsBehind_5) hS (fun H locs hP hS => ?_)
  refine lv_aload_n hx hb dX5_outsBehind_8 rfl (lv_at hl 0 rfl) ?_
  refine lv_iload_n hx hb dX5_outsBehind_9 rfl (lv_at hl 2 rfl) ?_
  obtain ⟨q_2, hq_2, h⟩ := bd_inv h
  refine end_v (run_v (As := [.int x2]) (rest := []) C ca_X5_passTrial (ctX5_passTrial x2 hq_2) cf_5 sx_10 kx_10 tw_682 ⟨Nat.le_of_ble_eq_true rfl, Nat.le_of_ble_eq_true rfl⟩ rfl hl.1 (Nat.le_of_ble_eq_true rfl) ⟨Nat.le_refl _, Nat.le_refl _⟩ hP hS dX5_outsBehind_10) hS (fun H locs hP hS => ?_)
  refine lv_aload_n hx hb dX5_outsBehind_13 rfl (lv_at hl 0 rfl) ?_
  refine r_getr C cf_5 hP sx_10 kx_10 0 (by decide) rfl tw_92 dX5_outsBehind_14 ?_
  refine lv_bipush (v := 20) hx hb dX5_outsBehind_17 (by decide) ?_
  obtain ⟨q_3, hq_3, h⟩ := bd_inv h
  refine end_i (run_v (As := [.int (20 : Int32)]) (rest := []) C ca_X8_allAt (ctX8_allAt 260 iv_260 (20 : Int32) hq_3) cf_8 (sv_0 iv_260) (kv_0 iv_260) tw_692 ⟨Nat.le_of_ble_eq_true rfl, Nat.le_of_ble_eq_true rfl⟩ rfl hl.1 (Nat.le_of_ble_eq_true rfl) ⟨Nat.le_refl _, Nat.le_refl _⟩ hP hS dX5_outsBehind_19) hS (fun H locs hP hS => ?_)
  exact r_reti C hP hS (rt_ow1 h) (rt_ow2 h) dX5_outsBehind_22

set_option maxRecDepth 100000 in
set_option maxHeartbeats 4000000 in
theorem wfX5_frontBehind_L16 {l : Launch} {g : Gw} {p : Program} {e : Env} {s : State} {m : MethodId} {args : Array Value} {below : List Frame} {meth : Method} {c : Code} (C : Cx wkX g p s m args meth c cX5_frontBehind 4 RX5 (some .int)) (v1 : Nat) (hv1 : isV v1) {Rz : (Sto × Int32)} : ∀ (n : Nat) (σ : Sto) (x2 : Int32) (x3 : Int32) (H : Heap) (locs : List Loc) (ls : Array Slot), fX5_frontBehind_L16 v1 n σ x2 x3 = some Rz → wS wkX g σ H → va_S (AS wkX g) s.heap H locs → lv_has ls 4 [(0, .ref (adG g 10)), (2, .int x2), (3, .int x3)] → W p l e (rmS 4) s m args below meth c H locs 0 0 (MQ below (QiS wkX g Rz.1 Rz.2) args s 0 0 (AS wkX g)) (F0 m 16 ls []) := by
  intro n
  induction n with
  | zero =>
    intro σ x2 x3 H locs ls h
    cases h
  | succ n ih =>
    intro σ x2 x3 H locs ls h hP hS hl
    obtain ⟨hx, hb, hml, hown, hts, hr, hlk, hK, hZ⟩ := id C
    rw [fX5_frontBehind_L16] at h
    refine lv_iload_n hx hb dX5_frontBehind_16 rfl (lv_at hl 2 rfl) ?_
    refine lv_if_lt (tgt := 40) hx hb dX5_frontBehind_17 (by decide) (fun c_ => ?_) (fun c_ => ?_)
    · replace h := if_t c_ h
      refine lv_ldc hx hb hown (hts _ tw_708) dX5_frontBehind_40 ?_
      exact r_reti C hP hS (rt_ow1 h) (rt_ow2 h) dX5_frontBehind_42
    · replace h := if_f c_ h
      refine lv_aload_n hx hb dX5_frontBehind_20 rfl (lv_at hl 0 rfl) ?_
      refine r_getr C cf_5 hP sx_10 kx_10 1 (by decide) rfl tw_96 dX5_frontBehind_21 ?_
      refine lv_iload_n hx hb dX5_frontBehind_24 rfl (lv_at hl 2 rfl) ?_
      refine lv_iload_n hx hb dX5_frontBehind_25 rfl (lv_at hl 1 rfl) ?_
      obtain ⟨q_1, hq_1, h⟩ := bd_inv h
      refine end_i (run_v (As := [.int x3, .int x2]) (rest := []) C ca_X2_lavaIn (ctX2_lavaIn 11 if_11 x3 x2 hq_1) cf_2 (sf_0 if_11) (kf_0 if_11) tw_665 ⟨Nat.le_of_ble_eq_true rfl, Nat.le_of_ble_eq_true rfl⟩ rfl hl.1 (Nat.le_of_ble_eq_true rfl) ⟨Nat.le_refl _, Nat.le_refl _⟩ hP hS dX5_frontBehind_26) hS (fun H locs hP hS => ?_)
      refine lv_if_le (tgt := 34) hx hb dX5_frontBehind_29 (by decide) (fun c_ => ?_) (fun c_ => ?_)
      · replace h := if_t c_ h
        obtain ⟨x_2, ex_2⟩ : ∃ y : Int32, y = x3 + (-1 : Int32) := ⟨_, rfl⟩
        replace h := un_at ex_2 h
        refine lv_iinc (v := x_2) (lv' := [(3, .int x_2), (0, .ref (adG g 10)), (2, .int x2)]) hx hb dX5_frontBehind_34 hl (k := 2) rfl (by rw [ex_2]; rfl) (by decide) rfl (fun ls hl => ?_)
        refine lv_goto (tgt := 16) hx hb dX5_frontBehind_37 (by decide) ?_
        exact ih σ x2 x_2 H locs ls h hP hS (lv_sub hl [1, 2, 0] rfl)
      · replace h := if_f c_ h
        refine lv_iload_n hx hb dX5_frontBehind_32 rfl (lv_at hl 2 rfl) ?_
        exact r_reti C hP hS (rt_ow1 h) (rt_ow2 h) dX5_frontBehind_33

set_option maxRecDepth 100000 in
set_option maxHeartbeats 4000000 in
theorem ctX5_frontBehind {l : Launch} {g : Gw} {σ : Sto} (v1 : Nat) (hv1 : isV v1) (x2 : Int32) {Rz : (Sto × Int32)} (h : fX5_frontBehind σ v1 x2 = some Rz) : MtG l yX5_frontBehind cX5_frontBehind 4 (some .int) 4 wkX g [.ref (adG g 10), .ref (adG g v1), .int x2] σ (QiS wkX g Rz.1 Rz.2) := by
  refine mt_of (by decide) (Nat.le_of_ble_eq_true rfl) (fun p e s m below meth c ls H locs C hP hS hl => ?_)
  have C : Cx wkX g p s m _ meth c cX5_frontBehind 4 RX5 (some .int) := C
  have hl : lv_has ls 4 [(0, .ref (adG g 10)), (1, .ref (adG g v1)), (2, .int x2)] := hl
  obtain ⟨hx, hb, hml, hown, hts, hr, hlk, hK, hZ⟩ := id C
  unfold fX5_frontBehind at h
  refine lv_aload_n hx hb dX5_frontBehind_0 rfl (lv_at hl 0 rfl) ?_
  refine r_getr C cf_5 hP sx_10 kx_10 1 (by decide) rfl tw_96 dX5_frontBehind_1 ?_
  refine lv_aload_n hx hb dX5_frontBehind_4 rfl (lv_at hl 1 rfl) ?_
  refine lv_iload_n hx hb dX5_frontBehind_5 rfl (lv_at hl 2 rfl) ?_
  obtain ⟨q_1, hq_1, h⟩ := bd_inv h
  refine end_v (run_v (As := [.ref (adG g v1), .int x2]) (rest := []) C ca_X2_tell (ctX2_tell 11 if_11 v1 hv1 x2 hq_1) cf_2 (sf_0 if_11) (kf_0 if_11) tw_626 ⟨Nat.le_of_ble_eq_true rfl, Nat.le_of_ble_eq_true rfl⟩ rfl hl.1 (Nat.le_of_ble_eq_true rfl) ⟨Nat.le_refl _, Nat.le_refl _⟩ hP hS dX5_frontBehind_6) hS (fun H locs hP hS => ?_)
  refine lv_aload_n hx hb dX5_frontBehind_9 rfl (lv_at hl 1 rfl) ?_
  refine r_geti C cf_8 hP (sv_0 hv1) (kv_0 hv1) 0 (by decide) rfl tw_731 dX5_frontBehind_10 ?_
  refine lv_iconst (v := 1) hx hb dX5_frontBehind_13 (by decide) ?_
  refine lv_isub hx hb dX5_frontBehind_14 ?_
  refine lv_topi (fun x_2 ex_2 => ?_)
  replace h := un_at ex_2 h
  refine lv_istore_n (lv' := [(3, .int x_2), (0, .ref (adG g 10)), (1, .ref (adG g v1)), (2, .int x2)]) hx hb dX5_frontBehind_15 rfl hl (by decide) rfl (fun ls hl => ?_)
  exact wfX5_frontBehind_L16 C v1 hv1 fu q_1 x2 x_2 H locs ls h hP hS (lv_sub hl [1, 3, 0] rfl)

set_option maxRecDepth 100000 in
set_option maxHeartbeats 4000000 in
theorem ctX5_isCome {l : Launch} {g : Gw} {σ : Sto} (x1 : Int32) (x2 : Int32) (x3 : Int32) {Rz : Int32} (h : fX5_isCome σ x1 x2 x3 = some Rz) : MtG l yX5_isCome cX5_isCome 4 (some .boolean) 1 wkX g [.ref (adG g 10), .int x1, .int x2, .int x3] σ (QiS wkX g σ Rz) := by
  refine mt_of (by decide) (Nat.le_of_ble_eq_true rfl) (fun p e s m below meth c ls H locs C hP hS hl => ?_)
  have C : Cx wkX g p s m _ meth c cX5_isCome 4 RX5 (some .boolean) := C
  have hl : lv_has ls 4 [(0, .ref (adG g 10)), (1, .int x1), (2, .int x2), (3, .int x3)] := hl
  obtain ⟨hx, hb, hml, hown, hts, hr, hlk, hK, hZ⟩ := id C
  unfold fX5_isCome at h
  refine lv_iload_n hx hb dX5_isCome_0 rfl (lv_at hl 2 rfl) ?_
  by_cases c_1 : x2 = (0 : Int32)
  · replace h := if_t c_1 h
    refine r_lin (tgt := 28) hx hb dX5_isCome_1 c_1 (by decide) rfl (by decide) ?_
    refine lv_iload_n hx hb dX5_isCome_28 rfl (lv_at hl 1 rfl) ?_
    refine lv_bipush (v := 30) hx hb dX5_isCome_29 (by decide) ?_
    refine lv_icmp_ge (tgt := 52) hx hb dX5_isCome_31 (by decide) (fun c_ => ?_) (fun c_ => ?_)
    · replace h := if_t c_ h
      refine lv_iconst (v := 1) hx hb dX5_isCome_52 (by decide) ?_
      refine lv_goto (tgt := 57) hx hb dX5_isCome_53 (by decide) ?_
      exact r_retz C hP hS rfl (rt_o h) rfl dX5_isCome_57
    · replace h := if_f c_ h
      refine lv_iload_n hx hb dX5_isCome_34 rfl (lv_at hl 1 rfl) ?_
      refine lv_bipush (v := 20) hx hb dX5_isCome_35 (by decide) ?_
      refine lv_icmp_ge (tgt := 56) hx hb dX5_isCome_37 (by decide) (fun c_ => ?_) (fun c_ => ?_)
      · replace h := if_t c_ h
        refine lv_iconst (v := 0) hx hb dX5_isCome_56 (by decide) ?_
        exact r_retz C hP hS rfl (rt_o h) rfl dX5_isCome_57
      · replace h := if_f c_ h
        refine lv_aload_n hx hb dX5_isCome_40 rfl (lv_at hl 0 rfl) ?_
        refine r_getr C cf_5 hP sx_10 kx_10 1 (by decide) rfl tw_96 dX5_isCome_41 ?_
        refine lv_iload_n hx hb dX5_isCome_44 rfl (lv_at hl 1 rfl) ?_
        refine lv_iload_n hx hb dX5_isCome_45 rfl (lv_at hl 3 rfl) ?_
        obtain ⟨q_2, hq_2, h⟩ := bd_inv h
        refine end_i (run_v (As := [.int x1, .int x3]) (rest := []) C ca_X2_lavaIn (ctX2_lavaIn 11 if_11 x1 x3 hq_2) cf_2 (sf_0 if_11) (kf_0 if_11) tw_665 ⟨Nat.le_of_ble_eq_true rfl, Nat.le_of_ble_eq_true rfl⟩ rfl hl.1 (Nat.le_of_ble_eq_true rfl) ⟨Nat.le_refl _, Nat.le_refl _⟩ hP hS dX5_isCome_46) hS (fun H locs hP hS => ?_)
        refine lv_if_le (tgt := 56) hx hb dX5_isCome_49 (by decide) (fun c_ => ?_) (fun c_ => ?_)
        · replace h := if_t c_ h
          refine lv_iconst (v := 0) hx hb dX5_isCome_56 (by decide) ?_
          exact r_retz C hP hS rfl (rt_o h) rfl dX5_isCome_57
        · replace h := if_f c_ h
          refine lv_iconst (v := 1) hx hb dX5_isCome_52 (by decide) ?_
          refine lv_goto (tgt := 57) hx hb dX5_isCome_53 (by decide) ?_
          exact r_retz C hP hS rfl (rt_o h) rfl dX5_isCome_57
  replace h := if_f c_1 h
  by_cases c_3 : x2 = (1 : Int32)
  · replace h := if_t c_3 h
    refine r_lin (tgt := 58) hx hb dX5_isCome_1 c_3 (by decide) rfl (by decide) ?_
    refine lv_iload_n hx hb dX5_isCome_58 rfl (lv_at hl 1 rfl) ?_
    refine lv_bipush (v := 30) hx hb dX5_isCome_59 (by decide) ?_
    refine lv_icmp_lt (tgt := 68) hx hb dX5_isCome_61 (by decide) (fun c_ => ?_) (fun c_ => ?_)
    · replace h := if_t c_ h
      refine lv_iconst (v := 0) hx hb dX5_isCome_68 (by decide) ?_
      exact r_retz C hP hS rfl (rt_o h) rfl dX5_isCome_69
    · replace h := if_f c_ h
      refine lv_iconst (v := 1) hx hb dX5_isCome_64 (by decide) ?_
      refine lv_goto (tgt := 69) hx hb dX5_isCome_65 (by decide) ?_
      exact r_retz C hP hS rfl (rt_o h) rfl dX5_isCome_69
  replace h := if_f c_3 h
  refine lv_lookup (off := 69) (tgt := 70) hx hb dX5_isCome_1 (by decide) (by show Op.lookupswitch.offset [(0, 27), (1, 57)] _ _ = _; rw [lv_osw (a := 0) c_1 rfl, lv_osw (a := 1) c_3 rfl]; rfl) (by decide) ?_
  refine lv_iload_n hx hb dX5_isCome_70 rfl (lv_at hl 1 rfl) ?_
  refine lv_bipush (v := 20) hx hb dX5_isCome_71 (by decide) ?_
  refine lv_icmp_ne (tgt := 80) hx hb dX5_isCome_73 (by decide) (fun c_ => ?_) (fun c_ => ?_)
  · replace h := if_f c_ h
    refine lv_iconst (v := 0) hx hb dX5_isCome_80 (by decide) ?_
    exact r_retz C hP hS rfl (rt_o h) rfl dX5_isCome_81
  · replace h := if_t c_ h
    refine lv_iconst (v := 1) hx hb dX5_isCome_76 (by decide) ?_
    refine lv_goto (tgt := 81) hx hb dX5_isCome_77 (by decide) ?_
    exact r_retz C hP hS rfl (rt_o h) rfl dX5_isCome_81

set_option maxRecDepth 100000 in
set_option maxHeartbeats 4000000 in
theorem wfX5_firstDay_L21 {l : Launch} {g : Gw} {p : Program} {e : Env} {s : State} {m : MethodId} {args : Array Value} {below : List Frame} {meth : Method} {c : Code} (C : Cx wkX g p s m args meth c cX5_firstDay 6 RX5 (some .int)) (v1 : Nat) (hv1 : isV v1) {Rz : (Sto × Int32)} {k_64 : Sto → Int32 → Int32 → Option (Sto × Int32)} : ∀ (n : Nat) (σ : Sto) (x2 : Int32) (x3 : Int32) (x4 : Int32) (x5 : Int32) (H : Heap) (locs : List Loc) (ls : Array Slot), fX5_firstDay_L21 k_64 v1 n σ x2 x3 x4 x5 = some Rz → wS wkX g σ H → va_S (AS wkX g) s.heap H locs → lv_has ls 6 [(0, .ref (adG g 10)), (1, .ref (adG g v1)), (2, .int x2), (3, .int x3), (4, .int x4), (5, .int x5)] → (∀ (σ : Sto) (x3 : Int32) (x4 : Int32) (H : Heap) (locs : List Loc) (ls : Array Slot), k_64 σ x3 x4 = some Rz → wS wkX g σ H → va_S (AS wkX g) s.heap H locs → lv_has ls 6 [(0, .ref (adG g 10)), (3, .int x3), (4, .int x4)] → W p l e (rmS 4) s m args below meth c H locs 0 0 (MQ below (QiS wkX g Rz.1 Rz.2) args s 0 0 (AS wkX g)) (F0 m 64 ls [])) → W p l e (rmS 4) s m args below meth c H locs 0 0 (MQ below (QiS wkX g Rz.1 Rz.2) args s 0 0 (AS wkX g)) (F0 m 21 ls []) := by
  intro n
  induction n with
  | zero =>
    intro σ x2 x3 x4 x5 H locs ls h
    cases h
  | succ n ih =>
    intro σ x2 x3 x4 x5 H locs ls h hP hS hl hk_64
    obtain ⟨hx, hb, hml, hown, hts, hr, hlk, hK, hZ⟩ := id C
    rw [fX5_firstDay_L21] at h
    refine lv_iload hx hb dX5_firstDay_21 (lv_at hl 5 rfl) ?_
    refine lv_bipush (v := 60) hx hb dX5_firstDay_23 (by decide) ?_
    refine lv_icmp_ge (tgt := 64) hx hb dX5_firstDay_25 (by decide) (fun c_ => ?_) (fun c_ => ?_)
    · replace h := if_t c_ h
      exact hk_64 σ x3 x4 H locs ls h hP hS (lv_sub hl [0, 3, 4] rfl)
    · replace h := if_f c_ h
      refine lv_aload_n hx hb dX5_firstDay_28 rfl (lv_at hl 0 rfl) ?_
      refine lv_iload hx hb dX5_firstDay_29 (lv_at hl 4 rfl) ?_
      refine lv_iload_n hx hb dX5_firstDay_31 rfl (lv_at hl 3 rfl) ?_
      refine lv_iload hx hb dX5_firstDay_32 (lv_at hl 5 rfl) ?_
      obtain ⟨q_1, hq_1, h⟩ := bd_inv h
      refine end_i (run_v (As := [.int x4, .int x3, .int x5]) (rest := []) C ca_X5_isCome (ctX5_isCome x4 x3 x5 hq_1) cf_5 sx_10 kx_10 tw_709 ⟨Nat.le_of_ble_eq_true rfl, Nat.le_of_ble_eq_true rfl⟩ rfl hl.1 (Nat.le_of_ble_eq_true rfl) ⟨Nat.le_refl _, Nat.le_refl _⟩ hP hS dX5_firstDay_34) hS (fun H locs hP hS => ?_)
      refine lv_if_eq (tgt := 43) hx hb dX5_firstDay_37 (by decide) (fun c_ => ?_) (fun c_ => ?_)
      · replace h := if_t c_ h
        refine lv_aload_n hx hb dX5_firstDay_43 rfl (lv_at hl 0 rfl) ?_
        refine r_getr C cf_5 hP sx_10 kx_10 1 (by decide) rfl tw_96 dX5_firstDay_44 ?_
        refine lv_aload_n hx hb dX5_firstDay_47 rfl (lv_at hl 1 rfl) ?_
        refine lv_iload_n hx hb dX5_firstDay_48 rfl (lv_at hl 2 rfl) ?_
        refine lv_iload hx hb dX5_firstDay_49 (lv_at hl 4 rfl) ?_
        refine lv_iload hx hb dX5_firstDay_51 (lv_at hl 5 rfl) ?_
        obtain ⟨q_2, hq_2, h⟩ := bd_inv h
        refine end_i (run_v (As := [.ref (adG g v1), .int x2, .int x4, .int x5]) (rest := []) C ca_X2_placeAfter (ctX2_placeAfter 11 if_11 v1 hv1 x2 x4 x5 hq_2) cf_2 (sf_0 if_11) (kf_0 if_11) tw_713 ⟨Nat.le_of_ble_eq_true rfl, Nat.le_of_ble_eq_true rfl⟩ rfl hl.1 (Nat.le_of_ble_eq_true rfl) ⟨Nat.le_refl _, Nat.le_refl _⟩ hP hS dX5_firstDay_53) hS (fun H locs hP hS => ?_)
        refine lv_istore (lv' := [(4, .int q_2), (0, .ref (adG g 10)), (1, .ref (adG g v1)), (2, .int x2), (3, .int x3), (5, .int x5)]) hx hb dX5_firstDay_56 hl (by decide) rfl (fun ls hl => ?_)
        obtain ⟨x_3, ex_3⟩ : ∃ y : Int32, y = x5 + (1 : Int32) := ⟨_, rfl⟩
        replace h := un_at ex_3 h
        refine lv_iinc (v := x_3) (lv' := [(5, .int x_3), (4, .int q_2), (0, .ref (adG g 10)), (1, .ref (adG g v1)), (2, .int x2), (3, .int x3)]) hx hb dX5_firstDay_58 hl (k := 5) rfl (by rw [ex_3]; rfl) (by decide) rfl (fun ls hl => ?_)
        refine lv_goto (tgt := 21) hx hb dX5_firstDay_61 (by decide) ?_
        exact ih σ x2 x3 q_2 x_3 H locs ls h hP hS (lv_sub hl [2, 3, 4, 5, 1, 0] rfl) hk_64
      · replace h := if_f c_ h
        refine lv_iload hx hb dX5_firstDay_40 (lv_at hl 5 rfl) ?_
        exact r_reti C hP hS (rt_ow1 h) (rt_ow2 h) dX5_firstDay_42

set_option maxRecDepth 100000 in
set_option maxHeartbeats 4000000 in
theorem ctX5_firstDay {l : Launch} {g : Gw} {σ : Sto} (v1 : Nat) (hv1 : isV v1) (x2 : Int32) (x3 : Int32) {Rz : (Sto × Int32)} (h : fX5_firstDay σ v1 x2 x3 = some Rz) : MtG l yX5_firstDay cX5_firstDay 6 (some .int) 4 wkX g [.ref (adG g 10), .ref (adG g v1), .int x2, .int x3] σ (QiS wkX g Rz.1 Rz.2) := by
  refine mt_of (by decide) (Nat.le_of_ble_eq_true rfl) (fun p e s m below meth c ls H locs C hP hS hl => ?_)
  have C : Cx wkX g p s m _ meth c cX5_firstDay 6 RX5 (some .int) := C
  have hl : lv_has ls 6 [(0, .ref (adG g 10)), (1, .ref (adG g v1)), (2, .int x2), (3, .int x3)] := hl
  obtain ⟨hx, hb, hml, hown, hts, hr, hlk, hK, hZ⟩ := id C
  unfold fX5_firstDay at h
  refine lv_aload_n hx hb dX5_firstDay_0 rfl (lv_at hl 0 rfl) ?_
  refine r_getr C cf_5 hP sx_10 kx_10 1 (by decide) rfl tw_96 dX5_firstDay_1 ?_
  refine lv_aload_n hx hb dX5_firstDay_4 rfl (lv_at hl 1 rfl) ?_
  refine lv_bipush (v := 60) hx hb dX5_firstDay_5 (by decide) ?_
  obtain ⟨q_1, hq_1, h⟩ := bd_inv h
  refine end_v (run_v (As := [.ref (adG g v1), .int (60 : Int32)]) (rest := []) C ca_X2_tell (ctX2_tell 11 if_11 v1 hv1 (60 : Int32) hq_1) cf_2 (sf_0 if_11) (kf_0 if_11) tw_626 ⟨Nat.le_of_ble_eq_true rfl, Nat.le_of_ble_eq_true rfl⟩ rfl hl.1 (Nat.le_of_ble_eq_true rfl) ⟨Nat.le_refl _, Nat.le_refl _⟩ hP hS dX5_firstDay_7) hS (fun H locs hP hS => ?_)
  refine lv_aload_n hx hb dX5_firstDay_10 rfl (lv_at hl 1 rfl) ?_
  refine r_getr C cf_8 hP (sv_0 hv1) (kv_0 hv1) 10 (by decide) rfl tw_625 dX5_firstDay_11 ?_
  refine lv_iload_n hx hb dX5_firstDay_14 rfl (lv_at hl 2 rfl) ?_
  obtain ⟨g_2, h⟩ := gd_inv h
  refine r_iald C hP (sv_6 hv1) (kv_6 hv1) rfl g_2 dX5_firstDay_15 ?_
  refine lv_topi (fun x_3 ex_3 => ?_)
  replace h := un_at ex_3 h
  refine lv_istore (lv' := [(4, .int x_3), (0, .ref (adG g 10)), (1, .ref (adG g v1)), (2, .int x2), (3, .int x3)]) hx hb dX5_firstDay_16 hl (by decide) rfl (fun ls hl => ?_)
  refine lv_iconst (v := 0) hx hb dX5_firstDay_18 (by decide) ?_
  refine lv_istore (lv' := [(5, .int (0 : Int32)), (4, .int x_3), (0, .ref (adG g 10)), (1, .ref (adG g v1)), (2, .int x2), (3, .int x3)]) hx hb dX5_firstDay_19 hl (by decide) rfl (fun ls hl => ?_)
  refine wfX5_firstDay_L21 C v1 hv1 fu q_1 x2 x3 x_3 (0 : Int32) H locs ls h hP hS (lv_sub hl [2, 3, 4, 5, 1, 0] rfl) (fun σ_4 z_5 z_6 H locs ls h hP hS hl => ?_)
  refine lv_aload_n hx hb dX5_firstDay_64 rfl (lv_at hl 0 rfl) ?_
  refine lv_iload hx hb dX5_firstDay_65 (lv_at hl 2 rfl) ?_
  refine lv_iload_n hx hb dX5_firstDay_67 rfl (lv_at hl 1 rfl) ?_
  refine lv_bipush (v := 60) hx hb dX5_firstDay_68 (by decide) ?_
  obtain ⟨q_7, hq_7, h⟩ := bd_inv h
  refine end_i (run_v (As := [.int z_6, .int z_5, .int (60 : Int32)]) (rest := []) C ca_X5_isCome (ctX5_isCome z_6 z_5 (60 : Int32) hq_7) cf_5 sx_10 kx_10 tw_709 ⟨Nat.le_of_ble_eq_true rfl, Nat.le_of_ble_eq_true rfl⟩ rfl hl.1 (Nat.le_of_ble_eq_true rfl) ⟨Nat.le_refl _, Nat.le_refl _⟩ hP hS dX5_firstDay_70) hS (fun H locs hP hS => ?_)
  refine lv_if_eq (tgt := 81) hx hb dX5_firstDay_73 (by decide) (fun c_ => ?_) (fun c_ => ?_)
  · replace h := if_t c_ h
    refine lv_ldc hx hb hown (hts _ tw_708) dX5_firstDay_81 ?_
    exact r_reti C hP hS (rt_ow1 h) (rt_ow2 h) dX5_firstDay_83
  · replace h := if_f c_ h
    refine lv_bipush (v := 60) hx hb dX5_firstDay_76 (by decide) ?_
    refine lv_goto (tgt := 83) hx hb dX5_firstDay_78 (by decide) ?_
    exact r_reti C hP hS (rt_ow1 h) (rt_ow2 h) dX5_firstDay_83

set_option maxRecDepth 100000 in
set_option maxHeartbeats 4000000 in
theorem ctX5_stonesWithDam {l : Launch} {g : Gw} {σ : Sto} (v1 : Nat) (hv1 : isV v1) (x2 : Int32) (x3 : Int32) (x4 : Int32) {Rz : (Sto × Int32)} (h : fX5_stonesWithDam σ v1 x2 x3 x4 = some Rz) : MtG l yX5_stonesWithDam cX5_stonesWithDam 5 (some .int) 5 wkX g [.ref (adG g 10), .ref (adG g v1), .int x2, .int x3, .int x4] σ (QiS wkX g Rz.1 Rz.2) := by
  refine mt_of (by decide) (Nat.le_of_ble_eq_true rfl) (fun p e s m below meth c ls H locs C hP hS hl => ?_)
  have C : Cx wkX g p s m _ meth c cX5_stonesWithDam 5 RX5 (some .int) := C
  have hl : lv_has ls 5 [(0, .ref (adG g 10)), (1, .ref (adG g v1)), (2, .int x2), (3, .int x3), (4, .int x4)] := hl
  obtain ⟨hx, hb, hml, hown, hts, hr, hlk, hK, hZ⟩ := id C
  unfold fX5_stonesWithDam at h
  refine lv_aload_n hx hb dX5_stonesWithDam_0 rfl (lv_at hl 0 rfl) ?_
  refine r_getr C cf_5 hP sx_10 kx_10 0 (by decide) rfl tw_92 dX5_stonesWithDam_1 ?_
  refine lv_aload_n hx hb dX5_stonesWithDam_4 rfl (lv_at hl 1 rfl) ?_
  obtain ⟨q_1, eq_1⟩ : ∃ z, z = fX8_become σ 260 v1 := ⟨_, rfl⟩
  replace h := un_at eq_1 h
  refine end_v (run_v (As := [.ref (adG g v1)]) (rest := []) C ca_X8_become (ctX8_become 260 iv_260 v1 hv1 eq_1.symm) cf_8 (sv_0 iv_260) (kv_0 iv_260) tw_681 ⟨Nat.le_of_ble_eq_true rfl, Nat.le_of_ble_eq_true rfl⟩ rfl hl.1 (Nat.le_of_ble_eq_true rfl) ⟨Nat.le_refl _, Nat.le_refl _⟩ hP hS dX5_stonesWithDam_5) hS (fun H locs hP hS => ?_)
  refine lv_aload_n hx hb dX5_stonesWithDam_8 rfl (lv_at hl 0 rfl) ?_
  refine r_getr C cf_5 hP sx_10 kx_10 0 (by decide) rfl tw_92 dX5_stonesWithDam_9 ?_
  refine r_getr C cf_8 hP (sv_0 iv_260) (kv_0 iv_260) 7 (by decide) rfl tw_803 dX5_stonesWithDam_12 ?_
  refine lv_iload_n hx hb dX5_stonesWithDam_15 rfl (lv_at hl 2 rfl) ?_
  refine lv_iload_n hx hb dX5_stonesWithDam_16 rfl (lv_at hl 3 rfl) ?_
  obtain ⟨g_2, h⟩ := gd_inv h
  refine r_iast C hP hS (sv_3 iv_260) (kv_3 iv_260) rfl g_2 dX5_stonesWithDam_17 (fun H locs σ_3 eσ_3 hP hS => ?_)
  replace h := un_at eσ_3 h
  refine lv_aload_n hx hb dX5_stonesWithDam_18 rfl (lv_at hl 0 rfl) ?_
  refine lv_iload hx hb dX5_stonesWithDam_19 (lv_at hl 4 rfl) ?_
  obtain ⟨q_4, hq_4, h⟩ := bd_inv h
  refine end_v (run_v (As := [.int x4]) (rest := []) C ca_X5_passTrial (ctX5_passTrial x4 hq_4) cf_5 sx_10 kx_10 tw_682 ⟨Nat.le_of_ble_eq_true rfl, Nat.le_of_ble_eq_true rfl⟩ rfl hl.1 (Nat.le_of_ble_eq_true rfl) ⟨Nat.le_refl _, Nat.le_refl _⟩ hP hS dX5_stonesWithDam_21) hS (fun H locs hP hS => ?_)
  refine lv_aload_n hx hb dX5_stonesWithDam_24 rfl (lv_at hl 0 rfl) ?_
  refine r_getr C cf_5 hP sx_10 kx_10 0 (by decide) rfl tw_92 dX5_stonesWithDam_25 ?_
  obtain ⟨q_5, hq_5, h⟩ := bd_inv h
  refine end_i (run_v (As := []) (rest := []) C ca_X8_stones (ctX8_stones 260 iv_260 hq_5) cf_8 (sv_0 iv_260) (kv_0 iv_260) tw_687 ⟨Nat.le_of_ble_eq_true rfl, Nat.le_of_ble_eq_true rfl⟩ rfl hl.1 (Nat.le_of_ble_eq_true rfl) ⟨Nat.le_refl _, Nat.le_refl _⟩ hP hS dX5_stonesWithDam_28) hS (fun H locs hP hS => ?_)
  refine end_i (run_s (As := [.int q_5]) (rest := []) C ca_J6_bitCount_0f7a4 (ctJ6_bitCount_0f7a4 q_5 rfl) tw_804 ⟨Nat.le_of_ble_eq_true rfl, Nat.le_of_ble_eq_true rfl⟩ rfl hl.1 (Nat.le_of_ble_eq_true rfl) ⟨Nat.le_refl _, Nat.le_refl _⟩ hP hS dX5_stonesWithDam_31) hS (fun H locs hP hS => ?_)
  exact r_reti C hP hS (rt_ow1 h) (rt_ow2 h) dX5_stonesWithDam_34

set_option maxRecDepth 100000 in
set_option maxHeartbeats 4000000 in
theorem wfX5_bestDam_L10 {l : Launch} {g : Gw} {p : Program} {e : Env} {s : State} {m : MethodId} {args : Array Value} {below : List Frame} {meth : Method} {c : Code} (C : Cx wkX g p s m args meth c cX5_bestDam 8 RX5 (some .int)) (v1 : Nat) (hv1 : isV v1) {Rz : (Sto × Int32)} : ∀ (n : Nat) (σ : Sto) (x2 : Int32) (x3 : Int32) (x4 : Int32) (x5 : Int32) (x6 : Int32) (H : Heap) (locs : List Loc) (ls : Array Slot), fX5_bestDam_L10 v1 n σ x2 x3 x4 x5 x6 = some Rz → wS wkX g σ H → va_S (AS wkX g) s.heap H locs → lv_has ls 8 [(0, .ref (adG g 10)), (1, .ref (adG g v1)), (2, .int x2), (3, .int x3), (4, .int x4), (5, .int x5), (6, .int x6)] → W p l e (rmS 6) s m args below meth c H locs 0 0 (MQ below (QiS wkX g Rz.1 Rz.2) args s 0 0 (AS wkX g)) (F0 m 10 ls []) := by
  intro n
  induction n with
  | zero =>
    intro σ x2 x3 x4 x5 x6 H locs ls h
    cases h
  | succ n ih =>
    intro σ x2 x3 x4 x5 x6 H locs ls h hP hS hl
    obtain ⟨hx, hb, hml, hown, hts, hr, hlk, hK, hZ⟩ := id C
    rw [fX5_bestDam_L10] at h
    refine lv_iload hx hb dX5_bestDam_10 (lv_at hl 6 rfl) ?_
    refine lv_aload_n hx hb dX5_bestDam_12 rfl (lv_at hl 1 rfl) ?_
    refine r_geti C cf_8 hP (sv_0 hv1) (kv_0 hv1) 0 (by decide) rfl tw_731 dX5_bestDam_13 ?_
    refine lv_icmp_ge (tgt := 51) hx hb dX5_bestDam_16 (by decide) (fun c_ => ?_) (fun c_ => ?_)
    · replace h := if_t c_ h
      refine lv_iload hx hb dX5_bestDam_51 (lv_at hl 4 rfl) ?_
      exact r_reti C hP hS (rt_ow1 h) (rt_ow2 h) dX5_bestDam_53
    · replace h := if_f c_ h
      refine lv_aload_n hx hb dX5_bestDam_19 rfl (lv_at hl 0 rfl) ?_
      refine lv_aload_n hx hb dX5_bestDam_20 rfl (lv_at hl 1 rfl) ?_
      refine lv_iload hx hb dX5_bestDam_21 (lv_at hl 6 rfl) ?_
      refine lv_iload_n hx hb dX5_bestDam_23 rfl (lv_at hl 2 rfl) ?_
      refine lv_iload_n hx hb dX5_bestDam_24 rfl (lv_at hl 3 rfl) ?_
      obtain ⟨q_1, hq_1, h⟩ := bd_inv h
      refine end_i (run_v (As := [.ref (adG g v1), .int x6, .int x2, .int x3]) (rest := []) C ca_X5_stonesWithDam (ctX5_stonesWithDam v1 hv1 x6 x2 x3 hq_1) cf_5 sx_10 kx_10 tw_799 ⟨Nat.le_of_ble_eq_true rfl, Nat.le_of_ble_eq_true rfl⟩ rfl hl.1 (Nat.le_of_ble_eq_true rfl) ⟨Nat.le_refl _, Nat.le_refl _⟩ hP hS dX5_bestDam_25) hS (fun H locs hP hS => ?_)
      refine lv_istore (lv' := [(7, .int q_1.2), (0, .ref (adG g 10)), (1, .ref (adG g v1)), (2, .int x2), (3, .int x3), (4, .int x4), (5, .int x5), (6, .int x6)]) hx hb dX5_bestDam_28 hl (by decide) rfl (fun ls hl => ?_)
      refine lv_iload hx hb dX5_bestDam_30 (lv_at hl 0 rfl) ?_
      refine lv_iload hx hb dX5_bestDam_32 (lv_at hl 6 rfl) ?_
      refine lv_icmp_ge (tgt := 45) hx hb dX5_bestDam_34 (by decide) (fun c_ => ?_) (fun c_ => ?_)
      · replace h := if_t c_ h
        obtain ⟨x_2, ex_2⟩ : ∃ y : Int32, y = x6 + (1 : Int32) := ⟨_, rfl⟩
        replace h := un_at ex_2 h
        refine lv_iinc (v := x_2) (lv' := [(6, .int x_2), (7, .int q_1.2), (0, .ref (adG g 10)), (1, .ref (adG g v1)), (2, .int x2), (3, .int x3), (4, .int x4), (5, .int x5)]) hx hb dX5_bestDam_45 hl (k := 7) rfl (by rw [ex_2]; rfl) (by decide) rfl (fun ls hl => ?_)
        refine lv_goto (tgt := 10) hx hb dX5_bestDam_48 (by decide) ?_
        exact ih q_1.1 x2 x3 x4 x5 x_2 H locs ls h hP hS (lv_sub hl [2, 3, 4, 5, 6, 7, 0] rfl)
      · replace h := if_f c_ h
        refine lv_iload hx hb dX5_bestDam_37 (lv_at hl 0 rfl) ?_
        refine lv_istore (lv' := [(5, .int q_1.2), (7, .int q_1.2), (0, .ref (adG g 10)), (1, .ref (adG g v1)), (2, .int x2), (3, .int x3), (4, .int x4), (6, .int x6)]) hx hb dX5_bestDam_39 hl (by decide) rfl (fun ls hl => ?_)
        refine lv_iload hx hb dX5_bestDam_41 (lv_at hl 7 rfl) ?_
        refine lv_istore (lv' := [(4, .int x6), (5, .int q_1.2), (7, .int q_1.2), (0, .ref (adG g 10)), (1, .ref (adG g v1)), (2, .int x2), (3, .int x3), (6, .int x6)]) hx hb dX5_bestDam_43 hl (by decide) rfl (fun ls hl => ?_)
        obtain ⟨x_3, ex_3⟩ : ∃ y : Int32, y = x6 + (1 : Int32) := ⟨_, rfl⟩
        replace h := un_at ex_3 h
        refine lv_iinc (v := x_3) (lv' := [(6, .int x_3), (4, .int x6), (5, .int q_1.2), (7, .int q_1.2), (0, .ref (adG g 10)), (1, .ref (adG g v1)), (2, .int x2), (3, .int x3)]) hx hb dX5_bestDam_45 hl (k := 7) rfl (by rw [ex_3]; rfl) (by decide) rfl (fun ls hl => ?_)
        refine lv_goto (tgt := 10) hx hb dX5_bestDam_48 (by decide) ?_
        exact ih q_1.1 x2 x3 x6 q_1.2 x_3 H locs ls h hP hS (lv_sub hl [4, 5, 6, 7, 1, 2, 0] rfl)

set_option maxRecDepth 100000 in
set_option maxHeartbeats 4000000 in
theorem ctX5_bestDam {l : Launch} {g : Gw} {σ : Sto} (v1 : Nat) (hv1 : isV v1) (x2 : Int32) (x3 : Int32) {Rz : (Sto × Int32)} (h : fX5_bestDam σ v1 x2 x3 = some Rz) : MtG l yX5_bestDam cX5_bestDam 8 (some .int) 6 wkX g [.ref (adG g 10), .ref (adG g v1), .int x2, .int x3] σ (QiS wkX g Rz.1 Rz.2) := by
  refine mt_of (by decide) (Nat.le_of_ble_eq_true rfl) (fun p e s m below meth c ls H locs C hP hS hl => ?_)
  have C : Cx wkX g p s m _ meth c cX5_bestDam 8 RX5 (some .int) := C
  have hl : lv_has ls 8 [(0, .ref (adG g 10)), (1, .ref (adG g v1)), (2, .int x2), (3, .int x3)] := hl
  obtain ⟨hx, hb, hml, hown, hts, hr, hlk, hK, hZ⟩ := id C
  unfold fX5_bestDam at h
  refine lv_iconst (v := 0) hx hb dX5_bestDam_0 (by decide) ?_
  refine lv_istore (lv' := [(4, .int (0 : Int32)), (0, .ref (adG g 10)), (1, .ref (adG g v1)), (2, .int x2), (3, .int x3)]) hx hb dX5_bestDam_1 hl (by decide) rfl (fun ls hl => ?_)
  refine lv_bipush (v := 7) hx hb dX5_bestDam_3 (by decide) ?_
  refine lv_istore (lv' := [(5, .int (7 : Int32)), (4, .int (0 : Int32)), (0, .ref (adG g 10)), (1, .ref (adG g v1)), (2, .int x2), (3, .int x3)]) hx hb dX5_bestDam_5 hl (by decide) rfl (fun ls hl => ?_)
  refine lv_iconst (v := 0) hx hb dX5_bestDam_7 (by decide) ?_
  refine lv_istore (lv' := [(6, .int (0 : Int32)), (5, .int (7 : Int32)), (4, .int (0 : Int32)), (0, .ref (adG g 10)), (1, .ref (adG g v1)), (2, .int x2), (3, .int x3)]) hx hb dX5_bestDam_8 hl (by decide) rfl (fun ls hl => ?_)
  exact wfX5_bestDam_L10 C v1 hv1 fu σ x2 x3 (0 : Int32) (7 : Int32) (0 : Int32) H locs ls h hP hS (lv_sub hl [3, 4, 5, 6, 2, 1, 0] rfl)

set_option maxRecDepth 100000 in
set_option maxHeartbeats 4000000 in
theorem wfX5_leastWall_L11 {l : Launch} {g : Gw} {p : Program} {e : Env} {s : State} {m : MethodId} {args : Array Value} {below : List Frame} {meth : Method} {c : Code} (C : Cx wkX g p s m args meth c cX5_leastWall 6 RX5 (some .int)) (v1 : Nat) (hv1 : isV v1) {Rz : (Sto × Int32)} : ∀ (n : Nat) (σ : Sto) (x2 : Int32) (x3 : Int32) (x4 : Int32) (x5 : Int32) (H : Heap) (locs : List Loc) (ls : Array Slot), fX5_leastWall_L11 v1 n σ x2 x3 x4 x5 = some Rz → wS wkX g σ H → va_S (AS wkX g) s.heap H locs → lv_has ls 6 [(0, .ref (adG g 10)), (2, .int x2), (3, .int x3), (4, .int x4), (5, .int x5)] → W p l e (rmS 4) s m args below meth c H locs 0 0 (MQ below (QiS wkX g Rz.1 Rz.2) args s 0 0 (AS wkX g)) (F0 m 11 ls []) := by
  intro n
  induction n with
  | zero =>
    intro σ x2 x3 x4 x5 H locs ls h
    cases h
  | succ n ih =>
    intro σ x2 x3 x4 x5 H locs ls h hP hS hl
    obtain ⟨hx, hb, hml, hown, hts, hr, hlk, hK, hZ⟩ := id C
    rw [fX5_leastWall_L11] at h
    refine lv_iload hx hb dX5_leastWall_11 (lv_at hl 4 rfl) ?_
    refine lv_bipush (v := 9) hx hb dX5_leastWall_13 (by decide) ?_
    refine lv_icmp_gt (tgt := 64) hx hb dX5_leastWall_15 (by decide) (fun c_ => ?_) (fun c_ => ?_)
    · replace h := if_t c_ h
      refine lv_ldc hx hb hown (hts _ tw_708) dX5_leastWall_64 ?_
      exact r_reti C hP hS (rt_ow1 h) (rt_ow2 h) dX5_leastWall_66
    · replace h := if_f c_ h
      refine lv_aload_n hx hb dX5_leastWall_18 rfl (lv_at hl 0 rfl) ?_
      refine r_getr C cf_5 hP sx_10 kx_10 0 (by decide) rfl tw_92 dX5_leastWall_19 ?_
      refine r_getr C cf_8 hP (sv_0 iv_260) (kv_0 iv_260) 7 (by decide) rfl tw_803 dX5_leastWall_22 ?_
      refine lv_iload_n hx hb dX5_leastWall_25 rfl (lv_at hl 2 rfl) ?_
      refine lv_iload hx hb dX5_leastWall_26 (lv_at hl 4 rfl) ?_
      obtain ⟨g_1, h⟩ := gd_inv h
      refine r_iast C hP hS (sv_3 iv_260) (kv_3 iv_260) rfl g_1 dX5_leastWall_28 (fun H locs σ_2 eσ_2 hP hS => ?_)
      replace h := un_at eσ_2 h
      refine lv_aload_n hx hb dX5_leastWall_29 rfl (lv_at hl 0 rfl) ?_
      refine r_getr C cf_5 hP sx_10 kx_10 1 (by decide) rfl tw_96 dX5_leastWall_30 ?_
      refine lv_aload_n hx hb dX5_leastWall_33 rfl (lv_at hl 0 rfl) ?_
      refine r_getr C cf_5 hP sx_10 kx_10 0 (by decide) rfl tw_92 dX5_leastWall_34 ?_
      refine lv_iload hx hb dX5_leastWall_37 (lv_at hl 3 rfl) ?_
      obtain ⟨q_3, hq_3, h⟩ := bd_inv h
      refine end_v (run_v (As := [.ref (adG g 260), .int x4]) (rest := []) C ca_X2_tell (ctX2_tell 11 if_11 260 iv_260 x4 hq_3) cf_2 (sf_0 if_11) (kf_0 if_11) tw_626 ⟨Nat.le_of_ble_eq_true rfl, Nat.le_of_ble_eq_true rfl⟩ rfl hl.1 (Nat.le_of_ble_eq_true rfl) ⟨Nat.le_refl _, Nat.le_refl _⟩ hP hS dX5_leastWall_39) hS (fun H locs hP hS => ?_)
      refine lv_aload_n hx hb dX5_leastWall_42 rfl (lv_at hl 0 rfl) ?_
      refine r_getr C cf_5 hP sx_10 kx_10 1 (by decide) rfl tw_96 dX5_leastWall_43 ?_
      refine lv_iload_n hx hb dX5_leastWall_46 rfl (lv_at hl 1 rfl) ?_
      refine lv_iload hx hb dX5_leastWall_47 (lv_at hl 3 rfl) ?_
      obtain ⟨q_4, hq_4, h⟩ := bd_inv h
      refine end_i (run_v (As := [.int x2, .int x4]) (rest := []) C ca_X2_lavaIn (ctX2_lavaIn 11 if_11 x2 x4 hq_4) cf_2 (sf_0 if_11) (kf_0 if_11) tw_665 ⟨Nat.le_of_ble_eq_true rfl, Nat.le_of_ble_eq_true rfl⟩ rfl hl.1 (Nat.le_of_ble_eq_true rfl) ⟨Nat.le_refl _, Nat.le_refl _⟩ hP hS dX5_leastWall_49) hS (fun H locs hP hS => ?_)
      refine lv_if_ne (tgt := 58) hx hb dX5_leastWall_52 (by decide) (fun c_ => ?_) (fun c_ => ?_)
      · replace h := if_f c_ h
        obtain ⟨x_5, ex_5⟩ : ∃ y : Int32, y = x5 + (1 : Int32) := ⟨_, rfl⟩
        replace h := un_at ex_5 h
        refine lv_iinc (v := x_5) (lv' := [(5, .int x_5), (0, .ref (adG g 10)), (2, .int x2), (3, .int x3), (4, .int x4)]) hx hb dX5_leastWall_58 hl (k := 4) rfl (by rw [ex_5]; rfl) (by decide) rfl (fun ls hl => ?_)
        refine lv_goto (tgt := 11) hx hb dX5_leastWall_61 (by decide) ?_
        exact ih q_3 x2 x3 x4 x_5 H locs ls h hP hS (lv_sub hl [1, 2, 3, 4, 0] rfl)
      · replace h := if_t c_ h
        refine lv_iload hx hb dX5_leastWall_55 (lv_at hl 4 rfl) ?_
        exact r_reti C hP hS (rt_ow1 h) (rt_ow2 h) dX5_leastWall_57

set_option maxRecDepth 100000 in
set_option maxHeartbeats 4000000 in
theorem ctX5_leastWall {l : Launch} {g : Gw} {σ : Sto} (v1 : Nat) (hv1 : isV v1) (x2 : Int32) (x3 : Int32) (x4 : Int32) {Rz : (Sto × Int32)} (h : fX5_leastWall σ v1 x2 x3 x4 = some Rz) : MtG l yX5_leastWall cX5_leastWall 6 (some .int) 4 wkX g [.ref (adG g 10), .ref (adG g v1), .int x2, .int x3, .int x4] σ (QiS wkX g Rz.1 Rz.2) := by
  refine mt_of (by decide) (Nat.le_of_ble_eq_true rfl) (fun p e s m below meth c ls H locs C hP hS hl => ?_)
  have C : Cx wkX g p s m _ meth c cX5_leastWall 6 RX5 (some .int) := C
  have hl : lv_has ls 6 [(0, .ref (adG g 10)), (1, .ref (adG g v1)), (2, .int x2), (3, .int x3), (4, .int x4)] := hl
  obtain ⟨hx, hb, hml, hown, hts, hr, hlk, hK, hZ⟩ := id C
  unfold fX5_leastWall at h
  refine lv_aload_n hx hb dX5_leastWall_0 rfl (lv_at hl 0 rfl) ?_
  refine r_getr C cf_5 hP sx_10 kx_10 0 (by decide) rfl tw_92 dX5_leastWall_1 ?_
  refine lv_aload_n hx hb dX5_leastWall_4 rfl (lv_at hl 1 rfl) ?_
  obtain ⟨q_1, eq_1⟩ : ∃ z, z = fX8_become σ 260 v1 := ⟨_, rfl⟩
  replace h := un_at eq_1 h
  refine end_v (run_v (As := [.ref (adG g v1)]) (rest := []) C ca_X8_become (ctX8_become 260 iv_260 v1 hv1 eq_1.symm) cf_8 (sv_0 iv_260) (kv_0 iv_260) tw_681 ⟨Nat.le_of_ble_eq_true rfl, Nat.le_of_ble_eq_true rfl⟩ rfl hl.1 (Nat.le_of_ble_eq_true rfl) ⟨Nat.le_refl _, Nat.le_refl _⟩ hP hS dX5_leastWall_5) hS (fun H locs hP hS => ?_)
  refine lv_iconst (v := 0) hx hb dX5_leastWall_8 (by decide) ?_
  refine lv_istore (lv' := [(5, .int (0 : Int32)), (0, .ref (adG g 10)), (1, .ref (adG g v1)), (2, .int x2), (3, .int x3), (4, .int x4)]) hx hb dX5_leastWall_9 hl (by decide) rfl (fun ls hl => ?_)
  exact wfX5_leastWall_L11 C v1 hv1 fu q_1 x2 x3 x4 (0 : Int32) H locs ls h hP hS (lv_sub hl [1, 3, 4, 5, 0] rfl)

set_option maxRecDepth 100000 in
set_option maxHeartbeats 4000000 in
theorem wfX5_mostFeed_L3 {l : Launch} {g : Gw} {p : Program} {e : Env} {s : State} {m : MethodId} {args : Array Value} {below : List Frame} {meth : Method} {c : Code} (C : Cx wkX g p s m args meth c cX5_mostFeed 4 RX5 (some .int)) (v1 : Nat) (hv1 : isV v1) {Rz : (Sto × Int32)} : ∀ (n : Nat) (σ : Sto) (x2 : Int32) (x3 : Int32) (H : Heap) (locs : List Loc) (ls : Array Slot), fX5_mostFeed_L3 v1 n σ x2 x3 = some Rz → wS wkX g σ H → va_S (AS wkX g) s.heap H locs → lv_has ls 4 [(0, .ref (adG g 10)), (1, .ref (adG g v1)), (2, .int x2), (3, .int x3)] → W p l e (rmS 5) s m args below meth c H locs 0 0 (MQ below (QiS wkX g Rz.1 Rz.2) args s 0 0 (AS wkX g)) (F0 m 3 ls []) := by
  intro n
  induction n with
  | zero =>
    intro σ x2 x3 H locs ls h
    cases h
  | succ n ih =>
    intro σ x2 x3 H locs ls h hP hS hl
    obtain ⟨hx, hb, hml, hown, hts, hr, hlk, hK, hZ⟩ := id C
    rw [fX5_mostFeed_L3] at h
    refine lv_iload_n hx hb dX5_mostFeed_3 rfl (lv_at hl 3 rfl) ?_
    refine lv_if_lt (tgt := 50) hx hb dX5_mostFeed_4 (by decide) (fun c_ => ?_) (fun c_ => ?_)
    · replace h := if_t c_ h
      refine lv_ldc hx hb hown (hts _ tw_708) dX5_mostFeed_50 ?_
      exact r_reti C hP hS (rt_ow1 h) (rt_ow2 h) dX5_mostFeed_52
    · replace h := if_f c_ h
      refine lv_aload_n hx hb dX5_mostFeed_7 rfl (lv_at hl 0 rfl) ?_
      refine r_getr C cf_5 hP sx_10 kx_10 0 (by decide) rfl tw_92 dX5_mostFeed_8 ?_
      refine lv_aload_n hx hb dX5_mostFeed_11 rfl (lv_at hl 1 rfl) ?_
      obtain ⟨q_1, eq_1⟩ : ∃ z, z = fX8_become σ 260 v1 := ⟨_, rfl⟩
      replace h := un_at eq_1 h
      refine end_v (run_v (As := [.ref (adG g v1)]) (rest := []) C ca_X8_become (ctX8_become 260 iv_260 v1 hv1 eq_1.symm) cf_8 (sv_0 iv_260) (kv_0 iv_260) tw_681 ⟨Nat.le_of_ble_eq_true rfl, Nat.le_of_ble_eq_true rfl⟩ rfl hl.1 (Nat.le_of_ble_eq_true rfl) ⟨Nat.le_refl _, Nat.le_refl _⟩ hP hS dX5_mostFeed_12) hS (fun H locs hP hS => ?_)
      refine lv_aload_n hx hb dX5_mostFeed_15 rfl (lv_at hl 0 rfl) ?_
      refine r_getr C cf_5 hP sx_10 kx_10 0 (by decide) rfl tw_92 dX5_mostFeed_16 ?_
      refine lv_iload_n hx hb dX5_mostFeed_19 rfl (lv_at hl 3 rfl) ?_
      refine r_puti C cf_8 hP hS (sv_0 iv_260) (kv_0 iv_260) 2 (by decide) rfl rfl rfl tw_837 dX5_mostFeed_20 (fun H locs σ_2 eσ_2 hP hS => ?_)
      replace h := un_at eσ_2 h
      refine lv_aload_n hx hb dX5_mostFeed_23 rfl (lv_at hl 0 rfl) ?_
      refine lv_iload_n hx hb dX5_mostFeed_24 rfl (lv_at hl 2 rfl) ?_
      obtain ⟨q_3, hq_3, h⟩ := bd_inv h
      refine end_v (run_v (As := [.int x2]) (rest := []) C ca_X5_passTrial (ctX5_passTrial x2 hq_3) cf_5 sx_10 kx_10 tw_682 ⟨Nat.le_of_ble_eq_true rfl, Nat.le_of_ble_eq_true rfl⟩ rfl hl.1 (Nat.le_of_ble_eq_true rfl) ⟨Nat.le_refl _, Nat.le_refl _⟩ hP hS dX5_mostFeed_25) hS (fun H locs hP hS => ?_)
      refine lv_aload_n hx hb dX5_mostFeed_28 rfl (lv_at hl 0 rfl) ?_
      refine r_getr C cf_5 hP sx_10 kx_10 0 (by decide) rfl tw_92 dX5_mostFeed_29 ?_
      obtain ⟨q_4, hq_4, h⟩ := bd_inv h
      refine end_i (run_v (As := []) (rest := []) C ca_X8_stones (ctX8_stones 260 iv_260 hq_4) cf_8 (sv_0 iv_260) (kv_0 iv_260) tw_687 ⟨Nat.le_of_ble_eq_true rfl, Nat.le_of_ble_eq_true rfl⟩ rfl hl.1 (Nat.le_of_ble_eq_true rfl) ⟨Nat.le_refl _, Nat.le_refl _⟩ hP hS dX5_mostFeed_32) hS (fun H locs hP hS => ?_)
      refine lv_aload_n hx hb dX5_mostFeed_35 rfl (lv_at hl 1 rfl) ?_
      obtain ⟨q_5, hq_5, h⟩ := bd_inv h
      refine end_i (run_v (As := []) (rest := [.int q_4]) C ca_X8_stones (ctX8_stones v1 hv1 hq_5) cf_8 (sv_0 hv1) (kv_0 hv1) tw_687 ⟨Nat.le_of_ble_eq_true rfl, Nat.le_of_ble_eq_true rfl⟩ rfl hl.1 (Nat.le_of_ble_eq_true rfl) ⟨Nat.le_refl _, Nat.le_refl _⟩ hP hS dX5_mostFeed_36) hS (fun H locs hP hS => ?_)
      refine lv_icmp_ne (tgt := 44) hx hb dX5_mostFeed_39 (by decide) (fun c_ => ?_) (fun c_ => ?_)
      · replace h := if_f c_ h
        obtain ⟨x_6, ex_6⟩ : ∃ y : Int32, y = x3 + (-1 : Int32) := ⟨_, rfl⟩
        replace h := un_at ex_6 h
        refine lv_iinc (v := x_6) (lv' := [(3, .int x_6), (0, .ref (adG g 10)), (1, .ref (adG g v1)), (2, .int x2)]) hx hb dX5_mostFeed_44 hl (k := 3) rfl (by rw [ex_6]; rfl) (by decide) rfl (fun ls hl => ?_)
        refine lv_goto (tgt := 3) hx hb dX5_mostFeed_47 (by decide) ?_
        exact ih q_3 x2 x_6 H locs ls h hP hS (lv_sub hl [1, 2, 3, 0] rfl)
      · replace h := if_t c_ h
        refine lv_iload_n hx hb dX5_mostFeed_42 rfl (lv_at hl 3 rfl) ?_
        exact r_reti C hP hS (rt_ow1 h) (rt_ow2 h) dX5_mostFeed_43

set_option maxRecDepth 100000 in
set_option maxHeartbeats 4000000 in
theorem ctX5_mostFeed {l : Launch} {g : Gw} {σ : Sto} (v1 : Nat) (hv1 : isV v1) (x2 : Int32) {Rz : (Sto × Int32)} (h : fX5_mostFeed σ v1 x2 = some Rz) : MtG l yX5_mostFeed cX5_mostFeed 4 (some .int) 5 wkX g [.ref (adG g 10), .ref (adG g v1), .int x2] σ (QiS wkX g Rz.1 Rz.2) := by
  refine mt_of (by decide) (Nat.le_of_ble_eq_true rfl) (fun p e s m below meth c ls H locs C hP hS hl => ?_)
  have C : Cx wkX g p s m _ meth c cX5_mostFeed 4 RX5 (some .int) := C
  have hl : lv_has ls 4 [(0, .ref (adG g 10)), (1, .ref (adG g v1)), (2, .int x2)] := hl
  obtain ⟨hx, hb, hml, hown, hts, hr, hlk, hK, hZ⟩ := id C
  unfold fX5_mostFeed at h
  refine lv_bipush (v := 20) hx hb dX5_mostFeed_0 (by decide) ?_
  refine lv_istore_n (lv' := [(3, .int (20 : Int32)), (0, .ref (adG g 10)), (1, .ref (adG g v1)), (2, .int x2)]) hx hb dX5_mostFeed_2 rfl hl (by decide) rfl (fun ls hl => ?_)
  exact wfX5_mostFeed_L3 C v1 hv1 fu σ x2 (20 : Int32) H locs ls h hP hS (lv_sub hl [1, 2, 3, 0] rfl)

set_option maxRecDepth 100000 in
set_option maxHeartbeats 4000000 in
theorem wfX8_standing_L4 {l : Launch} {g : Gw} {p : Program} {e : Env} {s : State} {m : MethodId} {args : Array Value} {below : List Frame} {meth : Method} {c : Code} {σ : Sto} (C : Cx wkX g p s m args meth c cX8_standing 3 RX8 (some .int)) (v0 : Nat) (hv0 : isV v0) {Rz : Int32} : ∀ (n : Nat) (x1 : Int32) (x2 : Int32) (H : Heap) (locs : List Loc) (ls : Array Slot), fX8_standing_L4 v0 σ n x1 x2 = some Rz → wS wkX g σ H → va_S (AS wkX g) s.heap H locs → lv_has ls 3 [(0, .ref (adG g v0)), (1, .int x1), (2, .int x2)] → W p l e (rmS 0) s m args below meth c H locs 0 0 (MQ below (QiS wkX g σ Rz) args s 0 0 (AS wkX g)) (F0 m 4 ls []) := by
  intro n
  induction n with
  | zero =>
    intro x1 x2 H locs ls h
    cases h
  | succ n ih =>
    intro x1 x2 H locs ls h hP hS hl
    obtain ⟨hx, hb, hml, hown, hts, hr, hlk, hK, hZ⟩ := id C
    rw [fX8_standing_L4] at h
    refine lv_iload_n hx hb dX8_standing_4 rfl (lv_at hl 2 rfl) ?_
    refine lv_aload_n hx hb dX8_standing_5 rfl (lv_at hl 0 rfl) ?_
    refine r_geti C cf_8 hP (sv_0 hv0) (kv_0 hv0) 1 (by decide) rfl tw_69 dX8_standing_6 ?_
    refine lv_icmp_ge (tgt := 35) hx hb dX8_standing_9 (by decide) (fun c_ => ?_) (fun c_ => ?_)
    · replace h := if_t c_ h
      refine lv_iload_n hx hb dX8_standing_35 rfl (lv_at hl 1 rfl) ?_
      exact r_reti C hP hS rfl (rt_o h) dX8_standing_36
    · replace h := if_f c_ h
      refine lv_aload_n hx hb dX8_standing_12 rfl (lv_at hl 0 rfl) ?_
      refine r_getr C cf_8 hP (sv_0 hv0) (kv_0 hv0) 10 (by decide) rfl tw_78 dX8_standing_13 ?_
      refine lv_iload_n hx hb dX8_standing_16 rfl (lv_at hl 2 rfl) ?_
      obtain ⟨g_1, h⟩ := gd_inv h
      refine r_iald C hP (sv_6 hv0) (kv_6 hv0) rfl g_1 dX8_standing_17 ?_
      refine lv_bipush (v := 20) hx hb dX8_standing_18 (by decide) ?_
      refine lv_icmp_ge (tgt := 29) hx hb dX8_standing_20 (by decide) (fun c_ => ?_) (fun c_ => ?_)
      · replace h := if_t c_ h
        obtain ⟨x_2, ex_2⟩ : ∃ y : Int32, y = x2 + (1 : Int32) := ⟨_, rfl⟩
        replace h := un_at ex_2 h
        refine lv_iinc (v := x_2) (lv' := [(2, .int x_2), (0, .ref (adG g v0)), (1, .int x1)]) hx hb dX8_standing_29 hl (k := 2) rfl (by rw [ex_2]; rfl) (by decide) rfl (fun ls hl => ?_)
        refine lv_goto (tgt := 4) hx hb dX8_standing_32 (by decide) ?_
        exact ih x1 x_2 H locs ls h hP hS (lv_sub hl [1, 2, 0] rfl)
      · replace h := if_f c_ h
        refine lv_iload_n hx hb dX8_standing_23 rfl (lv_at hl 1 rfl) ?_
        refine lv_iconst (v := 1) hx hb dX8_standing_24 (by decide) ?_
        refine lv_iload_n hx hb dX8_standing_25 rfl (lv_at hl 2 rfl) ?_
        refine lv_ishl hx hb dX8_standing_26 ?_
        refine lv_ior hx hb dX8_standing_27 ?_
        refine lv_topi (fun x_3 ex_3 => ?_)
        replace h := un_at ex_3 h
        refine lv_istore_n (lv' := [(1, .int x_3), (0, .ref (adG g v0)), (2, .int x2)]) hx hb dX8_standing_28 rfl hl (by decide) rfl (fun ls hl => ?_)
        obtain ⟨x_4, ex_4⟩ : ∃ y : Int32, y = x2 + (1 : Int32) := ⟨_, rfl⟩
        replace h := un_at ex_4 h
        refine lv_iinc (v := x_4) (lv' := [(2, .int x_4), (1, .int x_3), (0, .ref (adG g v0))]) hx hb dX8_standing_29 hl (k := 2) rfl (by rw [ex_4]; rfl) (by decide) rfl (fun ls hl => ?_)
        refine lv_goto (tgt := 4) hx hb dX8_standing_32 (by decide) ?_
        exact ih x_3 x_4 H locs ls h hP hS (lv_sub hl [2, 1, 0] rfl)

set_option maxRecDepth 100000 in
set_option maxHeartbeats 4000000 in
theorem ctX8_standing {l : Launch} {g : Gw} {σ : Sto} (v0 : Nat) (hv0 : isV v0) {Rz : Int32} (h : fX8_standing σ v0 = some Rz) : MtG l yX8_standing cX8_standing 3 (some .int) 0 wkX g [.ref (adG g v0)] σ (QiS wkX g σ Rz) := by
  refine mt_of (by decide) (Nat.le_of_ble_eq_true rfl) (fun p e s m below meth c ls H locs C hP hS hl => ?_)
  have C : Cx wkX g p s m _ meth c cX8_standing 3 RX8 (some .int) := C
  have hl : lv_has ls 3 [(0, .ref (adG g v0))] := hl
  obtain ⟨hx, hb, hml, hown, hts, hr, hlk, hK, hZ⟩ := id C
  unfold fX8_standing at h
  refine lv_iconst (v := 0) hx hb dX8_standing_0 (by decide) ?_
  refine lv_istore_n (lv' := [(1, .int (0 : Int32)), (0, .ref (adG g v0))]) hx hb dX8_standing_1 rfl hl (by decide) rfl (fun ls hl => ?_)
  refine lv_iconst (v := 0) hx hb dX8_standing_2 (by decide) ?_
  refine lv_istore_n (lv' := [(2, .int (0 : Int32)), (1, .int (0 : Int32)), (0, .ref (adG g v0))]) hx hb dX8_standing_3 rfl hl (by decide) rfl (fun ls hl => ?_)
  exact wfX8_standing_L4 C v0 hv0 fu (0 : Int32) (0 : Int32) H locs ls h hP hS (lv_sub hl [2, 1, 0] rfl)

set_option maxRecDepth 100000 in
set_option maxHeartbeats 4000000 in
theorem wfX5_highOfAll_L4 {l : Launch} {g : Gw} {p : Program} {e : Env} {s : State} {m : MethodId} {args : Array Value} {below : List Frame} {meth : Method} {c : Code} {σ : Sto} (C : Cx wkX g p s m args meth c cX5_highOfAll 4 RX5 (some .int)) (v0 : Nat) (hv0 : isV v0) {Rz : Int32} : ∀ (n : Nat) (x1 : Int32) (x2 : Int32) (x3 : Int32) (H : Heap) (locs : List Loc) (ls : Array Slot), fX5_highOfAll_L4 v0 σ n x1 x2 x3 = some Rz → wS wkX g σ H → va_S (AS wkX g) s.heap H locs → lv_has ls 4 [(0, .ref (adG g v0)), (1, .int x1), (2, .int x2), (3, .int x3)] → W p l e (rmS 0) s m args below meth c H locs 0 0 (MQ below (QiS wkX g σ Rz) args s 0 0 (AS wkX g)) (F0 m 4 ls []) := by
  intro n
  induction n with
  | zero =>
    intro x1 x2 x3 H locs ls h
    cases h
  | succ n ih =>
    intro x1 x2 x3 H locs ls h hP hS hl
    obtain ⟨hx, hb, hml, hown, hts, hr, hlk, hK, hZ⟩ := id C
    rw [fX5_highOfAll_L4] at h
    refine lv_iload_n hx hb dX5_highOfAll_4 rfl (lv_at hl 3 rfl) ?_
    refine lv_aload_n hx hb dX5_highOfAll_5 rfl (lv_at hl 0 rfl) ?_
    refine r_geti C cf_8 hP (sv_0 hv0) (kv_0 hv0) 1 (by decide) rfl tw_850 dX5_highOfAll_6 ?_
    refine lv_icmp_ge (tgt := 36) hx hb dX5_highOfAll_9 (by decide) (fun c_ => ?_) (fun c_ => ?_)
    · replace h := if_t c_ h
      refine lv_iload_n hx hb dX5_highOfAll_36 rfl (lv_at hl 2 rfl) ?_
      exact r_reti C hP hS rfl (rt_o h) dX5_highOfAll_37
    · replace h := if_f c_ h
      refine lv_iload_n hx hb dX5_highOfAll_12 rfl (lv_at hl 1 rfl) ?_
      refine lv_iload_n hx hb dX5_highOfAll_13 rfl (lv_at hl 3 rfl) ?_
      refine lv_ishr hx hb dX5_highOfAll_14 ?_
      refine lv_iconst (v := 1) hx hb dX5_highOfAll_15 (by decide) ?_
      refine lv_iand hx hb dX5_highOfAll_16 ?_
      refine lv_iconst (v := 1) hx hb dX5_highOfAll_17 (by decide) ?_
      refine lv_icmp_ne (tgt := 30) hx hb dX5_highOfAll_18 (by decide) (fun c_ => ?_) (fun c_ => ?_)
      · replace h := if_f c_ h
        obtain ⟨x_1, ex_1⟩ : ∃ y : Int32, y = x3 + (1 : Int32) := ⟨_, rfl⟩
        replace h := un_at ex_1 h
        refine lv_iinc (v := x_1) (lv' := [(3, .int x_1), (0, .ref (adG g v0)), (1, .int x1), (2, .int x2)]) hx hb dX5_highOfAll_30 hl (k := 3) rfl (by rw [ex_1]; rfl) (by decide) rfl (fun ls hl => ?_)
        refine lv_goto (tgt := 4) hx hb dX5_highOfAll_33 (by decide) ?_
        exact ih x1 x2 x_1 H locs ls h hP hS (lv_sub hl [1, 2, 3, 0] rfl)
      · replace h := if_t c_ h
        refine lv_iload_n hx hb dX5_highOfAll_21 rfl (lv_at hl 2 rfl) ?_
        refine lv_aload_n hx hb dX5_highOfAll_22 rfl (lv_at hl 0 rfl) ?_
        refine r_getr C cf_8 hP (sv_0 hv0) (kv_0 hv0) 9 (by decide) rfl tw_855 dX5_highOfAll_23 ?_
        refine lv_iload_n hx hb dX5_highOfAll_26 rfl (lv_at hl 3 rfl) ?_
        obtain ⟨g_2, h⟩ := gd_inv h
        refine r_iald C hP (sv_5 hv0) (kv_5 hv0) rfl g_2 dX5_highOfAll_27 ?_
        refine lv_iadd hx hb dX5_highOfAll_28 ?_
        refine lv_topi (fun x_3 ex_3 => ?_)
        replace h := un_at ex_3 h
        refine lv_istore_n (lv' := [(2, .int x_3), (0, .ref (adG g v0)), (1, .int x1), (3, .int x3)]) hx hb dX5_highOfAll_29 rfl hl (by decide) rfl (fun ls hl => ?_)
        obtain ⟨x_4, ex_4⟩ : ∃ y : Int32, y = x3 + (1 : Int32) := ⟨_, rfl⟩
        replace h := un_at ex_4 h
        refine lv_iinc (v := x_4) (lv' := [(3, .int x_4), (2, .int x_3), (0, .ref (adG g v0)), (1, .int x1)]) hx hb dX5_highOfAll_30 hl (k := 3) rfl (by rw [ex_4]; rfl) (by decide) rfl (fun ls hl => ?_)
        refine lv_goto (tgt := 4) hx hb dX5_highOfAll_33 (by decide) ?_
        exact ih x1 x_3 x_4 H locs ls h hP hS (lv_sub hl [2, 3, 1, 0] rfl)

set_option maxRecDepth 100000 in
set_option maxHeartbeats 4000000 in
theorem ctX5_highOfAll {l : Launch} {g : Gw} {σ : Sto} (v0 : Nat) (hv0 : isV v0) (x1 : Int32) {Rz : Int32} (h : fX5_highOfAll σ v0 x1 = some Rz) : MtG l yX5_highOfAll cX5_highOfAll 4 (some .int) 0 wkX g [.ref (adG g v0), .int x1] σ (QiS wkX g σ Rz) := by
  refine mt_of (by decide) (Nat.le_of_ble_eq_true rfl) (fun p e s m below meth c ls H locs C hP hS hl => ?_)
  have C : Cx wkX g p s m _ meth c cX5_highOfAll 4 RX5 (some .int) := C
  have hl : lv_has ls 4 [(0, .ref (adG g v0)), (1, .int x1)] := hl
  obtain ⟨hx, hb, hml, hown, hts, hr, hlk, hK, hZ⟩ := id C
  unfold fX5_highOfAll at h
  refine lv_iconst (v := 0) hx hb dX5_highOfAll_0 (by decide) ?_
  refine lv_istore_n (lv' := [(2, .int (0 : Int32)), (0, .ref (adG g v0)), (1, .int x1)]) hx hb dX5_highOfAll_1 rfl hl (by decide) rfl (fun ls hl => ?_)
  refine lv_iconst (v := 0) hx hb dX5_highOfAll_2 (by decide) ?_
  refine lv_istore_n (lv' := [(3, .int (0 : Int32)), (2, .int (0 : Int32)), (0, .ref (adG g v0)), (1, .int x1)]) hx hb dX5_highOfAll_3 rfl hl (by decide) rfl (fun ls hl => ?_)
  exact wfX5_highOfAll_L4 C v0 hv0 fu x1 (0 : Int32) (0 : Int32) H locs ls h hP hS (lv_sub hl [2, 3, 1, 0] rfl)

set_option maxRecDepth 100000 in
set_option maxHeartbeats 4000000 in
theorem wfX5_setsSoHigh_L19 {l : Launch} {g : Gw} {p : Program} {e : Env} {s : State} {m : MethodId} {args : Array Value} {below : List Frame} {meth : Method} {c : Code} {σ : Sto} (C : Cx wkX g p s m args meth c cX5_setsSoHigh 9 RX5 (some .int)) (v1 : Nat) (hv1 : isV v1) {Rz : Int32} {k_73 : Int32 → Int32 → Int32 → Int32 → Option Int32} : ∀ (n : Nat) (x2 : Int32) (x3 : Int32) (x4 : Int32) (x5 : Int32) (x6 : Int32) (x7 : Int32) (x8 : Int32) (H : Heap) (locs : List Loc) (ls : Array Slot), fX5_setsSoHigh_L19 k_73 v1 σ n x2 x3 x4 x5 x6 x7 x8 = some Rz → wS wkX g σ H → va_S (AS wkX g) s.heap H locs → lv_has ls 9 [(1, .ref (adG g v1)), (2, .int x2), (3, .int x3), (4, .int x4), (5, .int x5), (6, .int x6), (7, .int x7), (8, .int x8)] → (∀ (x3 : Int32) (x5 : Int32) (x6 : Int32) (x7 : Int32) (H : Heap) (locs : List Loc) (ls : Array Slot), k_73 x3 x5 x6 x7 = some Rz → wS wkX g σ H → va_S (AS wkX g) s.heap H locs → lv_has ls 9 [(3, .int x3), (5, .int x5), (6, .int x6), (7, .int x7)] → W p l e (rmS 1) s m args below meth c H locs 0 0 (MQ below (QiS wkX g σ Rz) args s 0 0 (AS wkX g)) (F0 m 73 ls [])) → W p l e (rmS 1) s m args below meth c H locs 0 0 (MQ below (QiS wkX g σ Rz) args s 0 0 (AS wkX g)) (F0 m 19 ls []) := by
  intro n
  induction n with
  | zero =>
    intro x2 x3 x4 x5 x6 x7 x8 H locs ls h
    cases h
  | succ n ih =>
    intro x2 x3 x4 x5 x6 x7 x8 H locs ls h hP hS hl hk_73
    obtain ⟨hx, hb, hml, hown, hts, hr, hlk, hK, hZ⟩ := id C
    rw [fX5_setsSoHigh_L19] at h
    refine lv_iload hx hb dX5_setsSoHigh_19 (lv_at hl 7 rfl) ?_
    refine lv_iconst (v := 1) hx hb dX5_setsSoHigh_21 (by decide) ?_
    refine lv_aload_n hx hb dX5_setsSoHigh_22 rfl (lv_at hl 0 rfl) ?_
    refine r_geti C cf_8 hP (sv_0 hv1) (kv_0 hv1) 1 (by decide) rfl tw_850 dX5_setsSoHigh_23 ?_
    refine lv_ishl hx hb dX5_setsSoHigh_26 ?_
    refine lv_icmp_ge (tgt := 73) hx hb dX5_setsSoHigh_27 (by decide) (fun c_ => ?_) (fun c_ => ?_)
    · replace h := if_t c_ h
      exact hk_73 x3 x5 x6 x7 H locs ls h hP hS (lv_sub hl [2, 4, 5, 6] rfl)
    · replace h := if_f c_ h
      refine lv_iload hx hb dX5_setsSoHigh_30 (lv_at hl 7 rfl) ?_
      refine lv_iload hx hb dX5_setsSoHigh_32 (lv_at hl 3 rfl) ?_
      refine lv_iconst (v := (-1)) hx hb dX5_setsSoHigh_34 (by decide) ?_
      refine lv_ixor hx hb dX5_setsSoHigh_35 ?_
      refine lv_iand hx hb dX5_setsSoHigh_36 ?_
      refine lv_if_ne (tgt := 67) hx hb dX5_setsSoHigh_37 (by decide) (fun c_ => ?_) (fun c_ => ?_)
      · replace h := if_f c_ h
        obtain ⟨x_1, ex_1⟩ : ∃ y : Int32, y = x8 + (1 : Int32) := ⟨_, rfl⟩
        replace h := un_at ex_1 h
        refine lv_iinc (v := x_1) (lv' := [(8, .int x_1), (1, .ref (adG g v1)), (2, .int x2), (3, .int x3), (4, .int x4), (5, .int x5), (6, .int x6), (7, .int x7)]) hx hb dX5_setsSoHigh_67 hl (k := 7) rfl (by rw [ex_1]; rfl) (by decide) rfl (fun ls hl => ?_)
        refine lv_goto (tgt := 19) hx hb dX5_setsSoHigh_70 (by decide) ?_
        exact ih x2 x3 x4 x5 x6 x7 x_1 H locs ls h hP hS (lv_sub hl [1, 2, 3, 4, 5, 6, 7, 0] rfl) hk_73
      · replace h := if_t c_ h
        refine lv_aload_n hx hb dX5_setsSoHigh_40 rfl (lv_at hl 0 rfl) ?_
        refine lv_iload hx hb dX5_setsSoHigh_41 (lv_at hl 7 rfl) ?_
        obtain ⟨q_2, hq_2, h⟩ := bd_inv h
        refine end_i (run_s (As := [.ref (adG g v1), .int x8]) (rest := []) C ca_X5_highOfAll (ctX5_highOfAll v1 hv1 x8 hq_2) tw_852 ⟨Nat.le_of_ble_eq_true rfl, Nat.le_of_ble_eq_true rfl⟩ rfl hl.1 (Nat.le_of_ble_eq_true rfl) ⟨Nat.le_refl _, Nat.le_refl _⟩ hP hS dX5_setsSoHigh_43) hS (fun H locs hP hS => ?_)
        refine lv_iload_n hx hb dX5_setsSoHigh_46 rfl (lv_at hl 1 rfl) ?_
        refine lv_icmp_ne (tgt := 67) hx hb dX5_setsSoHigh_47 (by decide) (fun c_ => ?_) (fun c_ => ?_)
        · replace h := if_f c_ h
          obtain ⟨x_3, ex_3⟩ : ∃ y : Int32, y = x8 + (1 : Int32) := ⟨_, rfl⟩
          replace h := un_at ex_3 h
          refine lv_iinc (v := x_3) (lv' := [(8, .int x_3), (1, .ref (adG g v1)), (2, .int x2), (3, .int x3), (4, .int x4), (5, .int x5), (6, .int x6), (7, .int x7)]) hx hb dX5_setsSoHigh_67 hl (k := 7) rfl (by rw [ex_3]; rfl) (by decide) rfl (fun ls hl => ?_)
          refine lv_goto (tgt := 19) hx hb dX5_setsSoHigh_70 (by decide) ?_
          exact ih x2 x3 x4 x5 x6 x7 x_3 H locs ls h hP hS (lv_sub hl [1, 2, 3, 4, 5, 6, 7, 0] rfl) hk_73
        · replace h := if_t c_ h
          obtain ⟨x_4, ex_4⟩ : ∃ y : Int32, y = x5 + (1 : Int32) := ⟨_, rfl⟩
          replace h := un_at ex_4 h
          refine lv_iinc (v := x_4) (lv' := [(5, .int x_4), (1, .ref (adG g v1)), (2, .int x2), (3, .int x3), (4, .int x4), (6, .int x6), (7, .int x7), (8, .int x8)]) hx hb dX5_setsSoHigh_50 hl (k := 4) rfl (by rw [ex_4]; rfl) (by decide) rfl (fun ls hl => ?_)
          refine lv_iload hx hb dX5_setsSoHigh_53 (lv_at hl 5 rfl) ?_
          refine lv_iload hx hb dX5_setsSoHigh_55 (lv_at hl 7 rfl) ?_
          refine lv_iand hx hb dX5_setsSoHigh_57 ?_
          refine lv_topi (fun x_5 ex_5 => ?_)
          replace h := un_at ex_5 h
          refine lv_istore (lv' := [(6, .int x_5), (5, .int x_4), (1, .ref (adG g v1)), (2, .int x2), (3, .int x3), (4, .int x4), (7, .int x7), (8, .int x8)]) hx hb dX5_setsSoHigh_58 hl (by decide) rfl (fun ls hl => ?_)
          refine lv_iload hx hb dX5_setsSoHigh_60 (lv_at hl 6 rfl) ?_
          refine lv_iload hx hb dX5_setsSoHigh_62 (lv_at hl 7 rfl) ?_
          refine lv_ior hx hb dX5_setsSoHigh_64 ?_
          refine lv_topi (fun x_6 ex_6 => ?_)
          replace h := un_at ex_6 h
          refine lv_istore (lv' := [(7, .int x_6), (6, .int x_5), (5, .int x_4), (1, .ref (adG g v1)), (2, .int x2), (3, .int x3), (4, .int x4), (8, .int x8)]) hx hb dX5_setsSoHigh_65 hl (by decide) rfl (fun ls hl => ?_)
          obtain ⟨x_7, ex_7⟩ : ∃ y : Int32, y = x8 + (1 : Int32) := ⟨_, rfl⟩
          replace h := un_at ex_7 h
          refine lv_iinc (v := x_7) (lv' := [(8, .int x_7), (7, .int x_6), (6, .int x_5), (5, .int x_4), (1, .ref (adG g v1)), (2, .int x2), (3, .int x3), (4, .int x4)]) hx hb dX5_setsSoHigh_67 hl (k := 7) rfl (by rw [ex_7]; rfl) (by decide) rfl (fun ls hl => ?_)
          refine lv_goto (tgt := 19) hx hb dX5_setsSoHigh_70 (by decide) ?_
          exact ih x2 x3 x4 x_4 x_5 x_6 x_7 H locs ls h hP hS (lv_sub hl [4, 5, 6, 7, 3, 2, 1, 0] rfl) hk_73

set_option maxRecDepth 100000 in
set_option maxHeartbeats 4000000 in
theorem ctX5_setsSoHigh {l : Launch} {g : Gw} {σ : Sto} (v1 : Nat) (hv1 : isV v1) (x2 : Int32) (x3 : Int32) {Rz : Int32} (h : fX5_setsSoHigh σ v1 x2 x3 = some Rz) : MtG l yX5_setsSoHigh cX5_setsSoHigh 9 (some .int) 1 wkX g [.ref (adG g 10), .ref (adG g v1), .int x2, .int x3] σ (QiS wkX g σ Rz) := by
  refine mt_of (by decide) (Nat.le_of_ble_eq_true rfl) (fun p e s m below meth c ls H locs C hP hS hl => ?_)
  have C : Cx wkX g p s m _ meth c cX5_setsSoHigh 9 RX5 (some .int) := C
  have hl : lv_has ls 9 [(0, .ref (adG g 10)), (1, .ref (adG g v1)), (2, .int x2), (3, .int x3)] := hl
  obtain ⟨hx, hb, hml, hown, hts, hr, hlk, hK, hZ⟩ := id C
  unfold fX5_setsSoHigh at h
  refine lv_aload_n hx hb dX5_setsSoHigh_0 rfl (lv_at hl 1 rfl) ?_
  obtain ⟨q_1, hq_1, h⟩ := bd_inv h
  refine end_i (run_v (As := []) (rest := []) C ca_X8_standing (ctX8_standing v1 hv1 hq_1) cf_8 (sv_0 hv1) (kv_0 hv1) tw_851 ⟨Nat.le_of_ble_eq_true rfl, Nat.le_of_ble_eq_true rfl⟩ rfl hl.1 (Nat.le_of_ble_eq_true rfl) ⟨Nat.le_refl _, Nat.le_refl _⟩ hP hS dX5_setsSoHigh_1) hS (fun H locs hP hS => ?_)
  refine lv_istore (lv' := [(4, .int q_1), (0, .ref (adG g 10)), (1, .ref (adG g v1)), (2, .int x2), (3, .int x3)]) hx hb dX5_setsSoHigh_4 hl (by decide) rfl (fun ls hl => ?_)
  refine lv_iconst (v := 0) hx hb dX5_setsSoHigh_6 (by decide) ?_
  refine lv_istore (lv' := [(5, .int (0 : Int32)), (4, .int q_1), (0, .ref (adG g 10)), (1, .ref (adG g v1)), (2, .int x2), (3, .int x3)]) hx hb dX5_setsSoHigh_7 hl (by decide) rfl (fun ls hl => ?_)
  refine lv_iload hx hb dX5_setsSoHigh_9 (lv_at hl 1 rfl) ?_
  refine lv_istore (lv' := [(6, .int q_1), (5, .int (0 : Int32)), (4, .int q_1), (0, .ref (adG g 10)), (1, .ref (adG g v1)), (2, .int x2), (3, .int x3)]) hx hb dX5_setsSoHigh_11 hl (by decide) rfl (fun ls hl => ?_)
  refine lv_iconst (v := 0) hx hb dX5_setsSoHigh_13 (by decide) ?_
  refine lv_istore (lv' := [(7, .int (0 : Int32)), (6, .int q_1), (5, .int (0 : Int32)), (4, .int q_1), (0, .ref (adG g 10)), (1, .ref (adG g v1)), (2, .int x2), (3, .int x3)]) hx hb dX5_setsSoHigh_14 hl (by decide) rfl (fun ls hl => ?_)
  refine lv_iconst (v := 0) hx hb dX5_setsSoHigh_16 (by decide) ?_
  refine lv_istore (lv' := [(8, .int (0 : Int32)), (7, .int (0 : Int32)), (6, .int q_1), (5, .int (0 : Int32)), (4, .int q_1), (0, .ref (adG g 10)), (1, .ref (adG g v1)), (2, .int x2), (3, .int x3)]) hx hb dX5_setsSoHigh_17 hl (by decide) rfl (fun ls hl => ?_)
  refine wfX5_setsSoHigh_L19 C v1 hv1 fu x2 x3 q_1 (0 : Int32) q_1 (0 : Int32) (0 : Int32) H locs ls h hP hS (lv_sub hl [6, 7, 8, 4, 3, 2, 1, 0] rfl) (fun z_2 z_3 z_4 z_5 H locs ls h hP hS hl => ?_)
  refine lv_iload_n hx hb dX5_setsSoHigh_73 rfl (lv_at hl 0 rfl) ?_
  refine lv_if_ne (tgt := 80) hx hb dX5_setsSoHigh_74 (by decide) (fun c_ => ?_) (fun c_ => ?_)
  · replace h := if_f c_ h
    refine lv_iload_n hx hb dX5_setsSoHigh_80 rfl (lv_at hl 0 rfl) ?_
    refine lv_iconst (v := 1) hx hb dX5_setsSoHigh_81 (by decide) ?_
    refine lv_icmp_ne (tgt := 97) hx hb dX5_setsSoHigh_82 (by decide) (fun c_ => ?_) (fun c_ => ?_)
    · replace h := if_f c_ h
      refine lv_iload hx hb dX5_setsSoHigh_97 (lv_at hl 3 rfl) ?_
      exact r_reti C hP hS rfl (rt_o h) dX5_setsSoHigh_99
    · replace h := if_t c_ h
      refine lv_iload hx hb dX5_setsSoHigh_85 (lv_at hl 1 rfl) ?_
      refine lv_if_ne (tgt := 94) hx hb dX5_setsSoHigh_87 (by decide) (fun c_ => ?_) (fun c_ => ?_)
      · replace h := if_f c_ h
        refine lv_iload hx hb dX5_setsSoHigh_94 (lv_at hl 2 rfl) ?_
        exact r_reti C hP hS rfl (rt_o h) dX5_setsSoHigh_96
      · replace h := if_t c_ h
        refine lv_iconst (v := 0) hx hb dX5_setsSoHigh_90 (by decide) ?_
        refine lv_goto (tgt := 96) hx hb dX5_setsSoHigh_91 (by decide) ?_
        exact r_reti C hP hS rfl (rt_o h) dX5_setsSoHigh_96
  · replace h := if_t c_ h
    refine lv_iload hx hb dX5_setsSoHigh_77 (lv_at hl 1 rfl) ?_
    exact r_reti C hP hS rfl (rt_o h) dX5_setsSoHigh_79

set_option maxRecDepth 100000 in
set_option maxHeartbeats 4000000 in
theorem wfX5_partOf_L41 {l : Launch} {g : Gw} {p : Program} {e : Env} {s : State} {m : MethodId} {args : Array Value} {below : List Frame} {meth : Method} {c : Code} {σ : Sto} (C : Cx wkX g p s m args meth c cX5_partOf 9 RX5 (some .int)) (v1 : Nat) (hv1 : isV v1) {Rz : Int32} {k_100 : Int32 → Int32 → Int32 → Int32 → Int32 → Option Int32} : ∀ (n : Nat) (x2 : Int32) (x3 : Int32) (x4 : Int32) (x5 : Int32) (x6 : Int32) (x7 : Int32) (x8 : Int32) (H : Heap) (locs : List Loc) (ls : Array Slot), fX5_partOf_L41 k_100 v1 σ n x2 x3 x4 x5 x6 x7 x8 = some Rz → wS wkX g σ H → va_S (AS wkX g) s.heap H locs → lv_has ls 9 [(1, .ref (adG g v1)), (2, .int x2), (3, .int x3), (4, .int x4), (5, .int x5), (6, .int x6), (7, .int x7), (8, .int x8)] → (∀ (x2 : Int32) (x3 : Int32) (x5 : Int32) (x6 : Int32) (x7 : Int32) (H : Heap) (locs : List Loc) (ls : Array Slot), k_100 x2 x3 x5 x6 x7 = some Rz → wS wkX g σ H → va_S (AS wkX g) s.heap H locs → lv_has ls 9 [(1, .ref (adG g v1)), (2, .int x2), (3, .int x3), (5, .int x5), (6, .int x6), (7, .int x7)] → W p l e (rmS 1) s m args below meth c H locs 0 0 (MQ below (QiS wkX g σ Rz) args s 0 0 (AS wkX g)) (F0 m 100 ls [])) → W p l e (rmS 1) s m args below meth c H locs 0 0 (MQ below (QiS wkX g σ Rz) args s 0 0 (AS wkX g)) (F0 m 41 ls []) := by
  intro n
  induction n with
  | zero =>
    intro x2 x3 x4 x5 x6 x7 x8 H locs ls h
    cases h
  | succ n ih =>
    intro x2 x3 x4 x5 x6 x7 x8 H locs ls h hP hS hl hk_100
    obtain ⟨hx, hb, hml, hown, hts, hr, hlk, hK, hZ⟩ := id C
    rw [fX5_partOf_L41] at h
    refine lv_iload hx hb dX5_partOf_41 (lv_at hl 7 rfl) ?_
    refine lv_aload_n hx hb dX5_partOf_43 rfl (lv_at hl 0 rfl) ?_
    refine r_geti C cf_8 hP (sv_0 hv1) (kv_0 hv1) 1 (by decide) rfl tw_850 dX5_partOf_44 ?_
    refine lv_icmp_ge (tgt := 100) hx hb dX5_partOf_47 (by decide) (fun c_ => ?_) (fun c_ => ?_)
    · replace h := if_t c_ h
      exact hk_100 x2 x3 x5 x6 x7 H locs ls h hP hS (lv_sub hl [0, 1, 2, 4, 5, 6] rfl)
    · replace h := if_f c_ h
      refine lv_iload hx hb dX5_partOf_50 (lv_at hl 3 rfl) ?_
      refine lv_iload hx hb dX5_partOf_52 (lv_at hl 7 rfl) ?_
      refine lv_ishr hx hb dX5_partOf_54 ?_
      refine lv_iconst (v := 1) hx hb dX5_partOf_55 (by decide) ?_
      refine lv_iand hx hb dX5_partOf_56 ?_
      refine lv_iconst (v := 1) hx hb dX5_partOf_57 (by decide) ?_
      refine lv_icmp_ne (tgt := 94) hx hb dX5_partOf_58 (by decide) (fun c_ => ?_) (fun c_ => ?_)
      · replace h := if_f c_ h
        obtain ⟨x_1, ex_1⟩ : ∃ y : Int32, y = x8 + (1 : Int32) := ⟨_, rfl⟩
        replace h := un_at ex_1 h
        refine lv_iinc (v := x_1) (lv' := [(8, .int x_1), (1, .ref (adG g v1)), (2, .int x2), (3, .int x3), (4, .int x4), (5, .int x5), (6, .int x6), (7, .int x7)]) hx hb dX5_partOf_94 hl (k := 7) rfl (by rw [ex_1]; rfl) (by decide) rfl (fun ls hl => ?_)
        refine lv_goto (tgt := 41) hx hb dX5_partOf_97 (by decide) ?_
        exact ih x2 x3 x4 x5 x6 x7 x_1 H locs ls h hP hS (lv_sub hl [1, 2, 3, 4, 5, 6, 7, 0] rfl) hk_100
      · replace h := if_t c_ h
        refine lv_iload hx hb dX5_partOf_61 (lv_at hl 5 rfl) ?_
        refine lv_iload_n hx hb dX5_partOf_63 rfl (lv_at hl 2 rfl) ?_
        refine lv_aload_n hx hb dX5_partOf_64 rfl (lv_at hl 0 rfl) ?_
        refine r_getr C cf_8 hP (sv_0 hv1) (kv_0 hv1) 9 (by decide) rfl tw_855 dX5_partOf_65 ?_
        refine lv_iload hx hb dX5_partOf_68 (lv_at hl 7 rfl) ?_
        obtain ⟨g_2, h⟩ := gd_inv h
        refine r_iald C hP (sv_5 hv1) (kv_5 hv1) rfl g_2 dX5_partOf_70 ?_
        refine lv_imul hx hb dX5_partOf_71 ?_
        refine lv_iload hx hb dX5_partOf_72 (lv_at hl 4 rfl) ?_
        obtain ⟨g_3, h⟩ := gd_inv h
        refine lv_idiv hx hb dX5_partOf_74 (nz_ne g_3) ?_
        refine lv_isub hx hb dX5_partOf_75 ?_
        refine lv_topi (fun x_4 ex_4 => ?_)
        replace h := un_at ex_4 h
        refine lv_istore (lv' := [(6, .int x_4), (1, .ref (adG g v1)), (2, .int x2), (3, .int x3), (4, .int x4), (5, .int x5), (7, .int x7), (8, .int x8)]) hx hb dX5_partOf_76 hl (by decide) rfl (fun ls hl => ?_)
        refine lv_iload hx hb dX5_partOf_78 (lv_at hl 6 rfl) ?_
        refine lv_iload hx hb dX5_partOf_80 (lv_at hl 7 rfl) ?_
        refine lv_iload_n hx hb dX5_partOf_82 rfl (lv_at hl 2 rfl) ?_
        refine lv_icmp_ge (tgt := 90) hx hb dX5_partOf_83 (by decide) (fun c_ => ?_) (fun c_ => ?_)
        · replace h := if_t c_ h
          refine lv_iconst (v := 0) hx hb dX5_partOf_90 (by decide) ?_
          refine lv_iadd hx hb dX5_partOf_91 ?_
          refine lv_topi (fun x_5 ex_5 => ?_)
          replace h := un_at ex_5 h
          refine lv_istore (lv' := [(7, .int x_5), (6, .int x_4), (1, .ref (adG g v1)), (2, .int x2), (3, .int x3), (4, .int x4), (5, .int x5), (8, .int x8)]) hx hb dX5_partOf_92 hl (by decide) rfl (fun ls hl => ?_)
          obtain ⟨x_6, ex_6⟩ : ∃ y : Int32, y = x8 + (1 : Int32) := ⟨_, rfl⟩
          replace h := un_at ex_6 h
          refine lv_iinc (v := x_6) (lv' := [(8, .int x_6), (7, .int x_5), (6, .int x_4), (1, .ref (adG g v1)), (2, .int x2), (3, .int x3), (4, .int x4), (5, .int x5)]) hx hb dX5_partOf_94 hl (k := 7) rfl (by rw [ex_6]; rfl) (by decide) rfl (fun ls hl => ?_)
          refine lv_goto (tgt := 41) hx hb dX5_partOf_97 (by decide) ?_
          exact ih x2 x3 x4 x5 x_4 x_5 x_6 H locs ls h hP hS (lv_sub hl [3, 4, 5, 6, 7, 2, 1, 0] rfl) hk_100
        · replace h := if_f c_ h
          refine lv_iconst (v := 1) hx hb dX5_partOf_86 (by decide) ?_
          refine lv_goto (tgt := 91) hx hb dX5_partOf_87 (by decide) ?_
          refine lv_iadd hx hb dX5_partOf_91 ?_
          refine lv_topi (fun x_7 ex_7 => ?_)
          replace h := un_at ex_7 h
          refine lv_istore (lv' := [(7, .int x_7), (6, .int x_4), (1, .ref (adG g v1)), (2, .int x2), (3, .int x3), (4, .int x4), (5, .int x5), (8, .int x8)]) hx hb dX5_partOf_92 hl (by decide) rfl (fun ls hl => ?_)
          obtain ⟨x_8, ex_8⟩ : ∃ y : Int32, y = x8 + (1 : Int32) := ⟨_, rfl⟩
          replace h := un_at ex_8 h
          refine lv_iinc (v := x_8) (lv' := [(8, .int x_8), (7, .int x_7), (6, .int x_4), (1, .ref (adG g v1)), (2, .int x2), (3, .int x3), (4, .int x4), (5, .int x5)]) hx hb dX5_partOf_94 hl (k := 7) rfl (by rw [ex_8]; rfl) (by decide) rfl (fun ls hl => ?_)
          refine lv_goto (tgt := 41) hx hb dX5_partOf_97 (by decide) ?_
          exact ih x2 x3 x4 x5 x_4 x_7 x_8 H locs ls h hP hS (lv_sub hl [3, 4, 5, 6, 7, 2, 1, 0] rfl) hk_100
