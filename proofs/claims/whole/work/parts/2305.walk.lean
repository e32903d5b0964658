set_option maxRecDepth 100000 in
set_option maxHeartbeats 4000000 in
theorem wfX5_isSpared_L59 {l : Launch} {g : Gw} {p : Program} {e : Env} {s : State} {m : MethodId} {args : Array Value} {below : List Frame} {meth : Method} {c : Code} (C : Cx wkX g p s m args meth c cX5_isSpared 7 RX5 (some .boolean)) (v1 : Nat) (hv1 : isV v1) {Rz : (Sto × Int32)} {k_138 : Sto → Int32 → Option (Sto × Int32)} : ∀ (n : Nat) (σ : Sto) (x2 : Int32) (x3 : Int32) (x5 : Int32) (x6 : Int32) (H : Heap) (locs : List Loc) (ls : Array Slot), fX5_isSpared_L59 k_138 v1 n σ x2 x3 x5 x6 = some Rz → wS wkX g σ H → va_S (AS wkX g) s.heap H locs → lv_has ls 7 [(0, .ref (adG g 10)), (1, .ref (adG g v1)), (2, .int x2), (3, .int x3), (5, .int x5), (6, .int x6)] → (∀ (σ : Sto) (x5 : Int32) (H : Heap) (locs : List Loc) (ls : Array Slot), k_138 σ x5 = some Rz → wS wkX g σ H → va_S (AS wkX g) s.heap H locs → lv_has ls 7 [(5, .int x5)] → W p l e (rmS 3) s m args below meth c H locs 0 0 (MQ below (QiS wkX g Rz.1 Rz.2) args s 0 0 (AS wkX g)) (F0 m 138 ls [])) → W p l e (rmS 3) s m args below meth c H locs 0 0 (MQ below (QiS wkX g Rz.1 Rz.2) args s 0 0 (AS wkX g)) (F0 m 59 ls []) := by
  intro n
  induction n with
  | zero =>
    intro σ x2 x3 x5 x6 H locs ls h
    cases h
  | succ n ih =>
    intro σ x2 x3 x5 x6 H locs ls h hP hS hl hk_138
    obtain ⟨hx, hb, hml, hown, hts, hr, hlk, hK, hZ⟩ := id C
    rw [fX5_isSpared_L59] at h
    refine lv_iload hx hb dX5_isSpared_59 (lv_at hl 5 rfl) ?_
    refine lv_iload_n hx hb dX5_isSpared_61 rfl (lv_at hl 3 rfl) ?_
    refine lv_icmp_ge (tgt := 138) hx hb dX5_isSpared_62 (by decide) (fun c_ => ?_) (fun c_ => ?_)
    · replace h := if_t c_ h
      exact hk_138 σ x5 H locs ls h hP hS (lv_sub hl [4] rfl)
    · replace h := if_f c_ h
      refine lv_iload hx hb dX5_isSpared_65 (lv_at hl 4 rfl) ?_
      refine lv_bipush (v := 20) hx hb dX5_isSpared_67 (by decide) ?_
      refine lv_icmp_ge (tgt := 138) hx hb dX5_isSpared_69 (by decide) (fun c_ => ?_) (fun c_ => ?_)
      · replace h := if_t c_ h
        exact hk_138 σ x5 H locs ls h hP hS (lv_sub hl [4] rfl)
      · replace h := if_f c_ h
        refine lv_aload_n hx hb dX5_isSpared_72 rfl (lv_at hl 0 rfl) ?_
        refine r_getr C cf_5 hP sx_10 kx_10 0 (by decide) rfl tw_92 dX5_isSpared_73 ?_
        refine lv_aload_n hx hb dX5_isSpared_76 rfl (lv_at hl 0 rfl) ?_
        refine r_getr C cf_5 hP sx_10 kx_10 0 (by decide) rfl tw_92 dX5_isSpared_77 ?_
        refine r_getr C cf_8 hP (sv_0 iv_260) (kv_0 iv_260) 6 (by decide) rfl tw_1023 dX5_isSpared_80 ?_
        refine lv_iconst (v := 0) hx hb dX5_isSpared_83 (by decide) ?_
        refine lv_aload_n hx hb dX5_isSpared_84 rfl (lv_at hl 1 rfl) ?_
        refine r_geti C cf_8 hP (sv_0 hv1) (kv_0 hv1) 4 (by decide) rfl tw_1024 dX5_isSpared_85 ?_
        refine lv_iload hx hb dX5_isSpared_88 (lv_at hl 5 rfl) ?_
        refine lv_iadd hx hb dX5_isSpared_90 ?_
        obtain ⟨q_1, hq_1, h⟩ := bd_inv h
        refine end_v (run_v (As := [.ref (adG g 262), .int (0 : Int32), .int ((σ v1 4) + x6)]) (rest := []) C ca_X8_flow (ctX8_flow 260 iv_260 262 (isA_of (sv_2 iv_260) (kv_2 iv_260)) (0 : Int32) ((σ v1 4) + x6) hq_1) cf_8 (sv_0 iv_260) (kv_0 iv_260) tw_1025 ⟨Nat.le_of_ble_eq_true rfl, Nat.le_of_ble_eq_true rfl⟩ rfl hl.1 (Nat.le_of_ble_eq_true rfl) ⟨Nat.le_refl _, Nat.le_refl _⟩ hP hS dX5_isSpared_91) hS (fun H locs hP hS => ?_)
        refine lv_aload_n hx hb dX5_isSpared_94 rfl (lv_at hl 0 rfl) ?_
        refine r_getr C cf_5 hP sx_10 kx_10 0 (by decide) rfl tw_92 dX5_isSpared_95 ?_
        refine lv_iload hx hb dX5_isSpared_98 (lv_at hl 4 rfl) ?_
        refine lv_aload_n hx hb dX5_isSpared_100 rfl (lv_at hl 1 rfl) ?_
        refine r_getr C cf_8 hP (sv_0 hv1) (kv_0 hv1) 8 (by decide) rfl tw_950 dX5_isSpared_101 ?_
        refine lv_iload_n hx hb dX5_isSpared_104 rfl (lv_at hl 2 rfl) ?_
        obtain ⟨g_2, h⟩ := gd_inv h
        refine r_iald C hP (sv_4 hv1) (kv_4 hv1) rfl g_2 dX5_isSpared_105 ?_
        refine lv_aload_n hx hb dX5_isSpared_106 rfl (lv_at hl 1 rfl) ?_
        refine r_getr C cf_8 hP (sv_0 hv1) (kv_0 hv1) 9 (by decide) rfl tw_855 dX5_isSpared_107 ?_
        refine lv_iload_n hx hb dX5_isSpared_110 rfl (lv_at hl 2 rfl) ?_
        refine r_iald C hP (sv_5 hv1) (kv_5 hv1) rfl g_2 dX5_isSpared_111 ?_
        refine lv_aload_n hx hb dX5_isSpared_112 rfl (lv_at hl 0 rfl) ?_
        refine r_getr C cf_5 hP sx_10 kx_10 0 (by decide) rfl tw_92 dX5_isSpared_113 ?_
        refine r_getr C cf_8 hP (sv_0 iv_260) (kv_0 iv_260) 6 (by decide) rfl tw_1023 dX5_isSpared_116 ?_
        refine lv_iconst (v := 0) hx hb dX5_isSpared_119 (by decide) ?_
        refine lv_aload_n hx hb dX5_isSpared_120 rfl (lv_at hl 1 rfl) ?_
        refine r_geti C cf_8 hP (sv_0 hv1) (kv_0 hv1) 4 (by decide) rfl tw_1024 dX5_isSpared_121 ?_
        refine lv_iload hx hb dX5_isSpared_124 (lv_at hl 5 rfl) ?_
        refine lv_iadd hx hb dX5_isSpared_126 ?_
        obtain ⟨q_3, hq_3, h⟩ := bd_inv h
        refine end_i (run_v (As := [.int x5, .int (q_1 (v1 + 4) x2.toNatClampNeg), .int (q_1 (v1 + 5) x2.toNatClampNeg), .ref (adG g 262), .int (0 : Int32), .int ((q_1 v1 4) + x6)]) (rest := []) C ca_X8_placeAfter (ctX8_placeAfter 260 iv_260 x5 (q_1 (v1 + 4) x2.toNatClampNeg) (q_1 (v1 + 5) x2.toNatClampNeg) 262 (isA_of (sv_2 iv_260) (kv_2 iv_260)) (0 : Int32) ((q_1 v1 4) + x6) hq_3) cf_8 (sv_0 iv_260) (kv_0 iv_260) tw_1026 ⟨Nat.le_of_ble_eq_true rfl, Nat.le_of_ble_eq_true rfl⟩ rfl hl.1 (Nat.le_of_ble_eq_true rfl) ⟨Nat.le_refl _, Nat.le_refl _⟩ hP hS dX5_isSpared_127) hS (fun H locs hP hS => ?_)
        refine lv_istore (lv' := [(5, .int q_3), (0, .ref (adG g 10)), (1, .ref (adG g v1)), (2, .int x2), (3, .int x3), (6, .int x6)]) hx hb dX5_isSpared_130 hl (by decide) rfl (fun ls hl => ?_)
        obtain ⟨x_4, ex_4⟩ : ∃ y : Int32, y = x6 + (1 : Int32) := ⟨_, rfl⟩
        replace h := un_at ex_4 h
        refine lv_iinc (v := x_4) (lv' := [(6, .int x_4), (5, .int q_3), (0, .ref (adG g 10)), (1, .ref (adG g v1)), (2, .int x2), (3, .int x3)]) hx hb dX5_isSpared_132 hl (k := 5) rfl (by rw [ex_4]; rfl) (by decide) rfl (fun ls hl => ?_)
        refine lv_goto (tgt := 59) hx hb dX5_isSpared_135 (by decide) ?_
        exact ih q_1 x2 x3 q_3 x_4 H locs ls h hP hS (lv_sub hl [2, 3, 4, 5, 1, 0] rfl) hk_138

set_option maxRecDepth 100000 in
set_option maxHeartbeats 4000000 in
theorem wfX5_isSpared_j138 {l : Launch} {g : Gw} {p : Program} {e : Env} {s : State} {m : MethodId} {args : Array Value} {below : List Frame} {meth : Method} {c : Code} (C : Cx wkX g p s m args meth c cX5_isSpared 7 RX5 (some .boolean)) (v1 : Nat) (hv1 : isV v1) {Rz : (Sto × Int32)} : ∀ (σ : Sto) (x5 : Int32) (H : Heap) (locs : List Loc) (ls : Array Slot), fX5_isSpared_j138 v1 σ x5 = some Rz → wS wkX g σ H → va_S (AS wkX g) s.heap H locs → lv_has ls 7 [(5, .int x5)] → W p l e (rmS 3) s m args below meth c H locs 0 0 (MQ below (QiS wkX g Rz.1 Rz.2) args s 0 0 (AS wkX g)) (F0 m 138 ls []) := by
  intro σ x5 H locs ls h hP hS hl
  obtain ⟨hx, hb, hml, hown, hts, hr, hlk, hK, hZ⟩ := id C
  unfold fX5_isSpared_j138 at h
  refine lv_iload hx hb dX5_isSpared_138 (lv_at hl 0 rfl) ?_
  refine lv_bipush (v := 30) hx hb dX5_isSpared_140 (by decide) ?_
  refine lv_icmp_ge (tgt := 149) hx hb dX5_isSpared_142 (by decide) (fun c_ => ?_) (fun c_ => ?_)
  · replace h := if_t c_ h
    refine lv_iconst (v := 0) hx hb dX5_isSpared_149 (by decide) ?_
    exact r_retz C hP hS (rt_ow1 h) (rt_ow2 h) rfl dX5_isSpared_150
  · replace h := if_f c_ h
    refine lv_iconst (v := 1) hx hb dX5_isSpared_145 (by decide) ?_
    refine lv_goto (tgt := 150) hx hb dX5_isSpared_146 (by decide) ?_
    exact r_retz C hP hS (rt_ow1 h) (rt_ow2 h) rfl dX5_isSpared_150

set_option maxRecDepth 100000 in
set_option maxHeartbeats 4000000 in
theorem ctX5_isSpared {l : Launch} {g : Gw} {σ : Sto} (v1 : Nat) (hv1 : isV v1) (x2 : Int32) (x3 : Int32) (x4 : Int32) {Rz : (Sto × Int32)} (h : fX5_isSpared σ v1 x2 x3 x4 = some Rz) : MtG l yX5_isSpared cX5_isSpared 7 (some .boolean) 3 wkX g [.ref (adG g 10), .ref (adG g v1), .int x2, .int x3, .int x4] σ (QiS wkX g Rz.1 Rz.2) := by
  refine mt_of (by decide) (Nat.le_of_ble_eq_true rfl) (fun p e s m below meth c ls H locs C hP hS hl => ?_)
  have C : Cx wkX g p s m _ meth c cX5_isSpared 7 RX5 (some .boolean) := C
  have hl : lv_has ls 7 [(0, .ref (adG g 10)), (1, .ref (adG g v1)), (2, .int x2), (3, .int x3), (4, .int x4)] := hl
  obtain ⟨hx, hb, hml, hown, hts, hr, hlk, hK, hZ⟩ := id C
  unfold fX5_isSpared at h
  refine lv_aload_n hx hb dX5_isSpared_0 rfl (lv_at hl 0 rfl) ?_
  refine r_getr C cf_5 hP sx_10 kx_10 0 (by decide) rfl tw_92 dX5_isSpared_1 ?_
  refine lv_aload_n hx hb dX5_isSpared_4 rfl (lv_at hl 1 rfl) ?_
  obtain ⟨q_1, eq_1⟩ : ∃ z, z = fX8_become σ 260 v1 := ⟨_, rfl⟩
  replace h := un_at eq_1 h
  refine end_v (run_v (As := [.ref (adG g v1)]) (rest := []) C ca_X8_become (ctX8_become 260 iv_260 v1 hv1 eq_1.symm) cf_8 (sv_0 iv_260) (kv_0 iv_260) tw_681 ⟨Nat.le_of_ble_eq_true rfl, Nat.le_of_ble_eq_true rfl⟩ rfl hl.1 (Nat.le_of_ble_eq_true rfl) ⟨Nat.le_refl _, Nat.le_refl _⟩ hP hS dX5_isSpared_5) hS (fun H locs hP hS => ?_)
  refine lv_iconst (v := 0) hx hb dX5_isSpared_8 (by decide) ?_
  refine lv_istore (lv' := [(5, .int (0 : Int32)), (0, .ref (adG g 10)), (1, .ref (adG g v1)), (2, .int x2), (3, .int x3), (4, .int x4)]) hx hb dX5_isSpared_9 hl (by decide) rfl (fun ls hl => ?_)
  refine wfX5_isSpared_L11 C v1 hv1 fu q_1 x2 x3 x4 (0 : Int32) H locs ls h hP hS (lv_sub hl [1, 2, 3, 4, 5, 0] rfl) (fun σ_2 z_3 z_4 H locs ls h hP hS hl => ?_)
  refine lv_aload_n hx hb dX5_isSpared_48 rfl (lv_at hl 1 rfl) ?_
  refine r_getr C cf_8 hP (sv_0 hv1) (kv_0 hv1) 10 (by decide) rfl tw_625 dX5_isSpared_49 ?_
  refine lv_iload_n hx hb dX5_isSpared_52 rfl (lv_at hl 2 rfl) ?_
  obtain ⟨g_5, h⟩ := gd_inv h
  refine r_iald C hP (sv_6 hv1) (kv_6 hv1) rfl g_5 dX5_isSpared_53 ?_
  refine lv_topi (fun x_6 ex_6 => ?_)
  replace h := un_at ex_6 h
  refine lv_istore (lv' := [(5, .int x_6), (0, .ref (adG g 10)), (1, .ref (adG g v1)), (2, .int z_3), (3, .int z_4)]) hx hb dX5_isSpared_54 hl (by decide) rfl (fun ls hl => ?_)
  refine lv_iconst (v := 0) hx hb dX5_isSpared_56 (by decide) ?_
  refine lv_istore (lv' := [(6, .int (0 : Int32)), (5, .int x_6), (0, .ref (adG g 10)), (1, .ref (adG g v1)), (2, .int z_3), (3, .int z_4)]) hx hb dX5_isSpared_57 hl (by decide) rfl (fun ls hl => ?_)
  refine wfX5_isSpared_L59 C v1 hv1 fu σ_2 z_3 z_4 x_6 (0 : Int32) H locs ls h hP hS (lv_sub hl [2, 3, 4, 5, 1, 0] rfl) (fun σ_7 z_8 H locs ls h hP hS hl => ?_)
  exact wfX5_isSpared_j138 C v1 hv1 σ_7 z_8 H locs ls h hP hS (lv_sub hl [0] rfl)

set_option maxRecDepth 100000 in
set_option maxHeartbeats 4000000 in
theorem wfX5_greatestDivisor_L9 {l : Launch} {g : Gw} {p : Program} {e : Env} {s : State} {m : MethodId} {args : Array Value} {below : List Frame} {meth : Method} {c : Code} {σ : Sto} (C : Cx wkX g p s m args meth c cX5_greatestDivisor 11 RX5 (some .long)) {Rz : Int64} : ∀ (n : Nat) (x4 : Int64) (x6 : Int64) (x8 : Int32) (H : Heap) (locs : List Loc) (ls : Array Slot), fX5_greatestDivisor_L9 n x4 x6 x8 = some Rz → wS wkX g σ H → va_S (AS wkX g) s.heap H locs → lv_has ls 11 [(4, .long x4), (6, .long x6), (8, .int x8)] → W p l e (rmS 0) s m args below meth c H locs 0 0 (MQ below (QlS wkX g σ Rz) args s 0 0 (AS wkX g)) (F0 m 9 ls []) := by
  intro n
  induction n with
  | zero =>
    intro x4 x6 x8 H locs ls h
    cases h
  | succ n ih =>
    intro x4 x6 x8 H locs ls h hP hS hl
    obtain ⟨hx, hb, hml, hown, hts, hr, hlk, hK, hZ⟩ := id C
    rw [fX5_greatestDivisor_L9] at h
    refine lv_iload hx hb dX5_greatestDivisor_9 (lv_at hl 2 rfl) ?_
    refine lv_bipush (v := 100) hx hb dX5_greatestDivisor_11 (by decide) ?_
    refine lv_icmp_ge (tgt := 44) hx hb dX5_greatestDivisor_13 (by decide) (fun c_ => ?_) (fun c_ => ?_)
    · replace h := if_t c_ h
      refine lv_lload hx hb dX5_greatestDivisor_44 (lv_at hl 0 rfl) ?_
      exact r_retl C hP hS rfl (rt_o h) dX5_greatestDivisor_46
    · replace h := if_f c_ h
      refine lv_lload hx hb dX5_greatestDivisor_16 (lv_at hl 1 rfl) ?_
      refine lv_lconst (v := 0) hx hb dX5_greatestDivisor_18 (by decide) ?_
      refine W.lcmp hx hb dX5_greatestDivisor_19 ?_
      refine lv_if_eq (tgt := 44) hx hb dX5_greatestDivisor_20 (by decide) (fun c_ => ?_) (fun c_ => ?_)
      · replace h := if_t c_ h
        refine lv_lload hx hb dX5_greatestDivisor_44 (lv_at hl 0 rfl) ?_
        exact r_retl C hP hS rfl (rt_o h) dX5_greatestDivisor_46
      · replace h := if_f c_ h
        refine lv_lload hx hb dX5_greatestDivisor_23 (lv_at hl 0 rfl) ?_
        refine lv_lload hx hb dX5_greatestDivisor_25 (lv_at hl 1 rfl) ?_
        obtain ⟨g_1, h⟩ := gd_inv h
        refine lv_lrem hx hb dX5_greatestDivisor_27 (nzL_ne g_1) ?_
        refine lv_topl (fun x_2 ex_2 => ?_)
        replace h := un_at ex_2 h
        refine lv_lstore (lv' := [(9, .long x_2), (4, .long x4), (6, .long x6), (8, .int x8)]) hx hb dX5_greatestDivisor_28 hl (by decide) rfl (fun ls hl => ?_)
        refine lv_lload hx hb dX5_greatestDivisor_30 (lv_at hl 2 rfl) ?_
        refine lv_lstore (lv' := [(4, .long x6), (9, .long x_2), (6, .long x6), (8, .int x8)]) hx hb dX5_greatestDivisor_32 hl (by decide) rfl (fun ls hl => ?_)
        refine lv_lload hx hb dX5_greatestDivisor_34 (lv_at hl 1 rfl) ?_
        refine lv_lstore (lv' := [(6, .long x_2), (4, .long x6), (9, .long x_2), (8, .int x8)]) hx hb dX5_greatestDivisor_36 hl (by decide) rfl (fun ls hl => ?_)
        obtain ⟨x_3, ex_3⟩ : ∃ y : Int32, y = x8 + (1 : Int32) := ⟨_, rfl⟩
        replace h := un_at ex_3 h
        refine lv_iinc (v := x_3) (lv' := [(8, .int x_3), (6, .long x_2), (4, .long x6), (9, .long x_2)]) hx hb dX5_greatestDivisor_38 hl (k := 3) rfl (by rw [ex_3]; rfl) (by decide) rfl (fun ls hl => ?_)
        refine lv_goto (tgt := 9) hx hb dX5_greatestDivisor_41 (by decide) ?_
        exact ih x6 x_2 x_3 H locs ls h hP hS (lv_sub hl [2, 1, 0] rfl)

set_option maxRecDepth 100000 in
set_option maxHeartbeats 4000000 in
theorem ctX5_greatestDivisor {l : Launch} {g : Gw} {σ : Sto} (x0 : Int64) (x2 : Int64) {Rz : Int64} (h : fX5_greatestDivisor x0 x2 = some Rz) : MtG l yX5_greatestDivisor cX5_greatestDivisor 11 (some .long) 0 wkX g [.long x0, .long x2] σ (QlS wkX g σ Rz) := by
  refine mt_of (by decide) (Nat.le_of_ble_eq_true rfl) (fun p e s m below meth c ls H locs C hP hS hl => ?_)
  have C : Cx wkX g p s m _ meth c cX5_greatestDivisor 11 RX5 (some .long) := C
  have hl : lv_has ls 11 [(0, .long x0), (2, .long x2)] := hl
  obtain ⟨hx, hb, hml, hown, hts, hr, hlk, hK, hZ⟩ := id C
  unfold fX5_greatestDivisor at h
  refine lv_lload_n hx hb dX5_greatestDivisor_0 rfl (lv_at hl 0 rfl) ?_
  refine lv_lstore (lv' := [(4, .long x0), (0, .long x0), (2, .long x2)]) hx hb dX5_greatestDivisor_1 hl (by decide) rfl (fun ls hl => ?_)
  refine lv_lload_n hx hb dX5_greatestDivisor_3 rfl (lv_at hl 2 rfl) ?_
  refine lv_lstore (lv' := [(6, .long x2), (4, .long x0), (0, .long x0), (2, .long x2)]) hx hb dX5_greatestDivisor_4 hl (by decide) rfl (fun ls hl => ?_)
  refine lv_iconst (v := 0) hx hb dX5_greatestDivisor_6 (by decide) ?_
  refine lv_istore (lv' := [(8, .int (0 : Int32)), (6, .long x2), (4, .long x0), (0, .long x0), (2, .long x2)]) hx hb dX5_greatestDivisor_7 hl (by decide) rfl (fun ls hl => ?_)
  exact wfX5_greatestDivisor_L9 C fu x0 x2 (0 : Int32) H locs ls h hP hS (lv_sub hl [2, 1, 0] rfl)

set_option maxRecDepth 100000 in
set_option maxHeartbeats 4000000 in
theorem wfX5_likelySpared_L12 {l : Launch} {g : Gw} {p : Program} {e : Env} {s : State} {m : MethodId} {args : Array Value} {below : List Frame} {meth : Method} {c : Code} (C : Cx wkX g p s m args meth c cX5_likelySpared 14 RX5 (some .long)) (v1 : Nat) (hv1 : isV v1) {Rz : (Sto × Int64)} {k_36 : Sto → Int32 → Int32 → Int32 → Int32 → Int32 → Int64 → Option (Sto × Int64)} : ∀ (n : Nat) (σ : Sto) (x2 : Int32) (x3 : Int32) (x4 : Int32) (x5 : Int32) (x6 : Int32) (x7 : Int64) (x9 : Int32) (H : Heap) (locs : List Loc) (ls : Array Slot), fX5_likelySpared_L12 k_36 v1 n σ x2 x3 x4 x5 x6 x7 x9 = some Rz → wS wkX g σ H → va_S (AS wkX g) s.heap H locs → lv_has ls 14 [(0, .ref (adG g 10)), (1, .ref (adG g v1)), (2, .int x2), (3, .int x3), (4, .int x4), (5, .int x5), (6, .int x6), (7, .long x7), (9, .int x9)] → (∀ (σ : Sto) (x2 : Int32) (x3 : Int32) (x4 : Int32) (x5 : Int32) (x6 : Int32) (x7 : Int64) (H : Heap) (locs : List Loc) (ls : Array Slot), k_36 σ x2 x3 x4 x5 x6 x7 = some Rz → wS wkX g σ H → va_S (AS wkX g) s.heap H locs → lv_has ls 14 [(0, .ref (adG g 10)), (1, .ref (adG g v1)), (2, .int x2), (3, .int x3), (4, .int x4), (5, .int x5), (6, .int x6), (7, .long x7)] → W p l e (rmS 4) s m args below meth c H locs 0 0 (MQ below (QlS wkX g Rz.1 Rz.2) args s 0 0 (AS wkX g)) (F0 m 36 ls [])) → W p l e (rmS 4) s m args below meth c H locs 0 0 (MQ below (QlS wkX g Rz.1 Rz.2) args s 0 0 (AS wkX g)) (F0 m 12 ls []) := by
  intro n
  induction n with
  | zero =>
    intro σ x2 x3 x4 x5 x6 x7 x9 H locs ls h
    cases h
  | succ n ih =>
    intro σ x2 x3 x4 x5 x6 x7 x9 H locs ls h hP hS hl hk_36
    obtain ⟨hx, hb, hml, hown, hts, hr, hlk, hK, hZ⟩ := id C
    rw [fX5_likelySpared_L12] at h
    refine lv_iload hx hb dX5_likelySpared_12 (lv_at hl 8 rfl) ?_
    refine lv_iload hx hb dX5_likelySpared_14 (lv_at hl 6 rfl) ?_
    refine end_i (run_s (As := [.int x6]) (rest := [.int x9]) C ca_J6_bitCount_0f7a4 (ctJ6_bitCount_0f7a4 x6 rfl) tw_804 ⟨Nat.le_of_ble_eq_true rfl, Nat.le_of_ble_eq_true rfl⟩ rfl hl.1 (Nat.le_of_ble_eq_true rfl) ⟨Nat.le_refl _, Nat.le_refl _⟩ hP hS dX5_likelySpared_16) hS (fun H locs hP hS => ?_)
    refine lv_icmp_ge (tgt := 36) hx hb dX5_likelySpared_19 (by decide) (fun c_ => ?_) (fun c_ => ?_)
    · replace h := if_t c_ h
      exact hk_36 σ x2 x3 x4 x5 x6 x7 H locs ls h hP hS (lv_sub hl [0, 1, 2, 3, 4, 5, 6, 7] rfl)
    · replace h := if_f c_ h
      refine lv_lload hx hb dX5_likelySpared_22 (lv_at hl 7 rfl) ?_
      refine lv_ldc2 hx hb hown (hts _ tw_1012) dX5_likelySpared_24 ?_
      refine lv_lmul hx hb dX5_likelySpared_27 ?_
      refine lv_topl (fun x_2 ex_2 => ?_)
      replace h := un_at ex_2 h
      refine lv_lstore (lv' := [(7, .long x_2), (0, .ref (adG g 10)), (1, .ref (adG g v1)), (2, .int x2), (3, .int x3), (4, .int x4), (5, .int x5), (6, .int x6), (9, .int x9)]) hx hb dX5_likelySpared_28 hl (by decide) rfl (fun ls hl => ?_)
      obtain ⟨x_3, ex_3⟩ : ∃ y : Int32, y = x9 + (1 : Int32) := ⟨_, rfl⟩
      replace h := un_at ex_3 h
      refine lv_iinc (v := x_3) (lv' := [(9, .int x_3), (7, .long x_2), (0, .ref (adG g 10)), (1, .ref (adG g v1)), (2, .int x2), (3, .int x3), (4, .int x4), (5, .int x5), (6, .int x6)]) hx hb dX5_likelySpared_30 hl (k := 8) rfl (by rw [ex_3]; rfl) (by decide) rfl (fun ls hl => ?_)
      refine lv_goto (tgt := 12) hx hb dX5_likelySpared_33 (by decide) ?_
      exact ih σ x2 x3 x4 x5 x6 x_2 x_3 H locs ls h hP hS (lv_sub hl [2, 3, 4, 5, 6, 7, 8, 1, 0] rfl) hk_36

set_option maxRecDepth 100000 in
set_option maxHeartbeats 4000000 in
theorem wfX5_likelySpared_j76 {l : Launch} {g : Gw} {p : Program} {e : Env} {s : State} {m : MethodId} {args : Array Value} {below : List Frame} {meth : Method} {c : Code} (C : Cx wkX g p s m args meth c cX5_likelySpared 14 RX5 (some .long)) (v1 : Nat) (hv1 : isV v1) {Rz : (Sto × Int64)} {k_42 : Sto → Int32 → Int32 → Int32 → Int32 → Int32 → Int64 → Int64 → Int32 → Option (Sto × Int64)} : ∀ (σ : Sto) (x2 : Int32) (x3 : Int32) (x4 : Int32) (x5 : Int32) (x6 : Int32) (x7 : Int64) (x9 : Int64) (x11 : Int32) (y0 : Int64) (H : Heap) (locs : List Loc) (ls : Array Slot), fX5_likelySpared_j76 k_42 v1 σ x2 x3 x4 x5 x6 x7 x9 x11 y0 = some Rz → wS wkX g σ H → va_S (AS wkX g) s.heap H locs → lv_has ls 14 [(0, .ref (adG g 10)), (1, .ref (adG g v1)), (2, .int x2), (3, .int x3), (4, .int x4), (5, .int x5), (6, .int x6), (7, .long x7), (9, .long x9), (11, .int x11)] → (∀ (σ : Sto) (x2 : Int32) (x3 : Int32) (x4 : Int32) (x5 : Int32) (x6 : Int32) (x7 : Int64) (x9 : Int64) (x11 : Int32) (H : Heap) (locs : List Loc) (ls : Array Slot), k_42 σ x2 x3 x4 x5 x6 x7 x9 x11 = some Rz → wS wkX g σ H → va_S (AS wkX g) s.heap H locs → lv_has ls 14 [(0, .ref (adG g 10)), (1, .ref (adG g v1)), (2, .int x2), (3, .int x3), (4, .int x4), (5, .int x5), (6, .int x6), (7, .long x7), (9, .long x9), (11, .int x11)] → W p l e (rmS 4) s m args below meth c H locs 0 0 (MQ below (QlS wkX g Rz.1 Rz.2) args s 0 0 (AS wkX g)) (F0 m 42 ls [])) → W p l e (rmS 4) s m args below meth c H locs 0 0 (MQ below (QlS wkX g Rz.1 Rz.2) args s 0 0 (AS wkX g)) (F0 m 76 ls [.long y0]) := by
  intro σ x2 x3 x4 x5 x6 x7 x9 x11 y0 H locs ls h hP hS hl hk_42
  obtain ⟨hx, hb, hml, hown, hts, hr, hlk, hK, hZ⟩ := id C
  unfold fX5_likelySpared_j76 at h
  refine lv_lstore (lv' := [(12, .long y0), (0, .ref (adG g 10)), (1, .ref (adG g v1)), (2, .int x2), (3, .int x3), (4, .int x4), (5, .int x5), (6, .int x6), (7, .long x7), (9, .long x9), (11, .int x11)]) hx hb dX5_likelySpared_76 hl (by decide) rfl (fun ls hl => ?_)
  refine lv_lload hx hb dX5_likelySpared_78 (lv_at hl 0 rfl) ?_
  refine lv_lconst (v := 0) hx hb dX5_likelySpared_80 (by decide) ?_
  refine W.lcmp hx hb dX5_likelySpared_81 ?_
  refine lv_if_le (tgt := 104) hx hb dX5_likelySpared_82 (by decide) (fun c_ => ?_) (fun c_ => ?_)
  · replace h := if_t c_ h
    obtain ⟨x_1, ex_1⟩ : ∃ y : Int32, y = x11 + (1 : Int32) := ⟨_, rfl⟩
    replace h := un_at ex_1 h
    refine lv_iinc (v := x_1) (lv' := [(11, .int x_1), (12, .long y0), (0, .ref (adG g 10)), (1, .ref (adG g v1)), (2, .int x2), (3, .int x3), (4, .int x4), (5, .int x5), (6, .int x6), (7, .long x7), (9, .long x9)]) hx hb dX5_likelySpared_104 hl (k := 10) rfl (by rw [ex_1]; rfl) (by decide) rfl (fun ls hl => ?_)
    refine lv_goto (tgt := 42) hx hb dX5_likelySpared_107 (by decide) ?_
    exact hk_42 σ x2 x3 x4 x5 x6 x7 x9 x_1 H locs ls h hP hS (lv_sub hl [2, 3, 4, 5, 6, 7, 8, 9, 10, 0] rfl)
  · replace h := if_f c_ h
    refine lv_aload_n hx hb dX5_likelySpared_85 rfl (lv_at hl 1 rfl) ?_
    refine lv_aload_n hx hb dX5_likelySpared_86 rfl (lv_at hl 2 rfl) ?_
    refine lv_iload_n hx hb dX5_likelySpared_87 rfl (lv_at hl 3 rfl) ?_
    refine lv_iload_n hx hb dX5_likelySpared_88 rfl (lv_at hl 4 rfl) ?_
    refine lv_iload hx hb dX5_likelySpared_89 (lv_at hl 10 rfl) ?_
    obtain ⟨q_2, hq_2, h⟩ := bd_inv h
    refine end_i (run_v (As := [.ref (adG g v1), .int x2, .int x3, .int x11]) (rest := []) C ca_X5_isSpared (ctX5_isSpared v1 hv1 x2 x3 x11 hq_2) cf_5 sx_10 kx_10 tw_1019 ⟨Nat.le_of_ble_eq_true rfl, Nat.le_of_ble_eq_true rfl⟩ rfl hl.1 (Nat.le_of_ble_eq_true rfl) ⟨Nat.le_refl _, Nat.le_refl _⟩ hP hS dX5_likelySpared_91) hS (fun H locs hP hS => ?_)
    refine lv_if_eq (tgt := 104) hx hb dX5_likelySpared_94 (by decide) (fun c_ => ?_) (fun c_ => ?_)
    · replace h := if_t c_ h
      obtain ⟨x_3, ex_3⟩ : ∃ y : Int32, y = x11 + (1 : Int32) := ⟨_, rfl⟩
      replace h := un_at ex_3 h
      refine lv_iinc (v := x_3) (lv' := [(11, .int x_3), (12, .long y0), (0, .ref (adG g 10)), (1, .ref (adG g v1)), (2, .int x2), (3, .int x3), (4, .int x4), (5, .int x5), (6, .int x6), (7, .long x7), (9, .long x9)]) hx hb dX5_likelySpared_104 hl (k := 10) rfl (by rw [ex_3]; rfl) (by decide) rfl (fun ls hl => ?_)
      refine lv_goto (tgt := 42) hx hb dX5_likelySpared_107 (by decide) ?_
      exact hk_42 q_2.1 x2 x3 x4 x5 x6 x7 x9 x_3 H locs ls h hP hS (lv_sub hl [2, 3, 4, 5, 6, 7, 8, 9, 10, 0] rfl)
    · replace h := if_f c_ h
      refine lv_lload hx hb dX5_likelySpared_97 (lv_at hl 9 rfl) ?_
      refine lv_lload hx hb dX5_likelySpared_99 (lv_at hl 0 rfl) ?_
      refine lv_ladd hx hb dX5_likelySpared_101 ?_
      refine lv_topl (fun x_4 ex_4 => ?_)
      replace h := un_at ex_4 h
      refine lv_lstore (lv' := [(9, .long x_4), (12, .long y0), (0, .ref (adG g 10)), (1, .ref (adG g v1)), (2, .int x2), (3, .int x3), (4, .int x4), (5, .int x5), (6, .int x6), (7, .long x7), (11, .int x11)]) hx hb dX5_likelySpared_102 hl (by decide) rfl (fun ls hl => ?_)
      obtain ⟨x_5, ex_5⟩ : ∃ y : Int32, y = x11 + (1 : Int32) := ⟨_, rfl⟩
      replace h := un_at ex_5 h
      refine lv_iinc (v := x_5) (lv' := [(11, .int x_5), (9, .long x_4), (12, .long y0), (0, .ref (adG g 10)), (1, .ref (adG g v1)), (2, .int x2), (3, .int x3), (4, .int x4), (5, .int x5), (6, .int x6), (7, .long x7)]) hx hb dX5_likelySpared_104 hl (k := 10) rfl (by rw [ex_5]; rfl) (by decide) rfl (fun ls hl => ?_)
      refine lv_goto (tgt := 42) hx hb dX5_likelySpared_107 (by decide) ?_
      exact hk_42 q_2.1 x2 x3 x4 x5 x6 x7 x_4 x_5 H locs ls h hP hS (lv_sub hl [3, 4, 5, 6, 7, 8, 9, 10, 1, 0] rfl)

set_option maxRecDepth 100000 in
set_option maxHeartbeats 4000000 in
theorem wfX5_likelySpared_L42 {l : Launch} {g : Gw} {p : Program} {e : Env} {s : State} {m : MethodId} {args : Array Value} {below : List Frame} {meth : Method} {c : Code} (C : Cx wkX g p s m args meth c cX5_likelySpared 14 RX5 (some .long)) (v1 : Nat) (hv1 : isV v1) {Rz : (Sto × Int64)} {k_110 : Sto → Int32 → Int64 → Int64 → Option (Sto × Int64)} : ∀ (n : Nat) (σ : Sto) (x2 : Int32) (x3 : Int32) (x4 : Int32) (x5 : Int32) (x6 : Int32) (x7 : Int64) (x9 : Int64) (x11 : Int32) (H : Heap) (locs : List Loc) (ls : Array Slot), fX5_likelySpared_L42 k_110 v1 n σ x2 x3 x4 x5 x6 x7 x9 x11 = some Rz → wS wkX g σ H → va_S (AS wkX g) s.heap H locs → lv_has ls 14 [(0, .ref (adG g 10)), (1, .ref (adG g v1)), (2, .int x2), (3, .int x3), (4, .int x4), (5, .int x5), (6, .int x6), (7, .long x7), (9, .long x9), (11, .int x11)] → (∀ (σ : Sto) (x5 : Int32) (x7 : Int64) (x9 : Int64) (H : Heap) (locs : List Loc) (ls : Array Slot), k_110 σ x5 x7 x9 = some Rz → wS wkX g σ H → va_S (AS wkX g) s.heap H locs → lv_has ls 14 [(5, .int x5), (7, .long x7), (9, .long x9)] → W p l e (rmS 4) s m args below meth c H locs 0 0 (MQ below (QlS wkX g Rz.1 Rz.2) args s 0 0 (AS wkX g)) (F0 m 110 ls [])) → W p l e (rmS 4) s m args below meth c H locs 0 0 (MQ below (QlS wkX g Rz.1 Rz.2) args s 0 0 (AS wkX g)) (F0 m 42 ls []) := by
  intro n
  induction n with
  | zero =>
    intro σ x2 x3 x4 x5 x6 x7 x9 x11 H locs ls h
    cases h
  | succ n ih =>
    intro σ x2 x3 x4 x5 x6 x7 x9 x11 H locs ls h hP hS hl hk_110
    obtain ⟨hx, hb, hml, hown, hts, hr, hlk, hK, hZ⟩ := id C
    rw [fX5_likelySpared_L42] at h
    refine lv_iload hx hb dX5_likelySpared_42 (lv_at hl 9 rfl) ?_
    refine lv_iconst (v := 1) hx hb dX5_likelySpared_44 (by decide) ?_
    refine lv_aload_n hx hb dX5_likelySpared_45 rfl (lv_at hl 1 rfl) ?_
    refine r_geti C cf_8 hP (sv_0 hv1) (kv_0 hv1) 0 (by decide) rfl tw_731 dX5_likelySpared_46 ?_
    refine lv_ishl hx hb dX5_likelySpared_49 ?_
    refine lv_icmp_ge (tgt := 110) hx hb dX5_likelySpared_50 (by decide) (fun c_ => ?_) (fun c_ => ?_)
    · replace h := if_t c_ h
      exact hk_110 σ x5 x7 x9 H locs ls h hP hS (lv_sub hl [5, 7, 8] rfl)
    · replace h := if_f c_ h
      refine lv_iload hx hb dX5_likelySpared_53 (lv_at hl 9 rfl) ?_
      refine lv_iload hx hb dX5_likelySpared_55 (lv_at hl 6 rfl) ?_
      refine lv_iconst (v := (-1)) hx hb dX5_likelySpared_57 (by decide) ?_
      refine lv_ixor hx hb dX5_likelySpared_58 ?_
      refine lv_iand hx hb dX5_likelySpared_59 ?_
      refine lv_if_ne (tgt := 75) hx hb dX5_likelySpared_60 (by decide) (fun c_ => ?_) (fun c_ => ?_)
      · replace h := if_f c_ h
        refine lv_lconst (v := 0) hx hb dX5_likelySpared_75 (by decide) ?_
        refine wfX5_likelySpared_j76 C v1 hv1 σ x2 x3 x4 x5 x6 x7 x9 x11 (0 : Int64) H locs ls h hP hS (lv_sub hl [0, 1, 2, 3, 4, 5, 6, 7, 8, 9] rfl) (fun σ_1 z_2 z_3 z_4 z_5 z_6 z_7 z_8 z_9 H locs ls h hP hS hl => ?_)
        exact ih σ_1 z_2 z_3 z_4 z_5 z_6 z_7 z_8 z_9 H locs ls h hP hS (lv_sub hl [0, 1, 2, 3, 4, 5, 6, 7, 8, 9] rfl) hk_110
      · replace h := if_t c_ h
        refine lv_iload hx hb dX5_likelySpared_63 (lv_at hl 6 rfl) ?_
        refine lv_iload hx hb dX5_likelySpared_65 (lv_at hl 9 rfl) ?_
        refine lv_iload hx hb dX5_likelySpared_67 (lv_at hl 4 rfl) ?_
        obtain ⟨q_10, hq_10, h⟩ := bd_inv h
        refine end_l (run_s (As := [.int x6, .int x11, .int x4]) (rest := []) C ca_X5_casesOf (ctX5_casesOf x6 x11 x4 hq_10) tw_1016 ⟨Nat.le_of_ble_eq_true rfl, Nat.le_of_ble_eq_true rfl⟩ rfl hl.1 (Nat.le_of_ble_eq_true rfl) ⟨Nat.le_refl _, Nat.le_refl _⟩ hP hS dX5_likelySpared_69) hS (fun H locs hP hS => ?_)
        refine lv_goto (tgt := 76) hx hb dX5_likelySpared_72 (by decide) ?_
        refine wfX5_likelySpared_j76 C v1 hv1 σ x2 x3 x4 x5 x6 x7 x9 x11 q_10 H locs ls h hP hS (lv_sub hl [0, 1, 2, 3, 4, 5, 6, 7, 8, 9] rfl) (fun σ_11 z_12 z_13 z_14 z_15 z_16 z_17 z_18 z_19 H locs ls h hP hS hl => ?_)
        exact ih σ_11 z_12 z_13 z_14 z_15 z_16 z_17 z_18 z_19 H locs ls h hP hS (lv_sub hl [0, 1, 2, 3, 4, 5, 6, 7, 8, 9] rfl) hk_110

set_option maxRecDepth 100000 in
set_option maxHeartbeats 4000000 in
theorem ctX5_likelySpared {l : Launch} {g : Gw} {σ : Sto} (v1 : Nat) (hv1 : isV v1) (x2 : Int32) (x3 : Int32) (x4 : Int32) (x5 : Int32) {Rz : (Sto × Int64)} (h : fX5_likelySpared σ v1 x2 x3 x4 x5 = some Rz) : MtG l yX5_likelySpared cX5_likelySpared 14 (some .long) 4 wkX g [.ref (adG g 10), .ref (adG g v1), .int x2, .int x3, .int x4, .int x5] σ (QlS wkX g Rz.1 Rz.2) := by
  refine mt_of (by decide) (Nat.le_of_ble_eq_true rfl) (fun p e s m below meth c ls H locs C hP hS hl => ?_)
  have C : Cx wkX g p s m _ meth c cX5_likelySpared 14 RX5 (some .long) := C
  have hl : lv_has ls 14 [(0, .ref (adG g 10)), (1, .ref (adG g v1)), (2, .int x2), (3, .int x3), (4, .int x4), (5, .int x5)] := hl
  obtain ⟨hx, hb, hml, hown, hts, hr, hlk, hK, hZ⟩ := id C
  unfold fX5_likelySpared at h
  refine lv_aload_n hx hb dX5_likelySpared_0 rfl (lv_at hl 1 rfl) ?_
  obtain ⟨q_1, hq_1, h⟩ := bd_inv h
  refine end_i (run_s (As := [.ref (adG g v1)]) (rest := []) C ca_X5_wallsThatStand (ctX5_wallsThatStand v1 hv1 hq_1) tw_1013 ⟨Nat.le_of_ble_eq_true rfl, Nat.le_of_ble_eq_true rfl⟩ rfl hl.1 (Nat.le_of_ble_eq_true rfl) ⟨Nat.le_refl _, Nat.le_refl _⟩ hP hS dX5_likelySpared_1) hS (fun H locs hP hS => ?_)
  refine lv_istore (lv' := [(6, .int q_1), (0, .ref (adG g 10)), (1, .ref (adG g v1)), (2, .int x2), (3, .int x3), (4, .int x4), (5, .int x5)]) hx hb dX5_likelySpared_4 hl (by decide) rfl (fun ls hl => ?_)
  refine lv_lconst (v := 1) hx hb dX5_likelySpared_6 (by decide) ?_
  refine lv_lstore (lv' := [(7, .long (1 : Int64)), (6, .int q_1), (0, .ref (adG g 10)), (1, .ref (adG g v1)), (2, .int x2), (3, .int x3), (4, .int x4), (5, .int x5)]) hx hb dX5_likelySpared_7 hl (by decide) rfl (fun ls hl => ?_)
  refine lv_iconst (v := 0) hx hb dX5_likelySpared_9 (by decide) ?_
  refine lv_istore (lv' := [(9, .int (0 : Int32)), (7, .long (1 : Int64)), (6, .int q_1), (0, .ref (adG g 10)), (1, .ref (adG g v1)), (2, .int x2), (3, .int x3), (4, .int x4), (5, .int x5)]) hx hb dX5_likelySpared_10 hl (by decide) rfl (fun ls hl => ?_)
  refine wfX5_likelySpared_L12 C v1 hv1 fu σ x2 x3 x4 x5 q_1 (1 : Int64) (0 : Int32) H locs ls h hP hS (lv_sub hl [3, 4, 5, 6, 7, 8, 2, 1, 0] rfl) (fun σ_2 z_3 z_4 z_5 z_6 z_7 z_8 H locs ls h hP hS hl => ?_)
  refine lv_lconst (v := 0) hx hb dX5_likelySpared_36 (by decide) ?_
  refine lv_lstore (lv' := [(9, .long (0 : Int64)), (0, .ref (adG g 10)), (1, .ref (adG g v1)), (2, .int z_3), (3, .int z_4), (4, .int z_5), (5, .int z_6), (6, .int z_7), (7, .long z_8)]) hx hb dX5_likelySpared_37 hl (by decide) rfl (fun ls hl => ?_)
  refine lv_iconst (v := 0) hx hb dX5_likelySpared_39 (by decide) ?_
  refine lv_istore (lv' := [(11, .int (0 : Int32)), (9, .long (0 : Int64)), (0, .ref (adG g 10)), (1, .ref (adG g v1)), (2, .int z_3), (3, .int z_4), (4, .int z_5), (5, .int z_6), (6, .int z_7), (7, .long z_8)]) hx hb dX5_likelySpared_40 hl (by decide) rfl (fun ls hl => ?_)
  refine wfX5_likelySpared_L42 C v1 hv1 fu σ_2 z_3 z_4 z_5 z_6 z_7 z_8 (0 : Int64) (0 : Int32) H locs ls h hP hS (lv_sub hl [2, 3, 4, 5, 6, 7, 8, 9, 1, 0] rfl) (fun σ_9 z_10 z_11 z_12 H locs ls h hP hS hl => ?_)
  refine lv_lload hx hb dX5_likelySpared_110 (lv_at hl 1 rfl) ?_
  refine lv_lload hx hb dX5_likelySpared_112 (lv_at hl 2 rfl) ?_
  obtain ⟨q_13, hq_13, h⟩ := bd_inv h
  refine end_l (run_s (As := [.long z_11, .long z_12]) (rest := []) C ca_X5_greatestDivisor (ctX5_greatestDivisor z_11 z_12 hq_13) tw_1027 ⟨Nat.le_of_ble_eq_true rfl, Nat.le_of_ble_eq_true rfl⟩ rfl hl.1 (Nat.le_of_ble_eq_true rfl) ⟨Nat.le_refl _, Nat.le_refl _⟩ hP hS dX5_likelySpared_114) hS (fun H locs hP hS => ?_)
  refine lv_lstore (lv' := [(11, .long q_13), (5, .int z_10), (7, .long z_11), (9, .long z_12)]) hx hb dX5_likelySpared_117 hl (by decide) rfl (fun ls hl => ?_)
  refine lv_lload hx hb dX5_likelySpared_119 (lv_at hl 0 rfl) ?_
  refine lv_lconst (v := 0) hx hb dX5_likelySpared_121 (by decide) ?_
  refine W.lcmp hx hb dX5_likelySpared_122 ?_
  refine lv_if_gt (tgt := 128) hx hb dX5_likelySpared_123 (by decide) (fun c_ => ?_) (fun c_ => ?_)
  · replace h := if_t c_ h
    refine lv_iload hx hb dX5_likelySpared_128 (lv_at hl 1 rfl) ?_
    refine lv_if_ne (tgt := 138) hx hb dX5_likelySpared_130 (by decide) (fun c_ => ?_) (fun c_ => ?_)
    · replace h := if_f c_ h
      refine lv_lload hx hb dX5_likelySpared_138 (lv_at hl 2 rfl) ?_
      refine lv_lload hx hb dX5_likelySpared_140 (lv_at hl 0 rfl) ?_
      obtain ⟨g_14, h⟩ := gd_inv h
      refine lv_ldiv hx hb dX5_likelySpared_142 (nzL_ne g_14) ?_
      exact r_retl C hP hS (rt_ow1 h) (rt_ow2 h) dX5_likelySpared_143
    · replace h := if_t c_ h
      refine lv_lload hx hb dX5_likelySpared_133 (lv_at hl 3 rfl) ?_
      refine lv_goto (tgt := 140) hx hb dX5_likelySpared_135 (by decide) ?_
      refine lv_lload hx hb dX5_likelySpared_140 (lv_at hl 0 rfl) ?_
      obtain ⟨g_15, h⟩ := gd_inv h
      refine lv_ldiv hx hb dX5_likelySpared_142 (nzL_ne g_15) ?_
      exact r_retl C hP hS (rt_ow1 h) (rt_ow2 h) dX5_likelySpared_143
  · replace h := if_f c_ h
    refine lv_lconst (v := 0) hx hb dX5_likelySpared_126 (by decide) ?_
    exact r_retl C hP hS (rt_ow1 h) (rt_ow2 h) dX5_likelySpared_127

set_option maxRecDepth 100000 in
set_option maxHeartbeats 4000000 in
theorem ctX8_stands {l : Launch} {g : Gw} {σ : Sto} (v0 : Nat) (hv0 : isV v0) (x1 : Int32) {Rz : Int32} (h : fX8_stands σ v0 x1 = some Rz) : MtG l yX8_stands cX8_stands 2 (some .boolean) 0 wkX g [.ref (adG g v0), .int x1] σ (QiS wkX g σ Rz) := by
  refine mt_of (by decide) (Nat.le_of_ble_eq_true rfl) (fun p e s m below meth c ls H locs C hP hS hl => ?_)
  have C : Cx wkX g p s m _ meth c cX8_stands 2 RX8 (some .boolean) := C
  have hl : lv_has ls 2 [(0, .ref (adG g v0)), (1, .int x1)] := hl
  obtain ⟨hx, hb, hml, hown, hts, hr, hlk, hK, hZ⟩ := id C
  unfold fX8_stands at h
  refine lv_aload_n hx hb dX8_stands_0 rfl (lv_at hl 0 rfl) ?_
  refine r_getr C cf_8 hP (sv_0 hv0) (kv_0 hv0) 10 (by decide) rfl tw_78 dX8_stands_1 ?_
  refine lv_iload_n hx hb dX8_stands_4 rfl (lv_at hl 1 rfl) ?_
  obtain ⟨g_1, h⟩ := gd_inv h
  refine r_iald C hP (sv_6 hv0) (kv_6 hv0) rfl g_1 dX8_stands_5 ?_
  refine lv_bipush (v := 20) hx hb dX8_stands_6 (by decide) ?_
  refine lv_icmp_ge (tgt := 15) hx hb dX8_stands_8 (by decide) (fun c_ => ?_) (fun c_ => ?_)
  · replace h := if_t c_ h
    refine lv_iconst (v := 0) hx hb dX8_stands_15 (by decide) ?_
    exact r_retz C hP hS rfl (rt_o h) rfl dX8_stands_16
  · replace h := if_f c_ h
    refine lv_iconst (v := 1) hx hb dX8_stands_11 (by decide) ?_
    refine lv_goto (tgt := 16) hx hb dX8_stands_12 (by decide) ?_
    exact r_retz C hP hS rfl (rt_o h) rfl dX8_stands_16

set_option maxRecDepth 100000 in
set_option maxHeartbeats 4000000 in
theorem wfX5_draw_j23 {l : Launch} {g : Gw} {p : Program} {e : Env} {s : State} {m : MethodId} {args : Array Value} {below : List Frame} {meth : Method} {c : Code} (C : Cx wkX g p s m args meth c cX5_draw 4 RX5 none) {Rz : Sto} : ∀ (σ : Sto) (x1 : Int64) (H : Heap) (locs : List Loc) (ls : Array Slot), fX5_draw_j23 σ x1 = some Rz → wS wkX g σ H → va_S (AS wkX g) s.heap H locs → lv_has ls 4 [(0, .ref (adG g 10)), (1, .long x1)] → W p l e (rmS 1) s m args below meth c H locs 0 0 (MQ below (QvS wkX g Rz) args s 0 0 (AS wkX g)) (F0 m 23 ls []) := by
  intro σ x1 H locs ls h hP hS hl
  obtain ⟨hx, hb, hml, hown, hts, hr, hlk, hK, hZ⟩ := id C
  unfold fX5_draw_j23 at h
  refine lv_lload_n hx hb dX5_draw_23 rfl (lv_at hl 1 rfl) ?_
  refine lv_aload_n hx hb dX5_draw_24 rfl (lv_at hl 0 rfl) ?_
  refine r_getr C cf_5 hP sx_10 kx_10 0 (by decide) rfl tw_92 dX5_draw_25 ?_
  refine r_geti C cf_8 hP (sv_0 iv_260) (kv_0 iv_260) 1 (by decide) rfl tw_850 dX5_draw_28 ?_
  refine lv_i2l hx hb dX5_draw_31 rfl ?_
  obtain ⟨g_1, h⟩ := gd_inv h
  refine lv_lrem hx hb dX5_draw_32 (nzL_ne g_1) ?_
  refine lv_l2i hx hb dX5_draw_33 rfl ?_
  refine lv_topi (fun x_2 ex_2 => ?_)
  replace h := un_at ex_2 h
  refine lv_istore_n (lv' := [(3, .int x_2), (0, .ref (adG g 10)), (1, .long x1)]) hx hb dX5_draw_34 rfl hl (by decide) rfl (fun ls hl => ?_)
  refine lv_aload_n hx hb dX5_draw_35 rfl (lv_at hl 1 rfl) ?_
  refine r_getr C cf_5 hP sx_10 kx_10 0 (by decide) rfl tw_92 dX5_draw_36 ?_
  refine lv_iload_n hx hb dX5_draw_39 rfl (lv_at hl 0 rfl) ?_
  obtain ⟨q_3, hq_3, h⟩ := bd_inv h
  refine end_i (run_v (As := [.int x_2]) (rest := []) C ca_X8_stands (ctX8_stands 260 iv_260 x_2 hq_3) cf_8 (sv_0 iv_260) (kv_0 iv_260) tw_1055 ⟨Nat.le_of_ble_eq_true rfl, Nat.le_of_ble_eq_true rfl⟩ rfl hl.1 (Nat.le_of_ble_eq_true rfl) ⟨Nat.le_refl _, Nat.le_refl _⟩ hP hS dX5_draw_40) hS (fun H locs hP hS => ?_)
  refine lv_if_ne (tgt := 65) hx hb dX5_draw_43 (by decide) (fun c_ => ?_) (fun c_ => ?_)
  · replace h := if_f c_ h
    exact r_retv C hP hS (rt_o h) dX5_draw_65
  · replace h := if_t c_ h
    refine lv_aload_n hx hb dX5_draw_46 rfl (lv_at hl 1 rfl) ?_
    refine r_getr C cf_5 hP sx_10 kx_10 0 (by decide) rfl tw_92 dX5_draw_47 ?_
    refine lv_iload_n hx hb dX5_draw_50 rfl (lv_at hl 0 rfl) ?_
    refine lv_lload_n hx hb dX5_draw_51 rfl (lv_at hl 2 rfl) ?_
    refine lv_aload_n hx hb dX5_draw_52 rfl (lv_at hl 1 rfl) ?_
    refine r_getr C cf_5 hP sx_10 kx_10 0 (by decide) rfl tw_92 dX5_draw_53 ?_
    refine r_geti C cf_8 hP (sv_0 iv_260) (kv_0 iv_260) 0 (by decide) rfl tw_731 dX5_draw_56 ?_
    refine lv_i2l hx hb dX5_draw_59 rfl ?_
    obtain ⟨g_4, h⟩ := gd_inv h
    refine lv_lrem hx hb dX5_draw_60 (nzL_ne g_4) ?_
    refine lv_l2i hx hb dX5_draw_61 rfl ?_
    obtain ⟨q_5, hq_5, h⟩ := bd_inv h
    refine end_v (run_v (As := [.int x_2, .int ((lrm x1 ((σ 260 0).toInt64)).toInt32)]) (rest := []) C ca_X8_place (ctX8_place 260 iv_260 x_2 ((lrm x1 ((σ 260 0).toInt64)).toInt32) hq_5) cf_8 (sv_0 iv_260) (kv_0 iv_260) tw_1056 ⟨Nat.le_of_ble_eq_true rfl, Nat.le_of_ble_eq_true rfl⟩ rfl hl.1 (Nat.le_of_ble_eq_true rfl) ⟨Nat.le_refl _, Nat.le_refl _⟩ hP hS dX5_draw_62) hS (fun H locs hP hS => ?_)
    exact r_retv C hP hS (rt_o h) dX5_draw_65

set_option maxRecDepth 100000 in
set_option maxHeartbeats 4000000 in
theorem ctX5_draw {l : Launch} {g : Gw} {σ : Sto} (x1 : Int64) {Rz : Sto} (h : fX5_draw σ x1 = some Rz) : MtG l yX5_draw cX5_draw 4 none 1 wkX g [.ref (adG g 10), .long x1] σ (QvS wkX g Rz) := by
  refine mt_of (by decide) (Nat.le_of_ble_eq_true rfl) (fun p e s m below meth c ls H locs C hP hS hl => ?_)
  have C : Cx wkX g p s m _ meth c cX5_draw 4 RX5 none := C
  have hl : lv_has ls 4 [(0, .ref (adG g 10)), (1, .long x1)] := hl
  obtain ⟨hx, hb, hml, hown, hts, hr, hlk, hK, hZ⟩ := id C
  unfold fX5_draw at h
  refine lv_lload_n hx hb dX5_draw_0 rfl (lv_at hl 1 rfl) ?_
  refine lv_ldc2 hx hb hown (hts _ tw_1054) dX5_draw_1 ?_
  refine lv_lrem hx hb dX5_draw_4 (by decide) ?_
  refine lv_lconst (v := 0) hx hb dX5_draw_5 (by decide) ?_
  refine W.lcmp hx hb dX5_draw_6 ?_
  refine lv_if_ne (tgt := 23) hx hb dX5_draw_7 (by decide) (fun c_ => ?_) (fun c_ => ?_)
  · replace h := if_f c_ h
    exact wfX5_draw_j23 C σ x1 H locs ls h hP hS (lv_sub hl [0, 1] rfl)
  · replace h := if_t c_ h
    refine lv_aload_n hx hb dX5_draw_10 rfl (lv_at hl 0 rfl) ?_
    refine r_getr C cf_5 hP sx_10 kx_10 0 (by decide) rfl tw_92 dX5_draw_11 ?_
    refine lv_lload_n hx hb dX5_draw_14 rfl (lv_at hl 1 rfl) ?_
    refine lv_ldc2 hx hb hown (hts _ tw_1012) dX5_draw_15 ?_
    refine lv_lrem hx hb dX5_draw_18 (by decide) ?_
    refine lv_l2i hx hb dX5_draw_19 rfl ?_
    refine r_puti C cf_8 hP hS (sv_0 iv_260) (kv_0 iv_260) 2 (by decide) rfl rfl rfl tw_837 dX5_draw_20 (fun H locs σ_1 eσ_1 hP hS => ?_)
    replace h := un_at eσ_1 h
    exact wfX5_draw_j23 C σ_1 x1 H locs ls h hP hS (lv_sub hl [0, 1] rfl)

set_option maxRecDepth 100000 in
set_option maxHeartbeats 4000000 in
theorem wfX5_becameInYears_L34 {l : Launch} {g : Gw} {p : Program} {e : Env} {s : State} {m : MethodId} {args : Array Value} {below : List Frame} {meth : Method} {c : Code} (C : Cx wkX g p s m args meth c cX5_becameInYears 10 RX5 (some .int)) (v1 : Nat) (hv1 : isV v1) {Rz : (Sto × Int32)} : ∀ (n : Nat) (σ : Sto) (x2 : Int32) (x4 : Int32) (x5 : Int64) (x7 : Int32) (x8 : Int32) (H : Heap) (locs : List Loc) (ls : Array Slot), fX5_becameInYears_L34 v1 n σ x2 x4 x5 x7 x8 = some Rz → wS wkX g σ H → va_S (AS wkX g) s.heap H locs → lv_has ls 10 [(0, .ref (adG g 10)), (2, .int x2), (4, .int x4), (5, .long x5), (7, .int x7), (8, .int x8)] → W p l e (rmS 4) s m args below meth c H locs 0 0 (MQ below (QiS wkX g Rz.1 Rz.2) args s 0 0 (AS wkX g)) (F0 m 34 ls []) := by
  intro n
  induction n with
  | zero =>
    intro σ x2 x4 x5 x7 x8 H locs ls h
    cases h
  | succ n ih =>
    intro σ x2 x4 x5 x7 x8 H locs ls h hP hS hl
    obtain ⟨hx, hb, hml, hown, hts, hr, hlk, hK, hZ⟩ := id C
    rw [fX5_becameInYears_L34] at h
    refine lv_iload hx hb dX5_becameInYears_34 (lv_at hl 5 rfl) ?_
    refine lv_iload_n hx hb dX5_becameInYears_36 rfl (lv_at hl 1 rfl) ?_
    refine lv_icmp_ge (tgt := 115) hx hb dX5_becameInYears_37 (by decide) (fun c_ => ?_) (fun c_ => ?_)
    · replace h := if_t c_ h
      refine lv_iload hx hb dX5_becameInYears_115 (lv_at hl 4 rfl) ?_
      exact r_reti C hP hS (rt_ow1 h) (rt_ow2 h) dX5_becameInYears_117
    · replace h := if_f c_ h
      refine lv_lload hx hb dX5_becameInYears_40 (lv_at hl 3 rfl) ?_
      refine lv_ldc2 hx hb hown (hts _ tw_1048) dX5_becameInYears_42 ?_
      refine lv_lmul hx hb dX5_becameInYears_45 ?_
      refine lv_ldc2 hx hb hown (hts _ tw_1049) dX5_becameInYears_46 ?_
      refine lv_lrem hx hb dX5_becameInYears_49 (by decide) ?_
      refine lv_topl (fun x_1 ex_1 => ?_)
      replace h := un_at ex_1 h
      refine lv_lstore (lv' := [(5, .long x_1), (0, .ref (adG g 10)), (2, .int x2), (4, .int x4), (7, .int x7), (8, .int x8)]) hx hb dX5_becameInYears_50 hl (by decide) rfl (fun ls hl => ?_)
      refine lv_aload_n hx hb dX5_becameInYears_52 rfl (lv_at hl 1 rfl) ?_
      refine lv_lload hx hb dX5_becameInYears_53 (lv_at hl 0 rfl) ?_
      obtain ⟨q_2, hq_2, h⟩ := bd_inv h
      refine end_v (run_v (As := [.long x_1]) (rest := []) C ca_X5_draw (ctX5_draw x_1 hq_2) cf_5 sx_10 kx_10 tw_1050 ⟨Nat.le_of_ble_eq_true rfl, Nat.le_of_ble_eq_true rfl⟩ rfl hl.1 (Nat.le_of_ble_eq_true rfl) ⟨Nat.le_refl _, Nat.le_refl _⟩ hP hS dX5_becameInYears_55) hS (fun H locs hP hS => ?_)
      refine lv_aload_n hx hb dX5_becameInYears_58 rfl (lv_at hl 1 rfl) ?_
      refine r_getr C cf_5 hP sx_10 kx_10 0 (by decide) rfl tw_92 dX5_becameInYears_59 ?_
      obtain ⟨q_3, hq_3, h⟩ := bd_inv h
      refine end_i (run_v (As := []) (rest := []) C ca_X8_standing (ctX8_standing 260 iv_260 hq_3) cf_8 (sv_0 iv_260) (kv_0 iv_260) tw_851 ⟨Nat.le_of_ble_eq_true rfl, Nat.le_of_ble_eq_true rfl⟩ rfl hl.1 (Nat.le_of_ble_eq_true rfl) ⟨Nat.le_refl _, Nat.le_refl _⟩ hP hS dX5_becameInYears_62) hS (fun H locs hP hS => ?_)
      refine lv_istore (lv' := [(9, .int q_3), (5, .long x_1), (0, .ref (adG g 10)), (2, .int x2), (4, .int x4), (7, .int x7), (8, .int x8)]) hx hb dX5_becameInYears_65 hl (by decide) rfl (fun ls hl => ?_)
      refine lv_aload_n hx hb dX5_becameInYears_67 rfl (lv_at hl 2 rfl) ?_
      refine r_getr C cf_5 hP sx_10 kx_10 0 (by decide) rfl tw_92 dX5_becameInYears_68 ?_
      obtain ⟨q_4, hq_4, h⟩ := bd_inv h
      refine end_v (run_v (As := []) (rest := []) C ca_X8_pass (ctX8_pass 260 iv_260 hq_4) cf_8 (sv_0 iv_260) (kv_0 iv_260) tw_686 ⟨Nat.le_of_ble_eq_true rfl, Nat.le_of_ble_eq_true rfl⟩ rfl hl.1 (Nat.le_of_ble_eq_true rfl) ⟨Nat.le_refl _, Nat.le_refl _⟩ hP hS dX5_becameInYears_71) hS (fun H locs hP hS => ?_)
      refine lv_iload hx hb dX5_becameInYears_74 (lv_at hl 5 rfl) ?_
      refine lv_iload hx hb dX5_becameInYears_76 (lv_at hl 0 rfl) ?_
      refine lv_iload hx hb dX5_becameInYears_78 (lv_at hl 4 rfl) ?_
      refine lv_if_ne (tgt := 93) hx hb dX5_becameInYears_80 (by decide) (fun c_ => ?_) (fun c_ => ?_)
      · replace h := if_f c_ h
        refine lv_aload_n hx hb dX5_becameInYears_93 rfl (lv_at hl 2 rfl) ?_
        refine r_getr C cf_5 hP sx_10 kx_10 0 (by decide) rfl tw_92 dX5_becameInYears_94 ?_
        refine lv_bipush (v := 20) hx hb dX5_becameInYears_97 (by decide) ?_
        obtain ⟨q_5, hq_5, h⟩ := bd_inv h
        refine end_i (run_v (As := [.int (20 : Int32)]) (rest := [.int q_3, .int x7]) C ca_X8_allAt (ctX8_allAt 260 iv_260 (20 : Int32) hq_5) cf_8 (sv_0 iv_260) (kv_0 iv_260) tw_692 ⟨Nat.le_of_ble_eq_true rfl, Nat.le_of_ble_eq_true rfl⟩ rfl hl.1 (Nat.le_of_ble_eq_true rfl) ⟨Nat.le_refl _, Nat.le_refl _⟩ hP hS dX5_becameInYears_99) hS (fun H locs hP hS => ?_)
        refine lv_iand hx hb dX5_becameInYears_102 ?_
        refine end_i (run_s (As := [.int (q_3 &&& q_5)]) (rest := [.int x7]) C ca_J6_bitCount_0f7a4 (ctJ6_bitCount_0f7a4 (q_3 &&& q_5) rfl) tw_804 ⟨Nat.le_of_ble_eq_true rfl, Nat.le_of_ble_eq_true rfl⟩ rfl hl.1 (Nat.le_of_ble_eq_true rfl) ⟨Nat.le_refl _, Nat.le_refl _⟩ hP hS dX5_becameInYears_103) hS (fun H locs hP hS => ?_)
        refine lv_iadd hx hb dX5_becameInYears_106 ?_
        refine lv_topi (fun x_7 ex_7 => ?_)
        replace h := un_at ex_7 h
        refine lv_istore (lv' := [(7, .int x_7), (9, .int q_3), (5, .long x_1), (0, .ref (adG g 10)), (2, .int x2), (4, .int x4), (8, .int x8)]) hx hb dX5_becameInYears_107 hl (by decide) rfl (fun ls hl => ?_)
        obtain ⟨x_8, ex_8⟩ : ∃ y : Int32, y = x8 + (1 : Int32) := ⟨_, rfl⟩
        replace h := un_at ex_8 h
        refine lv_iinc (v := x_8) (lv' := [(8, .int x_8), (7, .int x_7), (9, .int q_3), (5, .long x_1), (0, .ref (adG g 10)), (2, .int x2), (4, .int x4)]) hx hb dX5_becameInYears_109 hl (k := 6) rfl (by rw [ex_8]; rfl) (by decide) rfl (fun ls hl => ?_)
        refine lv_goto (tgt := 34) hx hb dX5_becameInYears_112 (by decide) ?_
        exact ih q_4 x2 x4 x_1 x_7 x_8 H locs ls h hP hS (lv_sub hl [4, 5, 6, 3, 1, 0] rfl)
      · replace h := if_t c_ h
        refine lv_aload_n hx hb dX5_becameInYears_83 rfl (lv_at hl 2 rfl) ?_
        refine r_getr C cf_5 hP sx_10 kx_10 0 (by decide) rfl tw_92 dX5_becameInYears_84 ?_
        obtain ⟨q_9, hq_9, h⟩ := bd_inv h
        refine end_i (run_v (As := []) (rest := [.int q_3, .int x7]) C ca_X8_stones (ctX8_stones 260 iv_260 hq_9) cf_8 (sv_0 iv_260) (kv_0 iv_260) tw_687 ⟨Nat.le_of_ble_eq_true rfl, Nat.le_of_ble_eq_true rfl⟩ rfl hl.1 (Nat.le_of_ble_eq_true rfl) ⟨Nat.le_refl _, Nat.le_refl _⟩ hP hS dX5_becameInYears_87) hS (fun H locs hP hS => ?_)
        refine lv_goto (tgt := 102) hx hb dX5_becameInYears_90 (by decide) ?_
        refine lv_iand hx hb dX5_becameInYears_102 ?_
        refine end_i (run_s (As := [.int (q_3 &&& q_9)]) (rest := [.int x7]) C ca_J6_bitCount_0f7a4 (ctJ6_bitCount_0f7a4 (q_3 &&& q_9) rfl) tw_804 ⟨Nat.le_of_ble_eq_true rfl, Nat.le_of_ble_eq_true rfl⟩ rfl hl.1 (Nat.le_of_ble_eq_true rfl) ⟨Nat.le_refl _, Nat.le_refl _⟩ hP hS dX5_becameInYears_103) hS (fun H locs hP hS => ?_)
        refine lv_iadd hx hb dX5_becameInYears_106 ?_
        refine lv_topi (fun x_11 ex_11 => ?_)
        replace h := un_at ex_11 h
        refine lv_istore (lv' := [(7, .int x_11), (9, .int q_3), (5, .long x_1), (0, .ref (adG g 10)), (2, .int x2), (4, .int x4), (8, .int x8)]) hx hb dX5_becameInYears_107 hl (by decide) rfl (fun ls hl => ?_)
        obtain ⟨x_12, ex_12⟩ : ∃ y : Int32, y = x8 + (1 : Int32) := ⟨_, rfl⟩
        replace h := un_at ex_12 h
        refine lv_iinc (v := x_12) (lv' := [(8, .int x_12), (7, .int x_11), (9, .int q_3), (5, .long x_1), (0, .ref (adG g 10)), (2, .int x2), (4, .int x4)]) hx hb dX5_becameInYears_109 hl (k := 6) rfl (by rw [ex_12]; rfl) (by decide) rfl (fun ls hl => ?_)
        refine lv_goto (tgt := 34) hx hb dX5_becameInYears_112 (by decide) ?_
        exact ih q_4 x2 x4 x_1 x_11 x_12 H locs ls h hP hS (lv_sub hl [4, 5, 6, 3, 1, 0] rfl)

set_option maxRecDepth 100000 in
set_option maxHeartbeats 4000000 in
theorem ctX5_becameInYears {l : Launch} {g : Gw} {σ : Sto} (v1 : Nat) (hv1 : isV v1) (x2 : Int32) (x3 : Int32) (x4 : Int32) {Rz : (Sto × Int32)} (h : fX5_becameInYears σ v1 x2 x3 x4 = some Rz) : MtG l yX5_becameInYears cX5_becameInYears 10 (some .int) 4 wkX g [.ref (adG g 10), .ref (adG g v1), .int x2, .int x3, .int x4] σ (QiS wkX g Rz.1 Rz.2) := by
  refine mt_of (by decide) (Nat.le_of_ble_eq_true rfl) (fun p e s m below meth c ls H locs C hP hS hl => ?_)
  have C : Cx wkX g p s m _ meth c cX5_becameInYears 10 RX5 (some .int) := C
  have hl : lv_has ls 10 [(0, .ref (adG g 10)), (1, .ref (adG g v1)), (2, .int x2), (3, .int x3), (4, .int x4)] := hl
  obtain ⟨hx, hb, hml, hown, hts, hr, hlk, hK, hZ⟩ := id C
  unfold fX5_becameInYears at h
  refine lv_aload_n hx hb dX5_becameInYears_0 rfl (lv_at hl 1 rfl) ?_
  refine r_geti C cf_8 hP (sv_0 hv1) (kv_0 hv1) 1 (by decide) rfl tw_850 dX5_becameInYears_1 ?_
  refine lv_if_le (tgt := 14) hx hb dX5_becameInYears_4 (by decide) (fun c_ => ?_) (fun c_ => ?_)
  · replace h := if_t c_ h
    refine lv_iconst (v := 0) hx hb dX5_becameInYears_14 (by decide) ?_
    exact r_reti C hP hS (rt_ow1 h) (rt_ow2 h) dX5_becameInYears_15
  · replace h := if_f c_ h
    refine lv_aload_n hx hb dX5_becameInYears_7 rfl (lv_at hl 1 rfl) ?_
    refine r_geti C cf_8 hP (sv_0 hv1) (kv_0 hv1) 0 (by decide) rfl tw_731 dX5_becameInYears_8 ?_
    refine lv_if_gt (tgt := 16) hx hb dX5_becameInYears_11 (by decide) (fun c_ => ?_) (fun c_ => ?_)
    · replace h := if_t c_ h
      refine lv_aload_n hx hb dX5_becameInYears_16 rfl (lv_at hl 0 rfl) ?_
      refine r_getr C cf_5 hP sx_10 kx_10 0 (by decide) rfl tw_92 dX5_becameInYears_17 ?_
      refine lv_aload_n hx hb dX5_becameInYears_20 rfl (lv_at hl 1 rfl) ?_
      obtain ⟨q_1, eq_1⟩ : ∃ z, z = fX8_become σ 260 v1 := ⟨_, rfl⟩
      replace h := un_at eq_1 h
      refine end_v (run_v (As := [.ref (adG g v1)]) (rest := []) C ca_X8_become (ctX8_become 260 iv_260 v1 hv1 eq_1.symm) cf_8 (sv_0 iv_260) (kv_0 iv_260) tw_681 ⟨Nat.le_of_ble_eq_true rfl, Nat.le_of_ble_eq_true rfl⟩ rfl hl.1 (Nat.le_of_ble_eq_true rfl) ⟨Nat.le_refl _, Nat.le_refl _⟩ hP hS dX5_becameInYears_21) hS (fun H locs hP hS => ?_)
      refine lv_iload_n hx hb dX5_becameInYears_24 rfl (lv_at hl 3 rfl) ?_
      refine lv_i2l hx hb dX5_becameInYears_25 rfl ?_
      refine lv_lstore (lv' := [(5, .long x3.toInt64), (0, .ref (adG g 10)), (1, .ref (adG g v1)), (2, .int x2), (3, .int x3), (4, .int x4)]) hx hb dX5_becameInYears_26 hl (by decide) rfl (fun ls hl => ?_)
      refine lv_iconst (v := 0) hx hb dX5_becameInYears_28 (by decide) ?_
      refine lv_istore (lv' := [(7, .int (0 : Int32)), (5, .long x3.toInt64), (0, .ref (adG g 10)), (1, .ref (adG g v1)), (2, .int x2), (3, .int x3), (4, .int x4)]) hx hb dX5_becameInYears_29 hl (by decide) rfl (fun ls hl => ?_)
      refine lv_iconst (v := 0) hx hb dX5_becameInYears_31 (by decide) ?_
      refine lv_istore (lv' := [(8, .int (0 : Int32)), (7, .int (0 : Int32)), (5, .long x3.toInt64), (0, .ref (adG g 10)), (1, .ref (adG g v1)), (2, .int x2), (3, .int x3), (4, .int x4)]) hx hb dX5_becameInYears_32 hl (by decide) rfl (fun ls hl => ?_)
      exact wfX5_becameInYears_L34 C v1 hv1 fu q_1 x2 x4 x3.toInt64 (0 : Int32) (0 : Int32) H locs ls h hP hS (lv_sub hl [3, 5, 7, 2, 1, 0] rfl)
    · replace h := if_f c_ h
      refine lv_iconst (v := 0) hx hb dX5_becameInYears_14 (by decide) ?_
      exact r_reti C hP hS (rt_ow1 h) (rt_ow2 h) dX5_becameInYears_15

set_option maxRecDepth 100000 in
set_option maxHeartbeats 4000000 in
theorem ctX6_takeByte {l : Launch} {g : Gw} {σ : Sto} (x1 : Int32) {Rz : (Sto × Int32)} (h : fX6_takeByte σ x1 = some Rz) : MtG l yX6_takeByte cX6_takeByte 2 (some .boolean) 0 wkX g [.ref (adG g 5), .int x1] σ (QiS wkX g Rz.1 Rz.2) := by
  refine mt_of (by decide) (Nat.le_of_ble_eq_true rfl) (fun p e s m below meth c ls H locs C hP hS hl => ?_)
  have C : Cx wkX g p s m _ meth c cX6_takeByte 2 RX6 (some .boolean) := C
  have hl : lv_has ls 2 [(0, .ref (adG g 5)), (1, .int x1)] := hl
  obtain ⟨hx, hb, hml, hown, hts, hr, hlk, hK, hZ⟩ := id C
  unfold fX6_takeByte at h
  refine lv_aload_n hx hb dX6_takeByte_0 rfl (lv_at hl 0 rfl) ?_
  refine r_geti C cf_6 hP sx_5 kx_5 1 (by decide) rfl tw_60 dX6_takeByte_1 ?_
  refine lv_bipush (v := 90) hx hb dX6_takeByte_4 (by decide) ?_
  refine lv_icmp_lt (tgt := 11) hx hb dX6_takeByte_6 (by decide) (fun c_ => ?_) (fun c_ => ?_)
  · replace h := if_t c_ h
    refine lv_aload_n hx hb dX6_takeByte_11 rfl (lv_at hl 0 rfl) ?_
    refine r_getr C cf_6 hP sx_5 kx_5 4 (by decide) rfl tw_63 dX6_takeByte_12 ?_
    refine lv_aload_n hx hb dX6_takeByte_15 rfl (lv_at hl 0 rfl) ?_
    refine r_geti C cf_6 hP sx_5 kx_5 1 (by decide) rfl tw_60 dX6_takeByte_16 ?_
    refine lv_iload_n hx hb dX6_takeByte_19 rfl (lv_at hl 1 rfl) ?_
    obtain ⟨g_1, h⟩ := gd_inv h
    refine r_iast C hP hS sx_6 kx_6 rfl g_1 dX6_takeByte_20 (fun H locs σ_2 eσ_2 hP hS => ?_)
    replace h := un_at eσ_2 h
    refine lv_aload_n hx hb dX6_takeByte_21 rfl (lv_at hl 0 rfl) ?_
    refine lv_dup hx hb dX6_takeByte_22 rfl ?_
    refine r_geti C cf_6 hP sx_5 kx_5 1 (by decide) rfl tw_60 dX6_takeByte_23 ?_
    refine lv_iconst (v := 1) hx hb dX6_takeByte_26 (by decide) ?_
    refine lv_iadd hx hb dX6_takeByte_27 ?_
    refine r_puti C cf_6 hP hS sx_5 kx_5 1 (by decide) rfl rfl rfl tw_60 dX6_takeByte_28 (fun H locs σ_3 eσ_3 hP hS => ?_)
    replace h := un_at eσ_3 h
    refine lv_iconst (v := 1) hx hb dX6_takeByte_31 (by decide) ?_
    exact r_retz C hP hS (rt_ow1 h) (rt_ow2 h) rfl dX6_takeByte_32
  · replace h := if_f c_ h
    refine lv_iconst (v := 0) hx hb dX6_takeByte_9 (by decide) ?_
    exact r_retz C hP hS (rt_ow1 h) (rt_ow2 h) rfl dX6_takeByte_10

set_option maxRecDepth 100000 in
set_option maxHeartbeats 4000000 in
theorem ctX8_clear {l : Launch} {g : Gw} {σ : Sto} (v0 : Nat) (hv0 : isV v0) {Rz : Sto} (h : fX8_clear σ v0 = Rz) : MtG l yX8_clear cX8_clear 1 none 0 wkX g [.ref (adG g v0)] σ (QvS wkX g Rz) := by
  refine mt_of (by decide) (Nat.le_of_ble_eq_true rfl) (fun p e s m below meth c ls H locs C hP hS hl => ?_)
  have C : Cx wkX g p s m _ meth c cX8_clear 1 RX8 none := C
  have hl : lv_has ls 1 [(0, .ref (adG g v0))] := hl
  obtain ⟨hx, hb, hml, hown, hts, hr, hlk, hK, hZ⟩ := id C
  unfold fX8_clear at h
  refine lv_aload_n hx hb dX8_clear_0 rfl (lv_at hl 0 rfl) ?_
  refine lv_iconst (v := 0) hx hb dX8_clear_1 (by decide) ?_
  refine r_puti C cf_8 hP hS (sv_0 hv0) (kv_0 hv0) 0 (by decide) rfl rfl rfl tw_68 dX8_clear_2 (fun H locs σ_1 eσ_1 hP hS => ?_)
  replace h := un_at eσ_1 h
  refine lv_aload_n hx hb dX8_clear_5 rfl (lv_at hl 0 rfl) ?_
  refine lv_iconst (v := 0) hx hb dX8_clear_6 (by decide) ?_
  refine r_puti C cf_8 hP hS (sv_0 hv0) (kv_0 hv0) 1 (by decide) rfl rfl rfl tw_69 dX8_clear_7 (fun H locs σ_2 eσ_2 hP hS => ?_)
  replace h := un_at eσ_2 h
  refine lv_aload_n hx hb dX8_clear_10 rfl (lv_at hl 0 rfl) ?_
  refine lv_iconst (v := 0) hx hb dX8_clear_11 (by decide) ?_
  refine r_puti C cf_8 hP hS (sv_0 hv0) (kv_0 hv0) 2 (by decide) rfl rfl rfl tw_70 dX8_clear_12 (fun H locs σ_3 eσ_3 hP hS => ?_)
  replace h := un_at eσ_3 h
  refine lv_aload_n hx hb dX8_clear_15 rfl (lv_at hl 0 rfl) ?_
  refine lv_iconst (v := 0) hx hb dX8_clear_16 (by decide) ?_
  refine r_puti C cf_8 hP hS (sv_0 hv0) (kv_0 hv0) 3 (by decide) rfl rfl rfl tw_71 dX8_clear_17 (fun H locs σ_4 eσ_4 hP hS => ?_)
  replace h := un_at eσ_4 h
  refine lv_aload_n hx hb dX8_clear_20 rfl (lv_at hl 0 rfl) ?_
  refine lv_iconst (v := 0) hx hb dX8_clear_21 (by decide) ?_
  refine r_puti C cf_8 hP hS (sv_0 hv0) (kv_0 hv0) 4 (by decide) rfl rfl rfl tw_72 dX8_clear_22 (fun H locs σ_5 eσ_5 hP hS => ?_)
  replace h := un_at eσ_5 h
  exact r_retv C hP hS h dX8_clear_25

set_option maxRecDepth 100000 in
set_option maxHeartbeats 4000000 in
theorem ctX6_next {l : Launch} {g : Gw} {σ : Sto} {Rz : Int32} (h : fX6_next σ = some Rz) : MtG l yX6_next cX6_next 1 (some .int) 0 wkX g [.ref (adG g 5)] σ (QiS wkX g σ Rz) := by
  refine mt_of (by decide) (Nat.le_of_ble_eq_true rfl) (fun p e s m below meth c ls H locs C hP hS hl => ?_)
  have C : Cx wkX g p s m _ meth c cX6_next 1 RX6 (some .int) := C
  have hl : lv_has ls 1 [(0, .ref (adG g 5))] := hl
  obtain ⟨hx, hb, hml, hown, hts, hr, hlk, hK, hZ⟩ := id C
  unfold fX6_next at h
  refine lv_aload_n hx hb dX6_next_0 rfl (lv_at hl 0 rfl) ?_
  refine r_geti C cf_6 hP sx_5 kx_5 5 (by decide) rfl tw_64 dX6_next_1 ?_
  refine lv_aload_n hx hb dX6_next_4 rfl (lv_at hl 0 rfl) ?_
  refine r_geti C cf_6 hP sx_5 kx_5 1 (by decide) rfl tw_60 dX6_next_5 ?_
  refine lv_icmp_ge (tgt := 23) hx hb dX6_next_8 (by decide) (fun c_ => ?_) (fun c_ => ?_)
  · replace h := if_t c_ h
    refine lv_iconst (v := (-1)) hx hb dX6_next_23 (by decide) ?_
    exact r_reti C hP hS rfl (rt_o h) dX6_next_24
  · replace h := if_f c_ h
    refine lv_aload_n hx hb dX6_next_11 rfl (lv_at hl 0 rfl) ?_
    refine r_getr C cf_6 hP sx_5 kx_5 4 (by decide) rfl tw_63 dX6_next_12 ?_
    refine lv_aload_n hx hb dX6_next_15 rfl (lv_at hl 0 rfl) ?_
    refine r_geti C cf_6 hP sx_5 kx_5 5 (by decide) rfl tw_64 dX6_next_16 ?_
    obtain ⟨g_1, h⟩ := gd_inv h
    refine r_iald C hP sx_6 kx_6 rfl g_1 dX6_next_19 ?_
    refine lv_goto (tgt := 24) hx hb dX6_next_20 (by decide) ?_
    exact r_reti C hP hS rfl (rt_o h) dX6_next_24

set_option maxRecDepth 100000 in
set_option maxHeartbeats 4000000 in
theorem ctX6_fails {l : Launch} {g : Gw} {σ : Sto} (x1 : Int32) {Rz : (Sto × Int32)} (h : fX6_fails σ x1 = Rz) : MtG l yX6_fails cX6_fails 2 (some .boolean) 0 wkX g [.ref (adG g 5), .int x1] σ (QiS wkX g Rz.1 Rz.2) := by
  refine mt_of (by decide) (Nat.le_of_ble_eq_true rfl) (fun p e s m below meth c ls H locs C hP hS hl => ?_)
  have C : Cx wkX g p s m _ meth c cX6_fails 2 RX6 (some .boolean) := C
  have hl : lv_has ls 2 [(0, .ref (adG g 5)), (1, .int x1)] := hl
  obtain ⟨hx, hb, hml, hown, hts, hr, hlk, hK, hZ⟩ := id C
  unfold fX6_fails at h
  refine lv_aload_n hx hb dX6_fails_0 rfl (lv_at hl 0 rfl) ?_
  refine lv_iload_n hx hb dX6_fails_1 rfl (lv_at hl 1 rfl) ?_
  refine r_puti C cf_6 hP hS sx_5 kx_5 2 (by decide) rfl rfl rfl tw_61 dX6_fails_2 (fun H locs σ_1 eσ_1 hP hS => ?_)
  replace h := un_at eσ_1 h
  refine lv_aload_n hx hb dX6_fails_5 rfl (lv_at hl 0 rfl) ?_
  refine lv_aload_n hx hb dX6_fails_6 rfl (lv_at hl 0 rfl) ?_
  refine r_geti C cf_6 hP sx_5 kx_5 5 (by decide) rfl tw_64 dX6_fails_7 ?_
  refine r_puti C cf_6 hP hS sx_5 kx_5 3 (by decide) rfl rfl rfl tw_62 dX6_fails_10 (fun H locs σ_2 eσ_2 hP hS => ?_)
  replace h := un_at eσ_2 h
  refine lv_iconst (v := 0) hx hb dX6_fails_13 (by decide) ?_
  exact r_retz C hP hS (rt_tw1 h) (rt_tw2 h) rfl dX6_fails_14

set_option maxRecDepth 100000 in
set_option maxHeartbeats 4000000 in
theorem ctX6_readSign {l : Launch} {g : Gw} {σ : Sto} (x1 : Int32) {Rz : (Sto × Int32)} (h : fX6_readSign σ x1 = some Rz) : MtG l yX6_readSign cX6_readSign 2 (some .boolean) 1 wkX g [.ref (adG g 5), .int x1] σ (QiS wkX g Rz.1 Rz.2) := by
  refine mt_of (by decide) (Nat.le_of_ble_eq_true rfl) (fun p e s m below meth c ls H locs C hP hS hl => ?_)
  have C : Cx wkX g p s m _ meth c cX6_readSign 2 RX6 (some .boolean) := C
  have hl : lv_has ls 2 [(0, .ref (adG g 5)), (1, .int x1)] := hl
  obtain ⟨hx, hb, hml, hown, hts, hr, hlk, hK, hZ⟩ := id C
  unfold fX6_readSign at h
  refine lv_aload_n hx hb dX6_readSign_0 rfl (lv_at hl 0 rfl) ?_
  obtain ⟨q_1, hq_1, h⟩ := bd_inv h
  refine end_i (run_v (As := []) (rest := []) C ca_X6_next (ctX6_next hq_1) cf_6 sx_5 kx_5 tw_309 ⟨Nat.le_of_ble_eq_true rfl, Nat.le_of_ble_eq_true rfl⟩ rfl hl.1 (Nat.le_of_ble_eq_true rfl) ⟨Nat.le_refl _, Nat.le_refl _⟩ hP hS dX6_readSign_1) hS (fun H locs hP hS => ?_)
  refine lv_iload_n hx hb dX6_readSign_4 rfl (lv_at hl 1 rfl) ?_
  refine lv_icmp_eq (tgt := 14) hx hb dX6_readSign_5 (by decide) (fun c_ => ?_) (fun c_ => ?_)
  · replace h := if_t c_ h
    refine lv_aload_n hx hb dX6_readSign_14 rfl (lv_at hl 0 rfl) ?_
    refine lv_dup hx hb dX6_readSign_15 rfl ?_
    refine r_geti C cf_6 hP sx_5 kx_5 5 (by decide) rfl tw_64 dX6_readSign_16 ?_
    refine lv_iconst (v := 1) hx hb dX6_readSign_19 (by decide) ?_
    refine lv_iadd hx hb dX6_readSign_20 ?_
    refine r_puti C cf_6 hP hS sx_5 kx_5 5 (by decide) rfl rfl rfl tw_64 dX6_readSign_21 (fun H locs σ_2 eσ_2 hP hS => ?_)
    replace h := un_at eσ_2 h
    refine lv_iconst (v := 1) hx hb dX6_readSign_24 (by decide) ?_
    exact r_retz C hP hS (rt_ow1 h) (rt_ow2 h) rfl dX6_readSign_25
  · replace h := if_f c_ h
    refine lv_aload_n hx hb dX6_readSign_8 rfl (lv_at hl 0 rfl) ?_
    refine lv_iconst (v := 1) hx hb dX6_readSign_9 (by decide) ?_
    obtain ⟨q_3, eq_3⟩ : ∃ z, z = fX6_fails σ (1 : Int32) := ⟨_, rfl⟩
    replace h := un_at eq_3 h
    refine end_i (run_v (As := [.int (1 : Int32)]) (rest := []) C ca_X6_fails (ctX6_fails (1 : Int32) eq_3.symm) cf_6 sx_5 kx_5 tw_313 ⟨Nat.le_of_ble_eq_true rfl, Nat.le_of_ble_eq_true rfl⟩ rfl hl.1 (Nat.le_of_ble_eq_true rfl) ⟨Nat.le_refl _, Nat.le_refl _⟩ hP hS dX6_readSign_10) hS (fun H locs hP hS => ?_)
    obtain ⟨g_4, h⟩ := gd_inv h
    exact r_retz C hP hS (rt_ow1 h) (rt_ow2 h) (isB_nar g_4) dX6_readSign_13

set_option maxRecDepth 100000 in
set_option maxHeartbeats 4000000 in
theorem wfX6_readNumber_L11 {l : Launch} {g : Gw} {p : Program} {e : Env} {s : State} {m : MethodId} {args : Array Value} {below : List Frame} {meth : Method} {c : Code} (C : Cx wkX g p s m args meth c cX6_readNumber 6 RX6 (some .int)) {Rz : (Sto × Int32)} {k_79 : Sto → Int32 → Int32 → Int32 → Int32 → Option (Sto × Int32)} : ∀ (n : Nat) (σ : Sto) (x1 : Int32) (x2 : Int32) (x3 : Int32) (x4 : Int32) (x5 : Int32) (H : Heap) (locs : List Loc) (ls : Array Slot), fX6_readNumber_L11 k_79 n σ x1 x2 x3 x4 x5 = some Rz → wS wkX g σ H → va_S (AS wkX g) s.heap H locs → lv_has ls 6 [(0, .ref (adG g 5)), (1, .int x1), (2, .int x2), (3, .int x3), (4, .int x4), (5, .int x5)] → (∀ (σ : Sto) (x1 : Int32) (x2 : Int32) (x3 : Int32) (x4 : Int32) (H : Heap) (locs : List Loc) (ls : Array Slot), k_79 σ x1 x2 x3 x4 = some Rz → wS wkX g σ H → va_S (AS wkX g) s.heap H locs → lv_has ls 6 [(0, .ref (adG g 5)), (1, .int x1), (2, .int x2), (3, .int x3), (4, .int x4)] → W p l e (rmS 1) s m args below meth c H locs 0 0 (MQ below (QiS wkX g Rz.1 Rz.2) args s 0 0 (AS wkX g)) (F0 m 79 ls [])) → W p l e (rmS 1) s m args below meth c H locs 0 0 (MQ below (QiS wkX g Rz.1 Rz.2) args s 0 0 (AS wkX g)) (F0 m 11 ls []) := by
  intro n
  induction n with
  | zero =>
    intro σ x1 x2 x3 x4 x5 H locs ls h
    cases h
  | succ n ih =>
    intro σ x1 x2 x3 x4 x5 H locs ls h hP hS hl hk_79
    obtain ⟨hx, hb, hml, hown, hts, hr, hlk, hK, hZ⟩ := id C
    rw [fX6_readNumber_L11] at h
    refine lv_iload hx hb dX6_readNumber_11 (lv_at hl 5 rfl) ?_
    refine lv_aload_n hx hb dX6_readNumber_13 rfl (lv_at hl 0 rfl) ?_
    refine r_geti C cf_6 hP sx_5 kx_5 1 (by decide) rfl tw_60 dX6_readNumber_14 ?_
    refine lv_icmp_ge (tgt := 79) hx hb dX6_readNumber_17 (by decide) (fun c_ => ?_) (fun c_ => ?_)
    · replace h := if_t c_ h
      exact hk_79 σ x1 x2 x3 x4 H locs ls h hP hS (lv_sub hl [0, 1, 2, 3, 4] rfl)
    · replace h := if_f c_ h
      refine lv_aload_n hx hb dX6_readNumber_20 rfl (lv_at hl 0 rfl) ?_
      refine r_getr C cf_6 hP sx_5 kx_5 4 (by decide) rfl tw_63 dX6_readNumber_21 ?_
      refine lv_iload hx hb dX6_readNumber_24 (lv_at hl 5 rfl) ?_
      obtain ⟨g_1, h⟩ := gd_inv h
      refine r_iald C hP sx_6 kx_6 rfl g_1 dX6_readNumber_26 ?_
      refine lv_bipush (v := 48) hx hb dX6_readNumber_27 (by decide) ?_
      refine lv_icmp_lt (tgt := 79) hx hb dX6_readNumber_29 (by decide) (fun c_ => ?_) (fun c_ => ?_)
      · replace h := if_t c_ h
        exact hk_79 σ x1 x2 x3 x4 H locs ls h hP hS (lv_sub hl [0, 1, 2, 3, 4] rfl)
      · replace h := if_f c_ h
        refine lv_aload_n hx hb dX6_readNumber_32 rfl (lv_at hl 0 rfl) ?_
        refine r_getr C cf_6 hP sx_5 kx_5 4 (by decide) rfl tw_63 dX6_readNumber_33 ?_
        refine lv_iload hx hb dX6_readNumber_36 (lv_at hl 5 rfl) ?_
        refine r_iald C hP sx_6 kx_6 rfl g_1 dX6_readNumber_38 ?_
        refine lv_bipush (v := 57) hx hb dX6_readNumber_39 (by decide) ?_
        refine lv_icmp_gt (tgt := 79) hx hb dX6_readNumber_41 (by decide) (fun c_ => ?_) (fun c_ => ?_)
        · replace h := if_t c_ h
          exact hk_79 σ x1 x2 x3 x4 H locs ls h hP hS (lv_sub hl [0, 1, 2, 3, 4] rfl)
        · replace h := if_f c_ h
          refine lv_iload hx hb dX6_readNumber_44 (lv_at hl 4 rfl) ?_
          refine lv_iconst (v := 2) hx hb dX6_readNumber_46 (by decide) ?_
          refine lv_icmp_ge (tgt := 68) hx hb dX6_readNumber_47 (by decide) (fun c_ => ?_) (fun c_ => ?_)
          · replace h := if_t c_ h
            refine lv_iload_n hx hb dX6_readNumber_68 rfl (lv_at hl 3 rfl) ?_
            refine lv_istore_n (lv' := [(3, .int x3), (0, .ref (adG g 5)), (1, .int x1), (2, .int x2), (4, .int x4), (5, .int x5)]) hx hb dX6_readNumber_69 rfl hl (by decide) rfl (fun ls hl => ?_)
            obtain ⟨x_2, ex_2⟩ : ∃ y : Int32, y = x4 + (1 : Int32) := ⟨_, rfl⟩
            replace h := un_at ex_2 h
            refine lv_iinc (v := x_2) (lv' := [(4, .int x_2), (3, .int x3), (0, .ref (adG g 5)), (1, .int x1), (2, .int x2), (5, .int x5)]) hx hb dX6_readNumber_70 hl (k := 4) rfl (by rw [ex_2]; rfl) (by decide) rfl (fun ls hl => ?_)
            obtain ⟨x_3, ex_3⟩ : ∃ y : Int32, y = x5 + (1 : Int32) := ⟨_, rfl⟩
            replace h := un_at ex_3 h
            refine lv_iinc (v := x_3) (lv' := [(5, .int x_3), (4, .int x_2), (3, .int x3), (0, .ref (adG g 5)), (1, .int x1), (2, .int x2)]) hx hb dX6_readNumber_73 hl (k := 5) rfl (by rw [ex_3]; rfl) (by decide) rfl (fun ls hl => ?_)
            refine lv_goto (tgt := 11) hx hb dX6_readNumber_76 (by decide) ?_
            exact ih σ x1 x2 x3 x_2 x_3 H locs ls h hP hS (lv_sub hl [3, 4, 5, 2, 1, 0] rfl) hk_79
          · replace h := if_f c_ h
            refine lv_iload_n hx hb dX6_readNumber_50 rfl (lv_at hl 3 rfl) ?_
            refine lv_bipush (v := 10) hx hb dX6_readNumber_51 (by decide) ?_
            refine lv_imul hx hb dX6_readNumber_53 ?_
            refine lv_aload_n hx hb dX6_readNumber_54 rfl (lv_at hl 0 rfl) ?_
            refine r_getr C cf_6 hP sx_5 kx_5 4 (by decide) rfl tw_63 dX6_readNumber_55 ?_
            refine lv_iload hx hb dX6_readNumber_58 (lv_at hl 5 rfl) ?_
            refine r_iald C hP sx_6 kx_6 rfl g_1 dX6_readNumber_60 ?_
            refine lv_iadd hx hb dX6_readNumber_61 ?_
            refine lv_bipush (v := 48) hx hb dX6_readNumber_62 (by decide) ?_
            refine lv_isub hx hb dX6_readNumber_64 ?_
            refine lv_goto (tgt := 69) hx hb dX6_readNumber_65 (by decide) ?_
            refine lv_topi (fun x_4 ex_4 => ?_)
            replace h := un_at ex_4 h
            refine lv_istore_n (lv' := [(3, .int x_4), (0, .ref (adG g 5)), (1, .int x1), (2, .int x2), (4, .int x4), (5, .int x5)]) hx hb dX6_readNumber_69 rfl hl (by decide) rfl (fun ls hl => ?_)
            obtain ⟨x_5, ex_5⟩ : ∃ y : Int32, y = x4 + (1 : Int32) := ⟨_, rfl⟩
            replace h := un_at ex_5 h
            refine lv_iinc (v := x_5) (lv' := [(4, .int x_5), (3, .int x_4), (0, .ref (adG g 5)), (1, .int x1), (2, .int x2), (5, .int x5)]) hx hb dX6_readNumber_70 hl (k := 4) rfl (by rw [ex_5]; rfl) (by decide) rfl (fun ls hl => ?_)
            obtain ⟨x_6, ex_6⟩ : ∃ y : Int32, y = x5 + (1 : Int32) := ⟨_, rfl⟩
            replace h := un_at ex_6 h
            refine lv_iinc (v := x_6) (lv' := [(5, .int x_6), (4, .int x_5), (3, .int x_4), (0, .ref (adG g 5)), (1, .int x1), (2, .int x2)]) hx hb dX6_readNumber_73 hl (k := 5) rfl (by rw [ex_6]; rfl) (by decide) rfl (fun ls hl => ?_)
            refine lv_goto (tgt := 11) hx hb dX6_readNumber_76 (by decide) ?_
            exact ih σ x1 x2 x_4 x_5 x_6 H locs ls h hP hS (lv_sub hl [3, 4, 5, 2, 1, 0] rfl) hk_79

set_option maxRecDepth 100000 in
set_option maxHeartbeats 4000000 in
theorem wfX6_readNumber_j79 {l : Launch} {g : Gw} {p : Program} {e : Env} {s : State} {m : MethodId} {args : Array Value} {below : List Frame} {meth : Method} {c : Code} (C : Cx wkX g p s m args meth c cX6_readNumber 6 RX6 (some .int)) {Rz : (Sto × Int32)} : ∀ (σ : Sto) (x1 : Int32) (x2 : Int32) (x3 : Int32) (x4 : Int32) (H : Heap) (locs : List Loc) (ls : Array Slot), fX6_readNumber_j79 σ x1 x2 x3 x4 = some Rz → wS wkX g σ H → va_S (AS wkX g) s.heap H locs → lv_has ls 6 [(0, .ref (adG g 5)), (1, .int x1), (2, .int x2), (3, .int x3), (4, .int x4)] → W p l e (rmS 1) s m args below meth c H locs 0 0 (MQ below (QiS wkX g Rz.1 Rz.2) args s 0 0 (AS wkX g)) (F0 m 79 ls []) := by
  intro σ x1 x2 x3 x4 H locs ls h hP hS hl
  obtain ⟨hx, hb, hml, hown, hts, hr, hlk, hK, hZ⟩ := id C
  unfold fX6_readNumber_j79 at h
  refine lv_iload hx hb dX6_readNumber_79 (lv_at hl 4 rfl) ?_
  refine lv_iconst (v := 1) hx hb dX6_readNumber_81 (by decide) ?_
  refine lv_icmp_lt (tgt := 91) hx hb dX6_readNumber_82 (by decide) (fun c_ => ?_) (fun c_ => ?_)
  · replace h := if_t c_ h
    refine lv_aload_n hx hb dX6_readNumber_91 rfl (lv_at hl 0 rfl) ?_
    refine lv_iconst (v := 1) hx hb dX6_readNumber_92 (by decide) ?_
    obtain ⟨q_1, eq_1⟩ : ∃ z, z = fX6_fails σ (1 : Int32) := ⟨_, rfl⟩
    replace h := un_at eq_1 h
    refine end_i (run_v (As := [.int (1 : Int32)]) (rest := []) C ca_X6_fails (ctX6_fails (1 : Int32) eq_1.symm) cf_6 sx_5 kx_5 tw_313 ⟨Nat.le_of_ble_eq_true rfl, Nat.le_of_ble_eq_true rfl⟩ rfl hl.1 (Nat.le_of_ble_eq_true rfl) ⟨Nat.le_refl _, Nat.le_refl _⟩ hP hS dX6_readNumber_93) hS (fun H locs hP hS => ?_)
    refine lv_pop hx hb dX6_readNumber_96 rfl ?_
    refine lv_iconst (v := (-1)) hx hb dX6_readNumber_97 (by decide) ?_
    exact r_reti C hP hS (rt_ow1 h) (rt_ow2 h) dX6_readNumber_98
  · replace h := if_f c_ h
    refine lv_iload hx hb dX6_readNumber_85 (lv_at hl 4 rfl) ?_
    refine lv_iconst (v := 2) hx hb dX6_readNumber_87 (by decide) ?_
    refine lv_icmp_le (tgt := 99) hx hb dX6_readNumber_88 (by decide) (fun c_ => ?_) (fun c_ => ?_)
    · replace h := if_t c_ h
      refine lv_iload_n hx hb dX6_readNumber_99 rfl (lv_at hl 3 rfl) ?_
      refine lv_iload_n hx hb dX6_readNumber_100 rfl (lv_at hl 1 rfl) ?_
      refine lv_icmp_lt (tgt := 109) hx hb dX6_readNumber_101 (by decide) (fun c_ => ?_) (fun c_ => ?_)
      · replace h := if_t c_ h
        refine lv_aload_n hx hb dX6_readNumber_109 rfl (lv_at hl 0 rfl) ?_
        refine lv_iconst (v := 2) hx hb dX6_readNumber_110 (by decide) ?_
        obtain ⟨q_2, eq_2⟩ : ∃ z, z = fX6_fails σ (2 : Int32) := ⟨_, rfl⟩
        replace h := un_at eq_2 h
        refine end_i (run_v (As := [.int (2 : Int32)]) (rest := []) C ca_X6_fails (ctX6_fails (2 : Int32) eq_2.symm) cf_6 sx_5 kx_5 tw_313 ⟨Nat.le_of_ble_eq_true rfl, Nat.le_of_ble_eq_true rfl⟩ rfl hl.1 (Nat.le_of_ble_eq_true rfl) ⟨Nat.le_refl _, Nat.le_refl _⟩ hP hS dX6_readNumber_111) hS (fun H locs hP hS => ?_)
        refine lv_pop hx hb dX6_readNumber_114 rfl ?_
        refine lv_iconst (v := (-1)) hx hb dX6_readNumber_115 (by decide) ?_
        exact r_reti C hP hS (rt_ow1 h) (rt_ow2 h) dX6_readNumber_116
      · replace h := if_f c_ h
        refine lv_iload_n hx hb dX6_readNumber_104 rfl (lv_at hl 3 rfl) ?_
        refine lv_iload_n hx hb dX6_readNumber_105 rfl (lv_at hl 2 rfl) ?_
        refine lv_icmp_le (tgt := 117) hx hb dX6_readNumber_106 (by decide) (fun c_ => ?_) (fun c_ => ?_)
        · replace h := if_t c_ h
          refine lv_aload_n hx hb dX6_readNumber_117 rfl (lv_at hl 0 rfl) ?_
          refine lv_dup hx hb dX6_readNumber_118 rfl ?_
          refine r_geti C cf_6 hP sx_5 kx_5 5 (by decide) rfl tw_64 dX6_readNumber_119 ?_
          refine lv_iload hx hb dX6_readNumber_122 (lv_at hl 4 rfl) ?_
          refine lv_iadd hx hb dX6_readNumber_124 ?_
          refine r_puti C cf_6 hP hS sx_5 kx_5 5 (by decide) rfl rfl rfl tw_64 dX6_readNumber_125 (fun H locs σ_3 eσ_3 hP hS => ?_)
          replace h := un_at eσ_3 h
          refine lv_iload_n hx hb dX6_readNumber_128 rfl (lv_at hl 3 rfl) ?_
          exact r_reti C hP hS (rt_ow1 h) (rt_ow2 h) dX6_readNumber_129
        · replace h := if_f c_ h
          refine lv_aload_n hx hb dX6_readNumber_109 rfl (lv_at hl 0 rfl) ?_
          refine lv_iconst (v := 2) hx hb dX6_readNumber_110 (by decide) ?_
          obtain ⟨q_4, eq_4⟩ : ∃ z, z = fX6_fails σ (2 : Int32) := ⟨_, rfl⟩
          replace h := un_at eq_4 h
          refine end_i (run_v (As := [.int (2 : Int32)]) (rest := []) C ca_X6_fails (ctX6_fails (2 : Int32) eq_4.symm) cf_6 sx_5 kx_5 tw_313 ⟨Nat.le_of_ble_eq_true rfl, Nat.le_of_ble_eq_true rfl⟩ rfl hl.1 (Nat.le_of_ble_eq_true rfl) ⟨Nat.le_refl _, Nat.le_refl _⟩ hP hS dX6_readNumber_111) hS (fun H locs hP hS => ?_)
          refine lv_pop hx hb dX6_readNumber_114 rfl ?_
          refine lv_iconst (v := (-1)) hx hb dX6_readNumber_115 (by decide) ?_
          exact r_reti C hP hS (rt_ow1 h) (rt_ow2 h) dX6_readNumber_116
    · replace h := if_f c_ h
      refine lv_aload_n hx hb dX6_readNumber_91 rfl (lv_at hl 0 rfl) ?_
      refine lv_iconst (v := 1) hx hb dX6_readNumber_92 (by decide) ?_
      obtain ⟨q_5, eq_5⟩ : ∃ z, z = fX6_fails σ (1 : Int32) := ⟨_, rfl⟩
      replace h := un_at eq_5 h
      refine end_i (run_v (As := [.int (1 : Int32)]) (rest := []) C ca_X6_fails (ctX6_fails (1 : Int32) eq_5.symm) cf_6 sx_5 kx_5 tw_313 ⟨Nat.le_of_ble_eq_true rfl, Nat.le_of_ble_eq_true rfl⟩ rfl hl.1 (Nat.le_of_ble_eq_true rfl) ⟨Nat.le_refl _, Nat.le_refl _⟩ hP hS dX6_readNumber_93) hS (fun H locs hP hS => ?_)
      refine lv_pop hx hb dX6_readNumber_96 rfl ?_
      refine lv_iconst (v := (-1)) hx hb dX6_readNumber_97 (by decide) ?_
      exact r_reti C hP hS (rt_ow1 h) (rt_ow2 h) dX6_readNumber_98

set_option maxRecDepth 100000 in
set_option maxHeartbeats 4000000 in
theorem ctX6_readNumber {l : Launch} {g : Gw} {σ : Sto} (x1 : Int32) (x2 : Int32) {Rz : (Sto × Int32)} (h : fX6_readNumber σ x1 x2 = some Rz) : MtG l yX6_readNumber cX6_readNumber 6 (some .int) 1 wkX g [.ref (adG g 5), .int x1, .int x2] σ (QiS wkX g Rz.1 Rz.2) := by
  refine mt_of (by decide) (Nat.le_of_ble_eq_true rfl) (fun p e s m below meth c ls H locs C hP hS hl => ?_)
  have C : Cx wkX g p s m _ meth c cX6_readNumber 6 RX6 (some .int) := C
  have hl : lv_has ls 6 [(0, .ref (adG g 5)), (1, .int x1), (2, .int x2)] := hl
  obtain ⟨hx, hb, hml, hown, hts, hr, hlk, hK, hZ⟩ := id C
  unfold fX6_readNumber at h
  refine lv_iconst (v := 0) hx hb dX6_readNumber_0 (by decide) ?_
  refine lv_istore_n (lv' := [(3, .int (0 : Int32)), (0, .ref (adG g 5)), (1, .int x1), (2, .int x2)]) hx hb dX6_readNumber_1 rfl hl (by decide) rfl (fun ls hl => ?_)
  refine lv_iconst (v := 0) hx hb dX6_readNumber_2 (by decide) ?_
  refine lv_istore (lv' := [(4, .int (0 : Int32)), (3, .int (0 : Int32)), (0, .ref (adG g 5)), (1, .int x1), (2, .int x2)]) hx hb dX6_readNumber_3 hl (by decide) rfl (fun ls hl => ?_)
  refine lv_aload_n hx hb dX6_readNumber_5 rfl (lv_at hl 2 rfl) ?_
  refine r_geti C cf_6 hP sx_5 kx_5 5 (by decide) rfl tw_64 dX6_readNumber_6 ?_
  refine lv_topi (fun x_1 ex_1 => ?_)
  replace h := un_at ex_1 h
  refine lv_istore (lv' := [(5, .int x_1), (4, .int (0 : Int32)), (3, .int (0 : Int32)), (0, .ref (adG g 5)), (1, .int x1), (2, .int x2)]) hx hb dX6_readNumber_9 hl (by decide) rfl (fun ls hl => ?_)
  refine wfX6_readNumber_L11 C fu σ x1 x2 (0 : Int32) (0 : Int32) x_1 H locs ls h hP hS (lv_sub hl [3, 4, 5, 2, 1, 0] rfl) (fun σ_2 z_3 z_4 z_5 z_6 H locs ls h hP hS hl => ?_)
  exact wfX6_readNumber_j79 C σ_2 z_3 z_4 z_5 z_6 H locs ls h hP hS (lv_sub hl [0, 1, 2, 3, 4] rfl)
