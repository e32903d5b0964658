set_option maxRecDepth 100000 in
set_option maxHeartbeats 4000000 in
theorem ctX10_who {l : Launch} {g : Gw} {σ : Sto} (x1 : Int32) (x2 : Int32) (x3 : Int32) (x4 : Int32) (x5 : Int32) {Rz : (Sto × Int32)} (h : fX10_who σ x1 x2 x3 x4 x5 = some Rz) : MtG l yX10_who cX10_who 11 (some .int) 5 wkM g [.ref (adG g 0), .int x1, .int x2, .int x3, .int x4, .int x5] σ (QiS wkM g Rz.1 Rz.2) := by
  refine mt_of (by decide) (Nat.le_of_ble_eq_true rfl) (fun p e s m below meth c ls H locs C hP hS hl => ?_)
  have C : Cx wkM g p s m _ meth c cX10_who 11 RX10 (some .int) := C
  have hl : lv_has ls 11 [(0, .ref (adG g 0)), (1, .int x1), (2, .int x2), (3, .int x3), (4, .int x4), (5, .int x5)] := hl
  obtain ⟨hx, hb, hml, hown, hts, hr, hlk, hK, hZ⟩ := id C
  unfold fX10_who at h
  refine lv_aload_n hx hb dX10_who_0 rfl (lv_at hl 0 rfl) ?_
  refine lv_iload_n hx hb dX10_who_1 rfl (lv_at hl 1 rfl) ?_
  refine end_i (run_v (As := [.int x1]) (rest := []) C ca_X10_isThing (ctX10_isThing x1 rfl) cf_10 sm_0 km_0 tw_551 ⟨Nat.le_of_ble_eq_true rfl, Nat.le_of_ble_eq_true rfl⟩ rfl hl.1 (Nat.le_of_ble_eq_true rfl) ⟨Nat.le_refl _, Nat.le_refl _⟩ hP hS dX10_who_2) hS (fun H locs hP hS => ?_)
  refine lv_if_eq (tgt := 40) hx hb dX10_who_5 (by decide) (fun c_ => ?_) (fun c_ => ?_)
  · replace h := if_t c_ h
    refine lv_ldc hx hb hown (hts _ tw_188) dX10_who_40 ?_
    exact r_reti C hP hS (rt_ow1 h) (rt_ow2 h) dX10_who_42
  · replace h := if_f c_ h
    refine lv_iload_n hx hb dX10_who_8 rfl (lv_at hl 2 rfl) ?_
    refine lv_i2l hx hb dX10_who_9 rfl ?_
    refine lv_lconst (v := 0) hx hb dX10_who_10 (by decide) ?_
    refine lv_ldc2 hx hb hown (hts _ tw_187) dX10_who_11 ?_
    refine end_i (run_s (As := [.long x2.toInt64, .long (0 : Int64), .long (2 : Int64)]) (rest := []) C ca_X10_in (ctX10_in x2.toInt64 (0 : Int64) (2 : Int64) rfl) tw_193 ⟨Nat.le_of_ble_eq_true rfl, Nat.le_of_ble_eq_true rfl⟩ rfl hl.1 (Nat.le_of_ble_eq_true rfl) ⟨Nat.le_refl _, Nat.le_refl _⟩ hP hS dX10_who_14) hS (fun H locs hP hS => ?_)
    refine lv_if_eq (tgt := 40) hx hb dX10_who_17 (by decide) (fun c_ => ?_) (fun c_ => ?_)
    · replace h := if_t c_ h
      refine lv_ldc hx hb hown (hts _ tw_188) dX10_who_40 ?_
      exact r_reti C hP hS (rt_ow1 h) (rt_ow2 h) dX10_who_42
    · replace h := if_f c_ h
      refine lv_iload_n hx hb dX10_who_20 rfl (lv_at hl 3 rfl) ?_
      refine end_i (run_s (As := [.int x3]) (rest := []) C ca_X10_isRow (ctX10_isRow x3 rfl) tw_189 ⟨Nat.le_of_ble_eq_true rfl, Nat.le_of_ble_eq_true rfl⟩ rfl hl.1 (Nat.le_of_ble_eq_true rfl) ⟨Nat.le_refl _, Nat.le_refl _⟩ hP hS dX10_who_21) hS (fun H locs hP hS => ?_)
      refine lv_if_eq (tgt := 40) hx hb dX10_who_24 (by decide) (fun c_ => ?_) (fun c_ => ?_)
      · replace h := if_t c_ h
        refine lv_ldc hx hb hown (hts _ tw_188) dX10_who_40 ?_
        exact r_reti C hP hS (rt_ow1 h) (rt_ow2 h) dX10_who_42
      · replace h := if_f c_ h
        refine lv_iload hx hb dX10_who_27 (lv_at hl 5 rfl) ?_
        refine lv_i2l hx hb dX10_who_29 rfl ?_
        refine lv_lconst (v := 1) hx hb dX10_who_30 (by decide) ?_
        refine lv_ldc2 hx hb hown (hts _ tw_967) dX10_who_31 ?_
        refine end_i (run_s (As := [.long x5.toInt64, .long (1 : Int64), .long (12 : Int64)]) (rest := []) C ca_X10_in (ctX10_in x5.toInt64 (1 : Int64) (12 : Int64) rfl) tw_193 ⟨Nat.le_of_ble_eq_true rfl, Nat.le_of_ble_eq_true rfl⟩ rfl hl.1 (Nat.le_of_ble_eq_true rfl) ⟨Nat.le_refl _, Nat.le_refl _⟩ hP hS dX10_who_34) hS (fun H locs hP hS => ?_)
        refine lv_if_ne (tgt := 43) hx hb dX10_who_37 (by decide) (fun c_ => ?_) (fun c_ => ?_)
        · replace h := if_f c_ h
          refine lv_aload_n hx hb dX10_who_43 rfl (lv_at hl 0 rfl) ?_
          refine r_getr C cf_10 hP sm_0 km_0 4 (by decide) rfl tw_147 dX10_who_44 ?_
          refine lv_bipush (v := 53) hx hb dX10_who_47 (by decide) ?_
          refine lv_iload_n hx hb dX10_who_49 rfl (lv_at hl 1 rfl) ?_
          refine lv_iadd hx hb dX10_who_50 ?_
          obtain ⟨g_5, h⟩ := gd_inv h
          refine r_iald C hP sm_4 km_4 rfl g_5 dX10_who_51 ?_
          refine lv_if_eq (tgt := 58) hx hb dX10_who_52 (by decide) (fun c_ => ?_) (fun c_ => ?_)
          · replace h := if_t c_ h
            refine lv_aload_n hx hb dX10_who_58 rfl (lv_at hl 0 rfl) ?_
            refine lv_iload_n hx hb dX10_who_59 rfl (lv_at hl 3 rfl) ?_
            refine lv_iload hx hb dX10_who_60 (lv_at hl 4 rfl) ?_
            refine lv_iload hx hb dX10_who_62 (lv_at hl 5 rfl) ?_
            obtain ⟨q_6, hq_6, h⟩ := bd_inv h
            refine end_i (run_v (As := [.int x3, .int x4, .int x5]) (rest := []) C ca_X10_lacks (ctX10_lacks x3 x4 x5 hq_6) cf_10 sm_0 km_0 tw_968 ⟨Nat.le_of_ble_eq_true rfl, Nat.le_of_ble_eq_true rfl⟩ rfl hl.1 (Nat.le_of_ble_eq_true rfl) ⟨Nat.le_refl _, Nat.le_refl _⟩ hP hS dX10_who_64) hS (fun H locs hP hS => ?_)
            refine lv_istore (lv' := [(6, .int q_6.2), (0, .ref (adG g 0)), (1, .int x1), (2, .int x2), (3, .int x3), (4, .int x4), (5, .int x5)]) hx hb dX10_who_67 hl (by decide) rfl (fun ls hl => ?_)
            refine lv_iload hx hb dX10_who_69 (lv_at hl 0 rfl) ?_
            refine lv_if_ge (tgt := 77) hx hb dX10_who_71 (by decide) (fun c_ => ?_) (fun c_ => ?_)
            · replace h := if_t c_ h
              refine lv_iload_n hx hb dX10_who_77 rfl (lv_at hl 3 rfl) ?_
              refine lv_if_ne (tgt := 86) hx hb dX10_who_78 (by decide) (fun c_ => ?_) (fun c_ => ?_)
              · replace h := if_f c_ h
                refine lv_iload_n hx hb dX10_who_86 rfl (lv_at hl 3 rfl) ?_
                refine lv_iconst (v := 1) hx hb dX10_who_87 (by decide) ?_
                refine lv_icmp_ne (tgt := 96) hx hb dX10_who_88 (by decide) (fun c_ => ?_) (fun c_ => ?_)
                · replace h := if_f c_ h
                  refine lv_bipush (v := 47) hx hb dX10_who_96 (by decide) ?_
                  exact wfX10_who_j98 C q_6.1 x1 x2 x3 x4 x5 (47 : Int32) H locs ls h hP hS (lv_sub hl [1, 2, 3, 4, 5, 6] rfl)
                · replace h := if_t c_ h
                  refine lv_bipush (v := 41) hx hb dX10_who_91 (by decide) ?_
                  refine lv_goto (tgt := 98) hx hb dX10_who_93 (by decide) ?_
                  exact wfX10_who_j98 C q_6.1 x1 x2 x3 x4 x5 (41 : Int32) H locs ls h hP hS (lv_sub hl [1, 2, 3, 4, 5, 6] rfl)
              · replace h := if_t c_ h
                refine lv_bipush (v := 35) hx hb dX10_who_81 (by decide) ?_
                refine lv_goto (tgt := 98) hx hb dX10_who_83 (by decide) ?_
                exact wfX10_who_j98 C q_6.1 x1 x2 x3 x4 x5 (35 : Int32) H locs ls h hP hS (lv_sub hl [1, 2, 3, 4, 5, 6] rfl)
            · replace h := if_f c_ h
              refine lv_iload hx hb dX10_who_74 (lv_at hl 0 rfl) ?_
              exact r_reti C hP hS (rt_ow1 h) (rt_ow2 h) dX10_who_76
          · replace h := if_f c_ h
            refine lv_ldc hx hb hown (hts _ tw_436) dX10_who_55 ?_
            exact r_reti C hP hS (rt_ow1 h) (rt_ow2 h) dX10_who_57
        · replace h := if_t c_ h
          refine lv_ldc hx hb hown (hts _ tw_188) dX10_who_40 ?_
          exact r_reti C hP hS (rt_ow1 h) (rt_ow2 h) dX10_who_42

set_option maxRecDepth 100000 in
set_option maxHeartbeats 4000000 in
theorem wfX10_feeds_j104 {l : Launch} {g : Gw} {p : Program} {e : Env} {s : State} {m : MethodId} {args : Array Value} {below : List Frame} {meth : Method} {c : Code} (C : Cx wkM g p s m args meth c cX10_feeds 9 RX10 (some .int)) {Rz : (Sto × Int32)} {k_68 : Sto → Int32 → Int32 → Int32 → Int32 → Int32 → Int32 → Int32 → Option (Sto × Int32)} : ∀ (σ : Sto) (x1 : Int32) (x2 : Int32) (x3 : Int32) (x4 : Int32) (x5 : Int32) (x7 : Int32) (x8 : Int32) (y1 : Int32) (H : Heap) (locs : List Loc) (ls : Array Slot), fX10_feeds_j104 k_68 σ x1 x2 x3 x4 x5 x7 x8 y1 = some Rz → wS wkM g σ H → va_S (AS wkM g) s.heap H locs → lv_has ls 9 [(0, .ref (adG g 0)), (1, .int x1), (2, .int x2), (3, .int x3), (4, .int x4), (5, .int x5), (7, .int x7), (8, .int x8)] → (∀ (σ : Sto) (x1 : Int32) (x2 : Int32) (x3 : Int32) (x4 : Int32) (x5 : Int32) (x7 : Int32) (x8 : Int32) (H : Heap) (locs : List Loc) (ls : Array Slot), k_68 σ x1 x2 x3 x4 x5 x7 x8 = some Rz → wS wkM g σ H → va_S (AS wkM g) s.heap H locs → lv_has ls 9 [(0, .ref (adG g 0)), (1, .int x1), (2, .int x2), (3, .int x3), (4, .int x4), (5, .int x5), (7, .int x7), (8, .int x8)] → W p l e (rmS 5) s m args below meth c H locs 0 0 (MQ below (QiS wkM g Rz.1 Rz.2) args s 0 0 (AS wkM g)) (F0 m 68 ls [])) → W p l e (rmS 5) s m args below meth c H locs 0 0 (MQ below (QiS wkM g Rz.1 Rz.2) args s 0 0 (AS wkM g)) (F0 m 104 ls [.int y1, .ref (adG g 6)]) := by
  intro σ x1 x2 x3 x4 x5 x7 x8 y1 H locs ls h hP hS hl hk_68
  obtain ⟨hx, hb, hml, hown, hts, hr, hlk, hK, hZ⟩ := id C
  unfold fX10_feeds_j104 at h
  refine lv_iload hx hb dX10_feeds_104 (lv_at hl 7 rfl) ?_
  obtain ⟨g_1, h⟩ := gd_inv h
  refine r_iast C hP hS sm_6 km_6 rfl g_1 dX10_feeds_106 (fun H locs σ_2 eσ_2 hP hS => ?_)
  replace h := un_at eσ_2 h
  refine lv_iload hx hb dX10_feeds_107 (lv_at hl 6 rfl) ?_
  refine lv_aload_n hx hb dX10_feeds_109 rfl (lv_at hl 0 rfl) ?_
  refine lv_iconst (v := (-1)) hx hb dX10_feeds_110 (by decide) ?_
  refine lv_iload_n hx hb dX10_feeds_111 rfl (lv_at hl 1 rfl) ?_
  refine lv_iload_n hx hb dX10_feeds_112 rfl (lv_at hl 3 rfl) ?_
  refine lv_iload hx hb dX10_feeds_113 (lv_at hl 4 rfl) ?_
  refine lv_iload hx hb dX10_feeds_115 (lv_at hl 5 rfl) ?_
  obtain ⟨q_3, hq_3, h⟩ := bd_inv h
  refine end_i (run_v (As := [.int (-1 : Int32), .int x1, .int x3, .int x4, .int x5]) (rest := [.int x7]) C ca_X10_fits (ctX10_fits (-1 : Int32) x1 x3 x4 x5 hq_3) cf_10 sm_0 km_0 tw_972 ⟨Nat.le_of_ble_eq_true rfl, Nat.le_of_ble_eq_true rfl⟩ rfl hl.1 (Nat.le_of_ble_eq_true rfl) ⟨Nat.le_refl _, Nat.le_refl _⟩ hP hS dX10_feeds_117) hS (fun H locs hP hS => ?_)
  refine lv_if_eq (tgt := 130) hx hb dX10_feeds_120 (by decide) (fun c_ => ?_) (fun c_ => ?_)
  · replace h := if_t c_ h
    refine lv_iconst (v := 0) hx hb dX10_feeds_130 (by decide) ?_
    refine lv_ior hx hb dX10_feeds_131 ?_
    refine lv_topi (fun x_4 ex_4 => ?_)
    replace h := un_at ex_4 h
    refine lv_istore (lv' := [(7, .int x_4), (0, .ref (adG g 0)), (1, .int x1), (2, .int x2), (3, .int x3), (4, .int x4), (5, .int x5), (8, .int x8)]) hx hb dX10_feeds_132 hl (by decide) rfl (fun ls hl => ?_)
    obtain ⟨x_5, ex_5⟩ : ∃ y : Int32, y = x8 + (1 : Int32) := ⟨_, rfl⟩
    replace h := un_at ex_5 h
    refine lv_iinc (v := x_5) (lv' := [(8, .int x_5), (7, .int x_4), (0, .ref (adG g 0)), (1, .int x1), (2, .int x2), (3, .int x3), (4, .int x4), (5, .int x5)]) hx hb dX10_feeds_134 hl (k := 7) rfl (by rw [ex_5]; rfl) (by decide) rfl (fun ls hl => ?_)
    refine lv_goto (tgt := 68) hx hb dX10_feeds_137 (by decide) ?_
    exact hk_68 q_3.1 x1 x2 x3 x4 x5 x_4 x_5 H locs ls h hP hS (lv_sub hl [2, 3, 4, 5, 6, 7, 1, 0] rfl)
  · replace h := if_f c_ h
    refine lv_iconst (v := 1) hx hb dX10_feeds_123 (by decide) ?_
    refine lv_iload hx hb dX10_feeds_124 (lv_at hl 7 rfl) ?_
    refine lv_ishl hx hb dX10_feeds_126 ?_
    refine lv_goto (tgt := 131) hx hb dX10_feeds_127 (by decide) ?_
    refine lv_ior hx hb dX10_feeds_131 ?_
    refine lv_topi (fun x_6 ex_6 => ?_)
    replace h := un_at ex_6 h
    refine lv_istore (lv' := [(7, .int x_6), (0, .ref (adG g 0)), (1, .int x1), (2, .int x2), (3, .int x3), (4, .int x4), (5, .int x5), (8, .int x8)]) hx hb dX10_feeds_132 hl (by decide) rfl (fun ls hl => ?_)
    obtain ⟨x_7, ex_7⟩ : ∃ y : Int32, y = x8 + (1 : Int32) := ⟨_, rfl⟩
    replace h := un_at ex_7 h
    refine lv_iinc (v := x_7) (lv' := [(8, .int x_7), (7, .int x_6), (0, .ref (adG g 0)), (1, .int x1), (2, .int x2), (3, .int x3), (4, .int x4), (5, .int x5)]) hx hb dX10_feeds_134 hl (k := 7) rfl (by rw [ex_7]; rfl) (by decide) rfl (fun ls hl => ?_)
    refine lv_goto (tgt := 68) hx hb dX10_feeds_137 (by decide) ?_
    exact hk_68 q_3.1 x1 x2 x3 x4 x5 x_6 x_7 H locs ls h hP hS (lv_sub hl [2, 3, 4, 5, 6, 7, 1, 0] rfl)

set_option maxRecDepth 100000 in
set_option maxHeartbeats 4000000 in
theorem wfX10_feeds_j81 {l : Launch} {g : Gw} {p : Program} {e : Env} {s : State} {m : MethodId} {args : Array Value} {below : List Frame} {meth : Method} {c : Code} (C : Cx wkM g p s m args meth c cX10_feeds 9 RX10 (some .int)) {Rz : (Sto × Int32)} {k_140 : Sto → Int32 → Int32 → Option (Sto × Int32)} {k_68 : Sto → Int32 → Int32 → Int32 → Int32 → Int32 → Int32 → Int32 → Option (Sto × Int32)} : ∀ (σ : Sto) (x1 : Int32) (x2 : Int32) (x3 : Int32) (x4 : Int32) (x5 : Int32) (x7 : Int32) (x8 : Int32) (y0 : Int32) (y1 : Int32) (H : Heap) (locs : List Loc) (ls : Array Slot), fX10_feeds_j81 k_140 k_68 σ x1 x2 x3 x4 x5 x7 x8 y0 y1 = some Rz → wS wkM g σ H → va_S (AS wkM g) s.heap H locs → lv_has ls 9 [(0, .ref (adG g 0)), (1, .int x1), (2, .int x2), (3, .int x3), (4, .int x4), (5, .int x5), (7, .int x7), (8, .int x8)] → (∀ (σ : Sto) (x2 : Int32) (x7 : Int32) (H : Heap) (locs : List Loc) (ls : Array Slot), k_140 σ x2 x7 = some Rz → wS wkM g σ H → va_S (AS wkM g) s.heap H locs → lv_has ls 9 [(0, .ref (adG g 0)), (2, .int x2), (7, .int x7)] → W p l e (rmS 5) s m args below meth c H locs 0 0 (MQ below (QiS wkM g Rz.1 Rz.2) args s 0 0 (AS wkM g)) (F0 m 140 ls [])) → (∀ (σ : Sto) (x1 : Int32) (x2 : Int32) (x3 : Int32) (x4 : Int32) (x5 : Int32) (x7 : Int32) (x8 : Int32) (H : Heap) (locs : List Loc) (ls : Array Slot), k_68 σ x1 x2 x3 x4 x5 x7 x8 = some Rz → wS wkM g σ H → va_S (AS wkM g) s.heap H locs → lv_has ls 9 [(0, .ref (adG g 0)), (1, .int x1), (2, .int x2), (3, .int x3), (4, .int x4), (5, .int x5), (7, .int x7), (8, .int x8)] → W p l e (rmS 5) s m args below meth c H locs 0 0 (MQ below (QiS wkM g Rz.1 Rz.2) args s 0 0 (AS wkM g)) (F0 m 68 ls [])) → W p l e (rmS 5) s m args below meth c H locs 0 0 (MQ below (QiS wkM g Rz.1 Rz.2) args s 0 0 (AS wkM g)) (F0 m 81 ls [.int y1, .int y0]) := by
  intro σ x1 x2 x3 x4 x5 x7 x8 y0 y1 H locs ls h hP hS hl hk_140 hk_68
  obtain ⟨hx, hb, hml, hown, hts, hr, hlk, hK, hZ⟩ := id C
  unfold fX10_feeds_j81 at h
  refine lv_icmp_gt (tgt := 140) hx hb dX10_feeds_81 (by decide) (fun c_ => ?_) (fun c_ => ?_)
  · replace h := if_t c_ h
    exact hk_140 σ x2 x7 H locs ls h hP hS (lv_sub hl [0, 2, 6] rfl)
  · replace h := if_f c_ h
    refine lv_aload_n hx hb dX10_feeds_84 rfl (lv_at hl 0 rfl) ?_
    refine lv_iconst (v := 0) hx hb dX10_feeds_85 (by decide) ?_
    obtain ⟨q_1, hq_1, h⟩ := bd_inv h
    refine end_v (run_v (As := [.int (0 : Int32)]) (rest := []) C ca_X10_laysAside (ctX10_laysAside (0 : Int32) hq_1) cf_10 sm_0 km_0 tw_650 ⟨Nat.le_of_ble_eq_true rfl, Nat.le_of_ble_eq_true rfl⟩ rfl hl.1 (Nat.le_of_ble_eq_true rfl) ⟨Nat.le_refl _, Nat.le_refl _⟩ hP hS dX10_feeds_86) hS (fun H locs hP hS => ?_)
    refine lv_aload_n hx hb dX10_feeds_89 rfl (lv_at hl 0 rfl) ?_
    refine r_getr C cf_10 hP sm_0 km_0 6 (by decide) rfl tw_149 dX10_feeds_90 ?_
    refine lv_iload_n hx hb dX10_feeds_93 rfl (lv_at hl 2 rfl) ?_
    refine lv_if_ne (tgt := 103) hx hb dX10_feeds_94 (by decide) (fun c_ => ?_) (fun c_ => ?_)
    · replace h := if_f c_ h
      refine lv_iconst (v := 2) hx hb dX10_feeds_103 (by decide) ?_
      refine wfX10_feeds_j104 C q_1 x1 x2 x3 x4 x5 x7 x8 (2 : Int32) H locs ls h hP hS (lv_sub hl [0, 1, 2, 3, 4, 5, 6, 7] rfl) (fun σ_2 z_3 z_4 z_5 z_6 z_7 z_8 z_9 H locs ls h hP hS hl => ?_)
      exact hk_68 σ_2 z_3 z_4 z_5 z_6 z_7 z_8 z_9 H locs ls h hP hS (lv_sub hl [0, 1, 2, 3, 4, 5, 6, 7] rfl)
    · replace h := if_t c_ h
      refine lv_iconst (v := 5) hx hb dX10_feeds_97 (by decide) ?_
      refine lv_iload_n hx hb dX10_feeds_98 rfl (lv_at hl 1 rfl) ?_
      refine lv_iadd hx hb dX10_feeds_99 ?_
      refine lv_goto (tgt := 104) hx hb dX10_feeds_100 (by decide) ?_
      refine wfX10_feeds_j104 C q_1 x1 x2 x3 x4 x5 x7 x8 ((5 : Int32) + x1) H locs ls h hP hS (lv_sub hl [0, 1, 2, 3, 4, 5, 6, 7] rfl) (fun σ_10 z_11 z_12 z_13 z_14 z_15 z_16 z_17 H locs ls h hP hS hl => ?_)
      exact hk_68 σ_10 z_11 z_12 z_13 z_14 z_15 z_16 z_17 H locs ls h hP hS (lv_sub hl [0, 1, 2, 3, 4, 5, 6, 7] rfl)

set_option maxRecDepth 100000 in
set_option maxHeartbeats 4000000 in
theorem wfX10_feeds_L68 {l : Launch} {g : Gw} {p : Program} {e : Env} {s : State} {m : MethodId} {args : Array Value} {below : List Frame} {meth : Method} {c : Code} (C : Cx wkM g p s m args meth c cX10_feeds 9 RX10 (some .int)) {Rz : (Sto × Int32)} {k_140 : Sto → Int32 → Int32 → Option (Sto × Int32)} : ∀ (n : Nat) (σ : Sto) (x1 : Int32) (x2 : Int32) (x3 : Int32) (x4 : Int32) (x5 : Int32) (x7 : Int32) (x8 : Int32) (H : Heap) (locs : List Loc) (ls : Array Slot), fX10_feeds_L68 k_140 n σ x1 x2 x3 x4 x5 x7 x8 = some Rz → wS wkM g σ H → va_S (AS wkM g) s.heap H locs → lv_has ls 9 [(0, .ref (adG g 0)), (1, .int x1), (2, .int x2), (3, .int x3), (4, .int x4), (5, .int x5), (7, .int x7), (8, .int x8)] → (∀ (σ : Sto) (x2 : Int32) (x7 : Int32) (H : Heap) (locs : List Loc) (ls : Array Slot), k_140 σ x2 x7 = some Rz → wS wkM g σ H → va_S (AS wkM g) s.heap H locs → lv_has ls 9 [(0, .ref (adG g 0)), (2, .int x2), (7, .int x7)] → W p l e (rmS 5) s m args below meth c H locs 0 0 (MQ below (QiS wkM g Rz.1 Rz.2) args s 0 0 (AS wkM g)) (F0 m 140 ls [])) → W p l e (rmS 5) s m args below meth c H locs 0 0 (MQ below (QiS wkM g Rz.1 Rz.2) args s 0 0 (AS wkM g)) (F0 m 68 ls []) := by
  intro n
  induction n with
  | zero =>
    intro σ x1 x2 x3 x4 x5 x7 x8 H locs ls h
    cases h
  | succ n ih =>
    intro σ x1 x2 x3 x4 x5 x7 x8 H locs ls h hP hS hl hk_140
    obtain ⟨hx, hb, hml, hown, hts, hr, hlk, hK, hZ⟩ := id C
    rw [fX10_feeds_L68] at h
    refine lv_iload hx hb dX10_feeds_68 (lv_at hl 7 rfl) ?_
    refine lv_iload_n hx hb dX10_feeds_70 rfl (lv_at hl 2 rfl) ?_
    refine lv_if_ne (tgt := 79) hx hb dX10_feeds_71 (by decide) (fun c_ => ?_) (fun c_ => ?_)
    · replace h := if_f c_ h
      refine lv_bipush (v := 20) hx hb dX10_feeds_79 (by decide) ?_
      refine wfX10_feeds_j81 C σ x1 x2 x3 x4 x5 x7 x8 x8 (20 : Int32) H locs ls h hP hS (lv_sub hl [0, 1, 2, 3, 4, 5, 6, 7] rfl) (fun σ_1 z_2 z_3 H locs ls h hP hS hl => ?_) (fun σ_4 z_5 z_6 z_7 z_8 z_9 z_10 z_11 H locs ls h hP hS hl => ?_)
      · exact hk_140 σ_1 z_2 z_3 H locs ls h hP hS (lv_sub hl [0, 1, 2] rfl)
      · exact ih σ_4 z_5 z_6 z_7 z_8 z_9 z_10 z_11 H locs ls h hP hS (lv_sub hl [0, 1, 2, 3, 4, 5, 6, 7] rfl) hk_140
    · replace h := if_t c_ h
      refine lv_bipush (v := 9) hx hb dX10_feeds_74 (by decide) ?_
      refine lv_goto (tgt := 81) hx hb dX10_feeds_76 (by decide) ?_
      refine wfX10_feeds_j81 C σ x1 x2 x3 x4 x5 x7 x8 x8 (9 : Int32) H locs ls h hP hS (lv_sub hl [0, 1, 2, 3, 4, 5, 6, 7] rfl) (fun σ_12 z_13 z_14 H locs ls h hP hS hl => ?_) (fun σ_15 z_16 z_17 z_18 z_19 z_20 z_21 z_22 H locs ls h hP hS hl => ?_)
      · exact hk_140 σ_12 z_13 z_14 H locs ls h hP hS (lv_sub hl [0, 1, 2] rfl)
      · exact ih σ_15 z_16 z_17 z_18 z_19 z_20 z_21 z_22 H locs ls h hP hS (lv_sub hl [0, 1, 2, 3, 4, 5, 6, 7] rfl) hk_140

set_option maxRecDepth 100000 in
set_option maxHeartbeats 4000000 in
theorem wfX10_feeds_L143 {l : Launch} {g : Gw} {p : Program} {e : Env} {s : State} {m : MethodId} {args : Array Value} {below : List Frame} {meth : Method} {c : Code} (C : Cx wkM g p s m args meth c cX10_feeds 9 RX10 (some .int)) {Rz : (Sto × Int32)} {k_164 : Sto → Int32 → Int32 → Int32 → Option (Sto × Int32)} : ∀ (n : Nat) (σ : Sto) (x2 : Int32) (x7 : Int32) (x8 : Int32) (H : Heap) (locs : List Loc) (ls : Array Slot), fX10_feeds_L143 k_164 n σ x2 x7 x8 = some Rz → wS wkM g σ H → va_S (AS wkM g) s.heap H locs → lv_has ls 9 [(0, .ref (adG g 0)), (2, .int x2), (7, .int x7), (8, .int x8)] → (∀ (σ : Sto) (x2 : Int32) (x7 : Int32) (x8 : Int32) (H : Heap) (locs : List Loc) (ls : Array Slot), k_164 σ x2 x7 x8 = some Rz → wS wkM g σ H → va_S (AS wkM g) s.heap H locs → lv_has ls 9 [(0, .ref (adG g 0)), (2, .int x2), (7, .int x7), (8, .int x8)] → W p l e (rmS 5) s m args below meth c H locs 0 0 (MQ below (QiS wkM g Rz.1 Rz.2) args s 0 0 (AS wkM g)) (F0 m 164 ls [])) → W p l e (rmS 5) s m args below meth c H locs 0 0 (MQ below (QiS wkM g Rz.1 Rz.2) args s 0 0 (AS wkM g)) (F0 m 143 ls []) := by
  intro n
  induction n with
  | zero =>
    intro σ x2 x7 x8 H locs ls h
    cases h
  | succ n ih =>
    intro σ x2 x7 x8 H locs ls h hP hS hl hk_164
    obtain ⟨hx, hb, hml, hown, hts, hr, hlk, hK, hZ⟩ := id C
    rw [fX10_feeds_L143] at h
    refine lv_iload hx hb dX10_feeds_143 (lv_at hl 2 rfl) ?_
    refine lv_if_eq (tgt := 164) hx hb dX10_feeds_145 (by decide) (fun c_ => ?_) (fun c_ => ?_)
    · replace h := if_t c_ h
      exact hk_164 σ x2 x7 x8 H locs ls h hP hS (lv_sub hl [0, 1, 2, 3] rfl)
    · replace h := if_f c_ h
      refine lv_iload hx hb dX10_feeds_148 (lv_at hl 2 rfl) ?_
      refine lv_iload hx hb dX10_feeds_150 (lv_at hl 3 rfl) ?_
      refine end_i (run_s (As := [.int x7, .int x8]) (rest := []) C ca_X10_has (ctX10_has x7 x8 rfl) tw_865 ⟨Nat.le_of_ble_eq_true rfl, Nat.le_of_ble_eq_true rfl⟩ rfl hl.1 (Nat.le_of_ble_eq_true rfl) ⟨Nat.le_refl _, Nat.le_refl _⟩ hP hS dX10_feeds_152) hS (fun H locs hP hS => ?_)
      refine lv_if_ne (tgt := 164) hx hb dX10_feeds_155 (by decide) (fun c_ => ?_) (fun c_ => ?_)
      · replace h := if_f c_ h
        exact hk_164 σ x2 x7 x8 H locs ls h hP hS (lv_sub hl [0, 1, 2, 3] rfl)
      · replace h := if_t c_ h
        obtain ⟨x_2, ex_2⟩ : ∃ y : Int32, y = x8 + (1 : Int32) := ⟨_, rfl⟩
        replace h := un_at ex_2 h
        refine lv_iinc (v := x_2) (lv' := [(8, .int x_2), (0, .ref (adG g 0)), (2, .int x2), (7, .int x7)]) hx hb dX10_feeds_158 hl (k := 3) rfl (by rw [ex_2]; rfl) (by decide) rfl (fun ls hl => ?_)
        refine lv_goto (tgt := 143) hx hb dX10_feeds_161 (by decide) ?_
        exact ih σ x2 x7 x_2 H locs ls h hP hS (lv_sub hl [1, 2, 3, 0] rfl) hk_164

set_option maxRecDepth 100000 in
set_option maxHeartbeats 4000000 in
theorem wfX10_feeds_j164 {l : Launch} {g : Gw} {p : Program} {e : Env} {s : State} {m : MethodId} {args : Array Value} {below : List Frame} {meth : Method} {c : Code} (C : Cx wkM g p s m args meth c cX10_feeds 9 RX10 (some .int)) {Rz : (Sto × Int32)} : ∀ (σ : Sto) (x2 : Int32) (x7 : Int32) (x8 : Int32) (H : Heap) (locs : List Loc) (ls : Array Slot), fX10_feeds_j164 σ x2 x7 x8 = some Rz → wS wkM g σ H → va_S (AS wkM g) s.heap H locs → lv_has ls 9 [(0, .ref (adG g 0)), (2, .int x2), (7, .int x7), (8, .int x8)] → W p l e (rmS 5) s m args below meth c H locs 0 0 (MQ below (QiS wkM g Rz.1 Rz.2) args s 0 0 (AS wkM g)) (F0 m 164 ls []) := by
  intro σ x2 x7 x8 H locs ls h hP hS hl
  obtain ⟨hx, hb, hml, hown, hts, hr, hlk, hK, hZ⟩ := id C
  unfold fX10_feeds_j164 at h
  refine lv_aload_n hx hb dX10_feeds_164 rfl (lv_at hl 0 rfl) ?_
  refine lv_iload_n hx hb dX10_feeds_165 rfl (lv_at hl 1 rfl) ?_
  refine lv_if_ne (tgt := 174) hx hb dX10_feeds_166 (by decide) (fun c_ => ?_) (fun c_ => ?_)
  · replace h := if_f c_ h
    refine lv_iload_n hx hb dX10_feeds_174 rfl (lv_at hl 1 rfl) ?_
    refine lv_iconst (v := 1) hx hb dX10_feeds_175 (by decide) ?_
    refine lv_icmp_ne (tgt := 187) hx hb dX10_feeds_176 (by decide) (fun c_ => ?_) (fun c_ => ?_)
    · replace h := if_f c_ h
      refine lv_iload hx hb dX10_feeds_187 (lv_at hl 2 rfl) ?_
      refine lv_if_ne (tgt := 197) hx hb dX10_feeds_189 (by decide) (fun c_ => ?_) (fun c_ => ?_)
      · replace h := if_f c_ h
        refine lv_iload hx hb dX10_feeds_197 (lv_at hl 3 rfl) ?_
        obtain ⟨q_1, eq_1⟩ : ∃ z, z = fX10_well σ x8 := ⟨_, rfl⟩
        replace h := un_at eq_1 h
        refine end_i (run_v (As := [.int x8]) (rest := []) C ca_X10_well (ctX10_well x8 eq_1.symm) cf_10 sm_0 km_0 tw_202 ⟨Nat.le_of_ble_eq_true rfl, Nat.le_of_ble_eq_true rfl⟩ rfl hl.1 (Nat.le_of_ble_eq_true rfl) ⟨Nat.le_refl _, Nat.le_refl _⟩ hP hS dX10_feeds_199) hS (fun H locs hP hS => ?_)
        exact r_reti C hP hS (rt_ow1 h) (rt_ow2 h) dX10_feeds_202
      · replace h := if_t c_ h
        refine lv_ldc hx hb hown (hts _ tw_718) dX10_feeds_192 ?_
        refine lv_goto (tgt := 199) hx hb dX10_feeds_194 (by decide) ?_
        obtain ⟨q_2, eq_2⟩ : ∃ z, z = fX10_well σ (-1000000 : Int32) := ⟨_, rfl⟩
        replace h := un_at eq_2 h
        refine end_i (run_v (As := [.int (-1000000 : Int32)]) (rest := []) C ca_X10_well (ctX10_well (-1000000 : Int32) eq_2.symm) cf_10 sm_0 km_0 tw_202 ⟨Nat.le_of_ble_eq_true rfl, Nat.le_of_ble_eq_true rfl⟩ rfl hl.1 (Nat.le_of_ble_eq_true rfl) ⟨Nat.le_refl _, Nat.le_refl _⟩ hP hS dX10_feeds_199) hS (fun H locs hP hS => ?_)
        exact r_reti C hP hS (rt_ow1 h) (rt_ow2 h) dX10_feeds_202
    · replace h := if_t c_ h
      refine lv_iload hx hb dX10_feeds_179 (lv_at hl 2 rfl) ?_
      obtain ⟨q_3, hq_3, h⟩ := bd_inv h
      refine end_i (run_s (As := [.int x7]) (rest := [.ref (adG g 0)]) C ca_X10_bits (ctX10_bits x7 hq_3) tw_788 ⟨Nat.le_of_ble_eq_true rfl, Nat.le_of_ble_eq_true rfl⟩ rfl hl.1 (Nat.le_of_ble_eq_true rfl) ⟨Nat.le_refl _, Nat.le_refl _⟩ hP hS dX10_feeds_181) hS (fun H locs hP hS => ?_)
      refine lv_goto (tgt := 199) hx hb dX10_feeds_184 (by decide) ?_
      obtain ⟨q_4, eq_4⟩ : ∃ z, z = fX10_well σ q_3 := ⟨_, rfl⟩
      replace h := un_at eq_4 h
      refine end_i (run_v (As := [.int q_3]) (rest := []) C ca_X10_well (ctX10_well q_3 eq_4.symm) cf_10 sm_0 km_0 tw_202 ⟨Nat.le_of_ble_eq_true rfl, Nat.le_of_ble_eq_true rfl⟩ rfl hl.1 (Nat.le_of_ble_eq_true rfl) ⟨Nat.le_refl _, Nat.le_refl _⟩ hP hS dX10_feeds_199) hS (fun H locs hP hS => ?_)
      exact r_reti C hP hS (rt_ow1 h) (rt_ow2 h) dX10_feeds_202
  · replace h := if_t c_ h
    refine lv_iload hx hb dX10_feeds_169 (lv_at hl 2 rfl) ?_
    refine lv_goto (tgt := 199) hx hb dX10_feeds_171 (by decide) ?_
    obtain ⟨q_5, eq_5⟩ : ∃ z, z = fX10_well σ x7 := ⟨_, rfl⟩
    replace h := un_at eq_5 h
    refine end_i (run_v (As := [.int x7]) (rest := []) C ca_X10_well (ctX10_well x7 eq_5.symm) cf_10 sm_0 km_0 tw_202 ⟨Nat.le_of_ble_eq_true rfl, Nat.le_of_ble_eq_true rfl⟩ rfl hl.1 (Nat.le_of_ble_eq_true rfl) ⟨Nat.le_refl _, Nat.le_refl _⟩ hP hS dX10_feeds_199) hS (fun H locs hP hS => ?_)
    exact r_reti C hP hS (rt_ow1 h) (rt_ow2 h) dX10_feeds_202

set_option maxRecDepth 100000 in
set_option maxHeartbeats 4000000 in
theorem ctX10_feeds {l : Launch} {g : Gw} {σ : Sto} (x1 : Int32) (x2 : Int32) (x3 : Int32) (x4 : Int32) (x5 : Int32) {Rz : (Sto × Int32)} (h : fX10_feeds σ x1 x2 x3 x4 x5 = some Rz) : MtG l yX10_feeds cX10_feeds 9 (some .int) 5 wkM g [.ref (adG g 0), .int x1, .int x2, .int x3, .int x4, .int x5] σ (QiS wkM g Rz.1 Rz.2) := by
  refine mt_of (by decide) (Nat.le_of_ble_eq_true rfl) (fun p e s m below meth c ls H locs C hP hS hl => ?_)
  have C : Cx wkM g p s m _ meth c cX10_feeds 9 RX10 (some .int) := C
  have hl : lv_has ls 9 [(0, .ref (adG g 0)), (1, .int x1), (2, .int x2), (3, .int x3), (4, .int x4), (5, .int x5)] := hl
  obtain ⟨hx, hb, hml, hown, hts, hr, hlk, hK, hZ⟩ := id C
  unfold fX10_feeds at h
  refine lv_aload_n hx hb dX10_feeds_0 rfl (lv_at hl 0 rfl) ?_
  refine lv_iload_n hx hb dX10_feeds_1 rfl (lv_at hl 1 rfl) ?_
  refine end_i (run_v (As := [.int x1]) (rest := []) C ca_X10_isRoom (ctX10_isRoom x1 rfl) cf_10 sm_0 km_0 tw_525 ⟨Nat.le_of_ble_eq_true rfl, Nat.le_of_ble_eq_true rfl⟩ rfl hl.1 (Nat.le_of_ble_eq_true rfl) ⟨Nat.le_refl _, Nat.le_refl _⟩ hP hS dX10_feeds_2) hS (fun H locs hP hS => ?_)
  refine lv_if_eq (tgt := 40) hx hb dX10_feeds_5 (by decide) (fun c_ => ?_) (fun c_ => ?_)
  · replace h := if_t c_ h
    refine lv_ldc hx hb hown (hts _ tw_188) dX10_feeds_40 ?_
    exact r_reti C hP hS (rt_ow1 h) (rt_ow2 h) dX10_feeds_42
  · replace h := if_f c_ h
    refine lv_iload_n hx hb dX10_feeds_8 rfl (lv_at hl 2 rfl) ?_
    refine lv_i2l hx hb dX10_feeds_9 rfl ?_
    refine lv_lconst (v := 0) hx hb dX10_feeds_10 (by decide) ?_
    refine lv_ldc2 hx hb hown (hts _ tw_187) dX10_feeds_11 ?_
    refine end_i (run_s (As := [.long x2.toInt64, .long (0 : Int64), .long (2 : Int64)]) (rest := []) C ca_X10_in (ctX10_in x2.toInt64 (0 : Int64) (2 : Int64) rfl) tw_193 ⟨Nat.le_of_ble_eq_true rfl, Nat.le_of_ble_eq_true rfl⟩ rfl hl.1 (Nat.le_of_ble_eq_true rfl) ⟨Nat.le_refl _, Nat.le_refl _⟩ hP hS dX10_feeds_14) hS (fun H locs hP hS => ?_)
    refine lv_if_eq (tgt := 40) hx hb dX10_feeds_17 (by decide) (fun c_ => ?_) (fun c_ => ?_)
    · replace h := if_t c_ h
      refine lv_ldc hx hb hown (hts _ tw_188) dX10_feeds_40 ?_
      exact r_reti C hP hS (rt_ow1 h) (rt_ow2 h) dX10_feeds_42
    · replace h := if_f c_ h
      refine lv_iload_n hx hb dX10_feeds_20 rfl (lv_at hl 3 rfl) ?_
      refine end_i (run_s (As := [.int x3]) (rest := []) C ca_X10_isRow (ctX10_isRow x3 rfl) tw_189 ⟨Nat.le_of_ble_eq_true rfl, Nat.le_of_ble_eq_true rfl⟩ rfl hl.1 (Nat.le_of_ble_eq_true rfl) ⟨Nat.le_refl _, Nat.le_refl _⟩ hP hS dX10_feeds_21) hS (fun H locs hP hS => ?_)
      refine lv_if_eq (tgt := 40) hx hb dX10_feeds_24 (by decide) (fun c_ => ?_) (fun c_ => ?_)
      · replace h := if_t c_ h
        refine lv_ldc hx hb hown (hts _ tw_188) dX10_feeds_40 ?_
        exact r_reti C hP hS (rt_ow1 h) (rt_ow2 h) dX10_feeds_42
      · replace h := if_f c_ h
        refine lv_iload hx hb dX10_feeds_27 (lv_at hl 5 rfl) ?_
        refine lv_i2l hx hb dX10_feeds_29 rfl ?_
        refine lv_lconst (v := 1) hx hb dX10_feeds_30 (by decide) ?_
        refine lv_ldc2 hx hb hown (hts _ tw_967) dX10_feeds_31 ?_
        refine end_i (run_s (As := [.long x5.toInt64, .long (1 : Int64), .long (12 : Int64)]) (rest := []) C ca_X10_in (ctX10_in x5.toInt64 (1 : Int64) (12 : Int64) rfl) tw_193 ⟨Nat.le_of_ble_eq_true rfl, Nat.le_of_ble_eq_true rfl⟩ rfl hl.1 (Nat.le_of_ble_eq_true rfl) ⟨Nat.le_refl _, Nat.le_refl _⟩ hP hS dX10_feeds_34) hS (fun H locs hP hS => ?_)
        refine lv_if_ne (tgt := 43) hx hb dX10_feeds_37 (by decide) (fun c_ => ?_) (fun c_ => ?_)
        · replace h := if_f c_ h
          refine lv_aload_n hx hb dX10_feeds_43 rfl (lv_at hl 0 rfl) ?_
          refine lv_iload_n hx hb dX10_feeds_44 rfl (lv_at hl 3 rfl) ?_
          refine lv_iload hx hb dX10_feeds_45 (lv_at hl 4 rfl) ?_
          refine lv_iload hx hb dX10_feeds_47 (lv_at hl 5 rfl) ?_
          obtain ⟨q_5, hq_5, h⟩ := bd_inv h
          refine end_i (run_v (As := [.int x3, .int x4, .int x5]) (rest := []) C ca_X10_lacks (ctX10_lacks x3 x4 x5 hq_5) cf_10 sm_0 km_0 tw_968 ⟨Nat.le_of_ble_eq_true rfl, Nat.le_of_ble_eq_true rfl⟩ rfl hl.1 (Nat.le_of_ble_eq_true rfl) ⟨Nat.le_refl _, Nat.le_refl _⟩ hP hS dX10_feeds_49) hS (fun H locs hP hS => ?_)
          refine lv_istore (lv' := [(6, .int q_5.2), (0, .ref (adG g 0)), (1, .int x1), (2, .int x2), (3, .int x3), (4, .int x4), (5, .int x5)]) hx hb dX10_feeds_52 hl (by decide) rfl (fun ls hl => ?_)
          refine lv_iload hx hb dX10_feeds_54 (lv_at hl 0 rfl) ?_
          refine lv_if_ge (tgt := 62) hx hb dX10_feeds_56 (by decide) (fun c_ => ?_) (fun c_ => ?_)
          · replace h := if_t c_ h
            refine lv_iconst (v := 0) hx hb dX10_feeds_62 (by decide) ?_
            refine lv_istore (lv' := [(7, .int (0 : Int32)), (6, .int q_5.2), (0, .ref (adG g 0)), (1, .int x1), (2, .int x2), (3, .int x3), (4, .int x4), (5, .int x5)]) hx hb dX10_feeds_63 hl (by decide) rfl (fun ls hl => ?_)
            refine lv_iconst (v := 0) hx hb dX10_feeds_65 (by decide) ?_
            refine lv_istore (lv' := [(8, .int (0 : Int32)), (7, .int (0 : Int32)), (6, .int q_5.2), (0, .ref (adG g 0)), (1, .int x1), (2, .int x2), (3, .int x3), (4, .int x4), (5, .int x5)]) hx hb dX10_feeds_66 hl (by decide) rfl (fun ls hl => ?_)
            refine wfX10_feeds_L68 C fu q_5.1 x1 x2 x3 x4 x5 (0 : Int32) (0 : Int32) H locs ls h hP hS (lv_sub hl [3, 4, 5, 6, 7, 8, 1, 0] rfl) (fun σ_6 z_7 z_8 H locs ls h hP hS hl => ?_)
            refine lv_iconst (v := 0) hx hb dX10_feeds_140 (by decide) ?_
            refine lv_istore (lv' := [(8, .int (0 : Int32)), (0, .ref (adG g 0)), (2, .int z_7), (7, .int z_8)]) hx hb dX10_feeds_141 hl (by decide) rfl (fun ls hl => ?_)
            refine wfX10_feeds_L143 C fu σ_6 z_7 z_8 (0 : Int32) H locs ls h hP hS (lv_sub hl [1, 2, 3, 0] rfl) (fun σ_9 z_10 z_11 z_12 H locs ls h hP hS hl => ?_)
            exact wfX10_feeds_j164 C σ_9 z_10 z_11 z_12 H locs ls h hP hS (lv_sub hl [0, 1, 2, 3] rfl)
          · replace h := if_f c_ h
            refine lv_iload hx hb dX10_feeds_59 (lv_at hl 0 rfl) ?_
            exact r_reti C hP hS (rt_ow1 h) (rt_ow2 h) dX10_feeds_61
        · replace h := if_t c_ h
          refine lv_ldc hx hb hown (hts _ tw_188) dX10_feeds_40 ?_
          exact r_reti C hP hS (rt_ow1 h) (rt_ow2 h) dX10_feeds_42

set_option maxRecDepth 100000 in
set_option maxHeartbeats 4000000 in
theorem wfX10_divisor_L6 {l : Launch} {g : Gw} {p : Program} {e : Env} {s : State} {m : MethodId} {args : Array Value} {below : List Frame} {meth : Method} {c : Code} {σ : Sto} (C : Cx wkM g p s m args meth c cX10_divisor 10 RX10 (some .long)) {Rz : Int64} : ∀ (n : Nat) (x4 : Int64) (x6 : Int64) (H : Heap) (locs : List Loc) (ls : Array Slot), fX10_divisor_L6 n x4 x6 = some Rz → wS wkM g σ H → va_S (AS wkM g) s.heap H locs → lv_has ls 10 [(4, .long x4), (6, .long x6)] → W p l e (rmS 0) s m args below meth c H locs 0 0 (MQ below (QlS wkM g σ Rz) args s 0 0 (AS wkM g)) (F0 m 6 ls []) := by
  intro n
  induction n with
  | zero =>
    intro x4 x6 H locs ls h
    cases h
  | succ n ih =>
    intro x4 x6 H locs ls h hP hS hl
    obtain ⟨hx, hb, hml, hown, hts, hr, hlk, hK, hZ⟩ := id C
    rw [fX10_divisor_L6] at h
    refine lv_lload hx hb dX10_divisor_6 (lv_at hl 1 rfl) ?_
    refine lv_lconst (v := 0) hx hb dX10_divisor_8 (by decide) ?_
    refine W.lcmp hx hb dX10_divisor_9 ?_
    refine lv_if_eq (tgt := 31) hx hb dX10_divisor_10 (by decide) (fun c_ => ?_) (fun c_ => ?_)
    · replace h := if_t c_ h
      refine lv_lload hx hb dX10_divisor_31 (lv_at hl 0 rfl) ?_
      exact r_retl C hP hS rfl (rt_o h) dX10_divisor_33
    · replace h := if_f c_ h
      refine lv_lload hx hb dX10_divisor_13 (lv_at hl 0 rfl) ?_
      refine lv_lload hx hb dX10_divisor_15 (lv_at hl 1 rfl) ?_
      obtain ⟨g_1, h⟩ := gd_inv h
      refine lv_lrem hx hb dX10_divisor_17 (nzL_ne g_1) ?_
      refine lv_topl (fun x_2 ex_2 => ?_)
      replace h := un_at ex_2 h
      refine lv_lstore (lv' := [(8, .long x_2), (4, .long x4), (6, .long x6)]) hx hb dX10_divisor_18 hl (by decide) rfl (fun ls hl => ?_)
      refine lv_lload hx hb dX10_divisor_20 (lv_at hl 2 rfl) ?_
      refine lv_lstore (lv' := [(4, .long x6), (8, .long x_2), (6, .long x6)]) hx hb dX10_divisor_22 hl (by decide) rfl (fun ls hl => ?_)
      refine lv_lload hx hb dX10_divisor_24 (lv_at hl 1 rfl) ?_
      refine lv_lstore (lv' := [(6, .long x_2), (4, .long x6), (8, .long x_2)]) hx hb dX10_divisor_26 hl (by decide) rfl (fun ls hl => ?_)
      refine lv_goto (tgt := 6) hx hb dX10_divisor_28 (by decide) ?_
      exact ih x6 x_2 H locs ls h hP hS (lv_sub hl [1, 0] rfl)

set_option maxRecDepth 100000 in
set_option maxHeartbeats 4000000 in
theorem ctX10_divisor {l : Launch} {g : Gw} {σ : Sto} (x0 : Int64) (x2 : Int64) {Rz : Int64} (h : fX10_divisor x0 x2 = some Rz) : MtG l yX10_divisor cX10_divisor 10 (some .long) 0 wkM g [.long x0, .long x2] σ (QlS wkM g σ Rz) := by
  refine mt_of (by decide) (Nat.le_of_ble_eq_true rfl) (fun p e s m below meth c ls H locs C hP hS hl => ?_)
  have C : Cx wkM g p s m _ meth c cX10_divisor 10 RX10 (some .long) := C
  have hl : lv_has ls 10 [(0, .long x0), (2, .long x2)] := hl
  obtain ⟨hx, hb, hml, hown, hts, hr, hlk, hK, hZ⟩ := id C
  unfold fX10_divisor at h
  refine lv_lload_n hx hb dX10_divisor_0 rfl (lv_at hl 0 rfl) ?_
  refine lv_lstore (lv' := [(4, .long x0), (0, .long x0), (2, .long x2)]) hx hb dX10_divisor_1 hl (by decide) rfl (fun ls hl => ?_)
  refine lv_lload_n hx hb dX10_divisor_3 rfl (lv_at hl 2 rfl) ?_
  refine lv_lstore (lv' := [(6, .long x2), (4, .long x0), (0, .long x0), (2, .long x2)]) hx hb dX10_divisor_4 hl (by decide) rfl (fun ls hl => ?_)
  exact wfX10_divisor_L6 C fu x0 x2 H locs ls h hP hS (lv_sub hl [1, 0] rfl)

set_option maxRecDepth 100000 in
set_option maxHeartbeats 4000000 in
theorem wfX10_gives_j87 {l : Launch} {g : Gw} {p : Program} {e : Env} {s : State} {m : MethodId} {args : Array Value} {below : List Frame} {meth : Method} {c : Code} (C : Cx wkM g p s m args meth c cX10_gives 14 RX10 (some .long)) {Rz : (Sto × Int64)} {k_53 : Sto → Int32 → Int32 → Int32 → Int32 → Int32 → Int64 → Int32 → Option (Sto × Int64)} : ∀ (σ : Sto) (x1 : Int32) (x2 : Int32) (x3 : Int32) (x4 : Int32) (x6 : Int64) (x8 : Int32) (y0 : Int32) (y1 : Int32) (H : Heap) (locs : List Loc) (ls : Array Slot), fX10_gives_j87 k_53 σ x1 x2 x3 x4 x6 x8 y0 y1 = some Rz → wS wkM g σ H → va_S (AS wkM g) s.heap H locs → lv_has ls 14 [(0, .ref (adG g 0)), (1, .int x1), (2, .int x2), (3, .int x3), (4, .int x4), (6, .long x6), (8, .int x8)] → (∀ (σ : Sto) (x1 : Int32) (x2 : Int32) (x3 : Int32) (x4 : Int32) (x5 : Int32) (x6 : Int64) (x8 : Int32) (H : Heap) (locs : List Loc) (ls : Array Slot), k_53 σ x1 x2 x3 x4 x5 x6 x8 = some Rz → wS wkM g σ H → va_S (AS wkM g) s.heap H locs → lv_has ls 14 [(0, .ref (adG g 0)), (1, .int x1), (2, .int x2), (3, .int x3), (4, .int x4), (5, .int x5), (6, .long x6), (8, .int x8)] → W p l e (rmS 5) s m args below meth c H locs 0 0 (MQ below (QlS wkM g Rz.1 Rz.2) args s 0 0 (AS wkM g)) (F0 m 53 ls [])) → W p l e (rmS 5) s m args below meth c H locs 0 0 (MQ below (QlS wkM g Rz.1 Rz.2) args s 0 0 (AS wkM g)) (F0 m 87 ls [.int y1, .int y0]) := by
  intro σ x1 x2 x3 x4 x6 x8 y0 y1 H locs ls h hP hS hl hk_53
  obtain ⟨hx, hb, hml, hown, hts, hr, hlk, hK, hZ⟩ := id C
  unfold fX10_gives_j87 at h
  refine lv_ior hx hb dX10_gives_87 ?_
  refine lv_topi (fun x_1 ex_1 => ?_)
  replace h := un_at ex_1 h
  refine lv_istore (lv' := [(5, .int x_1), (0, .ref (adG g 0)), (1, .int x1), (2, .int x2), (3, .int x3), (4, .int x4), (6, .long x6), (8, .int x8)]) hx hb dX10_gives_88 hl (by decide) rfl (fun ls hl => ?_)
  refine lv_lload hx hb dX10_gives_90 (lv_at hl 6 rfl) ?_
  refine lv_aload_n hx hb dX10_gives_92 rfl (lv_at hl 1 rfl) ?_
  refine r_getr C cf_10 hP sm_0 km_0 4 (by decide) rfl tw_147 dX10_gives_93 ?_
  refine lv_bipush (v := 25) hx hb dX10_gives_96 (by decide) ?_
  refine lv_iload hx hb dX10_gives_98 (lv_at hl 7 rfl) ?_
  refine lv_iadd hx hb dX10_gives_100 ?_
  obtain ⟨g_2, h⟩ := gd_inv h
  refine r_iald C hP sm_4 km_4 rfl g_2 dX10_gives_101 ?_
  refine lv_if_eq (tgt := 111) hx hb dX10_gives_102 (by decide) (fun c_ => ?_) (fun c_ => ?_)
  · replace h := if_t c_ h
    refine lv_lconst (v := 1) hx hb dX10_gives_111 (by decide) ?_
    refine lv_lmul hx hb dX10_gives_112 ?_
    refine lv_topl (fun x_3 ex_3 => ?_)
    replace h := un_at ex_3 h
    refine lv_lstore (lv' := [(6, .long x_3), (5, .int x_1), (0, .ref (adG g 0)), (1, .int x1), (2, .int x2), (3, .int x3), (4, .int x4), (8, .int x8)]) hx hb dX10_gives_113 hl (by decide) rfl (fun ls hl => ?_)
    obtain ⟨x_4, ex_4⟩ : ∃ y : Int32, y = x8 + (1 : Int32) := ⟨_, rfl⟩
    replace h := un_at ex_4 h
    refine lv_iinc (v := x_4) (lv' := [(8, .int x_4), (6, .long x_3), (5, .int x_1), (0, .ref (adG g 0)), (1, .int x1), (2, .int x2), (3, .int x3), (4, .int x4)]) hx hb dX10_gives_115 hl (k := 7) rfl (by rw [ex_4]; rfl) (by decide) rfl (fun ls hl => ?_)
    refine lv_goto (tgt := 53) hx hb dX10_gives_118 (by decide) ?_
    exact hk_53 σ x1 x2 x3 x4 x_1 x_3 x_4 H locs ls h hP hS (lv_sub hl [3, 4, 5, 6, 7, 2, 1, 0] rfl)
  · replace h := if_f c_ h
    refine lv_ldc2 hx hb hown (hts _ tw_1034) dX10_gives_105 ?_
    refine lv_goto (tgt := 112) hx hb dX10_gives_108 (by decide) ?_
    refine lv_lmul hx hb dX10_gives_112 ?_
    refine lv_topl (fun x_5 ex_5 => ?_)
    replace h := un_at ex_5 h
    refine lv_lstore (lv' := [(6, .long x_5), (5, .int x_1), (0, .ref (adG g 0)), (1, .int x1), (2, .int x2), (3, .int x3), (4, .int x4), (8, .int x8)]) hx hb dX10_gives_113 hl (by decide) rfl (fun ls hl => ?_)
    obtain ⟨x_6, ex_6⟩ : ∃ y : Int32, y = x8 + (1 : Int32) := ⟨_, rfl⟩
    replace h := un_at ex_6 h
    refine lv_iinc (v := x_6) (lv' := [(8, .int x_6), (6, .long x_5), (5, .int x_1), (0, .ref (adG g 0)), (1, .int x1), (2, .int x2), (3, .int x3), (4, .int x4)]) hx hb dX10_gives_115 hl (k := 7) rfl (by rw [ex_6]; rfl) (by decide) rfl (fun ls hl => ?_)
    refine lv_goto (tgt := 53) hx hb dX10_gives_118 (by decide) ?_
    exact hk_53 σ x1 x2 x3 x4 x_1 x_5 x_6 H locs ls h hP hS (lv_sub hl [3, 4, 5, 6, 7, 2, 1, 0] rfl)

set_option maxRecDepth 100000 in
set_option maxHeartbeats 4000000 in
theorem wfX10_gives_L53 {l : Launch} {g : Gw} {p : Program} {e : Env} {s : State} {m : MethodId} {args : Array Value} {below : List Frame} {meth : Method} {c : Code} (C : Cx wkM g p s m args meth c cX10_gives 14 RX10 (some .long)) {Rz : (Sto × Int64)} {k_121 : Sto → Int32 → Int32 → Int32 → Int32 → Int32 → Int64 → Option (Sto × Int64)} : ∀ (n : Nat) (σ : Sto) (x1 : Int32) (x2 : Int32) (x3 : Int32) (x4 : Int32) (x5 : Int32) (x6 : Int64) (x8 : Int32) (H : Heap) (locs : List Loc) (ls : Array Slot), fX10_gives_L53 k_121 n σ x1 x2 x3 x4 x5 x6 x8 = some Rz → wS wkM g σ H → va_S (AS wkM g) s.heap H locs → lv_has ls 14 [(0, .ref (adG g 0)), (1, .int x1), (2, .int x2), (3, .int x3), (4, .int x4), (5, .int x5), (6, .long x6), (8, .int x8)] → (∀ (σ : Sto) (x1 : Int32) (x2 : Int32) (x3 : Int32) (x4 : Int32) (x5 : Int32) (x6 : Int64) (H : Heap) (locs : List Loc) (ls : Array Slot), k_121 σ x1 x2 x3 x4 x5 x6 = some Rz → wS wkM g σ H → va_S (AS wkM g) s.heap H locs → lv_has ls 14 [(0, .ref (adG g 0)), (1, .int x1), (2, .int x2), (3, .int x3), (4, .int x4), (5, .int x5), (6, .long x6)] → W p l e (rmS 5) s m args below meth c H locs 0 0 (MQ below (QlS wkM g Rz.1 Rz.2) args s 0 0 (AS wkM g)) (F0 m 121 ls [])) → W p l e (rmS 5) s m args below meth c H locs 0 0 (MQ below (QlS wkM g Rz.1 Rz.2) args s 0 0 (AS wkM g)) (F0 m 53 ls []) := by
  intro n
  induction n with
  | zero =>
    intro σ x1 x2 x3 x4 x5 x6 x8 H locs ls h
    cases h
  | succ n ih =>
    intro σ x1 x2 x3 x4 x5 x6 x8 H locs ls h hP hS hl hk_121
    obtain ⟨hx, hb, hml, hown, hts, hr, hlk, hK, hZ⟩ := id C
    rw [fX10_gives_L53] at h
    refine lv_iload hx hb dX10_gives_53 (lv_at hl 7 rfl) ?_
    refine lv_aload_n hx hb dX10_gives_55 rfl (lv_at hl 0 rfl) ?_
    refine r_getr C cf_10 hP sm_0 km_0 4 (by decide) rfl tw_147 dX10_gives_56 ?_
    refine lv_iconst (v := 0) hx hb dX10_gives_59 (by decide) ?_
    refine r_iald C hP sm_4 km_4 (j := 0) (by decide) (by decide) dX10_gives_60 ?_
    refine lv_icmp_ge (tgt := 121) hx hb dX10_gives_61 (by decide) (fun c_ => ?_) (fun c_ => ?_)
    · replace h := if_t c_ h
      exact hk_121 σ x1 x2 x3 x4 x5 x6 H locs ls h hP hS (lv_sub hl [0, 1, 2, 3, 4, 5, 6] rfl)
    · replace h := if_f c_ h
      refine lv_iload hx hb dX10_gives_64 (lv_at hl 5 rfl) ?_
      refine lv_aload_n hx hb dX10_gives_66 rfl (lv_at hl 0 rfl) ?_
      refine r_getr C cf_10 hP sm_0 km_0 4 (by decide) rfl tw_147 dX10_gives_67 ?_
      refine lv_bipush (v := 25) hx hb dX10_gives_70 (by decide) ?_
      refine lv_iload hx hb dX10_gives_72 (lv_at hl 7 rfl) ?_
      refine lv_iadd hx hb dX10_gives_74 ?_
      obtain ⟨g_1, h⟩ := gd_inv h
      refine r_iald C hP sm_4 km_4 rfl g_1 dX10_gives_75 ?_
      refine lv_if_eq (tgt := 86) hx hb dX10_gives_76 (by decide) (fun c_ => ?_) (fun c_ => ?_)
      · replace h := if_t c_ h
        refine lv_iconst (v := 0) hx hb dX10_gives_86 (by decide) ?_
        refine wfX10_gives_j87 C σ x1 x2 x3 x4 x6 x8 x5 (0 : Int32) H locs ls h hP hS (lv_sub hl [0, 1, 2, 3, 4, 6, 7] rfl) (fun σ_2 z_3 z_4 z_5 z_6 z_7 z_8 z_9 H locs ls h hP hS hl => ?_)
        exact ih σ_2 z_3 z_4 z_5 z_6 z_7 z_8 z_9 H locs ls h hP hS (lv_sub hl [0, 1, 2, 3, 4, 5, 6, 7] rfl) hk_121
      · replace h := if_f c_ h
        refine lv_iconst (v := 1) hx hb dX10_gives_79 (by decide) ?_
        refine lv_iload hx hb dX10_gives_80 (lv_at hl 7 rfl) ?_
        refine lv_ishl hx hb dX10_gives_82 ?_
        refine lv_goto (tgt := 87) hx hb dX10_gives_83 (by decide) ?_
        refine wfX10_gives_j87 C σ x1 x2 x3 x4 x6 x8 x5 ((1 : Int32) <<< (x8 &&& (31 : Int32))) H locs ls h hP hS (lv_sub hl [0, 1, 2, 3, 4, 6, 7] rfl) (fun σ_10 z_11 z_12 z_13 z_14 z_15 z_16 z_17 H locs ls h hP hS hl => ?_)
        exact ih σ_10 z_11 z_12 z_13 z_14 z_15 z_16 z_17 H locs ls h hP hS (lv_sub hl [0, 1, 2, 3, 4, 5, 6, 7] rfl) hk_121

set_option maxRecDepth 100000 in
set_option maxHeartbeats 4000000 in
theorem wfX10_gives_j212 {l : Launch} {g : Gw} {p : Program} {e : Env} {s : State} {m : MethodId} {args : Array Value} {below : List Frame} {meth : Method} {c : Code} (C : Cx wkM g p s m args meth c cX10_gives 14 RX10 (some .long)) {Rz : (Sto × Int64)} {k_164 : Sto → Int32 → Int32 → Int32 → Int32 → Int32 → Int64 → Int64 → Int32 → Int64 → Int32 → Option (Sto × Int64)} : ∀ (σ : Sto) (x1 : Int32) (x2 : Int32) (x3 : Int32) (x4 : Int32) (x5 : Int32) (x6 : Int64) (x8 : Int64) (x10 : Int32) (x13 : Int32) (y0 : Int64) (y1 : Int64) (H : Heap) (locs : List Loc) (ls : Array Slot), fX10_gives_j212 k_164 σ x1 x2 x3 x4 x5 x6 x8 x10 x13 y0 y1 = some Rz → wS wkM g σ H → va_S (AS wkM g) s.heap H locs → lv_has ls 14 [(0, .ref (adG g 0)), (1, .int x1), (2, .int x2), (3, .int x3), (4, .int x4), (5, .int x5), (6, .long x6), (8, .long x8), (10, .int x10), (13, .int x13)] → (∀ (σ : Sto) (x1 : Int32) (x2 : Int32) (x3 : Int32) (x4 : Int32) (x5 : Int32) (x6 : Int64) (x8 : Int64) (x10 : Int32) (x11 : Int64) (x13 : Int32) (H : Heap) (locs : List Loc) (ls : Array Slot), k_164 σ x1 x2 x3 x4 x5 x6 x8 x10 x11 x13 = some Rz → wS wkM g σ H → va_S (AS wkM g) s.heap H locs → lv_has ls 14 [(0, .ref (adG g 0)), (1, .int x1), (2, .int x2), (3, .int x3), (4, .int x4), (5, .int x5), (6, .long x6), (8, .long x8), (10, .int x10), (11, .long x11), (13, .int x13)] → W p l e (rmS 5) s m args below meth c H locs 0 0 (MQ below (QlS wkM g Rz.1 Rz.2) args s 0 0 (AS wkM g)) (F0 m 164 ls [])) → W p l e (rmS 5) s m args below meth c H locs 0 0 (MQ below (QlS wkM g Rz.1 Rz.2) args s 0 0 (AS wkM g)) (F0 m 212 ls [.long y1, .long y0]) := by
  intro σ x1 x2 x3 x4 x5 x6 x8 x10 x13 y0 y1 H locs ls h hP hS hl hk_164
  obtain ⟨hx, hb, hml, hown, hts, hr, hlk, hK, hZ⟩ := id C
  unfold fX10_gives_j212 at h
  refine lv_lmul hx hb dX10_gives_212 ?_
  refine lv_topl (fun x_1 ex_1 => ?_)
  replace h := un_at ex_1 h
  refine lv_lstore (lv' := [(11, .long x_1), (0, .ref (adG g 0)), (1, .int x1), (2, .int x2), (3, .int x3), (4, .int x4), (5, .int x5), (6, .long x6), (8, .long x8), (10, .int x10), (13, .int x13)]) hx hb dX10_gives_213 hl (by decide) rfl (fun ls hl => ?_)
  refine lv_aload_n hx hb dX10_gives_215 rfl (lv_at hl 1 rfl) ?_
  refine r_getr C cf_10 hP sm_0 km_0 6 (by decide) rfl tw_149 dX10_gives_216 ?_
  refine lv_bipush (v := 25) hx hb dX10_gives_219 (by decide) ?_
  refine lv_iload hx hb dX10_gives_221 (lv_at hl 10 rfl) ?_
  refine lv_iadd hx hb dX10_gives_223 ?_
  refine lv_iload hx hb dX10_gives_224 (lv_at hl 9 rfl) ?_
  refine lv_iload hx hb dX10_gives_226 (lv_at hl 10 rfl) ?_
  refine end_i (run_s (As := [.int x10, .int x13]) (rest := [.int ((25 : Int32) + x13), .ref (adG g 6)]) C ca_X10_has (ctX10_has x10 x13 rfl) tw_865 ⟨Nat.le_of_ble_eq_true rfl, Nat.le_of_ble_eq_true rfl⟩ rfl hl.1 (Nat.le_of_ble_eq_true rfl) ⟨Nat.le_refl _, Nat.le_refl _⟩ hP hS dX10_gives_228) hS (fun H locs hP hS => ?_)
  refine lv_if_eq (tgt := 238) hx hb dX10_gives_231 (by decide) (fun c_ => ?_) (fun c_ => ?_)
  · replace h := if_t c_ h
    refine lv_aload_n hx hb dX10_gives_238 rfl (lv_at hl 1 rfl) ?_
    refine r_getr C cf_10 hP sm_0 km_0 6 (by decide) rfl tw_149 dX10_gives_239 ?_
    refine lv_bipush (v := 25) hx hb dX10_gives_242 (by decide) ?_
    refine lv_iload hx hb dX10_gives_244 (lv_at hl 10 rfl) ?_
    refine lv_iadd hx hb dX10_gives_246 ?_
    obtain ⟨g_3, h⟩ := gd_inv h
    refine r_iald C hP sm_6 km_6 rfl g_3 dX10_gives_247 ?_
    refine r_iast C hP hS sm_6 km_6 rfl g_3 dX10_gives_248 (fun H locs σ_4 eσ_4 hP hS => ?_)
    replace h := un_at eσ_4 h
    obtain ⟨x_5, ex_5⟩ : ∃ y : Int32, y = x13 + (1 : Int32) := ⟨_, rfl⟩
    replace h := un_at ex_5 h
    refine lv_iinc (v := x_5) (lv' := [(13, .int x_5), (11, .long x_1), (0, .ref (adG g 0)), (1, .int x1), (2, .int x2), (3, .int x3), (4, .int x4), (5, .int x5), (6, .long x6), (8, .long x8), (10, .int x10)]) hx hb dX10_gives_249 hl (k := 10) rfl (by rw [ex_5]; rfl) (by decide) rfl (fun ls hl => ?_)
    refine lv_goto (tgt := 164) hx hb dX10_gives_252 (by decide) ?_
    exact hk_164 σ_4 x1 x2 x3 x4 x5 x6 x8 x10 x_1 x_5 H locs ls h hP hS (lv_sub hl [2, 3, 4, 5, 6, 7, 8, 9, 10, 1, 0] rfl)
  · replace h := if_f c_ h
    refine lv_iconst (v := 0) hx hb dX10_gives_234 (by decide) ?_
    refine lv_goto (tgt := 248) hx hb dX10_gives_235 (by decide) ?_
    obtain ⟨g_6, h⟩ := gd_inv h
    refine r_iast C hP hS sm_6 km_6 rfl g_6 dX10_gives_248 (fun H locs σ_7 eσ_7 hP hS => ?_)
    replace h := un_at eσ_7 h
    obtain ⟨x_8, ex_8⟩ : ∃ y : Int32, y = x13 + (1 : Int32) := ⟨_, rfl⟩
    replace h := un_at ex_8 h
    refine lv_iinc (v := x_8) (lv' := [(13, .int x_8), (11, .long x_1), (0, .ref (adG g 0)), (1, .int x1), (2, .int x2), (3, .int x3), (4, .int x4), (5, .int x5), (6, .long x6), (8, .long x8), (10, .int x10)]) hx hb dX10_gives_249 hl (k := 10) rfl (by rw [ex_8]; rfl) (by decide) rfl (fun ls hl => ?_)
    refine lv_goto (tgt := 164) hx hb dX10_gives_252 (by decide) ?_
    exact hk_164 σ_7 x1 x2 x3 x4 x5 x6 x8 x10 x_1 x_8 H locs ls h hP hS (lv_sub hl [2, 3, 4, 5, 6, 7, 8, 9, 10, 1, 0] rfl)

set_option maxRecDepth 100000 in
set_option maxHeartbeats 4000000 in
theorem wfX10_gives_L164 {l : Launch} {g : Gw} {p : Program} {e : Env} {s : State} {m : MethodId} {args : Array Value} {below : List Frame} {meth : Method} {c : Code} (C : Cx wkM g p s m args meth c cX10_gives 14 RX10 (some .long)) {Rz : (Sto × Int64)} {k_255 : Sto → Int32 → Int32 → Int32 → Int32 → Int32 → Int64 → Int64 → Int32 → Int64 → Option (Sto × Int64)} : ∀ (n : Nat) (σ : Sto) (x1 : Int32) (x2 : Int32) (x3 : Int32) (x4 : Int32) (x5 : Int32) (x6 : Int64) (x8 : Int64) (x10 : Int32) (x11 : Int64) (x13 : Int32) (H : Heap) (locs : List Loc) (ls : Array Slot), fX10_gives_L164 k_255 n σ x1 x2 x3 x4 x5 x6 x8 x10 x11 x13 = some Rz → wS wkM g σ H → va_S (AS wkM g) s.heap H locs → lv_has ls 14 [(0, .ref (adG g 0)), (1, .int x1), (2, .int x2), (3, .int x3), (4, .int x4), (5, .int x5), (6, .long x6), (8, .long x8), (10, .int x10), (11, .long x11), (13, .int x13)] → (∀ (σ : Sto) (x1 : Int32) (x2 : Int32) (x3 : Int32) (x4 : Int32) (x5 : Int32) (x6 : Int64) (x8 : Int64) (x10 : Int32) (x11 : Int64) (H : Heap) (locs : List Loc) (ls : Array Slot), k_255 σ x1 x2 x3 x4 x5 x6 x8 x10 x11 = some Rz → wS wkM g σ H → va_S (AS wkM g) s.heap H locs → lv_has ls 14 [(0, .ref (adG g 0)), (1, .int x1), (2, .int x2), (3, .int x3), (4, .int x4), (5, .int x5), (6, .long x6), (8, .long x8), (10, .int x10), (11, .long x11)] → W p l e (rmS 5) s m args below meth c H locs 0 0 (MQ below (QlS wkM g Rz.1 Rz.2) args s 0 0 (AS wkM g)) (F0 m 255 ls [])) → W p l e (rmS 5) s m args below meth c H locs 0 0 (MQ below (QlS wkM g Rz.1 Rz.2) args s 0 0 (AS wkM g)) (F0 m 164 ls []) := by
  intro n
  induction n with
  | zero =>
    intro σ x1 x2 x3 x4 x5 x6 x8 x10 x11 x13 H locs ls h
    cases h
  | succ n ih =>
    intro σ x1 x2 x3 x4 x5 x6 x8 x10 x11 x13 H locs ls h hP hS hl hk_255
    obtain ⟨hx, hb, hml, hown, hts, hr, hlk, hK, hZ⟩ := id C
    rw [fX10_gives_L164] at h
    refine lv_iload hx hb dX10_gives_164 (lv_at hl 10 rfl) ?_
    refine lv_aload_n hx hb dX10_gives_166 rfl (lv_at hl 0 rfl) ?_
    refine r_getr C cf_10 hP sm_0 km_0 4 (by decide) rfl tw_147 dX10_gives_167 ?_
    refine lv_iconst (v := 0) hx hb dX10_gives_170 (by decide) ?_
    refine r_iald C hP sm_4 km_4 (j := 0) (by decide) (by decide) dX10_gives_171 ?_
    refine lv_icmp_ge (tgt := 255) hx hb dX10_gives_172 (by decide) (fun c_ => ?_) (fun c_ => ?_)
    · replace h := if_t c_ h
      exact hk_255 σ x1 x2 x3 x4 x5 x6 x8 x10 x11 H locs ls h hP hS (lv_sub hl [0, 1, 2, 3, 4, 5, 6, 7, 8, 9] rfl)
    · replace h := if_f c_ h
      refine lv_lload hx hb dX10_gives_175 (lv_at hl 9 rfl) ?_
      refine lv_iload hx hb dX10_gives_177 (lv_at hl 5 rfl) ?_
      refine lv_iload hx hb dX10_gives_179 (lv_at hl 10 rfl) ?_
      refine end_i (run_s (As := [.int x5, .int x13]) (rest := [.long x11]) C ca_X10_has (ctX10_has x5 x13 rfl) tw_865 ⟨Nat.le_of_ble_eq_true rfl, Nat.le_of_ble_eq_true rfl⟩ rfl hl.1 (Nat.le_of_ble_eq_true rfl) ⟨Nat.le_refl _, Nat.le_refl _⟩ hP hS dX10_gives_181) hS (fun H locs hP hS => ?_)
      refine lv_if_ne (tgt := 191) hx hb dX10_gives_184 (by decide) (fun c_ => ?_) (fun c_ => ?_)
      · replace h := if_f c_ h
        refine lv_iload hx hb dX10_gives_191 (lv_at hl 8 rfl) ?_
        refine lv_iload hx hb dX10_gives_193 (lv_at hl 10 rfl) ?_
        refine end_i (run_s (As := [.int x10, .int x13]) (rest := [.long x11]) C ca_X10_has (ctX10_has x10 x13 rfl) tw_865 ⟨Nat.le_of_ble_eq_true rfl, Nat.le_of_ble_eq_true rfl⟩ rfl hl.1 (Nat.le_of_ble_eq_true rfl) ⟨Nat.le_refl _, Nat.le_refl _⟩ hP hS dX10_gives_195) hS (fun H locs hP hS => ?_)
        refine lv_if_eq (tgt := 206) hx hb dX10_gives_198 (by decide) (fun c_ => ?_) (fun c_ => ?_)
        · replace h := if_t c_ h
          refine lv_ldc2 hx hb hown (hts _ tw_1034) dX10_gives_206 ?_
          refine lv_iload_n hx hb dX10_gives_209 rfl (lv_at hl 3 rfl) ?_
          refine lv_i2l hx hb dX10_gives_210 rfl ?_
          refine lv_lsub hx hb dX10_gives_211 ?_
          refine wfX10_gives_j212 C σ x1 x2 x3 x4 x5 x6 x8 x10 x13 x11 ((10 : Int64) - x3.toInt64) H locs ls h hP hS (lv_sub hl [0, 1, 2, 3, 4, 5, 6, 7, 8, 10] rfl) (fun σ_3 z_4 z_5 z_6 z_7 z_8 z_9 z_10 z_11 z_12 z_13 H locs ls h hP hS hl => ?_)
          exact ih σ_3 z_4 z_5 z_6 z_7 z_8 z_9 z_10 z_11 z_12 z_13 H locs ls h hP hS (lv_sub hl [0, 1, 2, 3, 4, 5, 6, 7, 8, 9, 10] rfl) hk_255
        · replace h := if_f c_ h
          refine lv_iload_n hx hb dX10_gives_201 rfl (lv_at hl 3 rfl) ?_
          refine lv_i2l hx hb dX10_gives_202 rfl ?_
          refine lv_goto (tgt := 212) hx hb dX10_gives_203 (by decide) ?_
          refine wfX10_gives_j212 C σ x1 x2 x3 x4 x5 x6 x8 x10 x13 x11 x3.toInt64 H locs ls h hP hS (lv_sub hl [0, 1, 2, 3, 4, 5, 6, 7, 8, 10] rfl) (fun σ_14 z_15 z_16 z_17 z_18 z_19 z_20 z_21 z_22 z_23 z_24 H locs ls h hP hS hl => ?_)
          exact ih σ_14 z_15 z_16 z_17 z_18 z_19 z_20 z_21 z_22 z_23 z_24 H locs ls h hP hS (lv_sub hl [0, 1, 2, 3, 4, 5, 6, 7, 8, 9, 10] rfl) hk_255
      · replace h := if_t c_ h
        refine lv_lconst (v := 1) hx hb dX10_gives_187 (by decide) ?_
        refine lv_goto (tgt := 212) hx hb dX10_gives_188 (by decide) ?_
        refine wfX10_gives_j212 C σ x1 x2 x3 x4 x5 x6 x8 x10 x13 x11 (1 : Int64) H locs ls h hP hS (lv_sub hl [0, 1, 2, 3, 4, 5, 6, 7, 8, 10] rfl) (fun σ_25 z_26 z_27 z_28 z_29 z_30 z_31 z_32 z_33 z_34 z_35 H locs ls h hP hS hl => ?_)
        exact ih σ_25 z_26 z_27 z_28 z_29 z_30 z_31 z_32 z_33 z_34 z_35 H locs ls h hP hS (lv_sub hl [0, 1, 2, 3, 4, 5, 6, 7, 8, 9, 10] rfl) hk_255

set_option maxRecDepth 100000 in
set_option maxHeartbeats 4000000 in
theorem wfX10_gives_L127 {l : Launch} {g : Gw} {p : Program} {e : Env} {s : State} {m : MethodId} {args : Array Value} {below : List Frame} {meth : Method} {c : Code} (C : Cx wkM g p s m args meth c cX10_gives 14 RX10 (some .long)) {Rz : (Sto × Int64)} {k_300 : Sto → Int32 → Int64 → Int64 → Option (Sto × Int64)} : ∀ (n : Nat) (σ : Sto) (x1 : Int32) (x2 : Int32) (x3 : Int32) (x4 : Int32) (x5 : Int32) (x6 : Int64) (x8 : Int64) (x10 : Int32) (H : Heap) (locs : List Loc) (ls : Array Slot), fX10_gives_L127 k_300 n σ x1 x2 x3 x4 x5 x6 x8 x10 = some Rz → wS wkM g σ H → va_S (AS wkM g) s.heap H locs → lv_has ls 14 [(0, .ref (adG g 0)), (1, .int x1), (2, .int x2), (3, .int x3), (4, .int x4), (5, .int x5), (6, .long x6), (8, .long x8), (10, .int x10)] → (∀ (σ : Sto) (x4 : Int32) (x6 : Int64) (x8 : Int64) (H : Heap) (locs : List Loc) (ls : Array Slot), k_300 σ x4 x6 x8 = some Rz → wS wkM g σ H → va_S (AS wkM g) s.heap H locs → lv_has ls 14 [(4, .int x4), (6, .long x6), (8, .long x8)] → W p l e (rmS 5) s m args below meth c H locs 0 0 (MQ below (QlS wkM g Rz.1 Rz.2) args s 0 0 (AS wkM g)) (F0 m 300 ls [])) → W p l e (rmS 5) s m args below meth c H locs 0 0 (MQ below (QlS wkM g Rz.1 Rz.2) args s 0 0 (AS wkM g)) (F0 m 127 ls []) := by
  intro n
  induction n with
  | zero =>
    intro σ x1 x2 x3 x4 x5 x6 x8 x10 H locs ls h
    cases h
  | succ n ih =>
    intro σ x1 x2 x3 x4 x5 x6 x8 x10 H locs ls h hP hS hl hk_300
    obtain ⟨hx, hb, hml, hown, hts, hr, hlk, hK, hZ⟩ := id C
    rw [fX10_gives_L127] at h
    refine lv_iload hx hb dX10_gives_127 (lv_at hl 8 rfl) ?_
    refine lv_iconst (v := 1) hx hb dX10_gives_129 (by decide) ?_
    refine lv_aload_n hx hb dX10_gives_130 rfl (lv_at hl 0 rfl) ?_
    refine r_getr C cf_10 hP sm_0 km_0 4 (by decide) rfl tw_147 dX10_gives_131 ?_
    refine lv_iconst (v := 0) hx hb dX10_gives_134 (by decide) ?_
    refine r_iald C hP sm_4 km_4 (j := 0) (by decide) (by decide) dX10_gives_135 ?_
    refine lv_ishl hx hb dX10_gives_136 ?_
    refine lv_icmp_ge (tgt := 300) hx hb dX10_gives_137 (by decide) (fun c_ => ?_) (fun c_ => ?_)
    · replace h := if_t c_ h
      exact hk_300 σ x4 x6 x8 H locs ls h hP hS (lv_sub hl [4, 6, 7] rfl)
    · replace h := if_f c_ h
      refine lv_iload hx hb dX10_gives_140 (lv_at hl 8 rfl) ?_
      refine lv_iload hx hb dX10_gives_142 (lv_at hl 5 rfl) ?_
      refine lv_iconst (v := (-1)) hx hb dX10_gives_144 (by decide) ?_
      refine lv_ixor hx hb dX10_gives_145 ?_
      refine lv_iand hx hb dX10_gives_146 ?_
      refine lv_if_eq (tgt := 153) hx hb dX10_gives_147 (by decide) (fun c_ => ?_) (fun c_ => ?_)
      · replace h := if_t c_ h
        refine lv_lconst (v := 1) hx hb dX10_gives_153 (by decide) ?_
        refine lv_lstore (lv' := [(11, .long (1 : Int64)), (0, .ref (adG g 0)), (1, .int x1), (2, .int x2), (3, .int x3), (4, .int x4), (5, .int x5), (6, .long x6), (8, .long x8), (10, .int x10)]) hx hb dX10_gives_154 hl (by decide) rfl (fun ls hl => ?_)
        refine lv_aload_n hx hb dX10_gives_156 rfl (lv_at hl 1 rfl) ?_
        refine lv_iconst (v := 0) hx hb dX10_gives_157 (by decide) ?_
        obtain ⟨q_1, hq_1, h⟩ := bd_inv h
        refine end_v (run_v (As := [.int (0 : Int32)]) (rest := []) C ca_X10_laysAside (ctX10_laysAside (0 : Int32) hq_1) cf_10 sm_0 km_0 tw_650 ⟨Nat.le_of_ble_eq_true rfl, Nat.le_of_ble_eq_true rfl⟩ rfl hl.1 (Nat.le_of_ble_eq_true rfl) ⟨Nat.le_refl _, Nat.le_refl _⟩ hP hS dX10_gives_158) hS (fun H locs hP hS => ?_)
        refine lv_iconst (v := 0) hx hb dX10_gives_161 (by decide) ?_
        refine lv_istore (lv' := [(13, .int (0 : Int32)), (11, .long (1 : Int64)), (0, .ref (adG g 0)), (1, .int x1), (2, .int x2), (3, .int x3), (4, .int x4), (5, .int x5), (6, .long x6), (8, .long x8), (10, .int x10)]) hx hb dX10_gives_162 hl (by decide) rfl (fun ls hl => ?_)
        refine wfX10_gives_L164 C fu q_1 x1 x2 x3 x4 x5 x6 x8 x10 (1 : Int64) (0 : Int32) H locs ls h hP hS (lv_sub hl [2, 3, 4, 5, 6, 7, 8, 9, 10, 1, 0] rfl) (fun σ_2 z_3 z_4 z_5 z_6 z_7 z_8 z_9 z_10 z_11 H locs ls h hP hS hl => ?_)
        refine lv_lload hx hb dX10_gives_255 (lv_at hl 9 rfl) ?_
        refine lv_lconst (v := 0) hx hb dX10_gives_257 (by decide) ?_
        refine W.lcmp hx hb dX10_gives_258 ?_
        refine lv_if_le (tgt := 294) hx hb dX10_gives_259 (by decide) (fun c_ => ?_) (fun c_ => ?_)
        · replace h := if_t c_ h
          obtain ⟨x_12, ex_12⟩ : ∃ y : Int32, y = z_10 + (1 : Int32) := ⟨_, rfl⟩
          replace h := un_at ex_12 h
          refine lv_iinc (v := x_12) (lv' := [(10, .int x_12), (0, .ref (adG g 0)), (1, .int z_3), (2, .int z_4), (3, .int z_5), (4, .int z_6), (5, .int z_7), (6, .long z_8), (8, .long z_9), (11, .long z_11)]) hx hb dX10_gives_294 hl (k := 8) rfl (by rw [ex_12]; rfl) (by decide) rfl (fun ls hl => ?_)
          refine lv_goto (tgt := 127) hx hb dX10_gives_297 (by decide) ?_
          exact ih σ_2 z_3 z_4 z_5 z_6 z_7 z_8 z_9 x_12 H locs ls h hP hS (lv_sub hl [1, 2, 3, 4, 5, 6, 7, 8, 0] rfl) hk_300
        · replace h := if_f c_ h
          refine lv_aload_n hx hb dX10_gives_262 rfl (lv_at hl 0 rfl) ?_
          refine r_getr C cf_10 hP sm_0 km_0 6 (by decide) rfl tw_149 dX10_gives_263 ?_
          refine lv_iload_n hx hb dX10_gives_266 rfl (lv_at hl 2 rfl) ?_
          obtain ⟨q_13, hq_13, h⟩ := bd_inv h
          refine end_v (run_s (As := [.ref (adG g 6), .int z_4]) (rest := []) C ca_X10_goesBy (ctX10_goesBy 6 ⟨sm_6, km_6⟩ z_4 hq_13) tw_654 ⟨Nat.le_of_ble_eq_true rfl, Nat.le_of_ble_eq_true rfl⟩ rfl hl.1 (Nat.le_of_ble_eq_true rfl) ⟨Nat.le_refl _, Nat.le_refl _⟩ hP hS dX10_gives_267) hS (fun H locs hP hS => ?_)
          refine lv_lload hx hb dX10_gives_270 (lv_at hl 7 rfl) ?_
          refine lv_aload_n hx hb dX10_gives_272 rfl (lv_at hl 0 rfl) ?_
          refine r_getr C cf_10 hP sm_0 km_0 6 (by decide) rfl tw_149 dX10_gives_273 ?_
          refine lv_bipush (v := 53) hx hb dX10_gives_276 (by decide) ?_
          refine lv_iload_n hx hb dX10_gives_278 rfl (lv_at hl 1 rfl) ?_
          refine lv_iadd hx hb dX10_gives_279 ?_
          obtain ⟨g_14, h⟩ := gd_inv h
          refine r_iald C hP sm_6 km_6 rfl g_14 dX10_gives_280 ?_
          refine lv_iconst (v := 2) hx hb dX10_gives_281 (by decide) ?_
          refine lv_icmp_eq (tgt := 290) hx hb dX10_gives_282 (by decide) (fun c_ => ?_) (fun c_ => ?_)
          · replace h := if_t c_ h
            refine lv_lconst (v := 0) hx hb dX10_gives_290 (by decide) ?_
            refine lv_ladd hx hb dX10_gives_291 ?_
            refine lv_topl (fun x_15 ex_15 => ?_)
            replace h := un_at ex_15 h
            refine lv_lstore (lv' := [(8, .long x_15), (0, .ref (adG g 0)), (1, .int z_3), (2, .int z_4), (3, .int z_5), (4, .int z_6), (5, .int z_7), (6, .long z_8), (10, .int z_10), (11, .long z_11)]) hx hb dX10_gives_292 hl (by decide) rfl (fun ls hl => ?_)
            obtain ⟨x_16, ex_16⟩ : ∃ y : Int32, y = z_10 + (1 : Int32) := ⟨_, rfl⟩
            replace h := un_at ex_16 h
            refine lv_iinc (v := x_16) (lv' := [(10, .int x_16), (8, .long x_15), (0, .ref (adG g 0)), (1, .int z_3), (2, .int z_4), (3, .int z_5), (4, .int z_6), (5, .int z_7), (6, .long z_8), (11, .long z_11)]) hx hb dX10_gives_294 hl (k := 8) rfl (by rw [ex_16]; rfl) (by decide) rfl (fun ls hl => ?_)
            refine lv_goto (tgt := 127) hx hb dX10_gives_297 (by decide) ?_
            exact ih q_13 z_3 z_4 z_5 z_6 z_7 z_8 x_15 x_16 H locs ls h hP hS (lv_sub hl [2, 3, 4, 5, 6, 7, 8, 1, 0] rfl) hk_300
          · replace h := if_f c_ h
            refine lv_lload hx hb dX10_gives_285 (lv_at hl 9 rfl) ?_
            refine lv_goto (tgt := 291) hx hb dX10_gives_287 (by decide) ?_
            refine lv_ladd hx hb dX10_gives_291 ?_
            refine lv_topl (fun x_17 ex_17 => ?_)
            replace h := un_at ex_17 h
            refine lv_lstore (lv' := [(8, .long x_17), (0, .ref (adG g 0)), (1, .int z_3), (2, .int z_4), (3, .int z_5), (4, .int z_6), (5, .int z_7), (6, .long z_8), (10, .int z_10), (11, .long z_11)]) hx hb dX10_gives_292 hl (by decide) rfl (fun ls hl => ?_)
            obtain ⟨x_18, ex_18⟩ : ∃ y : Int32, y = z_10 + (1 : Int32) := ⟨_, rfl⟩
            replace h := un_at ex_18 h
            refine lv_iinc (v := x_18) (lv' := [(10, .int x_18), (8, .long x_17), (0, .ref (adG g 0)), (1, .int z_3), (2, .int z_4), (3, .int z_5), (4, .int z_6), (5, .int z_7), (6, .long z_8), (11, .long z_11)]) hx hb dX10_gives_294 hl (k := 8) rfl (by rw [ex_18]; rfl) (by decide) rfl (fun ls hl => ?_)
            refine lv_goto (tgt := 127) hx hb dX10_gives_297 (by decide) ?_
            exact ih q_13 z_3 z_4 z_5 z_6 z_7 z_8 x_17 x_18 H locs ls h hP hS (lv_sub hl [2, 3, 4, 5, 6, 7, 8, 1, 0] rfl) hk_300
      · replace h := if_f c_ h
        refine lv_goto (tgt := 294) hx hb dX10_gives_150 (by decide) ?_
        obtain ⟨x_19, ex_19⟩ : ∃ y : Int32, y = x10 + (1 : Int32) := ⟨_, rfl⟩
        replace h := un_at ex_19 h
        refine lv_iinc (v := x_19) (lv' := [(10, .int x_19), (0, .ref (adG g 0)), (1, .int x1), (2, .int x2), (3, .int x3), (4, .int x4), (5, .int x5), (6, .long x6), (8, .long x8)]) hx hb dX10_gives_294 hl (k := 8) rfl (by rw [ex_19]; rfl) (by decide) rfl (fun ls hl => ?_)
        refine lv_goto (tgt := 127) hx hb dX10_gives_297 (by decide) ?_
        exact ih σ x1 x2 x3 x4 x5 x6 x8 x_19 H locs ls h hP hS (lv_sub hl [1, 2, 3, 4, 5, 6, 7, 8, 0] rfl) hk_300

set_option maxRecDepth 100000 in
set_option maxHeartbeats 4000000 in
theorem ctX10_gives {l : Launch} {g : Gw} {σ : Sto} (x1 : Int32) (x2 : Int32) (x3 : Int32) (x4 : Int32) {Rz : (Sto × Int64)} (h : fX10_gives σ x1 x2 x3 x4 = some Rz) : MtG l yX10_gives cX10_gives 14 (some .long) 5 wkM g [.ref (adG g 0), .int x1, .int x2, .int x3, .int x4] σ (QlS wkM g Rz.1 Rz.2) := by
  refine mt_of (by decide) (Nat.le_of_ble_eq_true rfl) (fun p e s m below meth c ls H locs C hP hS hl => ?_)
  have C : Cx wkM g p s m _ meth c cX10_gives 14 RX10 (some .long) := C
  have hl : lv_has ls 14 [(0, .ref (adG g 0)), (1, .int x1), (2, .int x2), (3, .int x3), (4, .int x4)] := hl
  obtain ⟨hx, hb, hml, hown, hts, hr, hlk, hK, hZ⟩ := id C
  unfold fX10_gives at h
  refine lv_aload_n hx hb dX10_gives_0 rfl (lv_at hl 0 rfl) ?_
  refine lv_iload_n hx hb dX10_gives_1 rfl (lv_at hl 1 rfl) ?_
  refine end_i (run_v (As := [.int x1]) (rest := []) C ca_X10_isThing (ctX10_isThing x1 rfl) cf_10 sm_0 km_0 tw_551 ⟨Nat.le_of_ble_eq_true rfl, Nat.le_of_ble_eq_true rfl⟩ rfl hl.1 (Nat.le_of_ble_eq_true rfl) ⟨Nat.le_refl _, Nat.le_refl _⟩ hP hS dX10_gives_2) hS (fun H locs hP hS => ?_)
  refine lv_if_eq (tgt := 40) hx hb dX10_gives_5 (by decide) (fun c_ => ?_) (fun c_ => ?_)
  · replace h := if_t c_ h
    refine lv_ldc2 hx hb hown (hts _ tw_1035) dX10_gives_40 ?_
    exact r_retl C hP hS (rt_ow1 h) (rt_ow2 h) dX10_gives_43
  · replace h := if_f c_ h
    refine lv_iload_n hx hb dX10_gives_8 rfl (lv_at hl 2 rfl) ?_
    refine lv_i2l hx hb dX10_gives_9 rfl ?_
    refine lv_lconst (v := 0) hx hb dX10_gives_10 (by decide) ?_
    refine lv_ldc2 hx hb hown (hts _ tw_816) dX10_gives_11 ?_
    refine end_i (run_s (As := [.long x2.toInt64, .long (0 : Int64), .long (40 : Int64)]) (rest := []) C ca_X10_in (ctX10_in x2.toInt64 (0 : Int64) (40 : Int64) rfl) tw_193 ⟨Nat.le_of_ble_eq_true rfl, Nat.le_of_ble_eq_true rfl⟩ rfl hl.1 (Nat.le_of_ble_eq_true rfl) ⟨Nat.le_refl _, Nat.le_refl _⟩ hP hS dX10_gives_14) hS (fun H locs hP hS => ?_)
    refine lv_if_eq (tgt := 40) hx hb dX10_gives_17 (by decide) (fun c_ => ?_) (fun c_ => ?_)
    · replace h := if_t c_ h
      refine lv_ldc2 hx hb hown (hts _ tw_1035) dX10_gives_40 ?_
      exact r_retl C hP hS (rt_ow1 h) (rt_ow2 h) dX10_gives_43
    · replace h := if_f c_ h
      refine lv_iload_n hx hb dX10_gives_20 rfl (lv_at hl 3 rfl) ?_
      refine lv_i2l hx hb dX10_gives_21 rfl ?_
      refine lv_lconst (v := 0) hx hb dX10_gives_22 (by decide) ?_
      refine lv_ldc2 hx hb hown (hts _ tw_1034) dX10_gives_23 ?_
      refine end_i (run_s (As := [.long x3.toInt64, .long (0 : Int64), .long (10 : Int64)]) (rest := []) C ca_X10_in (ctX10_in x3.toInt64 (0 : Int64) (10 : Int64) rfl) tw_193 ⟨Nat.le_of_ble_eq_true rfl, Nat.le_of_ble_eq_true rfl⟩ rfl hl.1 (Nat.le_of_ble_eq_true rfl) ⟨Nat.le_refl _, Nat.le_refl _⟩ hP hS dX10_gives_26) hS (fun H locs hP hS => ?_)
      refine lv_if_eq (tgt := 40) hx hb dX10_gives_29 (by decide) (fun c_ => ?_) (fun c_ => ?_)
      · replace h := if_t c_ h
        refine lv_ldc2 hx hb hown (hts _ tw_1035) dX10_gives_40 ?_
        exact r_retl C hP hS (rt_ow1 h) (rt_ow2 h) dX10_gives_43
      · replace h := if_f c_ h
        refine lv_iload hx hb dX10_gives_32 (lv_at hl 4 rfl) ?_
        refine end_i (run_s (As := [.int x4]) (rest := []) C ca_X10_isTwo (ctX10_isTwo x4 rfl) tw_697 ⟨Nat.le_of_ble_eq_true rfl, Nat.le_of_ble_eq_true rfl⟩ rfl hl.1 (Nat.le_of_ble_eq_true rfl) ⟨Nat.le_refl _, Nat.le_refl _⟩ hP hS dX10_gives_34) hS (fun H locs hP hS => ?_)
        refine lv_if_ne (tgt := 44) hx hb dX10_gives_37 (by decide) (fun c_ => ?_) (fun c_ => ?_)
        · replace h := if_f c_ h
          refine lv_iconst (v := 0) hx hb dX10_gives_44 (by decide) ?_
          refine lv_istore (lv' := [(5, .int (0 : Int32)), (0, .ref (adG g 0)), (1, .int x1), (2, .int x2), (3, .int x3), (4, .int x4)]) hx hb dX10_gives_45 hl (by decide) rfl (fun ls hl => ?_)
          refine lv_lconst (v := 1) hx hb dX10_gives_47 (by decide) ?_
          refine lv_lstore (lv' := [(6, .long (1 : Int64)), (5, .int (0 : Int32)), (0, .ref (adG g 0)), (1, .int x1), (2, .int x2), (3, .int x3), (4, .int x4)]) hx hb dX10_gives_48 hl (by decide) rfl (fun ls hl => ?_)
          refine lv_iconst (v := 0) hx hb dX10_gives_50 (by decide) ?_
          refine lv_istore (lv' := [(8, .int (0 : Int32)), (6, .long (1 : Int64)), (5, .int (0 : Int32)), (0, .ref (adG g 0)), (1, .int x1), (2, .int x2), (3, .int x3), (4, .int x4)]) hx hb dX10_gives_51 hl (by decide) rfl (fun ls hl => ?_)
          refine wfX10_gives_L53 C fu σ x1 x2 x3 x4 (0 : Int32) (1 : Int64) (0 : Int32) H locs ls h hP hS (lv_sub hl [3, 4, 5, 6, 7, 2, 1, 0] rfl) (fun σ_5 z_6 z_7 z_8 z_9 z_10 z_11 H locs ls h hP hS hl => ?_)
          refine lv_lconst (v := 0) hx hb dX10_gives_121 (by decide) ?_
          refine lv_lstore (lv' := [(8, .long (0 : Int64)), (0, .ref (adG g 0)), (1, .int z_6), (2, .int z_7), (3, .int z_8), (4, .int z_9), (5, .int z_10), (6, .long z_11)]) hx hb dX10_gives_122 hl (by decide) rfl (fun ls hl => ?_)
          refine lv_iconst (v := 0) hx hb dX10_gives_124 (by decide) ?_
          refine lv_istore (lv' := [(10, .int (0 : Int32)), (8, .long (0 : Int64)), (0, .ref (adG g 0)), (1, .int z_6), (2, .int z_7), (3, .int z_8), (4, .int z_9), (5, .int z_10), (6, .long z_11)]) hx hb dX10_gives_125 hl (by decide) rfl (fun ls hl => ?_)
          refine wfX10_gives_L127 C fu σ_5 z_6 z_7 z_8 z_9 z_10 z_11 (0 : Int64) (0 : Int32) H locs ls h hP hS (lv_sub hl [2, 3, 4, 5, 6, 7, 8, 1, 0] rfl) (fun σ_12 z_13 z_14 z_15 H locs ls h hP hS hl => ?_)
          refine lv_iload hx hb dX10_gives_300 (lv_at hl 0 rfl) ?_
          refine lv_if_ne (tgt := 310) hx hb dX10_gives_302 (by decide) (fun c_ => ?_) (fun c_ => ?_)
          · replace h := if_f c_ h
            refine lv_lload hx hb dX10_gives_310 (lv_at hl 1 rfl) ?_
            refine lv_lload hx hb dX10_gives_312 (lv_at hl 2 rfl) ?_
            refine lv_lload hx hb dX10_gives_314 (lv_at hl 1 rfl) ?_
            obtain ⟨q_16, hq_16, h⟩ := bd_inv h
            refine end_l (run_s (As := [.long z_15, .long z_14]) (rest := [.long z_14]) C ca_X10_divisor (ctX10_divisor z_15 z_14 hq_16) tw_1036 ⟨Nat.le_of_ble_eq_true rfl, Nat.le_of_ble_eq_true rfl⟩ rfl hl.1 (Nat.le_of_ble_eq_true rfl) ⟨Nat.le_refl _, Nat.le_refl _⟩ hP hS dX10_gives_316) hS (fun H locs hP hS => ?_)
            obtain ⟨g_17, h⟩ := gd_inv h
            refine lv_ldiv hx hb dX10_gives_319 (nzL_ne g_17) ?_
            exact r_retl C hP hS (rt_ow1 h) (rt_ow2 h) dX10_gives_320
          · replace h := if_t c_ h
            refine lv_lload hx hb dX10_gives_305 (lv_at hl 2 rfl) ?_
            refine lv_goto (tgt := 312) hx hb dX10_gives_307 (by decide) ?_
            refine lv_lload hx hb dX10_gives_312 (lv_at hl 2 rfl) ?_
            refine lv_lload hx hb dX10_gives_314 (lv_at hl 1 rfl) ?_
            obtain ⟨q_18, hq_18, h⟩ := bd_inv h
            refine end_l (run_s (As := [.long z_15, .long z_14]) (rest := [.long z_15]) C ca_X10_divisor (ctX10_divisor z_15 z_14 hq_18) tw_1036 ⟨Nat.le_of_ble_eq_true rfl, Nat.le_of_ble_eq_true rfl⟩ rfl hl.1 (Nat.le_of_ble_eq_true rfl) ⟨Nat.le_refl _, Nat.le_refl _⟩ hP hS dX10_gives_316) hS (fun H locs hP hS => ?_)
            obtain ⟨g_19, h⟩ := gd_inv h
            refine lv_ldiv hx hb dX10_gives_319 (nzL_ne g_19) ?_
            exact r_retl C hP hS (rt_ow1 h) (rt_ow2 h) dX10_gives_320
        · replace h := if_t c_ h
          refine lv_ldc2 hx hb hown (hts _ tw_1035) dX10_gives_40 ?_
          exact r_retl C hP hS (rt_ow1 h) (rt_ow2 h) dX10_gives_43

set_option maxRecDepth 100000 in
set_option maxHeartbeats 4000000 in
theorem wfX10_drawn_j179 {l : Launch} {g : Gw} {p : Program} {e : Env} {s : State} {m : MethodId} {args : Array Value} {below : List Frame} {meth : Method} {c : Code} (C : Cx wkM g p s m args meth c cX10_drawn 11 RX10 (some .int)) {Rz : (Sto × Int32)} {k_70 : Sto → Int32 → Int32 → Int64 → Int32 → Int32 → Option (Sto × Int32)} : ∀ (σ : Sto) (x1 : Int32) (x4 : Int32) (x5 : Int64) (x7 : Int32) (x8 : Int32) (H : Heap) (locs : List Loc) (ls : Array Slot), fX10_drawn_j179 k_70 σ x1 x4 x5 x7 x8 = some Rz → wS wkM g σ H → va_S (AS wkM g) s.heap H locs → lv_has ls 11 [(0, .ref (adG g 0)), (1, .int x1), (4, .int x4), (5, .long x5), (7, .int x7), (8, .int x8)] → (∀ (σ : Sto) (x1 : Int32) (x4 : Int32) (x5 : Int64) (x7 : Int32) (x8 : Int32) (H : Heap) (locs : List Loc) (ls : Array Slot), k_70 σ x1 x4 x5 x7 x8 = some Rz → wS wkM g σ H → va_S (AS wkM g) s.heap H locs → lv_has ls 11 [(0, .ref (adG g 0)), (1, .int x1), (4, .int x4), (5, .long x5), (7, .int x7), (8, .int x8)] → W p l e (rmS 5) s m args below meth c H locs 0 0 (MQ below (QiS wkM g Rz.1 Rz.2) args s 0 0 (AS wkM g)) (F0 m 70 ls [])) → W p l e (rmS 5) s m args below meth c H locs 0 0 (MQ below (QiS wkM g Rz.1 Rz.2) args s 0 0 (AS wkM g)) (F0 m 179 ls []) := by
  intro σ x1 x4 x5 x7 x8 H locs ls h hP hS hl hk_70
  obtain ⟨hx, hb, hml, hown, hts, hr, hlk, hK, hZ⟩ := id C
  unfold fX10_drawn_j179 at h
  refine lv_aload_n hx hb dX10_drawn_179 rfl (lv_at hl 0 rfl) ?_
  refine r_getr C cf_10 hP sm_0 km_0 6 (by decide) rfl tw_149 dX10_drawn_180 ?_
  refine lv_iload hx hb dX10_drawn_183 (lv_at hl 2 rfl) ?_
  obtain ⟨q_1, hq_1, h⟩ := bd_inv h
  refine end_i (run_s (As := [.ref (adG g 6), .int x4]) (rest := []) C ca_X10_those (ctX10_those 6 ⟨sm_6, km_6⟩ x4 hq_1) tw_508 ⟨Nat.le_of_ble_eq_true rfl, Nat.le_of_ble_eq_true rfl⟩ rfl hl.1 (Nat.le_of_ble_eq_true rfl) ⟨Nat.le_refl _, Nat.le_refl _⟩ hP hS dX10_drawn_185) hS (fun H locs hP hS => ?_)
  refine lv_istore (lv' := [(10, .int q_1), (0, .ref (adG g 0)), (1, .int x1), (4, .int x4), (5, .long x5), (7, .int x7), (8, .int x8)]) hx hb dX10_drawn_188 hl (by decide) rfl (fun ls hl => ?_)
  refine lv_aload_n hx hb dX10_drawn_190 rfl (lv_at hl 1 rfl) ?_
  refine r_getr C cf_10 hP sm_0 km_0 6 (by decide) rfl tw_149 dX10_drawn_191 ?_
  obtain ⟨q_2, hq_2, h⟩ := bd_inv h
  refine end_v (run_s (As := [.ref (adG g 6)]) (rest := []) C ca_X10_passes (ctX10_passes 6 ⟨sm_6, km_6⟩ hq_2) tw_490 ⟨Nat.le_of_ble_eq_true rfl, Nat.le_of_ble_eq_true rfl⟩ rfl hl.1 (Nat.le_of_ble_eq_true rfl) ⟨Nat.le_refl _, Nat.le_refl _⟩ hP hS dX10_drawn_194) hS (fun H locs hP hS => ?_)
  refine lv_iload hx hb dX10_drawn_197 (lv_at hl 5 rfl) ?_
  refine lv_aload_n hx hb dX10_drawn_199 rfl (lv_at hl 1 rfl) ?_
  refine r_getr C cf_10 hP sm_0 km_0 6 (by decide) rfl tw_149 dX10_drawn_200 ?_
  refine lv_iload hx hb dX10_drawn_203 (lv_at hl 3 rfl) ?_
  obtain ⟨q_3, hq_3, h⟩ := bd_inv h
  refine end_i (run_s (As := [.ref (adG g 6), .int x4]) (rest := [.int x7]) C ca_X10_those (ctX10_those 6 ⟨sm_6, km_6⟩ x4 hq_3) tw_508 ⟨Nat.le_of_ble_eq_true rfl, Nat.le_of_ble_eq_true rfl⟩ rfl hl.1 (Nat.le_of_ble_eq_true rfl) ⟨Nat.le_refl _, Nat.le_refl _⟩ hP hS dX10_drawn_205) hS (fun H locs hP hS => ?_)
  refine lv_iload hx hb dX10_drawn_208 (lv_at hl 0 rfl) ?_
  refine lv_iconst (v := (-1)) hx hb dX10_drawn_210 (by decide) ?_
  refine lv_ixor hx hb dX10_drawn_211 ?_
  refine lv_iand hx hb dX10_drawn_212 ?_
  obtain ⟨q_4, hq_4, h⟩ := bd_inv h
  refine end_i (run_s (As := [.int (q_3 &&& (q_1 ^^^ (-1 : Int32)))]) (rest := [.int x7]) C ca_X10_bits (ctX10_bits (q_3 &&& (q_1 ^^^ (-1 : Int32))) hq_4) tw_788 ⟨Nat.le_of_ble_eq_true rfl, Nat.le_of_ble_eq_true rfl⟩ rfl hl.1 (Nat.le_of_ble_eq_true rfl) ⟨Nat.le_refl _, Nat.le_refl _⟩ hP hS dX10_drawn_213) hS (fun H locs hP hS => ?_)
  refine lv_iadd hx hb dX10_drawn_216 ?_
  refine lv_topi (fun x_5 ex_5 => ?_)
  replace h := un_at ex_5 h
  refine lv_istore (lv' := [(7, .int x_5), (10, .int q_1), (0, .ref (adG g 0)), (1, .int x1), (4, .int x4), (5, .long x5), (8, .int x8)]) hx hb dX10_drawn_217 hl (by decide) rfl (fun ls hl => ?_)
  obtain ⟨x_6, ex_6⟩ : ∃ y : Int32, y = x8 + (1 : Int32) := ⟨_, rfl⟩
  replace h := un_at ex_6 h
  refine lv_iinc (v := x_6) (lv' := [(8, .int x_6), (7, .int x_5), (10, .int q_1), (0, .ref (adG g 0)), (1, .int x1), (4, .int x4), (5, .long x5)]) hx hb dX10_drawn_219 hl (k := 6) rfl (by rw [ex_6]; rfl) (by decide) rfl (fun ls hl => ?_)
  refine lv_goto (tgt := 70) hx hb dX10_drawn_222 (by decide) ?_
  exact hk_70 q_2 x1 x4 x5 x_5 x_6 H locs ls h hP hS (lv_sub hl [3, 4, 5, 6, 1, 0] rfl)

set_option maxRecDepth 100000 in
set_option maxHeartbeats 4000000 in
theorem wfX10_drawn_j120 {l : Launch} {g : Gw} {p : Program} {e : Env} {s : State} {m : MethodId} {args : Array Value} {below : List Frame} {meth : Method} {c : Code} (C : Cx wkM g p s m args meth c cX10_drawn 11 RX10 (some .int)) {Rz : (Sto × Int32)} {k_70 : Sto → Int32 → Int32 → Int64 → Int32 → Int32 → Option (Sto × Int32)} : ∀ (σ : Sto) (x1 : Int32) (x4 : Int32) (x5 : Int64) (x7 : Int32) (x8 : Int32) (y1 : Int32) (y2 : Int32) (H : Heap) (locs : List Loc) (ls : Array Slot), fX10_drawn_j120 k_70 σ x1 x4 x5 x7 x8 y1 y2 = some Rz → wS wkM g σ H → va_S (AS wkM g) s.heap H locs → lv_has ls 11 [(0, .ref (adG g 0)), (1, .int x1), (4, .int x4), (5, .long x5), (7, .int x7), (8, .int x8)] → (∀ (σ : Sto) (x1 : Int32) (x4 : Int32) (x5 : Int64) (x7 : Int32) (x8 : Int32) (H : Heap) (locs : List Loc) (ls : Array Slot), k_70 σ x1 x4 x5 x7 x8 = some Rz → wS wkM g σ H → va_S (AS wkM g) s.heap H locs → lv_has ls 11 [(0, .ref (adG g 0)), (1, .int x1), (4, .int x4), (5, .long x5), (7, .int x7), (8, .int x8)] → W p l e (rmS 5) s m args below meth c H locs 0 0 (MQ below (QiS wkM g Rz.1 Rz.2) args s 0 0 (AS wkM g)) (F0 m 70 ls [])) → W p l e (rmS 5) s m args below meth c H locs 0 0 (MQ below (QiS wkM g Rz.1 Rz.2) args s 0 0 (AS wkM g)) (F0 m 120 ls [.int y2, .int y1, .ref (adG g 6)]) := by
  intro σ x1 x4 x5 x7 x8 y1 y2 H locs ls h hP hS hl hk_70
  obtain ⟨hx, hb, hml, hown, hts, hr, hlk, hK, hZ⟩ := id C
  unfold fX10_drawn_j120 at h
  obtain ⟨g_1, h⟩ := gd_inv h
  refine r_iast C hP hS sm_6 km_6 rfl g_1 dX10_drawn_120 (fun H locs σ_2 eσ_2 hP hS => ?_)
  replace h := un_at eσ_2 h
  refine lv_lload hx hb dX10_drawn_121 (lv_at hl 3 rfl) ?_
  refine lv_aload_n hx hb dX10_drawn_123 rfl (lv_at hl 0 rfl) ?_
  refine r_getr C cf_10 hP sm_0 km_0 4 (by decide) rfl tw_147 dX10_drawn_124 ?_
  refine lv_iconst (v := 1) hx hb dX10_drawn_127 (by decide) ?_
  refine r_iald C hP sm_4 km_4 (j := 1) (by decide) (by decide) dX10_drawn_128 ?_
  refine lv_i2l hx hb dX10_drawn_129 rfl ?_
  obtain ⟨g_3, h⟩ := gd_inv h
  refine lv_lrem hx hb dX10_drawn_130 (nzL_ne g_3) ?_
  refine lv_l2i hx hb dX10_drawn_131 rfl ?_
  refine lv_topi (fun x_4 ex_4 => ?_)
  replace h := un_at ex_4 h
  refine lv_istore (lv' := [(9, .int x_4), (0, .ref (adG g 0)), (1, .int x1), (4, .int x4), (5, .long x5), (7, .int x7), (8, .int x8)]) hx hb dX10_drawn_132 hl (by decide) rfl (fun ls hl => ?_)
  refine lv_aload_n hx hb dX10_drawn_134 rfl (lv_at hl 1 rfl) ?_
  refine r_getr C cf_10 hP sm_0 km_0 6 (by decide) rfl tw_149 dX10_drawn_135 ?_
  refine lv_bipush (v := 53) hx hb dX10_drawn_138 (by decide) ?_
  refine lv_iload hx hb dX10_drawn_140 (lv_at hl 0 rfl) ?_
  refine lv_iadd hx hb dX10_drawn_142 ?_
  obtain ⟨g_5, h⟩ := gd_inv h
  refine r_iald C hP sm_6 km_6 rfl g_5 dX10_drawn_143 ?_
  refine lv_if_eq (tgt := 179) hx hb dX10_drawn_144 (by decide) (fun c_ => ?_) (fun c_ => ?_)
  · replace h := if_t c_ h
    refine wfX10_drawn_j179 C σ_2 x1 x4 x5 x7 x8 H locs ls h hP hS (lv_sub hl [1, 2, 3, 4, 5, 6] rfl) (fun σ_6 z_7 z_8 z_9 z_10 z_11 H locs ls h hP hS hl => ?_)
    exact hk_70 σ_6 z_7 z_8 z_9 z_10 z_11 H locs ls h hP hS (lv_sub hl [0, 1, 2, 3, 4, 5] rfl)
  · replace h := if_f c_ h
    refine lv_aload_n hx hb dX10_drawn_147 rfl (lv_at hl 1 rfl) ?_
    refine r_getr C cf_10 hP sm_0 km_0 6 (by decide) rfl tw_149 dX10_drawn_148 ?_
    refine lv_bipush (v := 53) hx hb dX10_drawn_151 (by decide) ?_
    refine lv_iload hx hb dX10_drawn_153 (lv_at hl 0 rfl) ?_
    refine lv_iadd hx hb dX10_drawn_155 ?_
    refine lv_iconst (v := 0) hx hb dX10_drawn_156 (by decide) ?_
    refine r_iast C hP hS sm_6 km_6 rfl g_5 dX10_drawn_157 (fun H locs σ_12 eσ_12 hP hS => ?_)
    replace h := un_at eσ_12 h
    refine lv_aload_n hx hb dX10_drawn_158 rfl (lv_at hl 1 rfl) ?_
    refine r_getr C cf_10 hP sm_0 km_0 6 (by decide) rfl tw_149 dX10_drawn_159 ?_
    refine lv_bipush (v := 47) hx hb dX10_drawn_162 (by decide) ?_
    refine lv_iload hx hb dX10_drawn_164 (lv_at hl 0 rfl) ?_
    refine lv_iadd hx hb dX10_drawn_166 ?_
    refine lv_lload hx hb dX10_drawn_167 (lv_at hl 4 rfl) ?_
    refine lv_aload_n hx hb dX10_drawn_169 rfl (lv_at hl 1 rfl) ?_
    refine r_getr C cf_10 hP sm_0 km_0 4 (by decide) rfl tw_147 dX10_drawn_170 ?_
    refine lv_iconst (v := 0) hx hb dX10_drawn_173 (by decide) ?_
    refine r_iald C hP sm_4 km_4 (j := 0) (by decide) (by decide) dX10_drawn_174 ?_
    refine lv_i2l hx hb dX10_drawn_175 rfl ?_
    obtain ⟨g_13, h⟩ := gd_inv h
    refine lv_lrem hx hb dX10_drawn_176 (nzL_ne g_13) ?_
    refine lv_l2i hx hb dX10_drawn_177 rfl ?_
    obtain ⟨g_14, h⟩ := gd_inv h
    refine r_iast C hP hS sm_6 km_6 rfl g_14 dX10_drawn_178 (fun H locs σ_15 eσ_15 hP hS => ?_)
    replace h := un_at eσ_15 h
    refine wfX10_drawn_j179 C σ_15 x1 x4 x5 x7 x8 H locs ls h hP hS (lv_sub hl [1, 2, 3, 4, 5, 6] rfl) (fun σ_16 z_17 z_18 z_19 z_20 z_21 H locs ls h hP hS hl => ?_)
    exact hk_70 σ_16 z_17 z_18 z_19 z_20 z_21 H locs ls h hP hS (lv_sub hl [0, 1, 2, 3, 4, 5] rfl)

set_option maxRecDepth 100000 in
set_option maxHeartbeats 4000000 in
theorem wfX10_drawn_L70 {l : Launch} {g : Gw} {p : Program} {e : Env} {s : State} {m : MethodId} {args : Array Value} {below : List Frame} {meth : Method} {c : Code} (C : Cx wkM g p s m args meth c cX10_drawn 11 RX10 (some .int)) {Rz : (Sto × Int32)} : ∀ (n : Nat) (σ : Sto) (x1 : Int32) (x4 : Int32) (x5 : Int64) (x7 : Int32) (x8 : Int32) (H : Heap) (locs : List Loc) (ls : Array Slot), fX10_drawn_L70 n σ x1 x4 x5 x7 x8 = some Rz → wS wkM g σ H → va_S (AS wkM g) s.heap H locs → lv_has ls 11 [(0, .ref (adG g 0)), (1, .int x1), (4, .int x4), (5, .long x5), (7, .int x7), (8, .int x8)] → W p l e (rmS 5) s m args below meth c H locs 0 0 (MQ below (QiS wkM g Rz.1 Rz.2) args s 0 0 (AS wkM g)) (F0 m 70 ls []) := by
  intro n
  induction n with
  | zero =>
    intro σ x1 x4 x5 x7 x8 H locs ls h
    cases h
  | succ n ih =>
    intro σ x1 x4 x5 x7 x8 H locs ls h hP hS hl
    obtain ⟨hx, hb, hml, hown, hts, hr, hlk, hK, hZ⟩ := id C
    rw [fX10_drawn_L70] at h
    refine lv_iload hx hb dX10_drawn_70 (lv_at hl 5 rfl) ?_
    refine lv_iload_n hx hb dX10_drawn_72 rfl (lv_at hl 1 rfl) ?_
    refine lv_icmp_ge (tgt := 225) hx hb dX10_drawn_73 (by decide) (fun c_ => ?_) (fun c_ => ?_)
    · replace h := if_t c_ h
      refine lv_iload hx hb dX10_drawn_225 (lv_at hl 4 rfl) ?_
      exact r_reti C hP hS (rt_ow1 h) (rt_ow2 h) dX10_drawn_227
    · replace h := if_f c_ h
      refine lv_lload hx hb dX10_drawn_76 (lv_at hl 3 rfl) ?_
      refine lv_ldc2 hx hb hown (hts _ tw_1062) dX10_drawn_78 ?_
      refine lv_lmul hx hb dX10_drawn_81 ?_
      refine lv_ldc2 hx hb hown (hts _ tw_1063) dX10_drawn_82 ?_
      refine lv_lrem hx hb dX10_drawn_85 (by decide) ?_
      refine lv_topl (fun x_1 ex_1 => ?_)
      replace h := un_at ex_1 h
      refine lv_lstore (lv' := [(5, .long x_1), (0, .ref (adG g 0)), (1, .int x1), (4, .int x4), (7, .int x7), (8, .int x8)]) hx hb dX10_drawn_86 hl (by decide) rfl (fun ls hl => ?_)
      refine lv_aload_n hx hb dX10_drawn_88 rfl (lv_at hl 1 rfl) ?_
      refine r_getr C cf_10 hP sm_0 km_0 6 (by decide) rfl tw_149 dX10_drawn_89 ?_
      refine lv_iconst (v := 2) hx hb dX10_drawn_92 (by decide) ?_
      refine lv_lload hx hb dX10_drawn_93 (lv_at hl 0 rfl) ?_
      refine lv_ldc2 hx hb hown (hts _ tw_1064) dX10_drawn_95 ?_
      refine lv_lrem hx hb dX10_drawn_98 (by decide) ?_
      refine lv_lconst (v := 0) hx hb dX10_drawn_99 (by decide) ?_
      refine W.lcmp hx hb dX10_drawn_100 ?_
      refine lv_if_ne (tgt := 114) hx hb dX10_drawn_101 (by decide) (fun c_ => ?_) (fun c_ => ?_)
      · replace h := if_f c_ h
        refine lv_aload_n hx hb dX10_drawn_114 rfl (lv_at hl 1 rfl) ?_
        refine r_getr C cf_10 hP sm_0 km_0 6 (by decide) rfl tw_149 dX10_drawn_115 ?_
        refine lv_iconst (v := 2) hx hb dX10_drawn_118 (by decide) ?_
        refine r_iald C hP sm_6 km_6 (j := 2) (by decide) (by decide) dX10_drawn_119 ?_
        refine wfX10_drawn_j120 C σ x1 x4 x_1 x7 x8 (2 : Int32) (σ 6 2) H locs ls h hP hS (lv_sub hl [1, 2, 3, 0, 4, 5] rfl) (fun σ_2 z_3 z_4 z_5 z_6 z_7 H locs ls h hP hS hl => ?_)
        exact ih σ_2 z_3 z_4 z_5 z_6 z_7 H locs ls h hP hS (lv_sub hl [0, 1, 2, 3, 4, 5] rfl)
      · replace h := if_t c_ h
        refine lv_lload hx hb dX10_drawn_104 (lv_at hl 0 rfl) ?_
        refine lv_ldc2 hx hb hown (hts _ tw_1034) dX10_drawn_106 ?_
        refine lv_lrem hx hb dX10_drawn_109 (by decide) ?_
        refine lv_l2i hx hb dX10_drawn_110 rfl ?_
        refine lv_goto (tgt := 120) hx hb dX10_drawn_111 (by decide) ?_
        refine wfX10_drawn_j120 C σ x1 x4 x_1 x7 x8 (2 : Int32) ((lrm x_1 (10 : Int64)).toInt32) H locs ls h hP hS (lv_sub hl [1, 2, 3, 0, 4, 5] rfl) (fun σ_8 z_9 z_10 z_11 z_12 z_13 H locs ls h hP hS hl => ?_)
        exact ih σ_8 z_9 z_10 z_11 z_12 z_13 H locs ls h hP hS (lv_sub hl [0, 1, 2, 3, 4, 5] rfl)

set_option maxRecDepth 100000 in
set_option maxHeartbeats 4000000 in
theorem wfX10_drawn_j58 {l : Launch} {g : Gw} {p : Program} {e : Env} {s : State} {m : MethodId} {args : Array Value} {below : List Frame} {meth : Method} {c : Code} (C : Cx wkM g p s m args meth c cX10_drawn 11 RX10 (some .int)) {Rz : (Sto × Int32)} : ∀ (σ : Sto) (x1 : Int32) (x2 : Int32) (y0 : Int32) (H : Heap) (locs : List Loc) (ls : Array Slot), fX10_drawn_j58 σ x1 x2 y0 = some Rz → wS wkM g σ H → va_S (AS wkM g) s.heap H locs → lv_has ls 11 [(0, .ref (adG g 0)), (1, .int x1), (2, .int x2)] → W p l e (rmS 5) s m args below meth c H locs 0 0 (MQ below (QiS wkM g Rz.1 Rz.2) args s 0 0 (AS wkM g)) (F0 m 58 ls [.int y0]) := by
  intro σ x1 x2 y0 H locs ls h hP hS hl
  obtain ⟨hx, hb, hml, hown, hts, hr, hlk, hK, hZ⟩ := id C
  unfold fX10_drawn_j58 at h
  refine lv_istore (lv' := [(4, .int y0), (0, .ref (adG g 0)), (1, .int x1), (2, .int x2)]) hx hb dX10_drawn_58 hl (by decide) rfl (fun ls hl => ?_)
  refine lv_iload_n hx hb dX10_drawn_60 rfl (lv_at hl 3 rfl) ?_
  refine lv_i2l hx hb dX10_drawn_61 rfl ?_
  refine lv_lstore (lv' := [(5, .long x2.toInt64), (4, .int y0), (0, .ref (adG g 0)), (1, .int x1), (2, .int x2)]) hx hb dX10_drawn_62 hl (by decide) rfl (fun ls hl => ?_)
  refine lv_iconst (v := 0) hx hb dX10_drawn_64 (by decide) ?_
  refine lv_istore (lv' := [(7, .int (0 : Int32)), (5, .long x2.toInt64), (4, .int y0), (0, .ref (adG g 0)), (1, .int x1), (2, .int x2)]) hx hb dX10_drawn_65 hl (by decide) rfl (fun ls hl => ?_)
  refine lv_iconst (v := 0) hx hb dX10_drawn_67 (by decide) ?_
  refine lv_istore (lv' := [(8, .int (0 : Int32)), (7, .int (0 : Int32)), (5, .long x2.toInt64), (4, .int y0), (0, .ref (adG g 0)), (1, .int x1), (2, .int x2)]) hx hb dX10_drawn_68 hl (by decide) rfl (fun ls hl => ?_)
  exact wfX10_drawn_L70 C fu σ x1 y0 x2.toInt64 (0 : Int32) (0 : Int32) H locs ls h hP hS (lv_sub hl [4, 5, 3, 2, 1, 0] rfl)
