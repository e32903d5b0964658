set_option maxRecDepth 100000 in
set_option maxHeartbeats 4000000 in
theorem ctX10_in {l : Launch} {g : Gw} {σ : Sto} (x0 : Int64) (x2 : Int64) (x4 : Int64) {Rz : Int32} (h : fX10_in x0 x2 x4 = Rz) : MtG l yX10_in cX10_in 6 (some .boolean) 0 wkM g [.long x0, .long x2, .long x4] σ (QiS wkM g σ Rz) := by
  refine mt_of (by decide) (Nat.le_of_ble_eq_true rfl) (fun p e s m below meth c ls H locs C hP hS hl => ?_)
  have C : Cx wkM g p s m _ meth c cX10_in 6 RX10 (some .boolean) := C
  have hl : lv_has ls 6 [(0, .long x0), (2, .long x2), (4, .long x4)] := hl
  obtain ⟨hx, hb, hml, hown, hts, hr, hlk, hK, hZ⟩ := id C
  unfold fX10_in at h
  refine lv_lload_n hx hb dX10_in_0 rfl (lv_at hl 0 rfl) ?_
  refine lv_lload_n hx hb dX10_in_1 rfl (lv_at hl 1 rfl) ?_
  refine W.lcmp hx hb dX10_in_2 ?_
  refine lv_if_lt (tgt := 17) hx hb dX10_in_3 (by decide) (fun c_ => ?_) (fun c_ => ?_)
  · replace h := if_t c_ h
    refine lv_iconst (v := 0) hx hb dX10_in_17 (by decide) ?_
    exact r_retz C hP hS rfl h rfl dX10_in_18
  · replace h := if_f c_ h
    refine lv_lload_n hx hb dX10_in_6 rfl (lv_at hl 0 rfl) ?_
    refine lv_lload hx hb dX10_in_7 (lv_at hl 2 rfl) ?_
    refine W.lcmp hx hb dX10_in_9 ?_
    refine lv_if_gt (tgt := 17) hx hb dX10_in_10 (by decide) (fun c_ => ?_) (fun c_ => ?_)
    · replace h := if_t c_ h
      refine lv_iconst (v := 0) hx hb dX10_in_17 (by decide) ?_
      exact r_retz C hP hS rfl h rfl dX10_in_18
    · replace h := if_f c_ h
      refine lv_iconst (v := 1) hx hb dX10_in_13 (by decide) ?_
      refine lv_goto (tgt := 18) hx hb dX10_in_14 (by decide) ?_
      exact r_retz C hP hS rfl h rfl dX10_in_18

set_option maxRecDepth 100000 in
set_option maxHeartbeats 4000000 in
theorem ctX10_isTwo {l : Launch} {g : Gw} {σ : Sto} (x0 : Int32) {Rz : Int32} (h : fX10_isTwo x0 = Rz) : MtG l yX10_isTwo cX10_isTwo 1 (some .boolean) 1 wkM g [.int x0] σ (QiS wkM g σ Rz) := by
  refine mt_of (by decide) (Nat.le_of_ble_eq_true rfl) (fun p e s m below meth c ls H locs C hP hS hl => ?_)
  have C : Cx wkM g p s m _ meth c cX10_isTwo 1 RX10 (some .boolean) := C
  have hl : lv_has ls 1 [(0, .int x0)] := hl
  obtain ⟨hx, hb, hml, hown, hts, hr, hlk, hK, hZ⟩ := id C
  unfold fX10_isTwo at h
  refine lv_iload_n hx hb dX10_isTwo_0 rfl (lv_at hl 0 rfl) ?_
  refine lv_i2l hx hb dX10_isTwo_1 rfl ?_
  refine lv_lconst (v := 0) hx hb dX10_isTwo_2 (by decide) ?_
  refine lv_lconst (v := 1) hx hb dX10_isTwo_3 (by decide) ?_
  refine end_i (run_s (As := [.long x0.toInt64, .long (0 : Int64), .long (1 : Int64)]) (rest := []) C ca_X10_in (ctX10_in x0.toInt64 (0 : Int64) (1 : Int64) rfl) tw_193 ⟨Nat.le_of_ble_eq_true rfl, Nat.le_of_ble_eq_true rfl⟩ rfl hl.1 (Nat.le_of_ble_eq_true rfl) ⟨Nat.le_refl _, Nat.le_refl _⟩ hP hS dX10_isTwo_4) hS (fun H locs hP hS => ?_)
  exact r_retz C hP hS rfl h (nbX10_in _ _ _) dX10_isTwo_7

set_option maxRecDepth 100000 in
set_option maxHeartbeats 4000000 in
theorem ctX10_has {l : Launch} {g : Gw} {σ : Sto} (x0 : Int32) (x1 : Int32) {Rz : Int32} (h : fX10_has x0 x1 = Rz) : MtG l yX10_has cX10_has 2 (some .boolean) 0 wkM g [.int x0, .int x1] σ (QiS wkM g σ Rz) := by
  refine mt_of (by decide) (Nat.le_of_ble_eq_true rfl) (fun p e s m below meth c ls H locs C hP hS hl => ?_)
  have C : Cx wkM g p s m _ meth c cX10_has 2 RX10 (some .boolean) := C
  have hl : lv_has ls 2 [(0, .int x0), (1, .int x1)] := hl
  obtain ⟨hx, hb, hml, hown, hts, hr, hlk, hK, hZ⟩ := id C
  unfold fX10_has at h
  refine lv_iload_n hx hb dX10_has_0 rfl (lv_at hl 0 rfl) ?_
  refine lv_iload_n hx hb dX10_has_1 rfl (lv_at hl 1 rfl) ?_
  refine lv_ishr hx hb dX10_has_2 ?_
  refine lv_iconst (v := 1) hx hb dX10_has_3 (by decide) ?_
  refine lv_iand hx hb dX10_has_4 ?_
  refine lv_iconst (v := 1) hx hb dX10_has_5 (by decide) ?_
  refine lv_icmp_ne (tgt := 13) hx hb dX10_has_6 (by decide) (fun c_ => ?_) (fun c_ => ?_)
  · replace h := if_f c_ h
    refine lv_iconst (v := 0) hx hb dX10_has_13 (by decide) ?_
    exact r_retz C hP hS rfl h rfl dX10_has_14
  · replace h := if_t c_ h
    refine lv_iconst (v := 1) hx hb dX10_has_9 (by decide) ?_
    refine lv_goto (tgt := 14) hx hb dX10_has_10 (by decide) ?_
    exact r_retz C hP hS rfl h rfl dX10_has_14

set_option maxRecDepth 100000 in
set_option maxHeartbeats 4000000 in
theorem ctX10_less {l : Launch} {g : Gw} {σ : Sto} (x0 : Int32) (x1 : Int32) {Rz : Int32} (h : fX10_less x0 x1 = Rz) : MtG l yX10_less cX10_less 2 (some .int) 0 wkM g [.int x0, .int x1] σ (QiS wkM g σ Rz) := by
  refine mt_of (by decide) (Nat.le_of_ble_eq_true rfl) (fun p e s m below meth c ls H locs C hP hS hl => ?_)
  have C : Cx wkM g p s m _ meth c cX10_less 2 RX10 (some .int) := C
  have hl : lv_has ls 2 [(0, .int x0), (1, .int x1)] := hl
  obtain ⟨hx, hb, hml, hown, hts, hr, hlk, hK, hZ⟩ := id C
  unfold fX10_less at h
  refine lv_iload_n hx hb dX10_less_0 rfl (lv_at hl 0 rfl) ?_
  refine lv_iload_n hx hb dX10_less_1 rfl (lv_at hl 1 rfl) ?_
  refine lv_icmp_ge (tgt := 9) hx hb dX10_less_2 (by decide) (fun c_ => ?_) (fun c_ => ?_)
  · replace h := if_t c_ h
    refine lv_iload_n hx hb dX10_less_9 rfl (lv_at hl 1 rfl) ?_
    exact r_reti C hP hS rfl h dX10_less_10
  · replace h := if_f c_ h
    refine lv_iload_n hx hb dX10_less_5 rfl (lv_at hl 0 rfl) ?_
    refine lv_goto (tgt := 10) hx hb dX10_less_6 (by decide) ?_
    exact r_reti C hP hS rfl h dX10_less_10

set_option maxRecDepth 100000 in
set_option maxHeartbeats 4000000 in
theorem wfX10_bits_L4 {l : Launch} {g : Gw} {p : Program} {e : Env} {s : State} {m : MethodId} {args : Array Value} {below : List Frame} {meth : Method} {c : Code} {σ : Sto} (C : Cx wkM g p s m args meth c cX10_bits 3 RX10 (some .int)) {Rz : Int32} : ∀ (n : Nat) (x1 : Int32) (x2 : Int32) (H : Heap) (locs : List Loc) (ls : Array Slot), fX10_bits_L4 n x1 x2 = some Rz → wS wkM g σ H → va_S (AS wkM g) s.heap H locs → lv_has ls 3 [(1, .int x1), (2, .int x2)] → W p l e (rmS 0) s m args below meth c H locs 0 0 (MQ below (QiS wkM g σ Rz) args s 0 0 (AS wkM g)) (F0 m 4 ls []) := by
  intro n
  induction n with
  | zero =>
    intro x1 x2 H locs ls h
    cases h
  | succ n ih =>
    intro x1 x2 H locs ls h hP hS hl
    obtain ⟨hx, hb, hml, hown, hts, hr, hlk, hK, hZ⟩ := id C
    rw [fX10_bits_L4] at h
    refine lv_iload_n hx hb dX10_bits_4 rfl (lv_at hl 1 rfl) ?_
    refine lv_if_eq (tgt := 20) hx hb dX10_bits_5 (by decide) (fun c_ => ?_) (fun c_ => ?_)
    · replace h := if_t c_ h
      refine lv_iload_n hx hb dX10_bits_20 rfl (lv_at hl 0 rfl) ?_
      exact r_reti C hP hS rfl (rt_o h) dX10_bits_21
    · replace h := if_f c_ h
      obtain ⟨x_1, ex_1⟩ : ∃ y : Int32, y = x1 + (1 : Int32) := ⟨_, rfl⟩
      replace h := un_at ex_1 h
      refine lv_iinc (v := x_1) (lv' := [(1, .int x_1), (2, .int x2)]) hx hb dX10_bits_8 hl (k := 0) rfl (by rw [ex_1]; rfl) (by decide) rfl (fun ls hl => ?_)
      refine lv_iload_n hx hb dX10_bits_11 rfl (lv_at hl 1 rfl) ?_
      refine lv_iload_n hx hb dX10_bits_12 rfl (lv_at hl 1 rfl) ?_
      refine lv_iconst (v := 1) hx hb dX10_bits_13 (by decide) ?_
      refine lv_isub hx hb dX10_bits_14 ?_
      refine lv_iand hx hb dX10_bits_15 ?_
      refine lv_topi (fun x_2 ex_2 => ?_)
      replace h := un_at ex_2 h
      refine lv_istore_n (lv' := [(2, .int x_2), (1, .int x_1)]) hx hb dX10_bits_16 rfl hl (by decide) rfl (fun ls hl => ?_)
      refine lv_goto (tgt := 4) hx hb dX10_bits_17 (by decide) ?_
      exact ih x_1 x_2 H locs ls h hP hS (lv_sub hl [1, 0] rfl)

set_option maxRecDepth 100000 in
set_option maxHeartbeats 4000000 in
theorem ctX10_bits {l : Launch} {g : Gw} {σ : Sto} (x0 : Int32) {Rz : Int32} (h : fX10_bits x0 = some Rz) : MtG l yX10_bits cX10_bits 3 (some .int) 0 wkM g [.int x0] σ (QiS wkM g σ Rz) := by
  refine mt_of (by decide) (Nat.le_of_ble_eq_true rfl) (fun p e s m below meth c ls H locs C hP hS hl => ?_)
  have C : Cx wkM g p s m _ meth c cX10_bits 3 RX10 (some .int) := C
  have hl : lv_has ls 3 [(0, .int x0)] := hl
  obtain ⟨hx, hb, hml, hown, hts, hr, hlk, hK, hZ⟩ := id C
  unfold fX10_bits at h
  refine lv_iconst (v := 0) hx hb dX10_bits_0 (by decide) ?_
  refine lv_istore_n (lv' := [(1, .int (0 : Int32)), (0, .int x0)]) hx hb dX10_bits_1 rfl hl (by decide) rfl (fun ls hl => ?_)
  refine lv_iload_n hx hb dX10_bits_2 rfl (lv_at hl 1 rfl) ?_
  refine lv_istore_n (lv' := [(2, .int x0), (1, .int (0 : Int32)), (0, .int x0)]) hx hb dX10_bits_3 rfl hl (by decide) rfl (fun ls hl => ?_)
  exact wfX10_bits_L4 C fu (0 : Int32) x0 H locs ls h hP hS (lv_sub hl [1, 0] rfl)

set_option maxRecDepth 100000 in
set_option maxHeartbeats 4000000 in
theorem wfX10_copies_L3 {l : Launch} {g : Gw} {p : Program} {e : Env} {s : State} {m : MethodId} {args : Array Value} {below : List Frame} {meth : Method} {c : Code} (C : Cx wkM g p s m args meth c cX10_copies 5 RX10 none) (a0 : Nat) (hv0 : isT a0) (a2 : Nat) (hv2 : isT a2) {Rz : Sto} : ∀ (n : Nat) (σ : Sto) (x1 : Int32) (x3 : Int32) (x4 : Int32) (H : Heap) (locs : List Loc) (ls : Array Slot), fX10_copies_L3 a0 a2 n σ x1 x3 x4 = some Rz → wS wkM g σ H → va_S (AS wkM g) s.heap H locs → lv_has ls 5 [(0, .ref (adG g a0)), (1, .int x1), (2, .ref (adG g a2)), (3, .int x3), (4, .int x4)] → W p l e (rmS 0) s m args below meth c H locs 0 0 (MQ below (QvS wkM g Rz) args s 0 0 (AS wkM g)) (F0 m 3 ls []) := by
  intro n
  induction n with
  | zero =>
    intro σ x1 x3 x4 H locs ls h
    cases h
  | succ n ih =>
    intro σ x1 x3 x4 H locs ls h hP hS hl
    obtain ⟨hx, hb, hml, hown, hts, hr, hlk, hK, hZ⟩ := id C
    rw [fX10_copies_L3] at h
    refine lv_iload hx hb dX10_copies_3 (lv_at hl 4 rfl) ?_
    refine lv_bipush (v := 59) hx hb dX10_copies_5 (by decide) ?_
    refine lv_icmp_ge (tgt := 28) hx hb dX10_copies_7 (by decide) (fun c_ => ?_) (fun c_ => ?_)
    · replace h := if_t c_ h
      exact r_retv C hP hS (rt_o h) dX10_copies_28
    · replace h := if_f c_ h
      refine lv_aload_n hx hb dX10_copies_10 rfl (lv_at hl 2 rfl) ?_
      refine lv_iload_n hx hb dX10_copies_11 rfl (lv_at hl 3 rfl) ?_
      refine lv_iload hx hb dX10_copies_12 (lv_at hl 4 rfl) ?_
      refine lv_iadd hx hb dX10_copies_14 ?_
      refine lv_aload_n hx hb dX10_copies_15 rfl (lv_at hl 0 rfl) ?_
      refine lv_iload_n hx hb dX10_copies_16 rfl (lv_at hl 1 rfl) ?_
      refine lv_iload hx hb dX10_copies_17 (lv_at hl 4 rfl) ?_
      refine lv_iadd hx hb dX10_copies_19 ?_
      obtain ⟨g_1, h⟩ := gd_inv h
      refine r_iald C hP hv0.1 hv0.2 rfl g_1 dX10_copies_20 ?_
      obtain ⟨g_2, h⟩ := gd_inv h
      refine r_iast C hP hS hv2.1 hv2.2 rfl g_2 dX10_copies_21 (fun H locs σ_3 eσ_3 hP hS => ?_)
      replace h := un_at eσ_3 h
      obtain ⟨x_4, ex_4⟩ : ∃ y : Int32, y = x4 + (1 : Int32) := ⟨_, rfl⟩
      replace h := un_at ex_4 h
      refine lv_iinc (v := x_4) (lv' := [(4, .int x_4), (0, .ref (adG g a0)), (1, .int x1), (2, .ref (adG g a2)), (3, .int x3)]) hx hb dX10_copies_22 hl (k := 4) rfl (by rw [ex_4]; rfl) (by decide) rfl (fun ls hl => ?_)
      refine lv_goto (tgt := 3) hx hb dX10_copies_25 (by decide) ?_
      exact ih σ_3 x1 x3 x_4 H locs ls h hP hS (lv_sub hl [1, 2, 3, 4, 0] rfl)

set_option maxRecDepth 100000 in
set_option maxHeartbeats 4000000 in
theorem ctX10_copies {l : Launch} {g : Gw} {σ : Sto} (a0 : Nat) (hv0 : isT a0) (x1 : Int32) (a2 : Nat) (hv2 : isT a2) (x3 : Int32) {Rz : Sto} (h : fX10_copies σ a0 x1 a2 x3 = some Rz) : MtG l yX10_copies cX10_copies 5 none 0 wkM g [.ref (adG g a0), .int x1, .ref (adG g a2), .int x3] σ (QvS wkM g Rz) := by
  refine mt_of (by decide) (Nat.le_of_ble_eq_true rfl) (fun p e s m below meth c ls H locs C hP hS hl => ?_)
  have C : Cx wkM g p s m _ meth c cX10_copies 5 RX10 none := C
  have hl : lv_has ls 5 [(0, .ref (adG g a0)), (1, .int x1), (2, .ref (adG g a2)), (3, .int x3)] := hl
  obtain ⟨hx, hb, hml, hown, hts, hr, hlk, hK, hZ⟩ := id C
  unfold fX10_copies at h
  refine lv_iconst (v := 0) hx hb dX10_copies_0 (by decide) ?_
  refine lv_istore (lv' := [(4, .int (0 : Int32)), (0, .ref (adG g a0)), (1, .int x1), (2, .ref (adG g a2)), (3, .int x3)]) hx hb dX10_copies_1 hl (by decide) rfl (fun ls hl => ?_)
  exact wfX10_copies_L3 C a0 hv0 a2 hv2 fu σ x1 x3 (0 : Int32) H locs ls h hP hS (lv_sub hl [1, 2, 3, 4, 0] rfl)

set_option maxRecDepth 100000 in
set_option maxHeartbeats 4000000 in
theorem ctX10_found {l : Launch} {g : Gw} {σ : Sto} (x1 : Int32) {Rz : (Sto × Int32)} (h : fX10_found σ x1 = Rz) : MtG l yX10_found cX10_found 2 (some .int) 0 wkM g [.ref (adG g 0), .int x1] σ (QiS wkM g Rz.1 Rz.2) := by
  refine mt_of (by decide) (Nat.le_of_ble_eq_true rfl) (fun p e s m below meth c ls H locs C hP hS hl => ?_)
  have C : Cx wkM g p s m _ meth c cX10_found 2 RX10 (some .int) := C
  have hl : lv_has ls 2 [(0, .ref (adG g 0)), (1, .int x1)] := hl
  obtain ⟨hx, hb, hml, hown, hts, hr, hlk, hK, hZ⟩ := id C
  unfold fX10_found at h
  refine lv_aload_n hx hb dX10_found_0 rfl (lv_at hl 0 rfl) ?_
  refine lv_iload_n hx hb dX10_found_1 rfl (lv_at hl 1 rfl) ?_
  refine r_puti C cf_10 hP hS sm_0 km_0 3 (by decide) rfl rfl rfl tw_200 dX10_found_2 (fun H locs σ_1 eσ_1 hP hS => ?_)
  replace h := un_at eσ_1 h
  refine lv_ldc hx hb hown (hts _ tw_201) dX10_found_5 ?_
  refine lv_iload_n hx hb dX10_found_7 rfl (lv_at hl 1 rfl) ?_
  refine lv_isub hx hb dX10_found_8 ?_
  exact r_reti C hP hS (rt_tw1 h) (rt_tw2 h) dX10_found_9

set_option maxRecDepth 100000 in
set_option maxHeartbeats 4000000 in
theorem ctX10_well {l : Launch} {g : Gw} {σ : Sto} (x1 : Int32) {Rz : (Sto × Int32)} (h : fX10_well σ x1 = Rz) : MtG l yX10_well cX10_well 2 (some .int) 0 wkM g [.ref (adG g 0), .int x1] σ (QiS wkM g Rz.1 Rz.2) := by
  refine mt_of (by decide) (Nat.le_of_ble_eq_true rfl) (fun p e s m below meth c ls H locs C hP hS hl => ?_)
  have C : Cx wkM g p s m _ meth c cX10_well 2 RX10 (some .int) := C
  have hl : lv_has ls 2 [(0, .ref (adG g 0)), (1, .int x1)] := hl
  obtain ⟨hx, hb, hml, hown, hts, hr, hlk, hK, hZ⟩ := id C
  unfold fX10_well at h
  refine lv_aload_n hx hb dX10_well_0 rfl (lv_at hl 0 rfl) ?_
  refine lv_iconst (v := 0) hx hb dX10_well_1 (by decide) ?_
  refine r_puti C cf_10 hP hS sm_0 km_0 3 (by decide) rfl rfl rfl tw_200 dX10_well_2 (fun H locs σ_1 eσ_1 hP hS => ?_)
  replace h := un_at eσ_1 h
  refine lv_iload_n hx hb dX10_well_5 rfl (lv_at hl 1 rfl) ?_
  exact r_reti C hP hS (rt_tw1 h) (rt_tw2 h) dX10_well_6

set_option maxRecDepth 100000 in
set_option maxHeartbeats 4000000 in
theorem ctX10_isRow {l : Launch} {g : Gw} {σ : Sto} (x0 : Int32) {Rz : Int32} (h : fX10_isRow x0 = Rz) : MtG l yX10_isRow cX10_isRow 1 (some .boolean) 1 wkM g [.int x0] σ (QiS wkM g σ Rz) := by
  refine mt_of (by decide) (Nat.le_of_ble_eq_true rfl) (fun p e s m below meth c ls H locs C hP hS hl => ?_)
  have C : Cx wkM g p s m _ meth c cX10_isRow 1 RX10 (some .boolean) := C
  have hl : lv_has ls 1 [(0, .int x0)] := hl
  obtain ⟨hx, hb, hml, hown, hts, hr, hlk, hK, hZ⟩ := id C
  unfold fX10_isRow at h
  refine lv_iload_n hx hb dX10_isRow_0 rfl (lv_at hl 0 rfl) ?_
  refine lv_i2l hx hb dX10_isRow_1 rfl ?_
  refine lv_lconst (v := 0) hx hb dX10_isRow_2 (by decide) ?_
  refine lv_ldc2 hx hb hown (hts _ tw_192) dX10_isRow_3 ?_
  refine end_i (run_s (As := [.long x0.toInt64, .long (0 : Int64), .long (7 : Int64)]) (rest := []) C ca_X10_in (ctX10_in x0.toInt64 (0 : Int64) (7 : Int64) rfl) tw_193 ⟨Nat.le_of_ble_eq_true rfl, Nat.le_of_ble_eq_true rfl⟩ rfl hl.1 (Nat.le_of_ble_eq_true rfl) ⟨Nat.le_refl _, Nat.le_refl _⟩ hP hS dX10_isRow_6) hS (fun H locs hP hS => ?_)
  exact r_retz C hP hS rfl h (nbX10_in _ _ _) dX10_isRow_9

set_option maxRecDepth 100000 in
set_option maxHeartbeats 4000000 in
theorem wfX10_row_L55 {l : Launch} {g : Gw} {p : Program} {e : Env} {s : State} {m : MethodId} {args : Array Value} {below : List Frame} {meth : Method} {c : Code} (C : Cx wkM g p s m args meth c cX10_row 5 RX10 (some .int)) {Rz : (Sto × Int32)} : ∀ (n : Nat) (σ : Sto) (x1 : Int32) (x3 : Int32) (x4 : Int32) (H : Heap) (locs : List Loc) (ls : Array Slot), fX10_row_L55 n σ x1 x3 x4 = some Rz → wS wkM g σ H → va_S (AS wkM g) s.heap H locs → lv_has ls 5 [(0, .ref (adG g 0)), (1, .int x1), (3, .int x3), (4, .int x4)] → W p l e (rmS 2) s m args below meth c H locs 0 0 (MQ below (QiS wkM g Rz.1 Rz.2) args s 0 0 (AS wkM g)) (F0 m 55 ls []) := by
  intro n
  induction n with
  | zero =>
    intro σ x1 x3 x4 H locs ls h
    cases h
  | succ n ih =>
    intro σ x1 x3 x4 H locs ls h hP hS hl
    obtain ⟨hx, hb, hml, hown, hts, hr, hlk, hK, hZ⟩ := id C
    rw [fX10_row_L55] at h
    refine lv_iload hx hb dX10_row_55 (lv_at hl 3 rfl) ?_
    refine lv_bipush (v := 40) hx hb dX10_row_57 (by decide) ?_
    refine lv_icmp_ge (tgt := 81) hx hb dX10_row_59 (by decide) (fun c_ => ?_) (fun c_ => ?_)
    · replace h := if_t c_ h
      refine lv_aload_n hx hb dX10_row_81 rfl (lv_at hl 0 rfl) ?_
      refine lv_iload_n hx hb dX10_row_82 rfl (lv_at hl 2 rfl) ?_
      obtain ⟨q_1, eq_1⟩ : ∃ z, z = fX10_well σ x3 := ⟨_, rfl⟩
      replace h := un_at eq_1 h
      refine end_i (run_v (As := [.int x3]) (rest := []) C ca_X10_well (ctX10_well x3 eq_1.symm) cf_10 sm_0 km_0 tw_202 ⟨Nat.le_of_ble_eq_true rfl, Nat.le_of_ble_eq_true rfl⟩ rfl hl.1 (Nat.le_of_ble_eq_true rfl) ⟨Nat.le_refl _, Nat.le_refl _⟩ hP hS dX10_row_83) hS (fun H locs hP hS => ?_)
      exact r_reti C hP hS (rt_ow1 h) (rt_ow2 h) dX10_row_86
    · replace h := if_f c_ h
      refine lv_aload_n hx hb dX10_row_62 rfl (lv_at hl 0 rfl) ?_
      refine r_getr C cf_10 hP sm_0 km_0 2 (by decide) rfl tw_146 dX10_row_63 ?_
      refine lv_bipush (v := 40) hx hb dX10_row_66 (by decide) ?_
      refine lv_iload_n hx hb dX10_row_68 rfl (lv_at hl 1 rfl) ?_
      refine lv_imul hx hb dX10_row_69 ?_
      refine lv_iload hx hb dX10_row_70 (lv_at hl 3 rfl) ?_
      refine lv_iadd hx hb dX10_row_72 ?_
      refine lv_iconst (v := 0) hx hb dX10_row_73 (by decide) ?_
      obtain ⟨g_2, h⟩ := gd_inv h
      refine r_iast C hP hS sm_3 km_3 rfl g_2 dX10_row_74 (fun H locs σ_3 eσ_3 hP hS => ?_)
      replace h := un_at eσ_3 h
      obtain ⟨x_4, ex_4⟩ : ∃ y : Int32, y = x4 + (1 : Int32) := ⟨_, rfl⟩
      replace h := un_at ex_4 h
      refine lv_iinc (v := x_4) (lv' := [(4, .int x_4), (0, .ref (adG g 0)), (1, .int x1), (3, .int x3)]) hx hb dX10_row_75 hl (k := 3) rfl (by rw [ex_4]; rfl) (by decide) rfl (fun ls hl => ?_)
      refine lv_goto (tgt := 55) hx hb dX10_row_78 (by decide) ?_
      exact ih σ_3 x1 x3 x_4 H locs ls h hP hS (lv_sub hl [1, 2, 3, 0] rfl)

set_option maxRecDepth 100000 in
set_option maxHeartbeats 4000000 in
theorem ctX10_row {l : Launch} {g : Gw} {σ : Sto} (x1 : Int32) (x2 : Int32) (x3 : Int32) {Rz : (Sto × Int32)} (h : fX10_row σ x1 x2 x3 = some Rz) : MtG l yX10_row cX10_row 5 (some .int) 2 wkM g [.ref (adG g 0), .int x1, .int x2, .int x3] σ (QiS wkM g Rz.1 Rz.2) := by
  refine mt_of (by decide) (Nat.le_of_ble_eq_true rfl) (fun p e s m below meth c ls H locs C hP hS hl => ?_)
  have C : Cx wkM g p s m _ meth c cX10_row 5 RX10 (some .int) := C
  have hl : lv_has ls 5 [(0, .ref (adG g 0)), (1, .int x1), (2, .int x2), (3, .int x3)] := hl
  obtain ⟨hx, hb, hml, hown, hts, hr, hlk, hK, hZ⟩ := id C
  unfold fX10_row at h
  refine lv_iload_n hx hb dX10_row_0 rfl (lv_at hl 1 rfl) ?_
  refine end_i (run_s (As := [.int x1]) (rest := []) C ca_X10_isRow (ctX10_isRow x1 rfl) tw_189 ⟨Nat.le_of_ble_eq_true rfl, Nat.le_of_ble_eq_true rfl⟩ rfl hl.1 (Nat.le_of_ble_eq_true rfl) ⟨Nat.le_refl _, Nat.le_refl _⟩ hP hS dX10_row_1) hS (fun H locs hP hS => ?_)
  refine lv_if_eq (tgt := 25) hx hb dX10_row_4 (by decide) (fun c_ => ?_) (fun c_ => ?_)
  · replace h := if_t c_ h
    refine lv_ldc hx hb hown (hts _ tw_188) dX10_row_25 ?_
    exact r_reti C hP hS (rt_ow1 h) (rt_ow2 h) dX10_row_27
  · replace h := if_f c_ h
    refine lv_iload_n hx hb dX10_row_7 rfl (lv_at hl 2 rfl) ?_
    refine lv_i2l hx hb dX10_row_8 rfl ?_
    refine lv_lconst (v := 0) hx hb dX10_row_9 (by decide) ?_
    refine lv_ldc2 hx hb hown (hts _ tw_187) dX10_row_10 ?_
    refine end_i (run_s (As := [.long x2.toInt64, .long (0 : Int64), .long (2 : Int64)]) (rest := []) C ca_X10_in (ctX10_in x2.toInt64 (0 : Int64) (2 : Int64) rfl) tw_193 ⟨Nat.le_of_ble_eq_true rfl, Nat.le_of_ble_eq_true rfl⟩ rfl hl.1 (Nat.le_of_ble_eq_true rfl) ⟨Nat.le_refl _, Nat.le_refl _⟩ hP hS dX10_row_13) hS (fun H locs hP hS => ?_)
    refine lv_if_eq (tgt := 25) hx hb dX10_row_16 (by decide) (fun c_ => ?_) (fun c_ => ?_)
    · replace h := if_t c_ h
      refine lv_ldc hx hb hown (hts _ tw_188) dX10_row_25 ?_
      exact r_reti C hP hS (rt_ow1 h) (rt_ow2 h) dX10_row_27
    · replace h := if_f c_ h
      refine lv_iload_n hx hb dX10_row_19 rfl (lv_at hl 3 rfl) ?_
      refine lv_bipush (v := 40) hx hb dX10_row_20 (by decide) ?_
      refine lv_icmp_le (tgt := 28) hx hb dX10_row_22 (by decide) (fun c_ => ?_) (fun c_ => ?_)
      · replace h := if_t c_ h
        refine lv_iload_n hx hb dX10_row_28 rfl (lv_at hl 3 rfl) ?_
        refine lv_if_ge (tgt := 38) hx hb dX10_row_29 (by decide) (fun c_ => ?_) (fun c_ => ?_)
        · replace h := if_t c_ h
          refine lv_aload_n hx hb dX10_row_38 rfl (lv_at hl 0 rfl) ?_
          refine r_getr C cf_10 hP sm_0 km_0 0 (by decide) rfl tw_144 dX10_row_39 ?_
          refine lv_iload_n hx hb dX10_row_42 rfl (lv_at hl 1 rfl) ?_
          refine lv_iload_n hx hb dX10_row_43 rfl (lv_at hl 2 rfl) ?_
          obtain ⟨g_3, h⟩ := gd_inv h
          refine r_iast C hP hS sm_1 km_1 rfl g_3 dX10_row_44 (fun H locs σ_4 eσ_4 hP hS => ?_)
          replace h := un_at eσ_4 h
          refine lv_aload_n hx hb dX10_row_45 rfl (lv_at hl 0 rfl) ?_
          refine r_getr C cf_10 hP sm_0 km_0 1 (by decide) rfl tw_145 dX10_row_46 ?_
          refine lv_iload_n hx hb dX10_row_49 rfl (lv_at hl 1 rfl) ?_
          refine lv_iload_n hx hb dX10_row_50 rfl (lv_at hl 3 rfl) ?_
          refine r_iast C hP hS sm_2 km_2 rfl g_3 dX10_row_51 (fun H locs σ_5 eσ_5 hP hS => ?_)
          replace h := un_at eσ_5 h
          refine lv_iconst (v := 0) hx hb dX10_row_52 (by decide) ?_
          refine lv_istore (lv' := [(4, .int (0 : Int32)), (0, .ref (adG g 0)), (1, .int x1), (2, .int x2), (3, .int x3)]) hx hb dX10_row_53 hl (by decide) rfl (fun ls hl => ?_)
          exact wfX10_row_L55 C fu σ_5 x1 x3 (0 : Int32) H locs ls h hP hS (lv_sub hl [1, 2, 4, 0] rfl)
        · replace h := if_f c_ h
          refine lv_aload_n hx hb dX10_row_32 rfl (lv_at hl 0 rfl) ?_
          refine lv_iconst (v := 4) hx hb dX10_row_33 (by decide) ?_
          obtain ⟨q_6, eq_6⟩ : ∃ z, z = fX10_found σ (4 : Int32) := ⟨_, rfl⟩
          replace h := un_at eq_6 h
          refine end_i (run_v (As := [.int (4 : Int32)]) (rest := []) C ca_X10_found (ctX10_found (4 : Int32) eq_6.symm) cf_10 sm_0 km_0 tw_196 ⟨Nat.le_of_ble_eq_true rfl, Nat.le_of_ble_eq_true rfl⟩ rfl hl.1 (Nat.le_of_ble_eq_true rfl) ⟨Nat.le_refl _, Nat.le_refl _⟩ hP hS dX10_row_34) hS (fun H locs hP hS => ?_)
          exact r_reti C hP hS (rt_ow1 h) (rt_ow2 h) dX10_row_37
      · replace h := if_f c_ h
        refine lv_ldc hx hb hown (hts _ tw_188) dX10_row_25 ?_
        exact r_reti C hP hS (rt_ow1 h) (rt_ow2 h) dX10_row_27

set_option maxRecDepth 100000 in
set_option maxHeartbeats 4000000 in
theorem wfX10_set_j89 {l : Launch} {g : Gw} {p : Program} {e : Env} {s : State} {m : MethodId} {args : Array Value} {below : List Frame} {meth : Method} {c : Code} (C : Cx wkM g p s m args meth c cX10_set 4 RX10 (some .int)) {Rz : (Sto × Int32)} : ∀ (σ : Sto) (x1 : Int32) (x2 : Int32) (y1 : Int32) (y2 : Int32) (H : Heap) (locs : List Loc) (ls : Array Slot), fX10_set_j89 σ x1 x2 y1 y2 = some Rz → wS wkM g σ H → va_S (AS wkM g) s.heap H locs → lv_has ls 4 [(0, .ref (adG g 0)), (1, .int x1), (2, .int x2)] → W p l e (rmS 2) s m args below meth c H locs 0 0 (MQ below (QiS wkM g Rz.1 Rz.2) args s 0 0 (AS wkM g)) (F0 m 89 ls [.int y2, .int y1, .ref (adG g 3)]) := by
  intro σ x1 x2 y1 y2 H locs ls h hP hS hl
  obtain ⟨hx, hb, hml, hown, hts, hr, hlk, hK, hZ⟩ := id C
  unfold fX10_set_j89 at h
  obtain ⟨g_1, h⟩ := gd_inv h
  refine r_iast C hP hS sm_3 km_3 rfl g_1 dX10_set_89 (fun H locs σ_2 eσ_2 hP hS => ?_)
  replace h := un_at eσ_2 h
  refine lv_aload_n hx hb dX10_set_90 rfl (lv_at hl 0 rfl) ?_
  refine lv_aload_n hx hb dX10_set_91 rfl (lv_at hl 0 rfl) ?_
  refine r_getr C cf_10 hP sm_0 km_0 2 (by decide) rfl tw_146 dX10_set_92 ?_
  refine lv_bipush (v := 40) hx hb dX10_set_95 (by decide) ?_
  refine lv_iload_n hx hb dX10_set_97 rfl (lv_at hl 1 rfl) ?_
  refine lv_imul hx hb dX10_set_98 ?_
  refine lv_iload_n hx hb dX10_set_99 rfl (lv_at hl 2 rfl) ?_
  refine lv_iadd hx hb dX10_set_100 ?_
  obtain ⟨g_3, h⟩ := gd_inv h
  refine r_iald C hP sm_3 km_3 rfl g_3 dX10_set_101 ?_
  obtain ⟨q_4, eq_4⟩ : ∃ z, z = fX10_well σ_2 (σ_2 3 (((40 : Int32) * x1) + x2).toNatClampNeg) := ⟨_, rfl⟩
  replace h := un_at eq_4 h
  refine end_i (run_v (As := [.int (σ_2 3 (((40 : Int32) * x1) + x2).toNatClampNeg)]) (rest := []) C ca_X10_well (ctX10_well (σ_2 3 (((40 : Int32) * x1) + x2).toNatClampNeg) eq_4.symm) cf_10 sm_0 km_0 tw_202 ⟨Nat.le_of_ble_eq_true rfl, Nat.le_of_ble_eq_true rfl⟩ rfl hl.1 (Nat.le_of_ble_eq_true rfl) ⟨Nat.le_refl _, Nat.le_refl _⟩ hP hS dX10_set_102) hS (fun H locs hP hS => ?_)
  exact r_reti C hP hS (rt_ow1 h) (rt_ow2 h) dX10_set_105

set_option maxRecDepth 100000 in
set_option maxHeartbeats 4000000 in
theorem ctX10_set {l : Launch} {g : Gw} {σ : Sto} (x1 : Int32) (x2 : Int32) (x3 : Int32) {Rz : (Sto × Int32)} (h : fX10_set σ x1 x2 x3 = some Rz) : MtG l yX10_set cX10_set 4 (some .int) 2 wkM g [.ref (adG g 0), .int x1, .int x2, .int x3] σ (QiS wkM g Rz.1 Rz.2) := by
  refine mt_of (by decide) (Nat.le_of_ble_eq_true rfl) (fun p e s m below meth c ls H locs C hP hS hl => ?_)
  have C : Cx wkM g p s m _ meth c cX10_set 4 RX10 (some .int) := C
  have hl : lv_has ls 4 [(0, .ref (adG g 0)), (1, .int x1), (2, .int x2), (3, .int x3)] := hl
  obtain ⟨hx, hb, hml, hown, hts, hr, hlk, hK, hZ⟩ := id C
  unfold fX10_set at h
  refine lv_iload_n hx hb dX10_set_0 rfl (lv_at hl 1 rfl) ?_
  refine end_i (run_s (As := [.int x1]) (rest := []) C ca_X10_isRow (ctX10_isRow x1 rfl) tw_189 ⟨Nat.le_of_ble_eq_true rfl, Nat.le_of_ble_eq_true rfl⟩ rfl hl.1 (Nat.le_of_ble_eq_true rfl) ⟨Nat.le_refl _, Nat.le_refl _⟩ hP hS dX10_set_1) hS (fun H locs hP hS => ?_)
  refine lv_if_ne (tgt := 10) hx hb dX10_set_4 (by decide) (fun c_ => ?_) (fun c_ => ?_)
  · replace h := if_f c_ h
    refine lv_aload_n hx hb dX10_set_10 rfl (lv_at hl 0 rfl) ?_
    refine r_getr C cf_10 hP sm_0 km_0 1 (by decide) rfl tw_145 dX10_set_11 ?_
    refine lv_iload_n hx hb dX10_set_14 rfl (lv_at hl 1 rfl) ?_
    obtain ⟨g_2, h⟩ := gd_inv h
    refine r_iald C hP sm_2 km_2 rfl g_2 dX10_set_15 ?_
    refine lv_if_ge (tgt := 25) hx hb dX10_set_16 (by decide) (fun c_ => ?_) (fun c_ => ?_)
    · replace h := if_t c_ h
      refine lv_iload_n hx hb dX10_set_25 rfl (lv_at hl 2 rfl) ?_
      refine lv_i2l hx hb dX10_set_26 rfl ?_
      refine lv_lconst (v := 0) hx hb dX10_set_27 (by decide) ?_
      refine lv_aload_n hx hb dX10_set_28 rfl (lv_at hl 0 rfl) ?_
      refine r_getr C cf_10 hP sm_0 km_0 1 (by decide) rfl tw_145 dX10_set_29 ?_
      refine lv_iload_n hx hb dX10_set_32 rfl (lv_at hl 1 rfl) ?_
      refine r_iald C hP sm_2 km_2 rfl g_2 dX10_set_33 ?_
      refine lv_iconst (v := 1) hx hb dX10_set_34 (by decide) ?_
      refine lv_isub hx hb dX10_set_35 ?_
      refine lv_i2l hx hb dX10_set_36 rfl ?_
      refine end_i (run_s (As := [.long x2.toInt64, .long (0 : Int64), .long (((σ 2 x1.toNatClampNeg) - (1 : Int32)).toInt64)]) (rest := []) C ca_X10_in (ctX10_in x2.toInt64 (0 : Int64) (((σ 2 x1.toNatClampNeg) - (1 : Int32)).toInt64) rfl) tw_193 ⟨Nat.le_of_ble_eq_true rfl, Nat.le_of_ble_eq_true rfl⟩ rfl hl.1 (Nat.le_of_ble_eq_true rfl) ⟨Nat.le_refl _, Nat.le_refl _⟩ hP hS dX10_set_37) hS (fun H locs hP hS => ?_)
      refine lv_if_ne (tgt := 49) hx hb dX10_set_40 (by decide) (fun c_ => ?_) (fun c_ => ?_)
      · replace h := if_f c_ h
        refine lv_aload_n hx hb dX10_set_49 rfl (lv_at hl 0 rfl) ?_
        refine r_getr C cf_10 hP sm_0 km_0 2 (by decide) rfl tw_146 dX10_set_50 ?_
        refine lv_bipush (v := 40) hx hb dX10_set_53 (by decide) ?_
        refine lv_iload_n hx hb dX10_set_55 rfl (lv_at hl 1 rfl) ?_
        refine lv_imul hx hb dX10_set_56 ?_
        refine lv_iload_n hx hb dX10_set_57 rfl (lv_at hl 2 rfl) ?_
        refine lv_iadd hx hb dX10_set_58 ?_
        refine lv_aload_n hx hb dX10_set_59 rfl (lv_at hl 0 rfl) ?_
        refine r_getr C cf_10 hP sm_0 km_0 0 (by decide) rfl tw_144 dX10_set_60 ?_
        refine lv_iload_n hx hb dX10_set_63 rfl (lv_at hl 1 rfl) ?_
        refine r_iald C hP sm_1 km_1 rfl g_2 dX10_set_64 ?_
        refine lv_if_ne (tgt := 73) hx hb dX10_set_65 (by decide) (fun c_ => ?_) (fun c_ => ?_)
        · replace h := if_f c_ h
          refine lv_aload_n hx hb dX10_set_73 rfl (lv_at hl 0 rfl) ?_
          refine r_getr C cf_10 hP sm_0 km_0 0 (by decide) rfl tw_144 dX10_set_74 ?_
          refine lv_iload_n hx hb dX10_set_77 rfl (lv_at hl 1 rfl) ?_
          refine r_iald C hP sm_1 km_1 rfl g_2 dX10_set_78 ?_
          refine lv_iconst (v := 1) hx hb dX10_set_79 (by decide) ?_
          refine lv_icmp_ne (tgt := 88) hx hb dX10_set_80 (by decide) (fun c_ => ?_) (fun c_ => ?_)
          · replace h := if_f c_ h
            refine lv_iload_n hx hb dX10_set_88 rfl (lv_at hl 3 rfl) ?_
            exact wfX10_set_j89 C σ x1 x2 (((40 : Int32) * x1) + x2) x3 H locs ls h hP hS (lv_sub hl [0, 1, 2] rfl)
          · replace h := if_t c_ h
            refine lv_iload_n hx hb dX10_set_83 rfl (lv_at hl 3 rfl) ?_
            refine lv_i2s hx hb dX10_set_84 rfl ?_
            refine lv_goto (tgt := 89) hx hb dX10_set_85 (by decide) ?_
            exact wfX10_set_j89 C σ x1 x2 (((40 : Int32) * x1) + x2) x3.toInt16.toInt32 H locs ls h hP hS (lv_sub hl [0, 1, 2] rfl)
        · replace h := if_t c_ h
          refine lv_iload_n hx hb dX10_set_68 rfl (lv_at hl 3 rfl) ?_
          refine lv_i2b hx hb dX10_set_69 rfl ?_
          refine lv_goto (tgt := 89) hx hb dX10_set_70 (by decide) ?_
          exact wfX10_set_j89 C σ x1 x2 (((40 : Int32) * x1) + x2) x3.toInt8.toInt32 H locs ls h hP hS (lv_sub hl [0, 1, 2] rfl)
      · replace h := if_t c_ h
        refine lv_aload_n hx hb dX10_set_43 rfl (lv_at hl 0 rfl) ?_
        refine lv_iconst (v := 2) hx hb dX10_set_44 (by decide) ?_
        obtain ⟨q_4, eq_4⟩ : ∃ z, z = fX10_found σ (2 : Int32) := ⟨_, rfl⟩
        replace h := un_at eq_4 h
        refine end_i (run_v (As := [.int (2 : Int32)]) (rest := []) C ca_X10_found (ctX10_found (2 : Int32) eq_4.symm) cf_10 sm_0 km_0 tw_196 ⟨Nat.le_of_ble_eq_true rfl, Nat.le_of_ble_eq_true rfl⟩ rfl hl.1 (Nat.le_of_ble_eq_true rfl) ⟨Nat.le_refl _, Nat.le_refl _⟩ hP hS dX10_set_45) hS (fun H locs hP hS => ?_)
        exact r_reti C hP hS (rt_ow1 h) (rt_ow2 h) dX10_set_48
    · replace h := if_f c_ h
      refine lv_aload_n hx hb dX10_set_19 rfl (lv_at hl 0 rfl) ?_
      refine lv_iconst (v := 1) hx hb dX10_set_20 (by decide) ?_
      obtain ⟨q_5, eq_5⟩ : ∃ z, z = fX10_found σ (1 : Int32) := ⟨_, rfl⟩
      replace h := un_at eq_5 h
      refine end_i (run_v (As := [.int (1 : Int32)]) (rest := []) C ca_X10_found (ctX10_found (1 : Int32) eq_5.symm) cf_10 sm_0 km_0 tw_196 ⟨Nat.le_of_ble_eq_true rfl, Nat.le_of_ble_eq_true rfl⟩ rfl hl.1 (Nat.le_of_ble_eq_true rfl) ⟨Nat.le_refl _, Nat.le_refl _⟩ hP hS dX10_set_21) hS (fun H locs hP hS => ?_)
      exact r_reti C hP hS (rt_ow1 h) (rt_ow2 h) dX10_set_24
  · replace h := if_t c_ h
    refine lv_ldc hx hb hown (hts _ tw_188) dX10_set_7 ?_
    exact r_reti C hP hS (rt_ow1 h) (rt_ow2 h) dX10_set_9

set_option maxRecDepth 100000 in
set_option maxHeartbeats 4000000 in
theorem wfX10_copy_j145 {l : Launch} {g : Gw} {p : Program} {e : Env} {s : State} {m : MethodId} {args : Array Value} {below : List Frame} {meth : Method} {c : Code} (C : Cx wkM g p s m args meth c cX10_copy 8 RX10 (some .int)) {Rz : (Sto × Int32)} {k_120 : Sto → Int32 → Int32 → Int32 → Int32 → Int32 → Int32 → Option (Sto × Int32)} : ∀ (σ : Sto) (x1 : Int32) (x2 : Int32) (x3 : Int32) (x4 : Int32) (x5 : Int32) (x6 : Int32) (y0 : Int32) (H : Heap) (locs : List Loc) (ls : Array Slot), fX10_copy_j145 k_120 σ x1 x2 x3 x4 x5 x6 y0 = some Rz → wS wkM g σ H → va_S (AS wkM g) s.heap H locs → lv_has ls 8 [(0, .ref (adG g 0)), (1, .int x1), (2, .int x2), (3, .int x3), (4, .int x4), (5, .int x5), (6, .int x6)] → (∀ (σ : Sto) (x1 : Int32) (x2 : Int32) (x3 : Int32) (x4 : Int32) (x5 : Int32) (x6 : Int32) (H : Heap) (locs : List Loc) (ls : Array Slot), k_120 σ x1 x2 x3 x4 x5 x6 = some Rz → wS wkM g σ H → va_S (AS wkM g) s.heap H locs → lv_has ls 8 [(0, .ref (adG g 0)), (1, .int x1), (2, .int x2), (3, .int x3), (4, .int x4), (5, .int x5), (6, .int x6)] → W p l e (rmS 2) s m args below meth c H locs 0 0 (MQ below (QiS wkM g Rz.1 Rz.2) args s 0 0 (AS wkM g)) (F0 m 120 ls [])) → W p l e (rmS 2) s m args below meth c H locs 0 0 (MQ below (QiS wkM g Rz.1 Rz.2) args s 0 0 (AS wkM g)) (F0 m 145 ls [.int y0]) := by
  intro σ x1 x2 x3 x4 x5 x6 y0 H locs ls h hP hS hl hk_120
  obtain ⟨hx, hb, hml, hown, hts, hr, hlk, hK, hZ⟩ := id C
  unfold fX10_copy_j145 at h
  refine lv_istore (lv' := [(7, .int y0), (0, .ref (adG g 0)), (1, .int x1), (2, .int x2), (3, .int x3), (4, .int x4), (5, .int x5), (6, .int x6)]) hx hb dX10_copy_145 hl (by decide) rfl (fun ls hl => ?_)
  refine lv_aload_n hx hb dX10_copy_147 rfl (lv_at hl 1 rfl) ?_
  refine r_getr C cf_10 hP sm_0 km_0 2 (by decide) rfl tw_146 dX10_copy_148 ?_
  refine lv_bipush (v := 40) hx hb dX10_copy_151 (by decide) ?_
  refine lv_iload_n hx hb dX10_copy_153 rfl (lv_at hl 4 rfl) ?_
  refine lv_imul hx hb dX10_copy_154 ?_
  refine lv_iload hx hb dX10_copy_155 (lv_at hl 5 rfl) ?_
  refine lv_iadd hx hb dX10_copy_157 ?_
  refine lv_iload hx hb dX10_copy_158 (lv_at hl 0 rfl) ?_
  refine lv_iadd hx hb dX10_copy_160 ?_
  refine lv_aload_n hx hb dX10_copy_161 rfl (lv_at hl 1 rfl) ?_
  refine r_getr C cf_10 hP sm_0 km_0 2 (by decide) rfl tw_146 dX10_copy_162 ?_
  refine lv_bipush (v := 40) hx hb dX10_copy_165 (by decide) ?_
  refine lv_iload_n hx hb dX10_copy_167 rfl (lv_at hl 2 rfl) ?_
  refine lv_imul hx hb dX10_copy_168 ?_
  refine lv_iload_n hx hb dX10_copy_169 rfl (lv_at hl 3 rfl) ?_
  refine lv_iadd hx hb dX10_copy_170 ?_
  refine lv_iload hx hb dX10_copy_171 (lv_at hl 0 rfl) ?_
  refine lv_iadd hx hb dX10_copy_173 ?_
  obtain ⟨g_1, h⟩ := gd_inv h
  refine r_iald C hP sm_3 km_3 rfl g_1 dX10_copy_174 ?_
  obtain ⟨g_2, h⟩ := gd_inv h
  refine r_iast C hP hS sm_3 km_3 rfl g_2 dX10_copy_175 (fun H locs σ_3 eσ_3 hP hS => ?_)
  replace h := un_at eσ_3 h
  obtain ⟨x_4, ex_4⟩ : ∃ y : Int32, y = x6 + (1 : Int32) := ⟨_, rfl⟩
  replace h := un_at ex_4 h
  refine lv_iinc (v := x_4) (lv' := [(6, .int x_4), (7, .int y0), (0, .ref (adG g 0)), (1, .int x1), (2, .int x2), (3, .int x3), (4, .int x4), (5, .int x5)]) hx hb dX10_copy_176 hl (k := 7) rfl (by rw [ex_4]; rfl) (by decide) rfl (fun ls hl => ?_)
  refine lv_goto (tgt := 120) hx hb dX10_copy_179 (by decide) ?_
  exact hk_120 σ_3 x1 x2 x3 x4 x5 x_4 H locs ls h hP hS (lv_sub hl [2, 3, 4, 5, 6, 7, 0] rfl)

set_option maxRecDepth 100000 in
set_option maxHeartbeats 4000000 in
theorem wfX10_copy_L120 {l : Launch} {g : Gw} {p : Program} {e : Env} {s : State} {m : MethodId} {args : Array Value} {below : List Frame} {meth : Method} {c : Code} (C : Cx wkM g p s m args meth c cX10_copy 8 RX10 (some .int)) {Rz : (Sto × Int32)} : ∀ (n : Nat) (σ : Sto) (x1 : Int32) (x2 : Int32) (x3 : Int32) (x4 : Int32) (x5 : Int32) (x6 : Int32) (H : Heap) (locs : List Loc) (ls : Array Slot), fX10_copy_L120 n σ x1 x2 x3 x4 x5 x6 = some Rz → wS wkM g σ H → va_S (AS wkM g) s.heap H locs → lv_has ls 8 [(0, .ref (adG g 0)), (1, .int x1), (2, .int x2), (3, .int x3), (4, .int x4), (5, .int x5), (6, .int x6)] → W p l e (rmS 2) s m args below meth c H locs 0 0 (MQ below (QiS wkM g Rz.1 Rz.2) args s 0 0 (AS wkM g)) (F0 m 120 ls []) := by
  intro n
  induction n with
  | zero =>
    intro σ x1 x2 x3 x4 x5 x6 H locs ls h
    cases h
  | succ n ih =>
    intro σ x1 x2 x3 x4 x5 x6 H locs ls h hP hS hl
    obtain ⟨hx, hb, hml, hown, hts, hr, hlk, hK, hZ⟩ := id C
    rw [fX10_copy_L120] at h
    refine lv_iload hx hb dX10_copy_120 (lv_at hl 6 rfl) ?_
    refine lv_iload hx hb dX10_copy_122 (lv_at hl 5 rfl) ?_
    refine lv_icmp_ge (tgt := 182) hx hb dX10_copy_124 (by decide) (fun c_ => ?_) (fun c_ => ?_)
    · replace h := if_t c_ h
      refine lv_aload_n hx hb dX10_copy_182 rfl (lv_at hl 0 rfl) ?_
      refine lv_iload hx hb dX10_copy_183 (lv_at hl 5 rfl) ?_
      obtain ⟨q_1, eq_1⟩ : ∃ z, z = fX10_well σ x5 := ⟨_, rfl⟩
      replace h := un_at eq_1 h
      refine end_i (run_v (As := [.int x5]) (rest := []) C ca_X10_well (ctX10_well x5 eq_1.symm) cf_10 sm_0 km_0 tw_202 ⟨Nat.le_of_ble_eq_true rfl, Nat.le_of_ble_eq_true rfl⟩ rfl hl.1 (Nat.le_of_ble_eq_true rfl) ⟨Nat.le_refl _, Nat.le_refl _⟩ hP hS dX10_copy_185) hS (fun H locs hP hS => ?_)
      exact r_reti C hP hS (rt_ow1 h) (rt_ow2 h) dX10_copy_188
    · replace h := if_f c_ h
      refine lv_iload hx hb dX10_copy_127 (lv_at hl 4 rfl) ?_
      refine lv_iload_n hx hb dX10_copy_129 rfl (lv_at hl 2 rfl) ?_
      refine lv_icmp_le (tgt := 143) hx hb dX10_copy_130 (by decide) (fun c_ => ?_) (fun c_ => ?_)
      · replace h := if_t c_ h
        refine lv_iload hx hb dX10_copy_143 (lv_at hl 6 rfl) ?_
        refine wfX10_copy_j145 C σ x1 x2 x3 x4 x5 x6 x6 H locs ls h hP hS (lv_sub hl [0, 1, 2, 3, 4, 5, 6] rfl) (fun σ_2 z_3 z_4 z_5 z_6 z_7 z_8 H locs ls h hP hS hl => ?_)
        exact ih σ_2 z_3 z_4 z_5 z_6 z_7 z_8 H locs ls h hP hS (lv_sub hl [0, 1, 2, 3, 4, 5, 6] rfl)
      · replace h := if_f c_ h
        refine lv_iload hx hb dX10_copy_133 (lv_at hl 5 rfl) ?_
        refine lv_iconst (v := 1) hx hb dX10_copy_135 (by decide) ?_
        refine lv_isub hx hb dX10_copy_136 ?_
        refine lv_iload hx hb dX10_copy_137 (lv_at hl 6 rfl) ?_
        refine lv_isub hx hb dX10_copy_139 ?_
        refine lv_goto (tgt := 145) hx hb dX10_copy_140 (by decide) ?_
        refine wfX10_copy_j145 C σ x1 x2 x3 x4 x5 x6 ((x5 - (1 : Int32)) - x6) H locs ls h hP hS (lv_sub hl [0, 1, 2, 3, 4, 5, 6] rfl) (fun σ_9 z_10 z_11 z_12 z_13 z_14 z_15 H locs ls h hP hS hl => ?_)
        exact ih σ_9 z_10 z_11 z_12 z_13 z_14 z_15 H locs ls h hP hS (lv_sub hl [0, 1, 2, 3, 4, 5, 6] rfl)

set_option maxRecDepth 100000 in
set_option maxHeartbeats 4000000 in
theorem ctX10_copy {l : Launch} {g : Gw} {σ : Sto} (x1 : Int32) (x2 : Int32) (x3 : Int32) (x4 : Int32) (x5 : Int32) {Rz : (Sto × Int32)} (h : fX10_copy σ x1 x2 x3 x4 x5 = some Rz) : MtG l yX10_copy cX10_copy 8 (some .int) 2 wkM g [.ref (adG g 0), .int x1, .int x2, .int x3, .int x4, .int x5] σ (QiS wkM g Rz.1 Rz.2) := by
  refine mt_of (by decide) (Nat.le_of_ble_eq_true rfl) (fun p e s m below meth c ls H locs C hP hS hl => ?_)
  have C : Cx wkM g p s m _ meth c cX10_copy 8 RX10 (some .int) := C
  have hl : lv_has ls 8 [(0, .ref (adG g 0)), (1, .int x1), (2, .int x2), (3, .int x3), (4, .int x4), (5, .int x5)] := hl
  obtain ⟨hx, hb, hml, hown, hts, hr, hlk, hK, hZ⟩ := id C
  unfold fX10_copy at h
  refine lv_iload_n hx hb dX10_copy_0 rfl (lv_at hl 1 rfl) ?_
  refine end_i (run_s (As := [.int x1]) (rest := []) C ca_X10_isRow (ctX10_isRow x1 rfl) tw_189 ⟨Nat.le_of_ble_eq_true rfl, Nat.le_of_ble_eq_true rfl⟩ rfl hl.1 (Nat.le_of_ble_eq_true rfl) ⟨Nat.le_refl _, Nat.le_refl _⟩ hP hS dX10_copy_1) hS (fun H locs hP hS => ?_)
  refine lv_if_eq (tgt := 14) hx hb dX10_copy_4 (by decide) (fun c_ => ?_) (fun c_ => ?_)
  · replace h := if_t c_ h
    refine lv_ldc hx hb hown (hts _ tw_188) dX10_copy_14 ?_
    exact r_reti C hP hS (rt_ow1 h) (rt_ow2 h) dX10_copy_16
  · replace h := if_f c_ h
    refine lv_iload_n hx hb dX10_copy_7 rfl (lv_at hl 3 rfl) ?_
    refine end_i (run_s (As := [.int x3]) (rest := []) C ca_X10_isRow (ctX10_isRow x3 rfl) tw_189 ⟨Nat.le_of_ble_eq_true rfl, Nat.le_of_ble_eq_true rfl⟩ rfl hl.1 (Nat.le_of_ble_eq_true rfl) ⟨Nat.le_refl _, Nat.le_refl _⟩ hP hS dX10_copy_8) hS (fun H locs hP hS => ?_)
    refine lv_if_ne (tgt := 17) hx hb dX10_copy_11 (by decide) (fun c_ => ?_) (fun c_ => ?_)
    · replace h := if_f c_ h
      refine lv_aload_n hx hb dX10_copy_17 rfl (lv_at hl 0 rfl) ?_
      refine r_getr C cf_10 hP sm_0 km_0 1 (by decide) rfl tw_145 dX10_copy_18 ?_
      refine lv_iload_n hx hb dX10_copy_21 rfl (lv_at hl 1 rfl) ?_
      obtain ⟨g_3, h⟩ := gd_inv h
      refine r_iald C hP sm_2 km_2 rfl g_3 dX10_copy_22 ?_
      refine lv_if_lt (tgt := 35) hx hb dX10_copy_23 (by decide) (fun c_ => ?_) (fun c_ => ?_)
      · replace h := if_t c_ h
        refine lv_aload_n hx hb dX10_copy_35 rfl (lv_at hl 0 rfl) ?_
        refine lv_iconst (v := 1) hx hb dX10_copy_36 (by decide) ?_
        obtain ⟨q_4, eq_4⟩ : ∃ z, z = fX10_found σ (1 : Int32) := ⟨_, rfl⟩
        replace h := un_at eq_4 h
        refine end_i (run_v (As := [.int (1 : Int32)]) (rest := []) C ca_X10_found (ctX10_found (1 : Int32) eq_4.symm) cf_10 sm_0 km_0 tw_196 ⟨Nat.le_of_ble_eq_true rfl, Nat.le_of_ble_eq_true rfl⟩ rfl hl.1 (Nat.le_of_ble_eq_true rfl) ⟨Nat.le_refl _, Nat.le_refl _⟩ hP hS dX10_copy_37) hS (fun H locs hP hS => ?_)
        exact r_reti C hP hS (rt_ow1 h) (rt_ow2 h) dX10_copy_40
      · replace h := if_f c_ h
        refine lv_aload_n hx hb dX10_copy_26 rfl (lv_at hl 0 rfl) ?_
        refine r_getr C cf_10 hP sm_0 km_0 1 (by decide) rfl tw_145 dX10_copy_27 ?_
        refine lv_iload_n hx hb dX10_copy_30 rfl (lv_at hl 3 rfl) ?_
        obtain ⟨g_5, h⟩ := gd_inv h
        refine r_iald C hP sm_2 km_2 rfl g_5 dX10_copy_31 ?_
        refine lv_if_ge (tgt := 41) hx hb dX10_copy_32 (by decide) (fun c_ => ?_) (fun c_ => ?_)
        · replace h := if_t c_ h
          refine lv_aload_n hx hb dX10_copy_41 rfl (lv_at hl 0 rfl) ?_
          refine r_getr C cf_10 hP sm_0 km_0 0 (by decide) rfl tw_144 dX10_copy_42 ?_
          refine lv_iload_n hx hb dX10_copy_45 rfl (lv_at hl 1 rfl) ?_
          refine r_iald C hP sm_1 km_1 rfl g_3 dX10_copy_46 ?_
          refine lv_aload_n hx hb dX10_copy_47 rfl (lv_at hl 0 rfl) ?_
          refine r_getr C cf_10 hP sm_0 km_0 0 (by decide) rfl tw_144 dX10_copy_48 ?_
          refine lv_iload_n hx hb dX10_copy_51 rfl (lv_at hl 3 rfl) ?_
          refine r_iald C hP sm_1 km_1 rfl g_5 dX10_copy_52 ?_
          refine lv_icmp_eq (tgt := 62) hx hb dX10_copy_53 (by decide) (fun c_ => ?_) (fun c_ => ?_)
          · replace h := if_t c_ h
            refine lv_iload_n hx hb dX10_copy_62 rfl (lv_at hl 2 rfl) ?_
            refine lv_if_lt (tgt := 111) hx hb dX10_copy_63 (by decide) (fun c_ => ?_) (fun c_ => ?_)
            · replace h := if_t c_ h
              refine lv_aload_n hx hb dX10_copy_111 rfl (lv_at hl 0 rfl) ?_
              refine lv_iconst (v := 2) hx hb dX10_copy_112 (by decide) ?_
              obtain ⟨q_6, eq_6⟩ : ∃ z, z = fX10_found σ (2 : Int32) := ⟨_, rfl⟩
              replace h := un_at eq_6 h
              refine end_i (run_v (As := [.int (2 : Int32)]) (rest := []) C ca_X10_found (ctX10_found (2 : Int32) eq_6.symm) cf_10 sm_0 km_0 tw_196 ⟨Nat.le_of_ble_eq_true rfl, Nat.le_of_ble_eq_true rfl⟩ rfl hl.1 (Nat.le_of_ble_eq_true rfl) ⟨Nat.le_refl _, Nat.le_refl _⟩ hP hS dX10_copy_113) hS (fun H locs hP hS => ?_)
              exact r_reti C hP hS (rt_ow1 h) (rt_ow2 h) dX10_copy_116
            · replace h := if_f c_ h
              refine lv_iload hx hb dX10_copy_66 (lv_at hl 4 rfl) ?_
              refine lv_if_lt (tgt := 111) hx hb dX10_copy_68 (by decide) (fun c_ => ?_) (fun c_ => ?_)
              · replace h := if_t c_ h
                refine lv_aload_n hx hb dX10_copy_111 rfl (lv_at hl 0 rfl) ?_
                refine lv_iconst (v := 2) hx hb dX10_copy_112 (by decide) ?_
                obtain ⟨q_7, eq_7⟩ : ∃ z, z = fX10_found σ (2 : Int32) := ⟨_, rfl⟩
                replace h := un_at eq_7 h
                refine end_i (run_v (As := [.int (2 : Int32)]) (rest := []) C ca_X10_found (ctX10_found (2 : Int32) eq_7.symm) cf_10 sm_0 km_0 tw_196 ⟨Nat.le_of_ble_eq_true rfl, Nat.le_of_ble_eq_true rfl⟩ rfl hl.1 (Nat.le_of_ble_eq_true rfl) ⟨Nat.le_refl _, Nat.le_refl _⟩ hP hS dX10_copy_113) hS (fun H locs hP hS => ?_)
                exact r_reti C hP hS (rt_ow1 h) (rt_ow2 h) dX10_copy_116
              · replace h := if_f c_ h
                refine lv_iload hx hb dX10_copy_71 (lv_at hl 5 rfl) ?_
                refine lv_if_lt (tgt := 111) hx hb dX10_copy_73 (by decide) (fun c_ => ?_) (fun c_ => ?_)
                · replace h := if_t c_ h
                  refine lv_aload_n hx hb dX10_copy_111 rfl (lv_at hl 0 rfl) ?_
                  refine lv_iconst (v := 2) hx hb dX10_copy_112 (by decide) ?_
                  obtain ⟨q_8, eq_8⟩ : ∃ z, z = fX10_found σ (2 : Int32) := ⟨_, rfl⟩
                  replace h := un_at eq_8 h
                  refine end_i (run_v (As := [.int (2 : Int32)]) (rest := []) C ca_X10_found (ctX10_found (2 : Int32) eq_8.symm) cf_10 sm_0 km_0 tw_196 ⟨Nat.le_of_ble_eq_true rfl, Nat.le_of_ble_eq_true rfl⟩ rfl hl.1 (Nat.le_of_ble_eq_true rfl) ⟨Nat.le_refl _, Nat.le_refl _⟩ hP hS dX10_copy_113) hS (fun H locs hP hS => ?_)
                  exact r_reti C hP hS (rt_ow1 h) (rt_ow2 h) dX10_copy_116
                · replace h := if_f c_ h
                  refine lv_iload_n hx hb dX10_copy_76 rfl (lv_at hl 2 rfl) ?_
                  refine lv_i2l hx hb dX10_copy_77 rfl ?_
                  refine lv_iload hx hb dX10_copy_78 (lv_at hl 5 rfl) ?_
                  refine lv_i2l hx hb dX10_copy_80 rfl ?_
                  refine lv_ladd hx hb dX10_copy_81 ?_
                  refine lv_aload_n hx hb dX10_copy_82 rfl (lv_at hl 0 rfl) ?_
                  refine r_getr C cf_10 hP sm_0 km_0 1 (by decide) rfl tw_145 dX10_copy_83 ?_
                  refine lv_iload_n hx hb dX10_copy_86 rfl (lv_at hl 1 rfl) ?_
                  refine r_iald C hP sm_2 km_2 rfl g_3 dX10_copy_87 ?_
                  refine lv_i2l hx hb dX10_copy_88 rfl ?_
                  refine W.lcmp hx hb dX10_copy_89 ?_
                  refine lv_if_gt (tgt := 111) hx hb dX10_copy_90 (by decide) (fun c_ => ?_) (fun c_ => ?_)
                  · replace h := if_t c_ h
                    refine lv_aload_n hx hb dX10_copy_111 rfl (lv_at hl 0 rfl) ?_
                    refine lv_iconst (v := 2) hx hb dX10_copy_112 (by decide) ?_
                    obtain ⟨q_9, eq_9⟩ : ∃ z, z = fX10_found σ (2 : Int32) := ⟨_, rfl⟩
                    replace h := un_at eq_9 h
                    refine end_i (run_v (As := [.int (2 : Int32)]) (rest := []) C ca_X10_found (ctX10_found (2 : Int32) eq_9.symm) cf_10 sm_0 km_0 tw_196 ⟨Nat.le_of_ble_eq_true rfl, Nat.le_of_ble_eq_true rfl⟩ rfl hl.1 (Nat.le_of_ble_eq_true rfl) ⟨Nat.le_refl _, Nat.le_refl _⟩ hP hS dX10_copy_113) hS (fun H locs hP hS => ?_)
                    exact r_reti C hP hS (rt_ow1 h) (rt_ow2 h) dX10_copy_116
                  · replace h := if_f c_ h
                    refine lv_iload hx hb dX10_copy_93 (lv_at hl 4 rfl) ?_
                    refine lv_i2l hx hb dX10_copy_95 rfl ?_
                    refine lv_iload hx hb dX10_copy_96 (lv_at hl 5 rfl) ?_
                    refine lv_i2l hx hb dX10_copy_98 rfl ?_
                    refine lv_ladd hx hb dX10_copy_99 ?_
                    refine lv_aload_n hx hb dX10_copy_100 rfl (lv_at hl 0 rfl) ?_
                    refine r_getr C cf_10 hP sm_0 km_0 1 (by decide) rfl tw_145 dX10_copy_101 ?_
                    refine lv_iload_n hx hb dX10_copy_104 rfl (lv_at hl 3 rfl) ?_
                    refine r_iald C hP sm_2 km_2 rfl g_5 dX10_copy_105 ?_
                    refine lv_i2l hx hb dX10_copy_106 rfl ?_
                    refine W.lcmp hx hb dX10_copy_107 ?_
                    refine lv_if_le (tgt := 117) hx hb dX10_copy_108 (by decide) (fun c_ => ?_) (fun c_ => ?_)
                    · replace h := if_t c_ h
                      refine lv_iconst (v := 0) hx hb dX10_copy_117 (by decide) ?_
                      refine lv_istore (lv' := [(6, .int (0 : Int32)), (0, .ref (adG g 0)), (1, .int x1), (2, .int x2), (3, .int x3), (4, .int x4), (5, .int x5)]) hx hb dX10_copy_118 hl (by decide) rfl (fun ls hl => ?_)
                      exact wfX10_copy_L120 C fu σ x1 x2 x3 x4 x5 (0 : Int32) H locs ls h hP hS (lv_sub hl [1, 2, 3, 4, 5, 6, 0] rfl)
                    · replace h := if_f c_ h
                      refine lv_aload_n hx hb dX10_copy_111 rfl (lv_at hl 0 rfl) ?_
                      refine lv_iconst (v := 2) hx hb dX10_copy_112 (by decide) ?_
                      obtain ⟨q_10, eq_10⟩ : ∃ z, z = fX10_found σ (2 : Int32) := ⟨_, rfl⟩
                      replace h := un_at eq_10 h
                      refine end_i (run_v (As := [.int (2 : Int32)]) (rest := []) C ca_X10_found (ctX10_found (2 : Int32) eq_10.symm) cf_10 sm_0 km_0 tw_196 ⟨Nat.le_of_ble_eq_true rfl, Nat.le_of_ble_eq_true rfl⟩ rfl hl.1 (Nat.le_of_ble_eq_true rfl) ⟨Nat.le_refl _, Nat.le_refl _⟩ hP hS dX10_copy_113) hS (fun H locs hP hS => ?_)
                      exact r_reti C hP hS (rt_ow1 h) (rt_ow2 h) dX10_copy_116
          · replace h := if_f c_ h
            refine lv_aload_n hx hb dX10_copy_56 rfl (lv_at hl 0 rfl) ?_
            refine lv_iconst (v := 5) hx hb dX10_copy_57 (by decide) ?_
            obtain ⟨q_11, eq_11⟩ : ∃ z, z = fX10_found σ (5 : Int32) := ⟨_, rfl⟩
            replace h := un_at eq_11 h
            refine end_i (run_v (As := [.int (5 : Int32)]) (rest := []) C ca_X10_found (ctX10_found (5 : Int32) eq_11.symm) cf_10 sm_0 km_0 tw_196 ⟨Nat.le_of_ble_eq_true rfl, Nat.le_of_ble_eq_true rfl⟩ rfl hl.1 (Nat.le_of_ble_eq_true rfl) ⟨Nat.le_refl _, Nat.le_refl _⟩ hP hS dX10_copy_58) hS (fun H locs hP hS => ?_)
            exact r_reti C hP hS (rt_ow1 h) (rt_ow2 h) dX10_copy_61
        · replace h := if_f c_ h
          refine lv_aload_n hx hb dX10_copy_35 rfl (lv_at hl 0 rfl) ?_
          refine lv_iconst (v := 1) hx hb dX10_copy_36 (by decide) ?_
          obtain ⟨q_12, eq_12⟩ : ∃ z, z = fX10_found σ (1 : Int32) := ⟨_, rfl⟩
          replace h := un_at eq_12 h
          refine end_i (run_v (As := [.int (1 : Int32)]) (rest := []) C ca_X10_found (ctX10_found (1 : Int32) eq_12.symm) cf_10 sm_0 km_0 tw_196 ⟨Nat.le_of_ble_eq_true rfl, Nat.le_of_ble_eq_true rfl⟩ rfl hl.1 (Nat.le_of_ble_eq_true rfl) ⟨Nat.le_refl _, Nat.le_refl _⟩ hP hS dX10_copy_37) hS (fun H locs hP hS => ?_)
          exact r_reti C hP hS (rt_ow1 h) (rt_ow2 h) dX10_copy_40
    · replace h := if_t c_ h
      refine lv_ldc hx hb hown (hts _ tw_188) dX10_copy_14 ?_
      exact r_reti C hP hS (rt_ow1 h) (rt_ow2 h) dX10_copy_16

set_option maxRecDepth 100000 in
set_option maxHeartbeats 4000000 in
theorem ctX10_drop {l : Launch} {g : Gw} {σ : Sto} (x1 : Int32) {Rz : (Sto × Int32)} (h : fX10_drop σ x1 = some Rz) : MtG l yX10_drop cX10_drop 3 (some .int) 2 wkM g [.ref (adG g 0), .int x1] σ (QiS wkM g Rz.1 Rz.2) := by
  refine mt_of (by decide) (Nat.le_of_ble_eq_true rfl) (fun p e s m below meth c ls H locs C hP hS hl => ?_)
  have C : Cx wkM g p s m _ meth c cX10_drop 3 RX10 (some .int) := C
  have hl : lv_has ls 3 [(0, .ref (adG g 0)), (1, .int x1)] := hl
  obtain ⟨hx, hb, hml, hown, hts, hr, hlk, hK, hZ⟩ := id C
  unfold fX10_drop at h
  refine lv_iload_n hx hb dX10_drop_0 rfl (lv_at hl 1 rfl) ?_
  refine end_i (run_s (As := [.int x1]) (rest := []) C ca_X10_isRow (ctX10_isRow x1 rfl) tw_189 ⟨Nat.le_of_ble_eq_true rfl, Nat.le_of_ble_eq_true rfl⟩ rfl hl.1 (Nat.le_of_ble_eq_true rfl) ⟨Nat.le_refl _, Nat.le_refl _⟩ hP hS dX10_drop_1) hS (fun H locs hP hS => ?_)
  refine lv_if_ne (tgt := 10) hx hb dX10_drop_4 (by decide) (fun c_ => ?_) (fun c_ => ?_)
  · replace h := if_f c_ h
    refine lv_aload_n hx hb dX10_drop_10 rfl (lv_at hl 0 rfl) ?_
    refine r_getr C cf_10 hP sm_0 km_0 1 (by decide) rfl tw_145 dX10_drop_11 ?_
    refine lv_iload_n hx hb dX10_drop_14 rfl (lv_at hl 1 rfl) ?_
    obtain ⟨g_2, h⟩ := gd_inv h
    refine r_iald C hP sm_2 km_2 rfl g_2 dX10_drop_15 ?_
    refine lv_if_ge (tgt := 25) hx hb dX10_drop_16 (by decide) (fun c_ => ?_) (fun c_ => ?_)
    · replace h := if_t c_ h
      refine lv_aload_n hx hb dX10_drop_25 rfl (lv_at hl 0 rfl) ?_
      refine r_getr C cf_10 hP sm_0 km_0 1 (by decide) rfl tw_145 dX10_drop_26 ?_
      refine lv_iload_n hx hb dX10_drop_29 rfl (lv_at hl 1 rfl) ?_
      refine r_iald C hP sm_2 km_2 rfl g_2 dX10_drop_30 ?_
      refine lv_topi (fun x_3 ex_3 => ?_)
      replace h := un_at ex_3 h
      refine lv_istore_n (lv' := [(2, .int x_3), (0, .ref (adG g 0)), (1, .int x1)]) hx hb dX10_drop_31 rfl hl (by decide) rfl (fun ls hl => ?_)
      refine lv_aload_n hx hb dX10_drop_32 rfl (lv_at hl 1 rfl) ?_
      refine r_getr C cf_10 hP sm_0 km_0 1 (by decide) rfl tw_145 dX10_drop_33 ?_
      refine lv_iload_n hx hb dX10_drop_36 rfl (lv_at hl 2 rfl) ?_
      refine lv_iconst (v := (-1)) hx hb dX10_drop_37 (by decide) ?_
      refine r_iast C hP hS sm_2 km_2 rfl g_2 dX10_drop_38 (fun H locs σ_4 eσ_4 hP hS => ?_)
      replace h := un_at eσ_4 h
      refine lv_aload_n hx hb dX10_drop_39 rfl (lv_at hl 1 rfl) ?_
      refine lv_iload_n hx hb dX10_drop_40 rfl (lv_at hl 0 rfl) ?_
      obtain ⟨q_5, eq_5⟩ : ∃ z, z = fX10_well σ_4 x_3 := ⟨_, rfl⟩
      replace h := un_at eq_5 h
      refine end_i (run_v (As := [.int x_3]) (rest := []) C ca_X10_well (ctX10_well x_3 eq_5.symm) cf_10 sm_0 km_0 tw_202 ⟨Nat.le_of_ble_eq_true rfl, Nat.le_of_ble_eq_true rfl⟩ rfl hl.1 (Nat.le_of_ble_eq_true rfl) ⟨Nat.le_refl _, Nat.le_refl _⟩ hP hS dX10_drop_41) hS (fun H locs hP hS => ?_)
      exact r_reti C hP hS (rt_ow1 h) (rt_ow2 h) dX10_drop_44
    · replace h := if_f c_ h
      refine lv_aload_n hx hb dX10_drop_19 rfl (lv_at hl 0 rfl) ?_
      refine lv_iconst (v := 1) hx hb dX10_drop_20 (by decide) ?_
      obtain ⟨q_6, eq_6⟩ : ∃ z, z = fX10_found σ (1 : Int32) := ⟨_, rfl⟩
      replace h := un_at eq_6 h
      refine end_i (run_v (As := [.int (1 : Int32)]) (rest := []) C ca_X10_found (ctX10_found (1 : Int32) eq_6.symm) cf_10 sm_0 km_0 tw_196 ⟨Nat.le_of_ble_eq_true rfl, Nat.le_of_ble_eq_true rfl⟩ rfl hl.1 (Nat.le_of_ble_eq_true rfl) ⟨Nat.le_refl _, Nat.le_refl _⟩ hP hS dX10_drop_21) hS (fun H locs hP hS => ?_)
      exact r_reti C hP hS (rt_ow1 h) (rt_ow2 h) dX10_drop_24
  · replace h := if_t c_ h
    refine lv_ldc hx hb hown (hts _ tw_188) dX10_drop_7 ?_
    exact r_reti C hP hS (rt_ow1 h) (rt_ow2 h) dX10_drop_9

set_option maxRecDepth 100000 in
set_option maxHeartbeats 4000000 in
theorem ctX10_feed {l : Launch} {g : Gw} {σ : Sto} (x1 : Int32) {Rz : (Sto × Int32)} (h : fX10_feed σ x1 = some Rz) : MtG l yX10_feed cX10_feed 2 (some .int) 1 wkM g [.ref (adG g 0), .int x1] σ (QiS wkM g Rz.1 Rz.2) := by
  refine mt_of (by decide) (Nat.le_of_ble_eq_true rfl) (fun p e s m below meth c ls H locs C hP hS hl => ?_)
  have C : Cx wkM g p s m _ meth c cX10_feed 2 RX10 (some .int) := C
  have hl : lv_has ls 2 [(0, .ref (adG g 0)), (1, .int x1)] := hl
  obtain ⟨hx, hb, hml, hown, hts, hr, hlk, hK, hZ⟩ := id C
  unfold fX10_feed at h
  refine lv_iload_n hx hb dX10_feed_0 rfl (lv_at hl 1 rfl) ?_
  refine lv_i2l hx hb dX10_feed_1 rfl ?_
  refine lv_lconst (v := 0) hx hb dX10_feed_2 (by decide) ?_
  refine lv_ldc2 hx hb hown (hts _ tw_280) dX10_feed_3 ?_
  refine end_i (run_s (As := [.long x1.toInt64, .long (0 : Int64), .long (255 : Int64)]) (rest := []) C ca_X10_in (ctX10_in x1.toInt64 (0 : Int64) (255 : Int64) rfl) tw_193 ⟨Nat.le_of_ble_eq_true rfl, Nat.le_of_ble_eq_true rfl⟩ rfl hl.1 (Nat.le_of_ble_eq_true rfl) ⟨Nat.le_refl _, Nat.le_refl _⟩ hP hS dX10_feed_6) hS (fun H locs hP hS => ?_)
  refine lv_if_ne (tgt := 15) hx hb dX10_feed_9 (by decide) (fun c_ => ?_) (fun c_ => ?_)
  · replace h := if_f c_ h
    refine lv_aload_n hx hb dX10_feed_15 rfl (lv_at hl 0 rfl) ?_
    refine r_geti C cf_10 hP sm_0 km_0 12 (by decide) rfl tw_281 dX10_feed_16 ?_
    refine lv_bipush (v := 90) hx hb dX10_feed_19 (by decide) ?_
    refine lv_icmp_ne (tgt := 27) hx hb dX10_feed_21 (by decide) (fun c_ => ?_) (fun c_ => ?_)
    · replace h := if_f c_ h
      refine lv_aload_n hx hb dX10_feed_27 rfl (lv_at hl 0 rfl) ?_
      refine r_getr C cf_10 hP sm_0 km_0 11 (by decide) rfl tw_153 dX10_feed_28 ?_
      refine lv_aload_n hx hb dX10_feed_31 rfl (lv_at hl 0 rfl) ?_
      refine r_geti C cf_10 hP sm_0 km_0 12 (by decide) rfl tw_281 dX10_feed_32 ?_
      refine lv_iload_n hx hb dX10_feed_35 rfl (lv_at hl 1 rfl) ?_
      obtain ⟨g_2, h⟩ := gd_inv h
      refine r_iast C hP hS sm_10 km_10 rfl g_2 dX10_feed_36 (fun H locs σ_3 eσ_3 hP hS => ?_)
      replace h := un_at eσ_3 h
      refine lv_aload_n hx hb dX10_feed_37 rfl (lv_at hl 0 rfl) ?_
      refine lv_dup hx hb dX10_feed_38 rfl ?_
      refine r_geti C cf_10 hP sm_0 km_0 12 (by decide) rfl tw_281 dX10_feed_39 ?_
      refine lv_iconst (v := 1) hx hb dX10_feed_42 (by decide) ?_
      refine lv_iadd hx hb dX10_feed_43 ?_
      refine r_puti C cf_10 hP hS sm_0 km_0 12 (by decide) rfl rfl rfl tw_281 dX10_feed_44 (fun H locs σ_4 eσ_4 hP hS => ?_)
      replace h := un_at eσ_4 h
      refine lv_aload_n hx hb dX10_feed_47 rfl (lv_at hl 0 rfl) ?_
      refine r_geti C cf_10 hP sm_0 km_0 12 (by decide) rfl tw_281 dX10_feed_48 ?_
      exact r_reti C hP hS (rt_ow1 h) (rt_ow2 h) dX10_feed_51
    · replace h := if_t c_ h
      refine lv_ldc hx hb hown (hts _ tw_282) dX10_feed_24 ?_
      exact r_reti C hP hS (rt_ow1 h) (rt_ow2 h) dX10_feed_26
  · replace h := if_t c_ h
    refine lv_ldc hx hb hown (hts _ tw_188) dX10_feed_12 ?_
    exact r_reti C hP hS (rt_ow1 h) (rt_ow2 h) dX10_feed_14

set_option maxRecDepth 100000 in
set_option maxHeartbeats 4000000 in
theorem ctX10_here {l : Launch} {g : Gw} {σ : Sto} {Rz : Int32} (h : fX10_here σ = some Rz) : MtG l yX10_here cX10_here 1 (some .int) 0 wkM g [.ref (adG g 0)] σ (QiS wkM g σ Rz) := by
  refine mt_of (by decide) (Nat.le_of_ble_eq_true rfl) (fun p e s m below meth c ls H locs C hP hS hl => ?_)
  have C : Cx wkM g p s m _ meth c cX10_here 1 RX10 (some .int) := C
  have hl : lv_has ls 1 [(0, .ref (adG g 0))] := hl
  obtain ⟨hx, hb, hml, hown, hts, hr, hlk, hK, hZ⟩ := id C
  unfold fX10_here at h
  refine lv_aload_n hx hb dX10_here_0 rfl (lv_at hl 0 rfl) ?_
  refine r_geti C cf_10 hP sm_0 km_0 16 (by decide) rfl tw_375 dX10_here_1 ?_
  refine lv_aload_n hx hb dX10_here_4 rfl (lv_at hl 0 rfl) ?_
  refine r_geti C cf_10 hP sm_0 km_0 12 (by decide) rfl tw_281 dX10_here_5 ?_
  refine lv_icmp_ge (tgt := 23) hx hb dX10_here_8 (by decide) (fun c_ => ?_) (fun c_ => ?_)
  · replace h := if_t c_ h
    refine lv_iconst (v := (-1)) hx hb dX10_here_23 (by decide) ?_
    exact r_reti C hP hS rfl (rt_o h) dX10_here_24
  · replace h := if_f c_ h
    refine lv_aload_n hx hb dX10_here_11 rfl (lv_at hl 0 rfl) ?_
    refine r_getr C cf_10 hP sm_0 km_0 11 (by decide) rfl tw_153 dX10_here_12 ?_
    refine lv_aload_n hx hb dX10_here_15 rfl (lv_at hl 0 rfl) ?_
    refine r_geti C cf_10 hP sm_0 km_0 16 (by decide) rfl tw_375 dX10_here_16 ?_
    obtain ⟨g_1, h⟩ := gd_inv h
    refine r_iald C hP sm_10 km_10 rfl g_1 dX10_here_19 ?_
    refine lv_goto (tgt := 24) hx hb dX10_here_20 (by decide) ?_
    exact r_reti C hP hS rfl (rt_o h) dX10_here_24

set_option maxRecDepth 100000 in
set_option maxHeartbeats 4000000 in
theorem wfX10_step_L131 {l : Launch} {g : Gw} {p : Program} {e : Env} {s : State} {m : MethodId} {args : Array Value} {below : List Frame} {meth : Method} {c : Code} (C : Cx wkM g p s m args meth c cX10_step 1 RX10 none) {Rz : Sto} {k_200 : Sto → Option Sto} : ∀ (n : Nat) (σ : Sto) (H : Heap) (locs : List Loc) (ls : Array Slot), fX10_step_L131 k_200 n σ = some Rz → wS wkM g σ H → va_S (AS wkM g) s.heap H locs → lv_has ls 1 [(0, .ref (adG g 0))] → (∀ (σ : Sto) (H : Heap) (locs : List Loc) (ls : Array Slot), k_200 σ = some Rz → wS wkM g σ H → va_S (AS wkM g) s.heap H locs → lv_has ls 1 [(0, .ref (adG g 0))] → W p l e (rmS 1) s m args below meth c H locs 0 0 (MQ below (QvS wkM g Rz) args s 0 0 (AS wkM g)) (F0 m 200 ls [])) → W p l e (rmS 1) s m args below meth c H locs 0 0 (MQ below (QvS wkM g Rz) args s 0 0 (AS wkM g)) (F0 m 131 ls []) := by
  intro n
  induction n with
  | zero =>
    intro σ H locs ls h
    cases h
  | succ n ih =>
    intro σ H locs ls h hP hS hl hk_200
    obtain ⟨hx, hb, hml, hown, hts, hr, hlk, hK, hZ⟩ := id C
    rw [fX10_step_L131] at h
    refine lv_aload_n hx hb dX10_step_131 rfl (lv_at hl 0 rfl) ?_
    obtain ⟨q_1, hq_1, h⟩ := bd_inv h
    refine end_i (run_v (As := []) (rest := []) C ca_X10_here (ctX10_here hq_1) cf_10 sm_0 km_0 tw_386 ⟨Nat.le_of_ble_eq_true rfl, Nat.le_of_ble_eq_true rfl⟩ rfl hl.1 (Nat.le_of_ble_eq_true rfl) ⟨Nat.le_refl _, Nat.le_refl _⟩ hP hS dX10_step_132) hS (fun H locs hP hS => ?_)
    refine lv_i2l hx hb dX10_step_135 rfl ?_
    refine lv_ldc2 hx hb hown (hts _ tw_384) dX10_step_136 ?_
    refine lv_ldc2 hx hb hown (hts _ tw_385) dX10_step_139 ?_
    refine end_i (run_s (As := [.long q_1.toInt64, .long (48 : Int64), .long (57 : Int64)]) (rest := []) C ca_X10_in (ctX10_in q_1.toInt64 (48 : Int64) (57 : Int64) rfl) tw_193 ⟨Nat.le_of_ble_eq_true rfl, Nat.le_of_ble_eq_true rfl⟩ rfl hl.1 (Nat.le_of_ble_eq_true rfl) ⟨Nat.le_refl _, Nat.le_refl _⟩ hP hS dX10_step_142) hS (fun H locs hP hS => ?_)
    refine lv_if_eq (tgt := 200) hx hb dX10_step_145 (by decide) (fun c_ => ?_) (fun c_ => ?_)
    · replace h := if_t c_ h
      exact hk_200 σ H locs ls h hP hS (lv_sub hl [0] rfl)
    · replace h := if_f c_ h
      refine lv_aload_n hx hb dX10_step_148 rfl (lv_at hl 0 rfl) ?_
      refine lv_aload_n hx hb dX10_step_149 rfl (lv_at hl 0 rfl) ?_
      refine r_geti C cf_10 hP sm_0 km_0 16 (by decide) rfl tw_375 dX10_step_150 ?_
      refine lv_aload_n hx hb dX10_step_153 rfl (lv_at hl 0 rfl) ?_
      refine r_geti C cf_10 hP sm_0 km_0 17 (by decide) rfl tw_369 dX10_step_154 ?_
      refine lv_isub hx hb dX10_step_157 ?_
      refine lv_iconst (v := 2) hx hb dX10_step_158 (by decide) ?_
      refine lv_icmp_ge (tgt := 180) hx hb dX10_step_159 (by decide) (fun c_ => ?_) (fun c_ => ?_)
      · replace h := if_t c_ h
        refine lv_aload_n hx hb dX10_step_180 rfl (lv_at hl 0 rfl) ?_
        refine r_geti C cf_10 hP sm_0 km_0 19 (by decide) rfl tw_377 dX10_step_181 ?_
        refine r_puti C cf_10 hP hS sm_0 km_0 19 (by decide) rfl rfl rfl tw_377 dX10_step_184 (fun H locs σ_3 eσ_3 hP hS => ?_)
        replace h := un_at eσ_3 h
        refine lv_aload_n hx hb dX10_step_187 rfl (lv_at hl 0 rfl) ?_
        refine lv_dup hx hb dX10_step_188 rfl ?_
        refine r_geti C cf_10 hP sm_0 km_0 16 (by decide) rfl tw_375 dX10_step_189 ?_
        refine lv_iconst (v := 1) hx hb dX10_step_192 (by decide) ?_
        refine lv_iadd hx hb dX10_step_193 ?_
        refine r_puti C cf_10 hP hS sm_0 km_0 16 (by decide) rfl rfl rfl tw_375 dX10_step_194 (fun H locs σ_4 eσ_4 hP hS => ?_)
        replace h := un_at eσ_4 h
        refine lv_goto (tgt := 131) hx hb dX10_step_197 (by decide) ?_
        exact ih σ_4 H locs ls h hP hS (lv_sub hl [0] rfl) hk_200
      · replace h := if_f c_ h
        refine lv_bipush (v := 10) hx hb dX10_step_162 (by decide) ?_
        refine lv_aload_n hx hb dX10_step_164 rfl (lv_at hl 0 rfl) ?_
        refine r_geti C cf_10 hP sm_0 km_0 19 (by decide) rfl tw_377 dX10_step_165 ?_
        refine lv_imul hx hb dX10_step_168 ?_
        refine lv_aload_n hx hb dX10_step_169 rfl (lv_at hl 0 rfl) ?_
        obtain ⟨q_5, hq_5, h⟩ := bd_inv h
        refine end_i (run_v (As := []) (rest := [.int ((10 : Int32) * (σ 0 19)), .ref (adG g 0)]) C ca_X10_here (ctX10_here hq_5) cf_10 sm_0 km_0 tw_386 ⟨Nat.le_of_ble_eq_true rfl, Nat.le_of_ble_eq_true rfl⟩ rfl hl.1 (Nat.le_of_ble_eq_true rfl) ⟨Nat.le_refl _, Nat.le_refl _⟩ hP hS dX10_step_170) hS (fun H locs hP hS => ?_)
        refine lv_iadd hx hb dX10_step_173 ?_
        refine lv_bipush (v := 48) hx hb dX10_step_174 (by decide) ?_
        refine lv_isub hx hb dX10_step_176 ?_
        refine lv_goto (tgt := 184) hx hb dX10_step_177 (by decide) ?_
        refine r_puti C cf_10 hP hS sm_0 km_0 19 (by decide) rfl rfl rfl tw_377 dX10_step_184 (fun H locs σ_6 eσ_6 hP hS => ?_)
        replace h := un_at eσ_6 h
        refine lv_aload_n hx hb dX10_step_187 rfl (lv_at hl 0 rfl) ?_
        refine lv_dup hx hb dX10_step_188 rfl ?_
        refine r_geti C cf_10 hP sm_0 km_0 16 (by decide) rfl tw_375 dX10_step_189 ?_
        refine lv_iconst (v := 1) hx hb dX10_step_192 (by decide) ?_
        refine lv_iadd hx hb dX10_step_193 ?_
        refine r_puti C cf_10 hP hS sm_0 km_0 16 (by decide) rfl rfl rfl tw_375 dX10_step_194 (fun H locs σ_7 eσ_7 hP hS => ?_)
        replace h := un_at eσ_7 h
        refine lv_goto (tgt := 131) hx hb dX10_step_197 (by decide) ?_
        exact ih σ_7 H locs ls h hP hS (lv_sub hl [0] rfl) hk_200

set_option maxRecDepth 100000 in
set_option maxHeartbeats 4000000 in
theorem wfX10_step_j93 {l : Launch} {g : Gw} {p : Program} {e : Env} {s : State} {m : MethodId} {args : Array Value} {below : List Frame} {meth : Method} {c : Code} (C : Cx wkM g p s m args meth c cX10_step 1 RX10 none) {Rz : Sto} : ∀ (σ : Sto) (y1 : Int32) (H : Heap) (locs : List Loc) (ls : Array Slot), fX10_step_j93 σ y1 = some Rz → wS wkM g σ H → va_S (AS wkM g) s.heap H locs → lv_has ls 1 [(0, .ref (adG g 0))] → W p l e (rmS 1) s m args below meth c H locs 0 0 (MQ below (QvS wkM g Rz) args s 0 0 (AS wkM g)) (F0 m 93 ls [.int y1, .ref (adG g 0)]) := by
  intro σ y1 H locs ls h hP hS hl
  obtain ⟨hx, hb, hml, hown, hts, hr, hlk, hK, hZ⟩ := id C
  unfold fX10_step_j93 at h
  refine r_puti C cf_10 hP hS sm_0 km_0 18 (by decide) rfl rfl rfl tw_376 dX10_step_93 (fun H locs σ_1 eσ_1 hP hS => ?_)
  replace h := un_at eσ_1 h
  refine lv_aload_n hx hb dX10_step_96 rfl (lv_at hl 0 rfl) ?_
  refine r_geti C cf_10 hP sm_0 km_0 18 (by decide) rfl tw_376 dX10_step_97 ?_
  refine lv_iconst (v := 2) hx hb dX10_step_100 (by decide) ?_
  refine lv_icmp_eq (tgt := 126) hx hb dX10_step_101 (by decide) (fun c_ => ?_) (fun c_ => ?_)
  · replace h := if_t c_ h
    refine lv_aload_n hx hb dX10_step_126 rfl (lv_at hl 0 rfl) ?_
    refine lv_iconst (v := 0) hx hb dX10_step_127 (by decide) ?_
    refine r_puti C cf_10 hP hS sm_0 km_0 19 (by decide) rfl rfl rfl tw_377 dX10_step_128 (fun H locs σ_2 eσ_2 hP hS => ?_)
    replace h := un_at eσ_2 h
    refine wfX10_step_L131 C fu σ_2 H locs ls h hP hS (lv_sub hl [0] rfl) (fun σ_3 H locs ls h hP hS hl => ?_)
    refine lv_aload_n hx hb dX10_step_200 rfl (lv_at hl 0 rfl) ?_
    refine lv_aload_n hx hb dX10_step_201 rfl (lv_at hl 0 rfl) ?_
    refine r_geti C cf_10 hP sm_0 km_0 16 (by decide) rfl tw_375 dX10_step_202 ?_
    refine lv_aload_n hx hb dX10_step_205 rfl (lv_at hl 0 rfl) ?_
    refine r_geti C cf_10 hP sm_0 km_0 17 (by decide) rfl tw_369 dX10_step_206 ?_
    refine lv_isub hx hb dX10_step_209 ?_
    refine lv_iconst (v := 2) hx hb dX10_step_210 (by decide) ?_
    refine lv_icmp_le (tgt := 218) hx hb dX10_step_211 (by decide) (fun c_ => ?_) (fun c_ => ?_)
    · replace h := if_t c_ h
      refine lv_iconst (v := 2) hx hb dX10_step_218 (by decide) ?_
      refine r_puti C cf_10 hP hS sm_0 km_0 18 (by decide) rfl rfl rfl tw_376 dX10_step_219 (fun H locs σ_4 eσ_4 hP hS => ?_)
      replace h := un_at eσ_4 h
      exact r_retv C hP hS (rt_o h) dX10_step_222
    · replace h := if_f c_ h
      refine lv_iconst (v := 4) hx hb dX10_step_214 (by decide) ?_
      refine lv_goto (tgt := 219) hx hb dX10_step_215 (by decide) ?_
      refine r_puti C cf_10 hP hS sm_0 km_0 18 (by decide) rfl rfl rfl tw_376 dX10_step_219 (fun H locs σ_5 eσ_5 hP hS => ?_)
      replace h := un_at eσ_5 h
      exact r_retv C hP hS (rt_o h) dX10_step_222
  · replace h := if_f c_ h
    refine lv_aload_n hx hb dX10_step_104 rfl (lv_at hl 0 rfl) ?_
    refine lv_dup hx hb dX10_step_105 rfl ?_
    refine r_geti C cf_10 hP sm_0 km_0 16 (by decide) rfl tw_375 dX10_step_106 ?_
    refine lv_aload_n hx hb dX10_step_109 rfl (lv_at hl 0 rfl) ?_
    refine r_geti C cf_10 hP sm_0 km_0 18 (by decide) rfl tw_376 dX10_step_110 ?_
    refine lv_if_ne (tgt := 120) hx hb dX10_step_113 (by decide) (fun c_ => ?_) (fun c_ => ?_)
    · replace h := if_f c_ h
      refine lv_iconst (v := 1) hx hb dX10_step_120 (by decide) ?_
      refine lv_iadd hx hb dX10_step_121 ?_
      refine r_puti C cf_10 hP hS sm_0 km_0 16 (by decide) rfl rfl rfl tw_375 dX10_step_122 (fun H locs σ_6 eσ_6 hP hS => ?_)
      replace h := un_at eσ_6 h
      exact r_retv C hP hS (rt_o h) dX10_step_125
    · replace h := if_t c_ h
      refine lv_iconst (v := 0) hx hb dX10_step_116 (by decide) ?_
      refine lv_goto (tgt := 121) hx hb dX10_step_117 (by decide) ?_
      refine lv_iadd hx hb dX10_step_121 ?_
      refine r_puti C cf_10 hP hS sm_0 km_0 16 (by decide) rfl rfl rfl tw_375 dX10_step_122 (fun H locs σ_7 eσ_7 hP hS => ?_)
      replace h := un_at eσ_7 h
      exact r_retv C hP hS (rt_o h) dX10_step_125

set_option maxRecDepth 100000 in
set_option maxHeartbeats 4000000 in
theorem wfX10_step_j88 {l : Launch} {g : Gw} {p : Program} {e : Env} {s : State} {m : MethodId} {args : Array Value} {below : List Frame} {meth : Method} {c : Code} (C : Cx wkM g p s m args meth c cX10_step 1 RX10 none) {Rz : Sto} : ∀ (σ : Sto) (H : Heap) (locs : List Loc) (ls : Array Slot), fX10_step_j88 σ = some Rz → wS wkM g σ H → va_S (AS wkM g) s.heap H locs → lv_has ls 1 [(0, .ref (adG g 0))] → W p l e (rmS 1) s m args below meth c H locs 0 0 (MQ below (QvS wkM g Rz) args s 0 0 (AS wkM g)) (F0 m 88 ls [.ref (adG g 0)]) := by
  intro σ H locs ls h hP hS hl
  obtain ⟨hx, hb, hml, hown, hts, hr, hlk, hK, hZ⟩ := id C
  unfold fX10_step_j88 at h
  refine lv_iconst (v := 3) hx hb dX10_step_88 (by decide) ?_
  refine lv_goto (tgt := 93) hx hb dX10_step_89 (by decide) ?_
  exact wfX10_step_j93 C σ (3 : Int32) H locs ls h hP hS (lv_sub hl [0] rfl)
