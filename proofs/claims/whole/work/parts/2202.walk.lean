set_option maxRecDepth 100000 in
set_option maxHeartbeats 4000000 in
theorem wfX10_stepsOf_j54 {l : Launch} {g : Gw} {p : Program} {e : Env} {s : State} {m : MethodId} {args : Array Value} {below : List Frame} {meth : Method} {c : Code} {σ : Sto} (C : Cx wkM g p s m args meth c cX10_stepsOf 6 RX10 (some .int)) (a0 : Nat) (hv0 : isU a0) {Rz : Int32} : ∀ (x1 : Int32) (x3 : Int32) (x4 : Int32) (y0 : Int32) (H : Heap) (locs : List Loc) (ls : Array Slot), fX10_stepsOf_j54 a0 σ x1 x3 x4 y0 = some Rz → wS wkM g σ H → va_S (AS wkM g) s.heap H locs → lv_has ls 6 [(0, .ref (adG g a0)), (1, .int x1), (3, .int x3), (4, .int x4)] → W p l e (rmS 1) s m args below meth c H locs 0 0 (MQ below (QiS wkM g σ Rz) args s 0 0 (AS wkM g)) (F0 m 54 ls [.int y0]) := by
  intro x1 x3 x4 y0 H locs ls h hP hS hl
  obtain ⟨hx, hb, hml, hown, hts, hr, hlk, hK, hZ⟩ := id C
  unfold fX10_stepsOf_j54 at h
  refine lv_istore (lv' := [(5, .int y0), (0, .ref (adG g a0)), (1, .int x1), (3, .int x3), (4, .int x4)]) hx hb dX10_stepsOf_54 hl (by decide) rfl (fun ls hl => ?_)
  refine lv_aload_n hx hb dX10_stepsOf_56 rfl (lv_at hl 1 rfl) ?_
  refine lv_bipush (v := 35) hx hb dX10_stepsOf_57 (by decide) ?_
  refine lv_iload_n hx hb dX10_stepsOf_59 rfl (lv_at hl 2 rfl) ?_
  refine lv_iadd hx hb dX10_stepsOf_60 ?_
  obtain ⟨g_1, h⟩ := gd_inv h
  refine r_iald C hP hv0.1 hv0.2 rfl g_1 dX10_stepsOf_61 ?_
  by_cases c_2 : (σ a0 ((35 : Int32) + x1).toNatClampNeg) = (1 : Int32)
  · replace h := if_t c_2 h
    refine r_tin (tgt := 92) hx hb dX10_stepsOf_62 c_2 (by decide) (by decide) rfl (by decide) ?_
    refine lv_iload hx hb dX10_stepsOf_92 (lv_at hl 4 rfl) ?_
    refine lv_if_eq (tgt := 101) hx hb dX10_stepsOf_94 (by decide) (fun c_ => ?_) (fun c_ => ?_)
    · replace h := if_t c_ h
      refine lv_iconst (v := 0) hx hb dX10_stepsOf_101 (by decide) ?_
      exact r_reti C hP hS rfl (rt_o h) dX10_stepsOf_102
    · replace h := if_f c_ h
      refine lv_iconst (v := 1) hx hb dX10_stepsOf_97 (by decide) ?_
      refine lv_goto (tgt := 102) hx hb dX10_stepsOf_98 (by decide) ?_
      exact r_reti C hP hS rfl (rt_o h) dX10_stepsOf_102
  replace h := if_f c_2 h
  by_cases c_3 : (σ a0 ((35 : Int32) + x1).toNatClampNeg) = (2 : Int32)
  · replace h := if_t c_3 h
    refine r_tin (tgt := 103) hx hb dX10_stepsOf_62 c_3 (by decide) (by decide) rfl (by decide) ?_
    refine lv_iload_n hx hb dX10_stepsOf_103 rfl (lv_at hl 3 rfl) ?_
    refine lv_if_eq (tgt := 111) hx hb dX10_stepsOf_104 (by decide) (fun c_ => ?_) (fun c_ => ?_)
    · replace h := if_t c_ h
      refine lv_iconst (v := 0) hx hb dX10_stepsOf_111 (by decide) ?_
      exact r_reti C hP hS rfl (rt_o h) dX10_stepsOf_112
    · replace h := if_f c_ h
      refine lv_iconst (v := 2) hx hb dX10_stepsOf_107 (by decide) ?_
      refine lv_goto (tgt := 112) hx hb dX10_stepsOf_108 (by decide) ?_
      exact r_reti C hP hS rfl (rt_o h) dX10_stepsOf_112
  replace h := if_f c_3 h
  by_cases c_4 : (σ a0 ((35 : Int32) + x1).toNatClampNeg) = (3 : Int32)
  · replace h := if_t c_4 h
    refine r_tin (tgt := 113) hx hb dX10_stepsOf_62 c_4 (by decide) (by decide) rfl (by decide) ?_
    refine lv_iload hx hb dX10_stepsOf_113 (lv_at hl 4 rfl) ?_
    refine lv_if_eq (tgt := 130) hx hb dX10_stepsOf_115 (by decide) (fun c_ => ?_) (fun c_ => ?_)
    · replace h := if_t c_ h
      refine lv_iconst (v := 0) hx hb dX10_stepsOf_130 (by decide) ?_
      exact r_reti C hP hS rfl (rt_o h) dX10_stepsOf_131
    · replace h := if_f c_ h
      refine lv_aload_n hx hb dX10_stepsOf_118 rfl (lv_at hl 1 rfl) ?_
      refine lv_iconst (v := 4) hx hb dX10_stepsOf_119 (by decide) ?_
      refine r_iald C hP hv0.1 hv0.2 (j := 4) (by decide) (by decide) dX10_stepsOf_120 ?_
      refine lv_iconst (v := 2) hx hb dX10_stepsOf_121 (by decide) ?_
      refine lv_irem hx hb dX10_stepsOf_122 (by decide) ?_
      refine lv_if_ne (tgt := 130) hx hb dX10_stepsOf_123 (by decide) (fun c_ => ?_) (fun c_ => ?_)
      · replace h := if_f c_ h
        refine lv_iconst (v := 0) hx hb dX10_stepsOf_130 (by decide) ?_
        exact r_reti C hP hS rfl (rt_o h) dX10_stepsOf_131
      · replace h := if_t c_ h
        refine lv_iconst (v := 1) hx hb dX10_stepsOf_126 (by decide) ?_
        refine lv_goto (tgt := 131) hx hb dX10_stepsOf_127 (by decide) ?_
        exact r_reti C hP hS rfl (rt_o h) dX10_stepsOf_131
  replace h := if_f c_4 h
  by_cases c_5 : (σ a0 ((35 : Int32) + x1).toNatClampNeg) = (4 : Int32)
  · replace h := if_t c_5 h
    refine r_tin (tgt := 132) hx hb dX10_stepsOf_62 c_5 (by decide) (by decide) rfl (by decide) ?_
    refine lv_iload hx hb dX10_stepsOf_132 (lv_at hl 0 rfl) ?_
    refine lv_if_eq (tgt := 141) hx hb dX10_stepsOf_134 (by decide) (fun c_ => ?_) (fun c_ => ?_)
    · replace h := if_t c_ h
      refine lv_iconst (v := 0) hx hb dX10_stepsOf_141 (by decide) ?_
      exact r_reti C hP hS rfl (rt_o h) dX10_stepsOf_142
    · replace h := if_f c_ h
      refine lv_iconst (v := 1) hx hb dX10_stepsOf_137 (by decide) ?_
      refine lv_goto (tgt := 142) hx hb dX10_stepsOf_138 (by decide) ?_
      exact r_reti C hP hS rfl (rt_o h) dX10_stepsOf_142
  replace h := if_f c_5 h
  refine lv_tableOut (tgt := 143) hx hb dX10_stepsOf_62 (by have qc_2 := lv_neT (a := 1) c_2 rfl; have qc_3 := lv_neT (a := 2) c_3 rfl; have qc_4 := lv_neT (a := 3) c_4 rfl; have qc_5 := lv_neT (a := 4) c_5 rfl; omega) (by decide) ?_
  refine lv_iload_n hx hb dX10_stepsOf_143 rfl (lv_at hl 3 rfl) ?_
  refine lv_if_eq (tgt := 151) hx hb dX10_stepsOf_144 (by decide) (fun c_ => ?_) (fun c_ => ?_)
  · replace h := if_t c_ h
    refine lv_iload hx hb dX10_stepsOf_151 (lv_at hl 0 rfl) ?_
    refine lv_if_eq (tgt := 160) hx hb dX10_stepsOf_153 (by decide) (fun c_ => ?_) (fun c_ => ?_)
    · replace h := if_t c_ h
      refine lv_iconst (v := 0) hx hb dX10_stepsOf_160 (by decide) ?_
      exact r_reti C hP hS rfl (rt_o h) dX10_stepsOf_161
    · replace h := if_f c_ h
      refine lv_iconst (v := 1) hx hb dX10_stepsOf_156 (by decide) ?_
      refine lv_goto (tgt := 161) hx hb dX10_stepsOf_157 (by decide) ?_
      exact r_reti C hP hS rfl (rt_o h) dX10_stepsOf_161
  · replace h := if_f c_ h
    refine lv_iconst (v := 2) hx hb dX10_stepsOf_147 (by decide) ?_
    refine lv_goto (tgt := 161) hx hb dX10_stepsOf_148 (by decide) ?_
    exact r_reti C hP hS rfl (rt_o h) dX10_stepsOf_161

set_option maxRecDepth 100000 in
set_option maxHeartbeats 4000000 in
theorem wfX10_stepsOf_j49 {l : Launch} {g : Gw} {p : Program} {e : Env} {s : State} {m : MethodId} {args : Array Value} {below : List Frame} {meth : Method} {c : Code} {σ : Sto} (C : Cx wkM g p s m args meth c cX10_stepsOf 6 RX10 (some .int)) (a0 : Nat) (hv0 : isU a0) {Rz : Int32} : ∀ (x1 : Int32) (x3 : Int32) (x4 : Int32) (H : Heap) (locs : List Loc) (ls : Array Slot), fX10_stepsOf_j49 a0 σ x1 x3 x4 = some Rz → wS wkM g σ H → va_S (AS wkM g) s.heap H locs → lv_has ls 6 [(0, .ref (adG g a0)), (1, .int x1), (3, .int x3), (4, .int x4)] → W p l e (rmS 1) s m args below meth c H locs 0 0 (MQ below (QiS wkM g σ Rz) args s 0 0 (AS wkM g)) (F0 m 49 ls []) := by
  intro x1 x3 x4 H locs ls h hP hS hl
  obtain ⟨hx, hb, hml, hown, hts, hr, hlk, hK, hZ⟩ := id C
  unfold fX10_stepsOf_j49 at h
  refine lv_iconst (v := 1) hx hb dX10_stepsOf_49 (by decide) ?_
  refine lv_goto (tgt := 54) hx hb dX10_stepsOf_50 (by decide) ?_
  exact wfX10_stepsOf_j54 C a0 hv0 x1 x3 x4 (1 : Int32) H locs ls h hP hS (lv_sub hl [0, 1, 2, 3] rfl)

set_option maxRecDepth 100000 in
set_option maxHeartbeats 4000000 in
theorem wfX10_stepsOf_j32 {l : Launch} {g : Gw} {p : Program} {e : Env} {s : State} {m : MethodId} {args : Array Value} {below : List Frame} {meth : Method} {c : Code} {σ : Sto} (C : Cx wkM g p s m args meth c cX10_stepsOf 6 RX10 (some .int)) (a0 : Nat) (hv0 : isU a0) {Rz : Int32} : ∀ (x1 : Int32) (x2 : Int32) (x3 : Int32) (y0 : Int32) (H : Heap) (locs : List Loc) (ls : Array Slot), fX10_stepsOf_j32 a0 σ x1 x2 x3 y0 = some Rz → wS wkM g σ H → va_S (AS wkM g) s.heap H locs → lv_has ls 6 [(0, .ref (adG g a0)), (1, .int x1), (2, .int x2), (3, .int x3)] → W p l e (rmS 1) s m args below meth c H locs 0 0 (MQ below (QiS wkM g σ Rz) args s 0 0 (AS wkM g)) (F0 m 32 ls [.int y0]) := by
  intro x1 x2 x3 y0 H locs ls h hP hS hl
  obtain ⟨hx, hb, hml, hown, hts, hr, hlk, hK, hZ⟩ := id C
  unfold fX10_stepsOf_j32 at h
  refine lv_istore (lv' := [(4, .int y0), (0, .ref (adG g a0)), (1, .int x1), (2, .int x2), (3, .int x3)]) hx hb dX10_stepsOf_32 hl (by decide) rfl (fun ls hl => ?_)
  refine lv_iload hx hb dX10_stepsOf_34 (lv_at hl 0 rfl) ?_
  refine lv_if_ne (tgt := 49) hx hb dX10_stepsOf_36 (by decide) (fun c_ => ?_) (fun c_ => ?_)
  · replace h := if_f c_ h
    exact wfX10_stepsOf_j49 C a0 hv0 x1 x3 y0 H locs ls h hP hS (lv_sub hl [1, 2, 4, 0] rfl)
  · replace h := if_t c_ h
    refine lv_aload_n hx hb dX10_stepsOf_39 rfl (lv_at hl 1 rfl) ?_
    refine lv_iload_n hx hb dX10_stepsOf_40 rfl (lv_at hl 3 rfl) ?_
    refine lv_iconst (v := 2) hx hb dX10_stepsOf_41 (by decide) ?_
    refine lv_isub hx hb dX10_stepsOf_42 ?_
    obtain ⟨q_1, hq_1, h⟩ := bd_inv h
    refine end_i (run_s (As := [.ref (adG g a0), .int (x2 - (2 : Int32))]) (rest := []) C ca_X10_lies (ctX10_lies a0 hv0 (x2 - (2 : Int32)) hq_1) tw_502 ⟨Nat.le_of_ble_eq_true rfl, Nat.le_of_ble_eq_true rfl⟩ rfl hl.1 (Nat.le_of_ble_eq_true rfl) ⟨Nat.le_refl _, Nat.le_refl _⟩ hP hS dX10_stepsOf_43) hS (fun H locs hP hS => ?_)
    refine lv_if_eq (tgt := 53) hx hb dX10_stepsOf_46 (by decide) (fun c_ => ?_) (fun c_ => ?_)
    · replace h := if_t c_ h
      refine lv_iconst (v := 0) hx hb dX10_stepsOf_53 (by decide) ?_
      exact wfX10_stepsOf_j54 C a0 hv0 x1 x3 y0 (0 : Int32) H locs ls h hP hS (lv_sub hl [1, 2, 4, 0] rfl)
    · replace h := if_f c_ h
      exact wfX10_stepsOf_j49 C a0 hv0 x1 x3 y0 H locs ls h hP hS (lv_sub hl [1, 2, 4, 0] rfl)

set_option maxRecDepth 100000 in
set_option maxHeartbeats 4000000 in
theorem wfX10_stepsOf_j27 {l : Launch} {g : Gw} {p : Program} {e : Env} {s : State} {m : MethodId} {args : Array Value} {below : List Frame} {meth : Method} {c : Code} {σ : Sto} (C : Cx wkM g p s m args meth c cX10_stepsOf 6 RX10 (some .int)) (a0 : Nat) (hv0 : isU a0) {Rz : Int32} : ∀ (x1 : Int32) (x2 : Int32) (x3 : Int32) (H : Heap) (locs : List Loc) (ls : Array Slot), fX10_stepsOf_j27 a0 σ x1 x2 x3 = some Rz → wS wkM g σ H → va_S (AS wkM g) s.heap H locs → lv_has ls 6 [(0, .ref (adG g a0)), (1, .int x1), (2, .int x2), (3, .int x3)] → W p l e (rmS 1) s m args below meth c H locs 0 0 (MQ below (QiS wkM g σ Rz) args s 0 0 (AS wkM g)) (F0 m 27 ls []) := by
  intro x1 x2 x3 H locs ls h hP hS hl
  obtain ⟨hx, hb, hml, hown, hts, hr, hlk, hK, hZ⟩ := id C
  unfold fX10_stepsOf_j27 at h
  refine lv_iconst (v := 1) hx hb dX10_stepsOf_27 (by decide) ?_
  refine lv_goto (tgt := 32) hx hb dX10_stepsOf_28 (by decide) ?_
  exact wfX10_stepsOf_j32 C a0 hv0 x1 x2 x3 (1 : Int32) H locs ls h hP hS (lv_sub hl [0, 1, 2, 3] rfl)

set_option maxRecDepth 100000 in
set_option maxHeartbeats 4000000 in
theorem ctX10_stepsOf {l : Launch} {g : Gw} {σ : Sto} (a0 : Nat) (hv0 : isU a0) (x1 : Int32) {Rz : Int32} (h : fX10_stepsOf σ a0 x1 = some Rz) : MtG l yX10_stepsOf cX10_stepsOf 6 (some .int) 1 wkM g [.ref (adG g a0), .int x1] σ (QiS wkM g σ Rz) := by
  refine mt_of (by decide) (Nat.le_of_ble_eq_true rfl) (fun p e s m below meth c ls H locs C hP hS hl => ?_)
  have C : Cx wkM g p s m _ meth c cX10_stepsOf 6 RX10 (some .int) := C
  have hl : lv_has ls 6 [(0, .ref (adG g a0)), (1, .int x1)] := hl
  obtain ⟨hx, hb, hml, hown, hts, hr, hlk, hK, hZ⟩ := id C
  unfold fX10_stepsOf at h
  refine lv_aload_n hx hb dX10_stepsOf_0 rfl (lv_at hl 0 rfl) ?_
  refine lv_bipush (v := 47) hx hb dX10_stepsOf_1 (by decide) ?_
  refine lv_iload_n hx hb dX10_stepsOf_3 rfl (lv_at hl 1 rfl) ?_
  refine lv_iadd hx hb dX10_stepsOf_4 ?_
  obtain ⟨g_1, h⟩ := gd_inv h
  refine r_iald C hP hv0.1 hv0.2 rfl g_1 dX10_stepsOf_5 ?_
  refine lv_topi (fun x_2 ex_2 => ?_)
  replace h := un_at ex_2 h
  refine lv_istore_n (lv' := [(2, .int x_2), (0, .ref (adG g a0)), (1, .int x1)]) hx hb dX10_stepsOf_6 rfl hl (by decide) rfl (fun ls hl => ?_)
  refine lv_aload_n hx hb dX10_stepsOf_7 rfl (lv_at hl 1 rfl) ?_
  refine lv_iload_n hx hb dX10_stepsOf_8 rfl (lv_at hl 0 rfl) ?_
  obtain ⟨q_3, hq_3, h⟩ := bd_inv h
  refine end_i (run_s (As := [.ref (adG g a0), .int x_2]) (rest := []) C ca_X10_lies (ctX10_lies a0 hv0 x_2 hq_3) tw_502 ⟨Nat.le_of_ble_eq_true rfl, Nat.le_of_ble_eq_true rfl⟩ rfl hl.1 (Nat.le_of_ble_eq_true rfl) ⟨Nat.le_refl _, Nat.le_refl _⟩ hP hS dX10_stepsOf_9) hS (fun H locs hP hS => ?_)
  refine lv_istore_n (lv' := [(3, .int q_3), (2, .int x_2), (0, .ref (adG g a0)), (1, .int x1)]) hx hb dX10_stepsOf_12 rfl hl (by decide) rfl (fun ls hl => ?_)
  refine lv_iload_n hx hb dX10_stepsOf_13 rfl (lv_at hl 0 rfl) ?_
  refine lv_if_ne (tgt := 27) hx hb dX10_stepsOf_14 (by decide) (fun c_ => ?_) (fun c_ => ?_)
  · replace h := if_f c_ h
    exact wfX10_stepsOf_j27 C a0 hv0 x1 x_2 q_3 H locs ls h hP hS (lv_sub hl [2, 3, 1, 0] rfl)
  · replace h := if_t c_ h
    refine lv_aload_n hx hb dX10_stepsOf_17 rfl (lv_at hl 2 rfl) ?_
    refine lv_iload_n hx hb dX10_stepsOf_18 rfl (lv_at hl 1 rfl) ?_
    refine lv_iconst (v := 1) hx hb dX10_stepsOf_19 (by decide) ?_
    refine lv_isub hx hb dX10_stepsOf_20 ?_
    obtain ⟨q_4, hq_4, h⟩ := bd_inv h
    refine end_i (run_s (As := [.ref (adG g a0), .int (x_2 - (1 : Int32))]) (rest := []) C ca_X10_lies (ctX10_lies a0 hv0 (x_2 - (1 : Int32)) hq_4) tw_502 ⟨Nat.le_of_ble_eq_true rfl, Nat.le_of_ble_eq_true rfl⟩ rfl hl.1 (Nat.le_of_ble_eq_true rfl) ⟨Nat.le_refl _, Nat.le_refl _⟩ hP hS dX10_stepsOf_21) hS (fun H locs hP hS => ?_)
    refine lv_if_eq (tgt := 31) hx hb dX10_stepsOf_24 (by decide) (fun c_ => ?_) (fun c_ => ?_)
    · replace h := if_t c_ h
      refine lv_iconst (v := 0) hx hb dX10_stepsOf_31 (by decide) ?_
      exact wfX10_stepsOf_j32 C a0 hv0 x1 x_2 q_3 (0 : Int32) H locs ls h hP hS (lv_sub hl [2, 3, 1, 0] rfl)
    · replace h := if_f c_ h
      exact wfX10_stepsOf_j27 C a0 hv0 x1 x_2 q_3 H locs ls h hP hS (lv_sub hl [2, 3, 1, 0] rfl)

set_option maxRecDepth 100000 in
set_option maxHeartbeats 4000000 in
theorem ctX10_goes {l : Launch} {g : Gw} {σ : Sto} (a0 : Nat) (hv0 : isU a0) (x1 : Int32) (x2 : Int32) {Rz : Sto} (h : fX10_goes σ a0 x1 x2 = some Rz) : MtG l yX10_goes cX10_goes 3 none 0 wkM g [.ref (adG g a0), .int x1, .int x2] σ (QvS wkM g Rz) := by
  refine mt_of (by decide) (Nat.le_of_ble_eq_true rfl) (fun p e s m below meth c ls H locs C hP hS hl => ?_)
  have C : Cx wkM g p s m _ meth c cX10_goes 3 RX10 none := C
  have hl : lv_has ls 3 [(0, .ref (adG g a0)), (1, .int x1), (2, .int x2)] := hl
  obtain ⟨hx, hb, hml, hown, hts, hr, hlk, hK, hZ⟩ := id C
  unfold fX10_goes at h
  refine lv_aload_n hx hb dX10_goes_0 rfl (lv_at hl 0 rfl) ?_
  refine lv_bipush (v := 47) hx hb dX10_goes_1 (by decide) ?_
  refine lv_iload_n hx hb dX10_goes_3 rfl (lv_at hl 1 rfl) ?_
  refine lv_iadd hx hb dX10_goes_4 ?_
  obtain ⟨g_1, h⟩ := gd_inv h
  refine r_iald C hP hv0.1 hv0.2 rfl g_1 dX10_goes_5 ?_
  refine lv_iload_n hx hb dX10_goes_6 rfl (lv_at hl 2 rfl) ?_
  refine lv_iadd hx hb dX10_goes_7 ?_
  refine lv_aload_n hx hb dX10_goes_8 rfl (lv_at hl 0 rfl) ?_
  refine lv_iconst (v := 0) hx hb dX10_goes_9 (by decide) ?_
  refine r_iald C hP hv0.1 hv0.2 (j := 0) (by decide) (by decide) dX10_goes_10 ?_
  refine lv_icmp_lt (tgt := 24) hx hb dX10_goes_11 (by decide) (fun c_ => ?_) (fun c_ => ?_)
  · replace h := if_t c_ h
    refine lv_aload_n hx hb dX10_goes_24 rfl (lv_at hl 0 rfl) ?_
    refine lv_bipush (v := 47) hx hb dX10_goes_25 (by decide) ?_
    refine lv_iload_n hx hb dX10_goes_27 rfl (lv_at hl 1 rfl) ?_
    refine lv_iadd hx hb dX10_goes_28 ?_
    refine lv_dup2_11 hx hb dX10_goes_29 rfl rfl ?_
    refine r_iald C hP hv0.1 hv0.2 rfl g_1 dX10_goes_30 ?_
    refine lv_iload_n hx hb dX10_goes_31 rfl (lv_at hl 2 rfl) ?_
    refine lv_iadd hx hb dX10_goes_32 ?_
    refine r_iast C hP hS hv0.1 hv0.2 rfl g_1 dX10_goes_33 (fun H locs σ_2 eσ_2 hP hS => ?_)
    replace h := un_at eσ_2 h
    exact r_retv C hP hS (rt_o h) dX10_goes_34
  · replace h := if_f c_ h
    refine lv_aload_n hx hb dX10_goes_14 rfl (lv_at hl 0 rfl) ?_
    refine lv_bipush (v := 53) hx hb dX10_goes_15 (by decide) ?_
    refine lv_iload_n hx hb dX10_goes_17 rfl (lv_at hl 1 rfl) ?_
    refine lv_iadd hx hb dX10_goes_18 ?_
    refine lv_iconst (v := 1) hx hb dX10_goes_19 (by decide) ?_
    obtain ⟨g_3, h⟩ := gd_inv h
    refine r_iast C hP hS hv0.1 hv0.2 rfl g_3 dX10_goes_20 (fun H locs σ_4 eσ_4 hP hS => ?_)
    replace h := un_at eσ_4 h
    refine lv_goto (tgt := 34) hx hb dX10_goes_21 (by decide) ?_
    exact r_retv C hP hS (rt_o h) dX10_goes_34

set_option maxRecDepth 100000 in
set_option maxHeartbeats 4000000 in
theorem wfX10_passes_L6 {l : Launch} {g : Gw} {p : Program} {e : Env} {s : State} {m : MethodId} {args : Array Value} {below : List Frame} {meth : Method} {c : Code} (C : Cx wkM g p s m args meth c cX10_passes 2 RX10 none) (a0 : Nat) (hv0 : isU a0) {Rz : Sto} {k_38 : Sto → Option Sto} : ∀ (n : Nat) (σ : Sto) (x1 : Int32) (H : Heap) (locs : List Loc) (ls : Array Slot), fX10_passes_L6 k_38 a0 n σ x1 = some Rz → wS wkM g σ H → va_S (AS wkM g) s.heap H locs → lv_has ls 2 [(0, .ref (adG g a0)), (1, .int x1)] → (∀ (σ : Sto) (H : Heap) (locs : List Loc) (ls : Array Slot), k_38 σ = some Rz → wS wkM g σ H → va_S (AS wkM g) s.heap H locs → lv_has ls 2 [(0, .ref (adG g a0))] → W p l e (rmS 2) s m args below meth c H locs 0 0 (MQ below (QvS wkM g Rz) args s 0 0 (AS wkM g)) (F0 m 38 ls [])) → W p l e (rmS 2) s m args below meth c H locs 0 0 (MQ below (QvS wkM g Rz) args s 0 0 (AS wkM g)) (F0 m 6 ls []) := by
  intro n
  induction n with
  | zero =>
    intro σ x1 H locs ls h
    cases h
  | succ n ih =>
    intro σ x1 H locs ls h hP hS hl hk_38
    obtain ⟨hx, hb, hml, hown, hts, hr, hlk, hK, hZ⟩ := id C
    rw [fX10_passes_L6] at h
    refine lv_iload_n hx hb dX10_passes_6 rfl (lv_at hl 1 rfl) ?_
    refine lv_aload_n hx hb dX10_passes_7 rfl (lv_at hl 0 rfl) ?_
    refine lv_iconst (v := 1) hx hb dX10_passes_8 (by decide) ?_
    refine r_iald C hP hv0.1 hv0.2 (j := 1) (by decide) (by decide) dX10_passes_9 ?_
    refine lv_icmp_ge (tgt := 38) hx hb dX10_passes_10 (by decide) (fun c_ => ?_) (fun c_ => ?_)
    · replace h := if_t c_ h
      exact hk_38 σ H locs ls h hP hS (lv_sub hl [0] rfl)
    · replace h := if_f c_ h
      refine lv_aload_n hx hb dX10_passes_13 rfl (lv_at hl 0 rfl) ?_
      refine lv_bipush (v := 53) hx hb dX10_passes_14 (by decide) ?_
      refine lv_iload_n hx hb dX10_passes_16 rfl (lv_at hl 1 rfl) ?_
      refine lv_iadd hx hb dX10_passes_17 ?_
      obtain ⟨g_1, h⟩ := gd_inv h
      refine r_iald C hP hv0.1 hv0.2 rfl g_1 dX10_passes_18 ?_
      refine lv_if_ne (tgt := 32) hx hb dX10_passes_19 (by decide) (fun c_ => ?_) (fun c_ => ?_)
      · replace h := if_f c_ h
        obtain ⟨x_2, ex_2⟩ : ∃ y : Int32, y = x1 + (1 : Int32) := ⟨_, rfl⟩
        replace h := un_at ex_2 h
        refine lv_iinc (v := x_2) (lv' := [(1, .int x_2), (0, .ref (adG g a0))]) hx hb dX10_passes_32 hl (k := 1) rfl (by rw [ex_2]; rfl) (by decide) rfl (fun ls hl => ?_)
        refine lv_goto (tgt := 6) hx hb dX10_passes_35 (by decide) ?_
        exact ih σ x_2 H locs ls h hP hS (lv_sub hl [1, 0] rfl) hk_38
      · replace h := if_t c_ h
        refine lv_aload_n hx hb dX10_passes_22 rfl (lv_at hl 0 rfl) ?_
        refine lv_iload_n hx hb dX10_passes_23 rfl (lv_at hl 1 rfl) ?_
        refine lv_aload_n hx hb dX10_passes_24 rfl (lv_at hl 0 rfl) ?_
        refine lv_iload_n hx hb dX10_passes_25 rfl (lv_at hl 1 rfl) ?_
        obtain ⟨q_3, hq_3, h⟩ := bd_inv h
        refine end_i (run_s (As := [.ref (adG g a0), .int x1]) (rest := [.int x1, .ref (adG g a0)]) C ca_X10_stepsOf (ctX10_stepsOf a0 hv0 x1 hq_3) tw_499 ⟨Nat.le_of_ble_eq_true rfl, Nat.le_of_ble_eq_true rfl⟩ rfl hl.1 (Nat.le_of_ble_eq_true rfl) ⟨Nat.le_refl _, Nat.le_refl _⟩ hP hS dX10_passes_26) hS (fun H locs hP hS => ?_)
        obtain ⟨q_4, hq_4, h⟩ := bd_inv h
        refine end_v (run_s (As := [.ref (adG g a0), .int x1, .int q_3]) (rest := []) C ca_X10_goes (ctX10_goes a0 hv0 x1 q_3 hq_4) tw_505 ⟨Nat.le_of_ble_eq_true rfl, Nat.le_of_ble_eq_true rfl⟩ rfl hl.1 (Nat.le_of_ble_eq_true rfl) ⟨Nat.le_refl _, Nat.le_refl _⟩ hP hS dX10_passes_29) hS (fun H locs hP hS => ?_)
        obtain ⟨x_5, ex_5⟩ : ∃ y : Int32, y = x1 + (1 : Int32) := ⟨_, rfl⟩
        replace h := un_at ex_5 h
        refine lv_iinc (v := x_5) (lv' := [(1, .int x_5), (0, .ref (adG g a0))]) hx hb dX10_passes_32 hl (k := 1) rfl (by rw [ex_5]; rfl) (by decide) rfl (fun ls hl => ?_)
        refine lv_goto (tgt := 6) hx hb dX10_passes_35 (by decide) ?_
        exact ih q_4 x_5 H locs ls h hP hS (lv_sub hl [1, 0] rfl) hk_38

set_option maxRecDepth 100000 in
set_option maxHeartbeats 4000000 in
theorem wfX10_passes_L40 {l : Launch} {g : Gw} {p : Program} {e : Env} {s : State} {m : MethodId} {args : Array Value} {below : List Frame} {meth : Method} {c : Code} (C : Cx wkM g p s m args meth c cX10_passes 2 RX10 none) (a0 : Nat) (hv0 : isU a0) {Rz : Sto} : ∀ (n : Nat) (σ : Sto) (x1 : Int32) (H : Heap) (locs : List Loc) (ls : Array Slot), fX10_passes_L40 a0 n σ x1 = some Rz → wS wkM g σ H → va_S (AS wkM g) s.heap H locs → lv_has ls 2 [(0, .ref (adG g a0)), (1, .int x1)] → W p l e (rmS 2) s m args below meth c H locs 0 0 (MQ below (QvS wkM g Rz) args s 0 0 (AS wkM g)) (F0 m 40 ls []) := by
  intro n
  induction n with
  | zero =>
    intro σ x1 H locs ls h
    cases h
  | succ n ih =>
    intro σ x1 H locs ls h hP hS hl
    obtain ⟨hx, hb, hml, hown, hts, hr, hlk, hK, hZ⟩ := id C
    rw [fX10_passes_L40] at h
    refine lv_iload_n hx hb dX10_passes_40 rfl (lv_at hl 1 rfl) ?_
    refine lv_aload_n hx hb dX10_passes_41 rfl (lv_at hl 0 rfl) ?_
    refine lv_iconst (v := 1) hx hb dX10_passes_42 (by decide) ?_
    refine r_iald C hP hv0.1 hv0.2 (j := 1) (by decide) (by decide) dX10_passes_43 ?_
    refine lv_icmp_ge (tgt := 89) hx hb dX10_passes_44 (by decide) (fun c_ => ?_) (fun c_ => ?_)
    · replace h := if_t c_ h
      refine lv_aload_n hx hb dX10_passes_89 rfl (lv_at hl 0 rfl) ?_
      refine lv_iconst (v := 4) hx hb dX10_passes_90 (by decide) ?_
      refine lv_dup2_11 hx hb dX10_passes_91 rfl rfl ?_
      refine r_iald C hP hv0.1 hv0.2 (j := 4) (by decide) (by decide) dX10_passes_92 ?_
      refine lv_iconst (v := 1) hx hb dX10_passes_93 (by decide) ?_
      refine lv_iadd hx hb dX10_passes_94 ?_
      refine r_iast C hP hS hv0.1 hv0.2 (j := 4) (by decide) (by decide) dX10_passes_95 (fun H locs σ_1 eσ_1 hP hS => ?_)
      replace h := un_at eσ_1 h
      exact r_retv C hP hS (rt_o h) dX10_passes_96
    · replace h := if_f c_ h
      refine lv_aload_n hx hb dX10_passes_47 rfl (lv_at hl 0 rfl) ?_
      refine lv_bipush (v := 53) hx hb dX10_passes_48 (by decide) ?_
      refine lv_iload_n hx hb dX10_passes_50 rfl (lv_at hl 1 rfl) ?_
      refine lv_iadd hx hb dX10_passes_51 ?_
      obtain ⟨g_2, h⟩ := gd_inv h
      refine r_iald C hP hv0.1 hv0.2 rfl g_2 dX10_passes_52 ?_
      refine lv_if_ne (tgt := 83) hx hb dX10_passes_53 (by decide) (fun c_ => ?_) (fun c_ => ?_)
      · replace h := if_f c_ h
        obtain ⟨x_3, ex_3⟩ : ∃ y : Int32, y = x1 + (1 : Int32) := ⟨_, rfl⟩
        replace h := un_at ex_3 h
        refine lv_iinc (v := x_3) (lv' := [(1, .int x_3), (0, .ref (adG g a0))]) hx hb dX10_passes_83 hl (k := 1) rfl (by rw [ex_3]; rfl) (by decide) rfl (fun ls hl => ?_)
        refine lv_goto (tgt := 40) hx hb dX10_passes_86 (by decide) ?_
        exact ih σ x_3 H locs ls h hP hS (lv_sub hl [1, 0] rfl)
      · replace h := if_t c_ h
        refine lv_aload_n hx hb dX10_passes_56 rfl (lv_at hl 0 rfl) ?_
        refine lv_bipush (v := 15) hx hb dX10_passes_57 (by decide) ?_
        refine lv_aload_n hx hb dX10_passes_59 rfl (lv_at hl 0 rfl) ?_
        refine lv_bipush (v := 47) hx hb dX10_passes_60 (by decide) ?_
        refine lv_iload_n hx hb dX10_passes_62 rfl (lv_at hl 1 rfl) ?_
        refine lv_iadd hx hb dX10_passes_63 ?_
        obtain ⟨g_4, h⟩ := gd_inv h
        refine r_iald C hP hv0.1 hv0.2 rfl g_4 dX10_passes_64 ?_
        refine lv_iadd hx hb dX10_passes_65 ?_
        obtain ⟨g_5, h⟩ := gd_inv h
        refine r_iald C hP hv0.1 hv0.2 rfl g_5 dX10_passes_66 ?_
        refine lv_aload_n hx hb dX10_passes_67 rfl (lv_at hl 0 rfl) ?_
        refine lv_bipush (v := 41) hx hb dX10_passes_68 (by decide) ?_
        refine lv_iload_n hx hb dX10_passes_70 rfl (lv_at hl 1 rfl) ?_
        refine lv_iadd hx hb dX10_passes_71 ?_
        obtain ⟨g_6, h⟩ := gd_inv h
        refine r_iald C hP hv0.1 hv0.2 rfl g_6 dX10_passes_72 ?_
        refine lv_icmp_lt (tgt := 83) hx hb dX10_passes_73 (by decide) (fun c_ => ?_) (fun c_ => ?_)
        · replace h := if_t c_ h
          obtain ⟨x_7, ex_7⟩ : ∃ y : Int32, y = x1 + (1 : Int32) := ⟨_, rfl⟩
          replace h := un_at ex_7 h
          refine lv_iinc (v := x_7) (lv' := [(1, .int x_7), (0, .ref (adG g a0))]) hx hb dX10_passes_83 hl (k := 1) rfl (by rw [ex_7]; rfl) (by decide) rfl (fun ls hl => ?_)
          refine lv_goto (tgt := 40) hx hb dX10_passes_86 (by decide) ?_
          exact ih σ x_7 H locs ls h hP hS (lv_sub hl [1, 0] rfl)
        · replace h := if_f c_ h
          refine lv_aload_n hx hb dX10_passes_76 rfl (lv_at hl 0 rfl) ?_
          refine lv_bipush (v := 53) hx hb dX10_passes_77 (by decide) ?_
          refine lv_iload_n hx hb dX10_passes_79 rfl (lv_at hl 1 rfl) ?_
          refine lv_iadd hx hb dX10_passes_80 ?_
          refine lv_iconst (v := 2) hx hb dX10_passes_81 (by decide) ?_
          refine r_iast C hP hS hv0.1 hv0.2 rfl g_2 dX10_passes_82 (fun H locs σ_8 eσ_8 hP hS => ?_)
          replace h := un_at eσ_8 h
          obtain ⟨x_9, ex_9⟩ : ∃ y : Int32, y = x1 + (1 : Int32) := ⟨_, rfl⟩
          replace h := un_at ex_9 h
          refine lv_iinc (v := x_9) (lv' := [(1, .int x_9), (0, .ref (adG g a0))]) hx hb dX10_passes_83 hl (k := 1) rfl (by rw [ex_9]; rfl) (by decide) rfl (fun ls hl => ?_)
          refine lv_goto (tgt := 40) hx hb dX10_passes_86 (by decide) ?_
          exact ih σ_8 x_9 H locs ls h hP hS (lv_sub hl [1, 0] rfl)

set_option maxRecDepth 100000 in
set_option maxHeartbeats 4000000 in
theorem ctX10_passes {l : Launch} {g : Gw} {σ : Sto} (a0 : Nat) (hv0 : isU a0) {Rz : Sto} (h : fX10_passes σ a0 = some Rz) : MtG l yX10_passes cX10_passes 2 none 2 wkM g [.ref (adG g a0)] σ (QvS wkM g Rz) := by
  refine mt_of (by decide) (Nat.le_of_ble_eq_true rfl) (fun p e s m below meth c ls H locs C hP hS hl => ?_)
  have C : Cx wkM g p s m _ meth c cX10_passes 2 RX10 none := C
  have hl : lv_has ls 2 [(0, .ref (adG g a0))] := hl
  obtain ⟨hx, hb, hml, hown, hts, hr, hlk, hK, hZ⟩ := id C
  unfold fX10_passes at h
  refine lv_aload_n hx hb dX10_passes_0 rfl (lv_at hl 0 rfl) ?_
  obtain ⟨q_1, hq_1, h⟩ := bd_inv h
  refine end_v (run_s (As := [.ref (adG g a0)]) (rest := []) C ca_X10_flows (ctX10_flows a0 hv0 hq_1) tw_493 ⟨Nat.le_of_ble_eq_true rfl, Nat.le_of_ble_eq_true rfl⟩ rfl hl.1 (Nat.le_of_ble_eq_true rfl) ⟨Nat.le_refl _, Nat.le_refl _⟩ hP hS dX10_passes_1) hS (fun H locs hP hS => ?_)
  refine lv_iconst (v := 0) hx hb dX10_passes_4 (by decide) ?_
  refine lv_istore_n (lv' := [(1, .int (0 : Int32)), (0, .ref (adG g a0))]) hx hb dX10_passes_5 rfl hl (by decide) rfl (fun ls hl => ?_)
  refine wfX10_passes_L6 C a0 hv0 fu q_1 (0 : Int32) H locs ls h hP hS (lv_sub hl [1, 0] rfl) (fun σ_2 H locs ls h hP hS hl => ?_)
  refine lv_iconst (v := 0) hx hb dX10_passes_38 (by decide) ?_
  refine lv_istore_n (lv' := [(1, .int (0 : Int32)), (0, .ref (adG g a0))]) hx hb dX10_passes_39 rfl hl (by decide) rfl (fun ls hl => ?_)
  exact wfX10_passes_L40 C a0 hv0 fu σ_2 (0 : Int32) H locs ls h hP hS (lv_sub hl [1, 0] rfl)

set_option maxRecDepth 100000 in
set_option maxHeartbeats 4000000 in
theorem wfX10_goesBy_L2 {l : Launch} {g : Gw} {p : Program} {e : Env} {s : State} {m : MethodId} {args : Array Value} {below : List Frame} {meth : Method} {c : Code} (C : Cx wkM g p s m args meth c cX10_goesBy 3 RX10 none) (a0 : Nat) (hv0 : isU a0) {Rz : Sto} : ∀ (n : Nat) (σ : Sto) (x1 : Int32) (x2 : Int32) (H : Heap) (locs : List Loc) (ls : Array Slot), fX10_goesBy_L2 a0 n σ x1 x2 = some Rz → wS wkM g σ H → va_S (AS wkM g) s.heap H locs → lv_has ls 3 [(0, .ref (adG g a0)), (1, .int x1), (2, .int x2)] → W p l e (rmS 3) s m args below meth c H locs 0 0 (MQ below (QvS wkM g Rz) args s 0 0 (AS wkM g)) (F0 m 2 ls []) := by
  intro n
  induction n with
  | zero =>
    intro σ x1 x2 H locs ls h
    cases h
  | succ n ih =>
    intro σ x1 x2 H locs ls h hP hS hl
    obtain ⟨hx, hb, hml, hown, hts, hr, hlk, hK, hZ⟩ := id C
    rw [fX10_goesBy_L2] at h
    refine lv_iload_n hx hb dX10_goesBy_2 rfl (lv_at hl 2 rfl) ?_
    refine lv_iload_n hx hb dX10_goesBy_3 rfl (lv_at hl 1 rfl) ?_
    refine lv_icmp_ge (tgt := 17) hx hb dX10_goesBy_4 (by decide) (fun c_ => ?_) (fun c_ => ?_)
    · replace h := if_t c_ h
      exact r_retv C hP hS (rt_o h) dX10_goesBy_17
    · replace h := if_f c_ h
      refine lv_aload_n hx hb dX10_goesBy_7 rfl (lv_at hl 0 rfl) ?_
      obtain ⟨q_1, hq_1, h⟩ := bd_inv h
      refine end_v (run_s (As := [.ref (adG g a0)]) (rest := []) C ca_X10_passes (ctX10_passes a0 hv0 hq_1) tw_490 ⟨Nat.le_of_ble_eq_true rfl, Nat.le_of_ble_eq_true rfl⟩ rfl hl.1 (Nat.le_of_ble_eq_true rfl) ⟨Nat.le_refl _, Nat.le_refl _⟩ hP hS dX10_goesBy_8) hS (fun H locs hP hS => ?_)
      obtain ⟨x_2, ex_2⟩ : ∃ y : Int32, y = x2 + (1 : Int32) := ⟨_, rfl⟩
      replace h := un_at ex_2 h
      refine lv_iinc (v := x_2) (lv' := [(2, .int x_2), (0, .ref (adG g a0)), (1, .int x1)]) hx hb dX10_goesBy_11 hl (k := 2) rfl (by rw [ex_2]; rfl) (by decide) rfl (fun ls hl => ?_)
      refine lv_goto (tgt := 2) hx hb dX10_goesBy_14 (by decide) ?_
      exact ih q_1 x1 x_2 H locs ls h hP hS (lv_sub hl [1, 2, 0] rfl)

set_option maxRecDepth 100000 in
set_option maxHeartbeats 4000000 in
theorem ctX10_goesBy {l : Launch} {g : Gw} {σ : Sto} (a0 : Nat) (hv0 : isU a0) (x1 : Int32) {Rz : Sto} (h : fX10_goesBy σ a0 x1 = some Rz) : MtG l yX10_goesBy cX10_goesBy 3 none 3 wkM g [.ref (adG g a0), .int x1] σ (QvS wkM g Rz) := by
  refine mt_of (by decide) (Nat.le_of_ble_eq_true rfl) (fun p e s m below meth c ls H locs C hP hS hl => ?_)
  have C : Cx wkM g p s m _ meth c cX10_goesBy 3 RX10 none := C
  have hl : lv_has ls 3 [(0, .ref (adG g a0)), (1, .int x1)] := hl
  obtain ⟨hx, hb, hml, hown, hts, hr, hlk, hK, hZ⟩ := id C
  unfold fX10_goesBy at h
  refine lv_iconst (v := 0) hx hb dX10_goesBy_0 (by decide) ?_
  refine lv_istore_n (lv' := [(2, .int (0 : Int32)), (0, .ref (adG g a0)), (1, .int x1)]) hx hb dX10_goesBy_1 rfl hl (by decide) rfl (fun ls hl => ?_)
  exact wfX10_goesBy_L2 C a0 hv0 fu σ x1 (0 : Int32) H locs ls h hP hS (lv_sub hl [1, 2, 0] rfl)

set_option maxRecDepth 100000 in
set_option maxHeartbeats 4000000 in
theorem ctX10_whereOf {l : Launch} {g : Gw} {σ : Sto} (a0 : Nat) (hv0 : isU a0) (x1 : Int32) {Rz : Int32} (h : fX10_whereOf σ a0 x1 = some Rz) : MtG l yX10_whereOf cX10_whereOf 2 (some .int) 0 wkM g [.ref (adG g a0), .int x1] σ (QiS wkM g σ Rz) := by
  refine mt_of (by decide) (Nat.le_of_ble_eq_true rfl) (fun p e s m below meth c ls H locs C hP hS hl => ?_)
  have C : Cx wkM g p s m _ meth c cX10_whereOf 2 RX10 (some .int) := C
  have hl : lv_has ls 2 [(0, .ref (adG g a0)), (1, .int x1)] := hl
  obtain ⟨hx, hb, hml, hown, hts, hr, hlk, hK, hZ⟩ := id C
  unfold fX10_whereOf at h
  refine lv_aload_n hx hb dX10_whereOf_0 rfl (lv_at hl 0 rfl) ?_
  refine lv_bipush (v := 53) hx hb dX10_whereOf_1 (by decide) ?_
  refine lv_iload_n hx hb dX10_whereOf_3 rfl (lv_at hl 1 rfl) ?_
  refine lv_iadd hx hb dX10_whereOf_4 ?_
  obtain ⟨g_1, h⟩ := gd_inv h
  refine r_iald C hP hv0.1 hv0.2 rfl g_1 dX10_whereOf_5 ?_
  refine lv_iconst (v := 1) hx hb dX10_whereOf_6 (by decide) ?_
  refine lv_icmp_ne (tgt := 15) hx hb dX10_whereOf_7 (by decide) (fun c_ => ?_) (fun c_ => ?_)
  · replace h := if_f c_ h
    refine lv_aload_n hx hb dX10_whereOf_15 rfl (lv_at hl 0 rfl) ?_
    refine lv_bipush (v := 53) hx hb dX10_whereOf_16 (by decide) ?_
    refine lv_iload_n hx hb dX10_whereOf_18 rfl (lv_at hl 1 rfl) ?_
    refine lv_iadd hx hb dX10_whereOf_19 ?_
    refine r_iald C hP hv0.1 hv0.2 rfl g_1 dX10_whereOf_20 ?_
    refine lv_iconst (v := 2) hx hb dX10_whereOf_21 (by decide) ?_
    refine lv_icmp_ne (tgt := 37) hx hb dX10_whereOf_22 (by decide) (fun c_ => ?_) (fun c_ => ?_)
    · replace h := if_f c_ h
      refine lv_aload_n hx hb dX10_whereOf_37 rfl (lv_at hl 0 rfl) ?_
      refine lv_bipush (v := 47) hx hb dX10_whereOf_38 (by decide) ?_
      refine lv_iload_n hx hb dX10_whereOf_40 rfl (lv_at hl 1 rfl) ?_
      refine lv_iadd hx hb dX10_whereOf_41 ?_
      obtain ⟨g_2, h⟩ := gd_inv h
      refine r_iald C hP hv0.1 hv0.2 rfl g_2 dX10_whereOf_42 ?_
      exact r_reti C hP hS rfl (rt_o h) dX10_whereOf_43
    · replace h := if_t c_ h
      refine lv_bipush (v := 30) hx hb dX10_whereOf_25 (by decide) ?_
      refine lv_aload_n hx hb dX10_whereOf_27 rfl (lv_at hl 0 rfl) ?_
      refine lv_bipush (v := 47) hx hb dX10_whereOf_28 (by decide) ?_
      refine lv_iload_n hx hb dX10_whereOf_30 rfl (lv_at hl 1 rfl) ?_
      refine lv_iadd hx hb dX10_whereOf_31 ?_
      obtain ⟨g_3, h⟩ := gd_inv h
      refine r_iald C hP hv0.1 hv0.2 rfl g_3 dX10_whereOf_32 ?_
      refine lv_iadd hx hb dX10_whereOf_33 ?_
      refine lv_goto (tgt := 43) hx hb dX10_whereOf_34 (by decide) ?_
      exact r_reti C hP hS rfl (rt_o h) dX10_whereOf_43
  · replace h := if_t c_ h
    refine lv_bipush (v := 20) hx hb dX10_whereOf_10 (by decide) ?_
    refine lv_goto (tgt := 43) hx hb dX10_whereOf_12 (by decide) ?_
    exact r_reti C hP hS rfl (rt_o h) dX10_whereOf_43

set_option maxRecDepth 100000 in
set_option maxHeartbeats 4000000 in
theorem wfX10_those_L4 {l : Launch} {g : Gw} {p : Program} {e : Env} {s : State} {m : MethodId} {args : Array Value} {below : List Frame} {meth : Method} {c : Code} {σ : Sto} (C : Cx wkM g p s m args meth c cX10_those 4 RX10 (some .int)) (a0 : Nat) (hv0 : isU a0) {Rz : Int32} : ∀ (n : Nat) (x1 : Int32) (x2 : Int32) (x3 : Int32) (H : Heap) (locs : List Loc) (ls : Array Slot), fX10_those_L4 a0 σ n x1 x2 x3 = some Rz → wS wkM g σ H → va_S (AS wkM g) s.heap H locs → lv_has ls 4 [(0, .ref (adG g a0)), (1, .int x1), (2, .int x2), (3, .int x3)] → W p l e (rmS 0) s m args below meth c H locs 0 0 (MQ below (QiS wkM g σ Rz) args s 0 0 (AS wkM g)) (F0 m 4 ls []) := by
  intro n
  induction n with
  | zero =>
    intro x1 x2 x3 H locs ls h
    cases h
  | succ n ih =>
    intro x1 x2 x3 H locs ls h hP hS hl
    obtain ⟨hx, hb, hml, hown, hts, hr, hlk, hK, hZ⟩ := id C
    rw [fX10_those_L4] at h
    refine lv_iload_n hx hb dX10_those_4 rfl (lv_at hl 3 rfl) ?_
    refine lv_aload_n hx hb dX10_those_5 rfl (lv_at hl 0 rfl) ?_
    refine lv_iconst (v := 1) hx hb dX10_those_6 (by decide) ?_
    refine r_iald C hP hv0.1 hv0.2 (j := 1) (by decide) (by decide) dX10_those_7 ?_
    refine lv_icmp_ge (tgt := 37) hx hb dX10_those_8 (by decide) (fun c_ => ?_) (fun c_ => ?_)
    · replace h := if_t c_ h
      refine lv_iload_n hx hb dX10_those_37 rfl (lv_at hl 2 rfl) ?_
      exact r_reti C hP hS rfl (rt_o h) dX10_those_38
    · replace h := if_f c_ h
      refine lv_iload_n hx hb dX10_those_11 rfl (lv_at hl 2 rfl) ?_
      refine lv_aload_n hx hb dX10_those_12 rfl (lv_at hl 0 rfl) ?_
      refine lv_bipush (v := 53) hx hb dX10_those_13 (by decide) ?_
      refine lv_iload_n hx hb dX10_those_15 rfl (lv_at hl 3 rfl) ?_
      refine lv_iadd hx hb dX10_those_16 ?_
      obtain ⟨g_1, h⟩ := gd_inv h
      refine r_iald C hP hv0.1 hv0.2 rfl g_1 dX10_those_17 ?_
      refine lv_iload_n hx hb dX10_those_18 rfl (lv_at hl 1 rfl) ?_
      refine lv_icmp_ne (tgt := 28) hx hb dX10_those_19 (by decide) (fun c_ => ?_) (fun c_ => ?_)
      · replace h := if_f c_ h
        refine lv_iconst (v := 0) hx hb dX10_those_28 (by decide) ?_
        refine lv_ior hx hb dX10_those_29 ?_
        refine lv_topi (fun x_2 ex_2 => ?_)
        replace h := un_at ex_2 h
        refine lv_istore_n (lv' := [(2, .int x_2), (0, .ref (adG g a0)), (1, .int x1), (3, .int x3)]) hx hb dX10_those_30 rfl hl (by decide) rfl (fun ls hl => ?_)
        obtain ⟨x_3, ex_3⟩ : ∃ y : Int32, y = x3 + (1 : Int32) := ⟨_, rfl⟩
        replace h := un_at ex_3 h
        refine lv_iinc (v := x_3) (lv' := [(3, .int x_3), (2, .int x_2), (0, .ref (adG g a0)), (1, .int x1)]) hx hb dX10_those_31 hl (k := 3) rfl (by rw [ex_3]; rfl) (by decide) rfl (fun ls hl => ?_)
        refine lv_goto (tgt := 4) hx hb dX10_those_34 (by decide) ?_
        exact ih x1 x_2 x_3 H locs ls h hP hS (lv_sub hl [2, 3, 1, 0] rfl)
      · replace h := if_t c_ h
        refine lv_iconst (v := 1) hx hb dX10_those_22 (by decide) ?_
        refine lv_iload_n hx hb dX10_those_23 rfl (lv_at hl 3 rfl) ?_
        refine lv_ishl hx hb dX10_those_24 ?_
        refine lv_goto (tgt := 29) hx hb dX10_those_25 (by decide) ?_
        refine lv_ior hx hb dX10_those_29 ?_
        refine lv_topi (fun x_4 ex_4 => ?_)
        replace h := un_at ex_4 h
        refine lv_istore_n (lv' := [(2, .int x_4), (0, .ref (adG g a0)), (1, .int x1), (3, .int x3)]) hx hb dX10_those_30 rfl hl (by decide) rfl (fun ls hl => ?_)
        obtain ⟨x_5, ex_5⟩ : ∃ y : Int32, y = x3 + (1 : Int32) := ⟨_, rfl⟩
        replace h := un_at ex_5 h
        refine lv_iinc (v := x_5) (lv' := [(3, .int x_5), (2, .int x_4), (0, .ref (adG g a0)), (1, .int x1)]) hx hb dX10_those_31 hl (k := 3) rfl (by rw [ex_5]; rfl) (by decide) rfl (fun ls hl => ?_)
        refine lv_goto (tgt := 4) hx hb dX10_those_34 (by decide) ?_
        exact ih x1 x_4 x_5 H locs ls h hP hS (lv_sub hl [2, 3, 1, 0] rfl)

set_option maxRecDepth 100000 in
set_option maxHeartbeats 4000000 in
theorem ctX10_those {l : Launch} {g : Gw} {σ : Sto} (a0 : Nat) (hv0 : isU a0) (x1 : Int32) {Rz : Int32} (h : fX10_those σ a0 x1 = some Rz) : MtG l yX10_those cX10_those 4 (some .int) 0 wkM g [.ref (adG g a0), .int x1] σ (QiS wkM g σ Rz) := by
  refine mt_of (by decide) (Nat.le_of_ble_eq_true rfl) (fun p e s m below meth c ls H locs C hP hS hl => ?_)
  have C : Cx wkM g p s m _ meth c cX10_those 4 RX10 (some .int) := C
  have hl : lv_has ls 4 [(0, .ref (adG g a0)), (1, .int x1)] := hl
  obtain ⟨hx, hb, hml, hown, hts, hr, hlk, hK, hZ⟩ := id C
  unfold fX10_those at h
  refine lv_iconst (v := 0) hx hb dX10_those_0 (by decide) ?_
  refine lv_istore_n (lv' := [(2, .int (0 : Int32)), (0, .ref (adG g a0)), (1, .int x1)]) hx hb dX10_those_1 rfl hl (by decide) rfl (fun ls hl => ?_)
  refine lv_iconst (v := 0) hx hb dX10_those_2 (by decide) ?_
  refine lv_istore_n (lv' := [(3, .int (0 : Int32)), (2, .int (0 : Int32)), (0, .ref (adG g a0)), (1, .int x1)]) hx hb dX10_those_3 rfl hl (by decide) rfl (fun ls hl => ?_)
  exact wfX10_those_L4 C a0 hv0 fu x1 (0 : Int32) (0 : Int32) H locs ls h hP hS (lv_sub hl [2, 3, 1, 0] rfl)

set_option maxRecDepth 100000 in
set_option maxHeartbeats 4000000 in
theorem ctX10_stones {l : Launch} {g : Gw} {σ : Sto} (a0 : Nat) (hv0 : isU a0) {Rz : Int32} (h : fX10_stones σ a0 = some Rz) : MtG l yX10_stones cX10_stones 1 (some .int) 1 wkM g [.ref (adG g a0)] σ (QiS wkM g σ Rz) := by
  refine mt_of (by decide) (Nat.le_of_ble_eq_true rfl) (fun p e s m below meth c ls H locs C hP hS hl => ?_)
  have C : Cx wkM g p s m _ meth c cX10_stones 1 RX10 (some .int) := C
  have hl : lv_has ls 1 [(0, .ref (adG g a0))] := hl
  obtain ⟨hx, hb, hml, hown, hts, hr, hlk, hK, hZ⟩ := id C
  unfold fX10_stones at h
  refine lv_aload_n hx hb dX10_stones_0 rfl (lv_at hl 0 rfl) ?_
  refine lv_iconst (v := 2) hx hb dX10_stones_1 (by decide) ?_
  obtain ⟨q_1, hq_1, h⟩ := bd_inv h
  refine end_i (run_s (As := [.ref (adG g a0), .int (2 : Int32)]) (rest := []) C ca_X10_those (ctX10_those a0 hv0 (2 : Int32) hq_1) tw_508 ⟨Nat.le_of_ble_eq_true rfl, Nat.le_of_ble_eq_true rfl⟩ rfl hl.1 (Nat.le_of_ble_eq_true rfl) ⟨Nat.le_refl _, Nat.le_refl _⟩ hP hS dX10_stones_2) hS (fun H locs hP hS => ?_)
  obtain ⟨q_2, hq_2, h⟩ := bd_inv h
  refine end_i (run_s (As := [.int q_1]) (rest := []) C ca_X10_bits (ctX10_bits q_1 hq_2) tw_788 ⟨Nat.le_of_ble_eq_true rfl, Nat.le_of_ble_eq_true rfl⟩ rfl hl.1 (Nat.le_of_ble_eq_true rfl) ⟨Nat.le_refl _, Nat.le_refl _⟩ hP hS dX10_stones_5) hS (fun H locs hP hS => ?_)
  exact r_reti C hP hS rfl (rt_o h) dX10_stones_8

set_option maxRecDepth 100000 in
set_option maxHeartbeats 4000000 in
theorem ctX10_isThing {l : Launch} {g : Gw} {σ : Sto} (x1 : Int32) {Rz : Int32} (h : fX10_isThing σ x1 = Rz) : MtG l yX10_isThing cX10_isThing 2 (some .boolean) 1 wkM g [.ref (adG g 0), .int x1] σ (QiS wkM g σ Rz) := by
  refine mt_of (by decide) (Nat.le_of_ble_eq_true rfl) (fun p e s m below meth c ls H locs C hP hS hl => ?_)
  have C : Cx wkM g p s m _ meth c cX10_isThing 2 RX10 (some .boolean) := C
  have hl : lv_has ls 2 [(0, .ref (adG g 0)), (1, .int x1)] := hl
  obtain ⟨hx, hb, hml, hown, hts, hr, hlk, hK, hZ⟩ := id C
  unfold fX10_isThing at h
  refine lv_iload_n hx hb dX10_isThing_0 rfl (lv_at hl 1 rfl) ?_
  refine lv_i2l hx hb dX10_isThing_1 rfl ?_
  refine lv_lconst (v := 0) hx hb dX10_isThing_2 (by decide) ?_
  refine lv_aload_n hx hb dX10_isThing_3 rfl (lv_at hl 0 rfl) ?_
  refine r_getr C cf_10 hP sm_0 km_0 4 (by decide) rfl tw_147 dX10_isThing_4 ?_
  refine lv_iconst (v := 1) hx hb dX10_isThing_7 (by decide) ?_
  refine r_iald C hP sm_4 km_4 (j := 1) (by decide) (by decide) dX10_isThing_8 ?_
  refine lv_iconst (v := 1) hx hb dX10_isThing_9 (by decide) ?_
  refine lv_isub hx hb dX10_isThing_10 ?_
  refine lv_i2l hx hb dX10_isThing_11 rfl ?_
  refine end_i (run_s (As := [.long x1.toInt64, .long (0 : Int64), .long (((σ 4 1) - (1 : Int32)).toInt64)]) (rest := []) C ca_X10_in (ctX10_in x1.toInt64 (0 : Int64) (((σ 4 1) - (1 : Int32)).toInt64) rfl) tw_193 ⟨Nat.le_of_ble_eq_true rfl, Nat.le_of_ble_eq_true rfl⟩ rfl hl.1 (Nat.le_of_ble_eq_true rfl) ⟨Nat.le_refl _, Nat.le_refl _⟩ hP hS dX10_isThing_12) hS (fun H locs hP hS => ?_)
  exact r_retz C hP hS rfl h (nbX10_in _ _ _) dX10_isThing_15

set_option maxRecDepth 100000 in
set_option maxHeartbeats 4000000 in
theorem ctX10_isRoom {l : Launch} {g : Gw} {σ : Sto} (x1 : Int32) {Rz : Int32} (h : fX10_isRoom σ x1 = Rz) : MtG l yX10_isRoom cX10_isRoom 2 (some .boolean) 1 wkM g [.ref (adG g 0), .int x1] σ (QiS wkM g σ Rz) := by
  refine mt_of (by decide) (Nat.le_of_ble_eq_true rfl) (fun p e s m below meth c ls H locs C hP hS hl => ?_)
  have C : Cx wkM g p s m _ meth c cX10_isRoom 2 RX10 (some .boolean) := C
  have hl : lv_has ls 2 [(0, .ref (adG g 0)), (1, .int x1)] := hl
  obtain ⟨hx, hb, hml, hown, hts, hr, hlk, hK, hZ⟩ := id C
  unfold fX10_isRoom at h
  refine lv_iload_n hx hb dX10_isRoom_0 rfl (lv_at hl 1 rfl) ?_
  refine lv_i2l hx hb dX10_isRoom_1 rfl ?_
  refine lv_lconst (v := 0) hx hb dX10_isRoom_2 (by decide) ?_
  refine lv_aload_n hx hb dX10_isRoom_3 rfl (lv_at hl 0 rfl) ?_
  refine r_getr C cf_10 hP sm_0 km_0 4 (by decide) rfl tw_147 dX10_isRoom_4 ?_
  refine lv_iconst (v := 0) hx hb dX10_isRoom_7 (by decide) ?_
  refine r_iald C hP sm_4 km_4 (j := 0) (by decide) (by decide) dX10_isRoom_8 ?_
  refine lv_iconst (v := 1) hx hb dX10_isRoom_9 (by decide) ?_
  refine lv_isub hx hb dX10_isRoom_10 ?_
  refine lv_i2l hx hb dX10_isRoom_11 rfl ?_
  refine end_i (run_s (As := [.long x1.toInt64, .long (0 : Int64), .long (((σ 4 0) - (1 : Int32)).toInt64)]) (rest := []) C ca_X10_in (ctX10_in x1.toInt64 (0 : Int64) (((σ 4 0) - (1 : Int32)).toInt64) rfl) tw_193 ⟨Nat.le_of_ble_eq_true rfl, Nat.le_of_ble_eq_true rfl⟩ rfl hl.1 (Nat.le_of_ble_eq_true rfl) ⟨Nat.le_refl _, Nat.le_refl _⟩ hP hS dX10_isRoom_12) hS (fun H locs hP hS => ?_)
  exact r_retz C hP hS rfl h (nbX10_in _ _ _) dX10_isRoom_15

set_option maxRecDepth 100000 in
set_option maxHeartbeats 4000000 in
theorem ctX10_isThere {l : Launch} {g : Gw} {σ : Sto} {Rz : Int32} (h : fX10_isThere σ = Rz) : MtG l yX10_isThere cX10_isThere 1 (some .boolean) 0 wkM g [.ref (adG g 0)] σ (QiS wkM g σ Rz) := by
  refine mt_of (by decide) (Nat.le_of_ble_eq_true rfl) (fun p e s m below meth c ls H locs C hP hS hl => ?_)
  have C : Cx wkM g p s m _ meth c cX10_isThere 1 RX10 (some .boolean) := C
  have hl : lv_has ls 1 [(0, .ref (adG g 0))] := hl
  obtain ⟨hx, hb, hml, hown, hts, hr, hlk, hK, hZ⟩ := id C
  unfold fX10_isThere at h
  refine lv_aload_n hx hb dX10_isThere_0 rfl (lv_at hl 0 rfl) ?_
  refine r_getr C cf_10 hP sm_0 km_0 4 (by decide) rfl tw_147 dX10_isThere_1 ?_
  refine lv_iconst (v := 0) hx hb dX10_isThere_4 (by decide) ?_
  refine r_iald C hP sm_4 km_4 (j := 0) (by decide) (by decide) dX10_isThere_5 ?_
  refine lv_if_le (tgt := 13) hx hb dX10_isThere_6 (by decide) (fun c_ => ?_) (fun c_ => ?_)
  · replace h := if_t c_ h
    refine lv_iconst (v := 0) hx hb dX10_isThere_13 (by decide) ?_
    exact r_retz C hP hS rfl h rfl dX10_isThere_14
  · replace h := if_f c_ h
    refine lv_iconst (v := 1) hx hb dX10_isThere_9 (by decide) ?_
    refine lv_goto (tgt := 14) hx hb dX10_isThere_10 (by decide) ?_
    exact r_retz C hP hS rfl h rfl dX10_isThere_14

set_option maxRecDepth 100000 in
set_option maxHeartbeats 4000000 in
theorem wfX10_notes_j49 {l : Launch} {g : Gw} {p : Program} {e : Env} {s : State} {m : MethodId} {args : Array Value} {below : List Frame} {meth : Method} {c : Code} (C : Cx wkM g p s m args meth c cX10_notes 2 RX10 none) {Rz : Sto} : ∀ (σ : Sto) (H : Heap) (locs : List Loc) (ls : Array Slot), fX10_notes_j49 σ = some Rz → wS wkM g σ H → va_S (AS wkM g) s.heap H locs → lv_has ls 2 [(0, .ref (adG g 0))] → W p l e (rmS 1) s m args below meth c H locs 0 0 (MQ below (QvS wkM g Rz) args s 0 0 (AS wkM g)) (F0 m 49 ls []) := by
  intro σ H locs ls h hP hS hl
  obtain ⟨hx, hb, hml, hown, hts, hr, hlk, hK, hZ⟩ := id C
  unfold fX10_notes_j49 at h
  refine lv_aload_n hx hb dX10_notes_49 rfl (lv_at hl 0 rfl) ?_
  refine r_getr C cf_10 hP sm_0 km_0 4 (by decide) rfl tw_147 dX10_notes_50 ?_
  refine lv_iconst (v := 0) hx hb dX10_notes_53 (by decide) ?_
  refine lv_aload_n hx hb dX10_notes_54 rfl (lv_at hl 0 rfl) ?_
  refine r_getr C cf_10 hP sm_0 km_0 7 (by decide) rfl tw_150 dX10_notes_55 ?_
  refine lv_bipush (v := 59) hx hb dX10_notes_58 (by decide) ?_
  refine lv_aload_n hx hb dX10_notes_60 rfl (lv_at hl 0 rfl) ?_
  refine r_geti C cf_10 hP sm_0 km_0 8 (by decide) rfl tw_370 dX10_notes_61 ?_
  refine lv_imul hx hb dX10_notes_64 ?_
  obtain ⟨q_1, hq_1, h⟩ := bd_inv h
  refine end_v (run_s (As := [.ref (adG g 4), .int (0 : Int32), .ref (adG g 7), .int ((59 : Int32) * (σ 0 8))]) (rest := []) C ca_X10_copies (ctX10_copies 4 (isT_of sm_4 km_4) (0 : Int32) 7 (isT_of sm_7 km_7) ((59 : Int32) * (σ 0 8)) hq_1) tw_409 ⟨Nat.le_of_ble_eq_true rfl, Nat.le_of_ble_eq_true rfl⟩ rfl hl.1 (Nat.le_of_ble_eq_true rfl) ⟨Nat.le_refl _, Nat.le_refl _⟩ hP hS dX10_notes_65) hS (fun H locs hP hS => ?_)
  refine lv_aload_n hx hb dX10_notes_68 rfl (lv_at hl 0 rfl) ?_
  refine lv_dup hx hb dX10_notes_69 rfl ?_
  refine r_geti C cf_10 hP sm_0 km_0 8 (by decide) rfl tw_370 dX10_notes_70 ?_
  refine lv_iconst (v := 1) hx hb dX10_notes_73 (by decide) ?_
  refine lv_iadd hx hb dX10_notes_74 ?_
  refine r_puti C cf_10 hP hS sm_0 km_0 8 (by decide) rfl rfl rfl tw_370 dX10_notes_75 (fun H locs σ_2 eσ_2 hP hS => ?_)
  replace h := un_at eσ_2 h
  exact r_retv C hP hS (rt_o h) dX10_notes_78

set_option maxRecDepth 100000 in
set_option maxHeartbeats 4000000 in
theorem wfX10_notes_L11 {l : Launch} {g : Gw} {p : Program} {e : Env} {s : State} {m : MethodId} {args : Array Value} {below : List Frame} {meth : Method} {c : Code} (C : Cx wkM g p s m args meth c cX10_notes 2 RX10 none) {Rz : Sto} {k_39 : Sto → Option Sto} : ∀ (n : Nat) (σ : Sto) (x1 : Int32) (H : Heap) (locs : List Loc) (ls : Array Slot), fX10_notes_L11 k_39 n σ x1 = some Rz → wS wkM g σ H → va_S (AS wkM g) s.heap H locs → lv_has ls 2 [(0, .ref (adG g 0)), (1, .int x1)] → (∀ (σ : Sto) (H : Heap) (locs : List Loc) (ls : Array Slot), k_39 σ = some Rz → wS wkM g σ H → va_S (AS wkM g) s.heap H locs → lv_has ls 2 [(0, .ref (adG g 0))] → W p l e (rmS 1) s m args below meth c H locs 0 0 (MQ below (QvS wkM g Rz) args s 0 0 (AS wkM g)) (F0 m 39 ls [])) → W p l e (rmS 1) s m args below meth c H locs 0 0 (MQ below (QvS wkM g Rz) args s 0 0 (AS wkM g)) (F0 m 11 ls []) := by
  intro n
  induction n with
  | zero =>
    intro σ x1 H locs ls h
    cases h
  | succ n ih =>
    intro σ x1 H locs ls h hP hS hl hk_39
    obtain ⟨hx, hb, hml, hown, hts, hr, hlk, hK, hZ⟩ := id C
    rw [fX10_notes_L11] at h
    refine lv_iload_n hx hb dX10_notes_11 rfl (lv_at hl 1 rfl) ?_
    refine lv_sipush (v := 1357) hx hb dX10_notes_12 (by decide) ?_
    refine lv_icmp_ge (tgt := 39) hx hb dX10_notes_15 (by decide) (fun c_ => ?_) (fun c_ => ?_)
    · replace h := if_t c_ h
      exact hk_39 σ H locs ls h hP hS (lv_sub hl [0] rfl)
    · replace h := if_f c_ h
      refine lv_aload_n hx hb dX10_notes_18 rfl (lv_at hl 0 rfl) ?_
      refine r_getr C cf_10 hP sm_0 km_0 7 (by decide) rfl tw_150 dX10_notes_19 ?_
      refine lv_iload_n hx hb dX10_notes_22 rfl (lv_at hl 1 rfl) ?_
      refine lv_aload_n hx hb dX10_notes_23 rfl (lv_at hl 0 rfl) ?_
      refine r_getr C cf_10 hP sm_0 km_0 7 (by decide) rfl tw_150 dX10_notes_24 ?_
      refine lv_iload_n hx hb dX10_notes_27 rfl (lv_at hl 1 rfl) ?_
      refine lv_bipush (v := 59) hx hb dX10_notes_28 (by decide) ?_
      refine lv_iadd hx hb dX10_notes_30 ?_
      obtain ⟨g_1, h⟩ := gd_inv h
      refine r_iald C hP sm_7 km_7 rfl g_1 dX10_notes_31 ?_
      obtain ⟨g_2, h⟩ := gd_inv h
      refine r_iast C hP hS sm_7 km_7 rfl g_2 dX10_notes_32 (fun H locs σ_3 eσ_3 hP hS => ?_)
      replace h := un_at eσ_3 h
      obtain ⟨x_4, ex_4⟩ : ∃ y : Int32, y = x1 + (1 : Int32) := ⟨_, rfl⟩
      replace h := un_at ex_4 h
      refine lv_iinc (v := x_4) (lv' := [(1, .int x_4), (0, .ref (adG g 0))]) hx hb dX10_notes_33 hl (k := 1) rfl (by rw [ex_4]; rfl) (by decide) rfl (fun ls hl => ?_)
      refine lv_goto (tgt := 11) hx hb dX10_notes_36 (by decide) ?_
      exact ih σ_3 x_4 H locs ls h hP hS (lv_sub hl [1, 0] rfl) hk_39

set_option maxRecDepth 100000 in
set_option maxHeartbeats 4000000 in
theorem ctX10_notes {l : Launch} {g : Gw} {σ : Sto} {Rz : Sto} (h : fX10_notes σ = some Rz) : MtG l yX10_notes cX10_notes 2 none 1 wkM g [.ref (adG g 0)] σ (QvS wkM g Rz) := by
  refine mt_of (by decide) (Nat.le_of_ble_eq_true rfl) (fun p e s m below meth c ls H locs C hP hS hl => ?_)
  have C : Cx wkM g p s m _ meth c cX10_notes 2 RX10 none := C
  have hl : lv_has ls 2 [(0, .ref (adG g 0))] := hl
  obtain ⟨hx, hb, hml, hown, hts, hr, hlk, hK, hZ⟩ := id C
  unfold fX10_notes at h
  refine lv_aload_n hx hb dX10_notes_0 rfl (lv_at hl 0 rfl) ?_
  refine r_geti C cf_10 hP sm_0 km_0 8 (by decide) rfl tw_370 dX10_notes_1 ?_
  refine lv_bipush (v := 24) hx hb dX10_notes_4 (by decide) ?_
  refine lv_icmp_ne (tgt := 49) hx hb dX10_notes_6 (by decide) (fun c_ => ?_) (fun c_ => ?_)
  · replace h := if_f c_ h
    exact wfX10_notes_j49 C σ H locs ls h hP hS (lv_sub hl [0] rfl)
  · replace h := if_t c_ h
    refine lv_iconst (v := 0) hx hb dX10_notes_9 (by decide) ?_
    refine lv_istore_n (lv' := [(1, .int (0 : Int32)), (0, .ref (adG g 0))]) hx hb dX10_notes_10 rfl hl (by decide) rfl (fun ls hl => ?_)
    refine wfX10_notes_L11 C fu σ (0 : Int32) H locs ls h hP hS (lv_sub hl [1, 0] rfl) (fun σ_1 H locs ls h hP hS hl => ?_)
    refine lv_aload_n hx hb dX10_notes_39 rfl (lv_at hl 0 rfl) ?_
    refine lv_dup hx hb dX10_notes_40 rfl ?_
    refine r_geti C cf_10 hP sm_0 km_0 8 (by decide) rfl tw_370 dX10_notes_41 ?_
    refine lv_iconst (v := 1) hx hb dX10_notes_44 (by decide) ?_
    refine lv_isub hx hb dX10_notes_45 ?_
    refine r_puti C cf_10 hP hS sm_0 km_0 8 (by decide) rfl rfl rfl tw_370 dX10_notes_46 (fun H locs σ_2 eσ_2 hP hS => ?_)
    replace h := un_at eσ_2 h
    exact wfX10_notes_j49 C σ_2 H locs ls h hP hS (lv_sub hl [0] rfl)

set_option maxRecDepth 100000 in
set_option maxHeartbeats 4000000 in
theorem ctX10_undo {l : Launch} {g : Gw} {σ : Sto} {Rz : (Sto × Int32)} (h : fX10_undo σ = some Rz) : MtG l yX10_undo cX10_undo 1 (some .int) 1 wkM g [.ref (adG g 0)] σ (QiS wkM g Rz.1 Rz.2) := by
  refine mt_of (by decide) (Nat.le_of_ble_eq_true rfl) (fun p e s m below meth c ls H locs C hP hS hl => ?_)
  have C : Cx wkM g p s m _ meth c cX10_undo 1 RX10 (some .int) := C
  have hl : lv_has ls 1 [(0, .ref (adG g 0))] := hl
  obtain ⟨hx, hb, hml, hown, hts, hr, hlk, hK, hZ⟩ := id C
  unfold fX10_undo at h
  refine lv_aload_n hx hb dX10_undo_0 rfl (lv_at hl 0 rfl) ?_
  refine r_geti C cf_10 hP sm_0 km_0 8 (by decide) rfl tw_370 dX10_undo_1 ?_
  refine lv_if_ne (tgt := 10) hx hb dX10_undo_4 (by decide) (fun c_ => ?_) (fun c_ => ?_)
  · replace h := if_f c_ h
    refine lv_aload_n hx hb dX10_undo_10 rfl (lv_at hl 0 rfl) ?_
    refine lv_dup hx hb dX10_undo_11 rfl ?_
    refine r_geti C cf_10 hP sm_0 km_0 8 (by decide) rfl tw_370 dX10_undo_12 ?_
    refine lv_iconst (v := 1) hx hb dX10_undo_15 (by decide) ?_
    refine lv_isub hx hb dX10_undo_16 ?_
    refine r_puti C cf_10 hP hS sm_0 km_0 8 (by decide) rfl rfl rfl tw_370 dX10_undo_17 (fun H locs σ_1 eσ_1 hP hS => ?_)
    replace h := un_at eσ_1 h
    refine lv_aload_n hx hb dX10_undo_20 rfl (lv_at hl 0 rfl) ?_
    refine r_getr C cf_10 hP sm_0 km_0 7 (by decide) rfl tw_150 dX10_undo_21 ?_
    refine lv_bipush (v := 59) hx hb dX10_undo_24 (by decide) ?_
    refine lv_aload_n hx hb dX10_undo_26 rfl (lv_at hl 0 rfl) ?_
    refine r_geti C cf_10 hP sm_0 km_0 8 (by decide) rfl tw_370 dX10_undo_27 ?_
    refine lv_imul hx hb dX10_undo_30 ?_
    refine lv_aload_n hx hb dX10_undo_31 rfl (lv_at hl 0 rfl) ?_
    refine r_getr C cf_10 hP sm_0 km_0 4 (by decide) rfl tw_147 dX10_undo_32 ?_
    refine lv_iconst (v := 0) hx hb dX10_undo_35 (by decide) ?_
    obtain ⟨q_2, hq_2, h⟩ := bd_inv h
    refine end_v (run_s (As := [.ref (adG g 7), .int ((59 : Int32) * (σ_1 0 8)), .ref (adG g 4), .int (0 : Int32)]) (rest := []) C ca_X10_copies (ctX10_copies 7 (isT_of sm_7 km_7) ((59 : Int32) * (σ_1 0 8)) 4 (isT_of sm_4 km_4) (0 : Int32) hq_2) tw_409 ⟨Nat.le_of_ble_eq_true rfl, Nat.le_of_ble_eq_true rfl⟩ rfl hl.1 (Nat.le_of_ble_eq_true rfl) ⟨Nat.le_refl _, Nat.le_refl _⟩ hP hS dX10_undo_36) hS (fun H locs hP hS => ?_)
    refine lv_aload_n hx hb dX10_undo_39 rfl (lv_at hl 0 rfl) ?_
    refine r_geti C cf_10 hP sm_0 km_0 8 (by decide) rfl tw_370 dX10_undo_40 ?_
    exact r_reti C hP hS (rt_ow1 h) (rt_ow2 h) dX10_undo_43
  · replace h := if_t c_ h
    refine lv_ldc hx hb hown (hts _ tw_436) dX10_undo_7 ?_
    exact r_reti C hP hS (rt_ow1 h) (rt_ow2 h) dX10_undo_9

set_option maxRecDepth 100000 in
set_option maxHeartbeats 4000000 in
theorem wfX10_days_L44 {l : Launch} {g : Gw} {p : Program} {e : Env} {s : State} {m : MethodId} {args : Array Value} {below : List Frame} {meth : Method} {c : Code} (C : Cx wkM g p s m args meth c cX10_days 3 RX10 (some .int)) {Rz : (Sto × Int32)} : ∀ (n : Nat) (σ : Sto) (x1 : Int32) (x2 : Int32) (H : Heap) (locs : List Loc) (ls : Array Slot), fX10_days_L44 n σ x1 x2 = some Rz → wS wkM g σ H → va_S (AS wkM g) s.heap H locs → lv_has ls 3 [(0, .ref (adG g 0)), (1, .int x1), (2, .int x2)] → W p l e (rmS 3) s m args below meth c H locs 0 0 (MQ below (QiS wkM g Rz.1 Rz.2) args s 0 0 (AS wkM g)) (F0 m 44 ls []) := by
  intro n
  induction n with
  | zero =>
    intro σ x1 x2 H locs ls h
    cases h
  | succ n ih =>
    intro σ x1 x2 H locs ls h hP hS hl
    obtain ⟨hx, hb, hml, hown, hts, hr, hlk, hK, hZ⟩ := id C
    rw [fX10_days_L44] at h
    refine lv_iload_n hx hb dX10_days_44 rfl (lv_at hl 2 rfl) ?_
    refine lv_iload_n hx hb dX10_days_45 rfl (lv_at hl 1 rfl) ?_
    refine lv_icmp_ge (tgt := 66) hx hb dX10_days_46 (by decide) (fun c_ => ?_) (fun c_ => ?_)
    · replace h := if_t c_ h
      refine lv_aload_n hx hb dX10_days_66 rfl (lv_at hl 0 rfl) ?_
      refine r_getr C cf_10 hP sm_0 km_0 4 (by decide) rfl tw_147 dX10_days_67 ?_
      refine lv_iconst (v := 2) hx hb dX10_days_70 (by decide) ?_
      obtain ⟨q_1, hq_1, h⟩ := bd_inv h
      refine end_i (run_s (As := [.ref (adG g 4), .int (2 : Int32)]) (rest := []) C ca_X10_those (ctX10_those 4 ⟨sm_4, km_4⟩ (2 : Int32) hq_1) tw_508 ⟨Nat.le_of_ble_eq_true rfl, Nat.le_of_ble_eq_true rfl⟩ rfl hl.1 (Nat.le_of_ble_eq_true rfl) ⟨Nat.le_refl _, Nat.le_refl _⟩ hP hS dX10_days_71) hS (fun H locs hP hS => ?_)
      exact r_reti C hP hS (rt_ow1 h) (rt_ow2 h) dX10_days_74
    · replace h := if_f c_ h
      refine lv_aload_n hx hb dX10_days_49 rfl (lv_at hl 0 rfl) ?_
      obtain ⟨q_2, hq_2, h⟩ := bd_inv h
      refine end_v (run_v (As := []) (rest := []) C ca_X10_notes (ctX10_notes hq_2) cf_10 sm_0 km_0 tw_486 ⟨Nat.le_of_ble_eq_true rfl, Nat.le_of_ble_eq_true rfl⟩ rfl hl.1 (Nat.le_of_ble_eq_true rfl) ⟨Nat.le_refl _, Nat.le_refl _⟩ hP hS dX10_days_50) hS (fun H locs hP hS => ?_)
      refine lv_aload_n hx hb dX10_days_53 rfl (lv_at hl 0 rfl) ?_
      refine r_getr C cf_10 hP sm_0 km_0 4 (by decide) rfl tw_147 dX10_days_54 ?_
      obtain ⟨q_3, hq_3, h⟩ := bd_inv h
      refine end_v (run_s (As := [.ref (adG g 4)]) (rest := []) C ca_X10_passes (ctX10_passes 4 ⟨sm_4, km_4⟩ hq_3) tw_490 ⟨Nat.le_of_ble_eq_true rfl, Nat.le_of_ble_eq_true rfl⟩ rfl hl.1 (Nat.le_of_ble_eq_true rfl) ⟨Nat.le_refl _, Nat.le_refl _⟩ hP hS dX10_days_57) hS (fun H locs hP hS => ?_)
      obtain ⟨x_4, ex_4⟩ : ∃ y : Int32, y = x2 + (1 : Int32) := ⟨_, rfl⟩
      replace h := un_at ex_4 h
      refine lv_iinc (v := x_4) (lv' := [(2, .int x_4), (0, .ref (adG g 0)), (1, .int x1)]) hx hb dX10_days_60 hl (k := 2) rfl (by rw [ex_4]; rfl) (by decide) rfl (fun ls hl => ?_)
      refine lv_goto (tgt := 44) hx hb dX10_days_63 (by decide) ?_
      exact ih q_3 x1 x_4 H locs ls h hP hS (lv_sub hl [1, 2, 0] rfl)

set_option maxRecDepth 100000 in
set_option maxHeartbeats 4000000 in
theorem ctX10_days {l : Launch} {g : Gw} {σ : Sto} (x1 : Int32) {Rz : (Sto × Int32)} (h : fX10_days σ x1 = some Rz) : MtG l yX10_days cX10_days 3 (some .int) 3 wkM g [.ref (adG g 0), .int x1] σ (QiS wkM g Rz.1 Rz.2) := by
  refine mt_of (by decide) (Nat.le_of_ble_eq_true rfl) (fun p e s m below meth c ls H locs C hP hS hl => ?_)
  have C : Cx wkM g p s m _ meth c cX10_days 3 RX10 (some .int) := C
  have hl : lv_has ls 3 [(0, .ref (adG g 0)), (1, .int x1)] := hl
  obtain ⟨hx, hb, hml, hown, hts, hr, hlk, hK, hZ⟩ := id C
  unfold fX10_days at h
  refine lv_aload_n hx hb dX10_days_0 rfl (lv_at hl 0 rfl) ?_
  refine end_i (run_v (As := []) (rest := []) C ca_X10_isThere (ctX10_isThere rfl) cf_10 sm_0 km_0 tw_482 ⟨Nat.le_of_ble_eq_true rfl, Nat.le_of_ble_eq_true rfl⟩ rfl hl.1 (Nat.le_of_ble_eq_true rfl) ⟨Nat.le_refl _, Nat.le_refl _⟩ hP hS dX10_days_1) hS (fun H locs hP hS => ?_)
  refine lv_if_ne (tgt := 10) hx hb dX10_days_4 (by decide) (fun c_ => ?_) (fun c_ => ?_)
  · replace h := if_f c_ h
    refine lv_iload_n hx hb dX10_days_10 rfl (lv_at hl 1 rfl) ?_
    refine lv_i2l hx hb dX10_days_11 rfl ?_
    refine lv_lconst (v := 1) hx hb dX10_days_12 (by decide) ?_
    refine lv_ldc2 hx hb hown (hts _ tw_481) dX10_days_13 ?_
    refine end_i (run_s (As := [.long x1.toInt64, .long (1 : Int64), .long (24 : Int64)]) (rest := []) C ca_X10_in (ctX10_in x1.toInt64 (1 : Int64) (24 : Int64) rfl) tw_193 ⟨Nat.le_of_ble_eq_true rfl, Nat.le_of_ble_eq_true rfl⟩ rfl hl.1 (Nat.le_of_ble_eq_true rfl) ⟨Nat.le_refl _, Nat.le_refl _⟩ hP hS dX10_days_16) hS (fun H locs hP hS => ?_)
    refine lv_if_ne (tgt := 25) hx hb dX10_days_19 (by decide) (fun c_ => ?_) (fun c_ => ?_)
    · replace h := if_f c_ h
      refine lv_aload_n hx hb dX10_days_25 rfl (lv_at hl 0 rfl) ?_
      refine r_getr C cf_10 hP sm_0 km_0 4 (by decide) rfl tw_147 dX10_days_26 ?_
      refine lv_iconst (v := 4) hx hb dX10_days_29 (by decide) ?_
      refine r_iald C hP sm_4 km_4 (j := 4) (by decide) (by decide) dX10_days_30 ?_
      refine lv_iload_n hx hb dX10_days_31 rfl (lv_at hl 1 rfl) ?_
      refine lv_iadd hx hb dX10_days_32 ?_
      refine lv_sipush (v := 999) hx hb dX10_days_33 (by decide) ?_
      refine lv_icmp_le (tgt := 42) hx hb dX10_days_36 (by decide) (fun c_ => ?_) (fun c_ => ?_)
      · replace h := if_t c_ h
        refine lv_iconst (v := 0) hx hb dX10_days_42 (by decide) ?_
        refine lv_istore_n (lv' := [(2, .int (0 : Int32)), (0, .ref (adG g 0)), (1, .int x1)]) hx hb dX10_days_43 rfl hl (by decide) rfl (fun ls hl => ?_)
        exact wfX10_days_L44 C fu σ x1 (0 : Int32) H locs ls h hP hS (lv_sub hl [1, 2, 0] rfl)
      · replace h := if_f c_ h
        refine lv_ldc hx hb hown (hts _ tw_282) dX10_days_39 ?_
        exact r_reti C hP hS (rt_ow1 h) (rt_ow2 h) dX10_days_41
    · replace h := if_t c_ h
      refine lv_ldc hx hb hown (hts _ tw_188) dX10_days_22 ?_
      exact r_reti C hP hS (rt_ow1 h) (rt_ow2 h) dX10_days_24
  · replace h := if_t c_ h
    refine lv_ldc hx hb hown (hts _ tw_436) dX10_days_7 ?_
    exact r_reti C hP hS (rt_ow1 h) (rt_ow2 h) dX10_days_9

set_option maxRecDepth 100000 in
set_option maxHeartbeats 4000000 in
theorem ctX10_wall {l : Launch} {g : Gw} {σ : Sto} (x1 : Int32) (x2 : Int32) {Rz : (Sto × Int32)} (h : fX10_wall σ x1 x2 = some Rz) : MtG l yX10_wall cX10_wall 4 (some .int) 2 wkM g [.ref (adG g 0), .int x1, .int x2] σ (QiS wkM g Rz.1 Rz.2) := by
  refine mt_of (by decide) (Nat.le_of_ble_eq_true rfl) (fun p e s m below meth c ls H locs C hP hS hl => ?_)
  have C : Cx wkM g p s m _ meth c cX10_wall 4 RX10 (some .int) := C
  have hl : lv_has ls 4 [(0, .ref (adG g 0)), (1, .int x1), (2, .int x2)] := hl
  obtain ⟨hx, hb, hml, hown, hts, hr, hlk, hK, hZ⟩ := id C
  unfold fX10_wall at h
  refine lv_aload_n hx hb dX10_wall_0 rfl (lv_at hl 0 rfl) ?_
  refine lv_iload_n hx hb dX10_wall_1 rfl (lv_at hl 1 rfl) ?_
  refine end_i (run_v (As := [.int x1]) (rest := []) C ca_X10_isRoom (ctX10_isRoom x1 rfl) cf_10 sm_0 km_0 tw_525 ⟨Nat.le_of_ble_eq_true rfl, Nat.le_of_ble_eq_true rfl⟩ rfl hl.1 (Nat.le_of_ble_eq_true rfl) ⟨Nat.le_refl _, Nat.le_refl _⟩ hP hS dX10_wall_2) hS (fun H locs hP hS => ?_)
  refine lv_if_eq (tgt := 20) hx hb dX10_wall_5 (by decide) (fun c_ => ?_) (fun c_ => ?_)
  · replace h := if_t c_ h
    refine lv_ldc hx hb hown (hts _ tw_188) dX10_wall_20 ?_
    exact r_reti C hP hS (rt_ow1 h) (rt_ow2 h) dX10_wall_22
  · replace h := if_f c_ h
    refine lv_iload_n hx hb dX10_wall_8 rfl (lv_at hl 2 rfl) ?_
    refine lv_i2l hx hb dX10_wall_9 rfl ?_
    refine lv_lconst (v := 0) hx hb dX10_wall_10 (by decide) ?_
    refine lv_ldc2 hx hb hown (hts _ tw_524) dX10_wall_11 ?_
    refine end_i (run_s (As := [.long x2.toInt64, .long (0 : Int64), .long (9 : Int64)]) (rest := []) C ca_X10_in (ctX10_in x2.toInt64 (0 : Int64) (9 : Int64) rfl) tw_193 ⟨Nat.le_of_ble_eq_true rfl, Nat.le_of_ble_eq_true rfl⟩ rfl hl.1 (Nat.le_of_ble_eq_true rfl) ⟨Nat.le_refl _, Nat.le_refl _⟩ hP hS dX10_wall_14) hS (fun H locs hP hS => ?_)
    refine lv_if_ne (tgt := 23) hx hb dX10_wall_17 (by decide) (fun c_ => ?_) (fun c_ => ?_)
    · replace h := if_f c_ h
      refine lv_aload_n hx hb dX10_wall_23 rfl (lv_at hl 0 rfl) ?_
      obtain ⟨q_3, hq_3, h⟩ := bd_inv h
      refine end_v (run_v (As := []) (rest := []) C ca_X10_notes (ctX10_notes hq_3) cf_10 sm_0 km_0 tw_486 ⟨Nat.le_of_ble_eq_true rfl, Nat.le_of_ble_eq_true rfl⟩ rfl hl.1 (Nat.le_of_ble_eq_true rfl) ⟨Nat.le_refl _, Nat.le_refl _⟩ hP hS dX10_wall_24) hS (fun H locs hP hS => ?_)
      refine lv_aload_n hx hb dX10_wall_27 rfl (lv_at hl 0 rfl) ?_
      refine r_getr C cf_10 hP sm_0 km_0 4 (by decide) rfl tw_147 dX10_wall_28 ?_
      refine lv_bipush (v := 25) hx hb dX10_wall_31 (by decide) ?_
      refine lv_iload_n hx hb dX10_wall_33 rfl (lv_at hl 1 rfl) ?_
      refine lv_iadd hx hb dX10_wall_34 ?_
      obtain ⟨g_4, h⟩ := gd_inv h
      refine r_iald C hP sm_4 km_4 rfl g_4 dX10_wall_35 ?_
      refine lv_topi (fun x_5 ex_5 => ?_)
      replace h := un_at ex_5 h
      refine lv_istore_n (lv' := [(3, .int x_5), (0, .ref (adG g 0)), (1, .int x1), (2, .int x2)]) hx hb dX10_wall_36 rfl hl (by decide) rfl (fun ls hl => ?_)
      refine lv_aload_n hx hb dX10_wall_37 rfl (lv_at hl 1 rfl) ?_
      refine r_getr C cf_10 hP sm_0 km_0 4 (by decide) rfl tw_147 dX10_wall_38 ?_
      refine lv_bipush (v := 25) hx hb dX10_wall_41 (by decide) ?_
      refine lv_iload_n hx hb dX10_wall_43 rfl (lv_at hl 2 rfl) ?_
      refine lv_iadd hx hb dX10_wall_44 ?_
      refine lv_iload_n hx hb dX10_wall_45 rfl (lv_at hl 3 rfl) ?_
      refine r_iast C hP hS sm_4 km_4 rfl g_4 dX10_wall_46 (fun H locs σ_6 eσ_6 hP hS => ?_)
      replace h := un_at eσ_6 h
      refine lv_iload_n hx hb dX10_wall_47 rfl (lv_at hl 0 rfl) ?_
      exact r_reti C hP hS (rt_ow1 h) (rt_ow2 h) dX10_wall_48
    · replace h := if_t c_ h
      refine lv_ldc hx hb hown (hts _ tw_188) dX10_wall_20 ?_
      exact r_reti C hP hS (rt_ow1 h) (rt_ow2 h) dX10_wall_22

set_option maxRecDepth 100000 in
set_option maxHeartbeats 4000000 in
theorem ctX10_carry {l : Launch} {g : Gw} {σ : Sto} (x1 : Int32) {Rz : (Sto × Int32)} (h : fX10_carry σ x1 = some Rz) : MtG l yX10_carry cX10_carry 2 (some .int) 2 wkM g [.ref (adG g 0), .int x1] σ (QiS wkM g Rz.1 Rz.2) := by
  refine mt_of (by decide) (Nat.le_of_ble_eq_true rfl) (fun p e s m below meth c ls H locs C hP hS hl => ?_)
  have C : Cx wkM g p s m _ meth c cX10_carry 2 RX10 (some .int) := C
  have hl : lv_has ls 2 [(0, .ref (adG g 0)), (1, .int x1)] := hl
  obtain ⟨hx, hb, hml, hown, hts, hr, hlk, hK, hZ⟩ := id C
  unfold fX10_carry at h
  refine lv_aload_n hx hb dX10_carry_0 rfl (lv_at hl 0 rfl) ?_
  refine lv_iload_n hx hb dX10_carry_1 rfl (lv_at hl 1 rfl) ?_
  refine end_i (run_v (As := [.int x1]) (rest := []) C ca_X10_isThing (ctX10_isThing x1 rfl) cf_10 sm_0 km_0 tw_551 ⟨Nat.le_of_ble_eq_true rfl, Nat.le_of_ble_eq_true rfl⟩ rfl hl.1 (Nat.le_of_ble_eq_true rfl) ⟨Nat.le_refl _, Nat.le_refl _⟩ hP hS dX10_carry_2) hS (fun H locs hP hS => ?_)
  refine lv_if_ne (tgt := 11) hx hb dX10_carry_5 (by decide) (fun c_ => ?_) (fun c_ => ?_)
  · replace h := if_f c_ h
    refine lv_aload_n hx hb dX10_carry_11 rfl (lv_at hl 0 rfl) ?_
    refine r_getr C cf_10 hP sm_0 km_0 4 (by decide) rfl tw_147 dX10_carry_12 ?_
    refine lv_bipush (v := 53) hx hb dX10_carry_15 (by decide) ?_
    refine lv_iload_n hx hb dX10_carry_17 rfl (lv_at hl 1 rfl) ?_
    refine lv_iadd hx hb dX10_carry_18 ?_
    obtain ⟨g_2, h⟩ := gd_inv h
    refine r_iald C hP sm_4 km_4 rfl g_2 dX10_carry_19 ?_
    refine lv_if_eq (tgt := 26) hx hb dX10_carry_20 (by decide) (fun c_ => ?_) (fun c_ => ?_)
    · replace h := if_t c_ h
      refine lv_aload_n hx hb dX10_carry_26 rfl (lv_at hl 0 rfl) ?_
      obtain ⟨q_3, hq_3, h⟩ := bd_inv h
      refine end_v (run_v (As := []) (rest := []) C ca_X10_notes (ctX10_notes hq_3) cf_10 sm_0 km_0 tw_486 ⟨Nat.le_of_ble_eq_true rfl, Nat.le_of_ble_eq_true rfl⟩ rfl hl.1 (Nat.le_of_ble_eq_true rfl) ⟨Nat.le_refl _, Nat.le_refl _⟩ hP hS dX10_carry_27) hS (fun H locs hP hS => ?_)
      refine lv_aload_n hx hb dX10_carry_30 rfl (lv_at hl 0 rfl) ?_
      refine r_getr C cf_10 hP sm_0 km_0 4 (by decide) rfl tw_147 dX10_carry_31 ?_
      refine lv_iload_n hx hb dX10_carry_34 rfl (lv_at hl 1 rfl) ?_
      refine lv_iconst (v := 1) hx hb dX10_carry_35 (by decide) ?_
      obtain ⟨q_4, hq_4, h⟩ := bd_inv h
      refine end_v (run_s (As := [.ref (adG g 4), .int x1, .int (1 : Int32)]) (rest := []) C ca_X10_goes (ctX10_goes 4 ⟨sm_4, km_4⟩ x1 (1 : Int32) hq_4) tw_505 ⟨Nat.le_of_ble_eq_true rfl, Nat.le_of_ble_eq_true rfl⟩ rfl hl.1 (Nat.le_of_ble_eq_true rfl) ⟨Nat.le_refl _, Nat.le_refl _⟩ hP hS dX10_carry_36) hS (fun H locs hP hS => ?_)
      refine lv_aload_n hx hb dX10_carry_39 rfl (lv_at hl 0 rfl) ?_
      refine r_getr C cf_10 hP sm_0 km_0 4 (by decide) rfl tw_147 dX10_carry_40 ?_
      refine lv_iload_n hx hb dX10_carry_43 rfl (lv_at hl 1 rfl) ?_
      obtain ⟨q_5, hq_5, h⟩ := bd_inv h
      refine end_i (run_s (As := [.ref (adG g 4), .int x1]) (rest := []) C ca_X10_whereOf (ctX10_whereOf 4 ⟨sm_4, km_4⟩ x1 hq_5) tw_555 ⟨Nat.le_of_ble_eq_true rfl, Nat.le_of_ble_eq_true rfl⟩ rfl hl.1 (Nat.le_of_ble_eq_true rfl) ⟨Nat.le_refl _, Nat.le_refl _⟩ hP hS dX10_carry_44) hS (fun H locs hP hS => ?_)
      exact r_reti C hP hS (rt_ow1 h) (rt_ow2 h) dX10_carry_47
    · replace h := if_f c_ h
      refine lv_ldc hx hb hown (hts _ tw_436) dX10_carry_23 ?_
      exact r_reti C hP hS (rt_ow1 h) (rt_ow2 h) dX10_carry_25
  · replace h := if_t c_ h
    refine lv_ldc hx hb hown (hts _ tw_188) dX10_carry_8 ?_
    exact r_reti C hP hS (rt_ow1 h) (rt_ow2 h) dX10_carry_10
