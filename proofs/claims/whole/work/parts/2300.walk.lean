set_option maxRecDepth 100000 in
set_option maxHeartbeats 4000000 in
theorem ctJ6_bitCount_0f7a4 {l : Launch} {g : Gw} {σ : Sto} (x0 : Int32) {Rz : Int32} (h : fJ6_bitCount_0f7a4 x0 = Rz) : MtG l yJ6_bitCount_0f7a4 cJ6_bitCount_0f7a4 1 (some .int) 0 wkX g [.int x0] σ (QiS wkX g σ Rz) := by
  refine mt_of (by decide) (Nat.le_of_ble_eq_true rfl) (fun p e s m below meth c ls H locs C hP hS hl => ?_)
  have C : Cx wkX g p s m _ meth c cJ6_bitCount_0f7a4 1 RJ6 (some .int) := C
  have hl : lv_has ls 1 [(0, .int x0)] := hl
  obtain ⟨hx, hb, hml, hown, hts, hr, hlk, hK, hZ⟩ := id C
  unfold fJ6_bitCount_0f7a4 at h
  refine lv_iload_n hx hb dJ6_bitCount_0f7a4_0 rfl (lv_at hl 0 rfl) ?_
  refine lv_iload_n hx hb dJ6_bitCount_0f7a4_1 rfl (lv_at hl 0 rfl) ?_
  refine lv_iconst (v := 1) hx hb dJ6_bitCount_0f7a4_2 (by decide) ?_
  refine lv_iushr (v := (ush x0 (1 : Int32))) hx hb dJ6_bitCount_0f7a4_3 rfl ?_
  refine lv_ldcw hx hb hown (hts _ tw_808) dJ6_bitCount_0f7a4_4 ?_
  refine lv_iand hx hb dJ6_bitCount_0f7a4_7 ?_
  refine lv_isub hx hb dJ6_bitCount_0f7a4_8 ?_
  refine lv_topi (fun x_1 ex_1 => ?_)
  replace h := un_at ex_1 h
  refine lv_istore_n (lv' := [(0, .int x_1)]) hx hb dJ6_bitCount_0f7a4_9 rfl hl (by decide) rfl (fun ls hl => ?_)
  refine lv_iload_n hx hb dJ6_bitCount_0f7a4_10 rfl (lv_at hl 0 rfl) ?_
  refine lv_ldcw hx hb hown (hts _ tw_809) dJ6_bitCount_0f7a4_11 ?_
  refine lv_iand hx hb dJ6_bitCount_0f7a4_14 ?_
  refine lv_iload_n hx hb dJ6_bitCount_0f7a4_15 rfl (lv_at hl 0 rfl) ?_
  refine lv_iconst (v := 2) hx hb dJ6_bitCount_0f7a4_16 (by decide) ?_
  refine lv_iushr (v := (ush x_1 (2 : Int32))) hx hb dJ6_bitCount_0f7a4_17 rfl ?_
  refine lv_ldcw hx hb hown (hts _ tw_809) dJ6_bitCount_0f7a4_18 ?_
  refine lv_iand hx hb dJ6_bitCount_0f7a4_21 ?_
  refine lv_iadd hx hb dJ6_bitCount_0f7a4_22 ?_
  refine lv_topi (fun x_2 ex_2 => ?_)
  replace h := un_at ex_2 h
  refine lv_istore_n (lv' := [(0, .int x_2)]) hx hb dJ6_bitCount_0f7a4_23 rfl hl (by decide) rfl (fun ls hl => ?_)
  refine lv_iload_n hx hb dJ6_bitCount_0f7a4_24 rfl (lv_at hl 0 rfl) ?_
  refine lv_iload_n hx hb dJ6_bitCount_0f7a4_25 rfl (lv_at hl 0 rfl) ?_
  refine lv_iconst (v := 4) hx hb dJ6_bitCount_0f7a4_26 (by decide) ?_
  refine lv_iushr (v := (ush x_2 (4 : Int32))) hx hb dJ6_bitCount_0f7a4_27 rfl ?_
  refine lv_iadd hx hb dJ6_bitCount_0f7a4_28 ?_
  refine lv_ldcw hx hb hown (hts _ tw_810) dJ6_bitCount_0f7a4_29 ?_
  refine lv_iand hx hb dJ6_bitCount_0f7a4_32 ?_
  refine lv_topi (fun x_3 ex_3 => ?_)
  replace h := un_at ex_3 h
  refine lv_istore_n (lv' := [(0, .int x_3)]) hx hb dJ6_bitCount_0f7a4_33 rfl hl (by decide) rfl (fun ls hl => ?_)
  refine lv_iload_n hx hb dJ6_bitCount_0f7a4_34 rfl (lv_at hl 0 rfl) ?_
  refine lv_iload_n hx hb dJ6_bitCount_0f7a4_35 rfl (lv_at hl 0 rfl) ?_
  refine lv_bipush (v := 8) hx hb dJ6_bitCount_0f7a4_36 (by decide) ?_
  refine lv_iushr (v := (ush x_3 (8 : Int32))) hx hb dJ6_bitCount_0f7a4_38 rfl ?_
  refine lv_iadd hx hb dJ6_bitCount_0f7a4_39 ?_
  refine lv_topi (fun x_4 ex_4 => ?_)
  replace h := un_at ex_4 h
  refine lv_istore_n (lv' := [(0, .int x_4)]) hx hb dJ6_bitCount_0f7a4_40 rfl hl (by decide) rfl (fun ls hl => ?_)
  refine lv_iload_n hx hb dJ6_bitCount_0f7a4_41 rfl (lv_at hl 0 rfl) ?_
  refine lv_iload_n hx hb dJ6_bitCount_0f7a4_42 rfl (lv_at hl 0 rfl) ?_
  refine lv_bipush (v := 16) hx hb dJ6_bitCount_0f7a4_43 (by decide) ?_
  refine lv_iushr (v := (ush x_4 (16 : Int32))) hx hb dJ6_bitCount_0f7a4_45 rfl ?_
  refine lv_iadd hx hb dJ6_bitCount_0f7a4_46 ?_
  refine lv_topi (fun x_5 ex_5 => ?_)
  replace h := un_at ex_5 h
  refine lv_istore_n (lv' := [(0, .int x_5)]) hx hb dJ6_bitCount_0f7a4_47 rfl hl (by decide) rfl (fun ls hl => ?_)
  refine lv_iload_n hx hb dJ6_bitCount_0f7a4_48 rfl (lv_at hl 0 rfl) ?_
  refine lv_bipush (v := 63) hx hb dJ6_bitCount_0f7a4_49 (by decide) ?_
  refine lv_iand hx hb dJ6_bitCount_0f7a4_51 ?_
  exact r_reti C hP hS rfl h dJ6_bitCount_0f7a4_52

set_option maxRecDepth 100000 in
set_option maxHeartbeats 4000000 in
theorem wfJ6_numberOfTrailingZeros_0f7a4_j62 {l : Launch} {g : Gw} {p : Program} {e : Env} {s : State} {m : MethodId} {args : Array Value} {below : List Frame} {meth : Method} {c : Code} {σ : Sto} (C : Cx wkX g p s m args meth c cJ6_numberOfTrailingZeros_0f7a4 2 RJ6 (some .int)) {Rz : Int32} : ∀ (x0 : Int32) (x1 : Int32) (H : Heap) (locs : List Loc) (ls : Array Slot), fJ6_numberOfTrailingZeros_0f7a4_j62 x0 x1 = Rz → wS wkX g σ H → va_S (AS wkX g) s.heap H locs → lv_has ls 2 [(0, .int x0), (1, .int x1)] → W p l e (rmS 0) s m args below meth c H locs 0 0 (MQ below (QiS wkX g σ Rz) args s 0 0 (AS wkX g)) (F0 m 62 ls []) := by
  intro x0 x1 H locs ls h hP hS hl
  obtain ⟨hx, hb, hml, hown, hts, hr, hlk, hK, hZ⟩ := id C
  unfold fJ6_numberOfTrailingZeros_0f7a4_j62 at h
  refine lv_iload_n hx hb dJ6_numberOfTrailingZeros_0f7a4_62 rfl (lv_at hl 0 rfl) ?_
  refine lv_iconst (v := 4) hx hb dJ6_numberOfTrailingZeros_0f7a4_63 (by decide) ?_
  refine lv_icmp_le (tgt := 74) hx hb dJ6_numberOfTrailingZeros_0f7a4_64 (by decide) (fun c_ => ?_) (fun c_ => ?_)
  · replace h := if_t c_ h
    refine lv_iload_n hx hb dJ6_numberOfTrailingZeros_0f7a4_74 rfl (lv_at hl 1 rfl) ?_
    refine lv_iload_n hx hb dJ6_numberOfTrailingZeros_0f7a4_75 rfl (lv_at hl 0 rfl) ?_
    refine lv_iconst (v := 1) hx hb dJ6_numberOfTrailingZeros_0f7a4_76 (by decide) ?_
    refine lv_iushr (v := (ush x0 (1 : Int32))) hx hb dJ6_numberOfTrailingZeros_0f7a4_77 rfl ?_
    refine lv_iadd hx hb dJ6_numberOfTrailingZeros_0f7a4_78 ?_
    exact r_reti C hP hS rfl h dJ6_numberOfTrailingZeros_0f7a4_79
  · replace h := if_f c_ h
    obtain ⟨x_1, ex_1⟩ : ∃ y : Int32, y = x1 + (2 : Int32) := ⟨_, rfl⟩
    replace h := un_at ex_1 h
    refine lv_iinc (v := x_1) (lv' := [(1, .int x_1), (0, .int x0)]) hx hb dJ6_numberOfTrailingZeros_0f7a4_67 hl (k := 1) rfl (by rw [ex_1]; rfl) (by decide) rfl (fun ls hl => ?_)
    refine lv_iload_n hx hb dJ6_numberOfTrailingZeros_0f7a4_70 rfl (lv_at hl 1 rfl) ?_
    refine lv_iconst (v := 2) hx hb dJ6_numberOfTrailingZeros_0f7a4_71 (by decide) ?_
    refine lv_iushr (v := (ush x0 (2 : Int32))) hx hb dJ6_numberOfTrailingZeros_0f7a4_72 rfl ?_
    refine lv_topi (fun x_2 ex_2 => ?_)
    replace h := un_at ex_2 h
    refine lv_istore_n (lv' := [(0, .int x_2), (1, .int x_1)]) hx hb dJ6_numberOfTrailingZeros_0f7a4_73 rfl hl (by decide) rfl (fun ls hl => ?_)
    refine lv_iload_n hx hb dJ6_numberOfTrailingZeros_0f7a4_74 rfl (lv_at hl 1 rfl) ?_
    refine lv_iload_n hx hb dJ6_numberOfTrailingZeros_0f7a4_75 rfl (lv_at hl 0 rfl) ?_
    refine lv_iconst (v := 1) hx hb dJ6_numberOfTrailingZeros_0f7a4_76 (by decide) ?_
    refine lv_iushr (v := (ush x_2 (1 : Int32))) hx hb dJ6_numberOfTrailingZeros_0f7a4_77 rfl ?_
    refine lv_iadd hx hb dJ6_numberOfTrailingZeros_0f7a4_78 ?_
    exact r_reti C hP hS rfl h dJ6_numberOfTrailingZeros_0f7a4_79

set_option maxRecDepth 100000 in
set_option maxHeartbeats 4000000 in
theorem wfJ6_numberOfTrailingZeros_0f7a4_j49 {l : Launch} {g : Gw} {p : Program} {e : Env} {s : State} {m : MethodId} {args : Array Value} {below : List Frame} {meth : Method} {c : Code} {σ : Sto} (C : Cx wkX g p s m args meth c cJ6_numberOfTrailingZeros_0f7a4 2 RJ6 (some .int)) {Rz : Int32} : ∀ (x0 : Int32) (x1 : Int32) (H : Heap) (locs : List Loc) (ls : Array Slot), fJ6_numberOfTrailingZeros_0f7a4_j49 x0 x1 = Rz → wS wkX g σ H → va_S (AS wkX g) s.heap H locs → lv_has ls 2 [(0, .int x0), (1, .int x1)] → W p l e (rmS 0) s m args below meth c H locs 0 0 (MQ below (QiS wkX g σ Rz) args s 0 0 (AS wkX g)) (F0 m 49 ls []) := by
  intro x0 x1 H locs ls h hP hS hl
  obtain ⟨hx, hb, hml, hown, hts, hr, hlk, hK, hZ⟩ := id C
  unfold fJ6_numberOfTrailingZeros_0f7a4_j49 at h
  refine lv_iload_n hx hb dJ6_numberOfTrailingZeros_0f7a4_49 rfl (lv_at hl 0 rfl) ?_
  refine lv_bipush (v := 16) hx hb dJ6_numberOfTrailingZeros_0f7a4_50 (by decide) ?_
  refine lv_icmp_le (tgt := 62) hx hb dJ6_numberOfTrailingZeros_0f7a4_52 (by decide) (fun c_ => ?_) (fun c_ => ?_)
  · replace h := if_t c_ h
    exact wfJ6_numberOfTrailingZeros_0f7a4_j62 C x0 x1 H locs ls h hP hS (lv_sub hl [0, 1] rfl)
  · replace h := if_f c_ h
    obtain ⟨x_1, ex_1⟩ : ∃ y : Int32, y = x1 + (4 : Int32) := ⟨_, rfl⟩
    replace h := un_at ex_1 h
    refine lv_iinc (v := x_1) (lv' := [(1, .int x_1), (0, .int x0)]) hx hb dJ6_numberOfTrailingZeros_0f7a4_55 hl (k := 1) rfl (by rw [ex_1]; rfl) (by decide) rfl (fun ls hl => ?_)
    refine lv_iload_n hx hb dJ6_numberOfTrailingZeros_0f7a4_58 rfl (lv_at hl 1 rfl) ?_
    refine lv_iconst (v := 4) hx hb dJ6_numberOfTrailingZeros_0f7a4_59 (by decide) ?_
    refine lv_iushr (v := (ush x0 (4 : Int32))) hx hb dJ6_numberOfTrailingZeros_0f7a4_60 rfl ?_
    refine lv_topi (fun x_2 ex_2 => ?_)
    replace h := un_at ex_2 h
    refine lv_istore_n (lv' := [(0, .int x_2), (1, .int x_1)]) hx hb dJ6_numberOfTrailingZeros_0f7a4_61 rfl hl (by decide) rfl (fun ls hl => ?_)
    exact wfJ6_numberOfTrailingZeros_0f7a4_j62 C x_2 x_1 H locs ls h hP hS (lv_sub hl [0, 1] rfl)

set_option maxRecDepth 100000 in
set_option maxHeartbeats 4000000 in
theorem wfJ6_numberOfTrailingZeros_0f7a4_j34 {l : Launch} {g : Gw} {p : Program} {e : Env} {s : State} {m : MethodId} {args : Array Value} {below : List Frame} {meth : Method} {c : Code} {σ : Sto} (C : Cx wkX g p s m args meth c cJ6_numberOfTrailingZeros_0f7a4 2 RJ6 (some .int)) {Rz : Int32} : ∀ (x0 : Int32) (x1 : Int32) (H : Heap) (locs : List Loc) (ls : Array Slot), fJ6_numberOfTrailingZeros_0f7a4_j34 x0 x1 = Rz → wS wkX g σ H → va_S (AS wkX g) s.heap H locs → lv_has ls 2 [(0, .int x0), (1, .int x1)] → W p l e (rmS 0) s m args below meth c H locs 0 0 (MQ below (QiS wkX g σ Rz) args s 0 0 (AS wkX g)) (F0 m 34 ls []) := by
  intro x0 x1 H locs ls h hP hS hl
  obtain ⟨hx, hb, hml, hown, hts, hr, hlk, hK, hZ⟩ := id C
  unfold fJ6_numberOfTrailingZeros_0f7a4_j34 at h
  refine lv_iload_n hx hb dJ6_numberOfTrailingZeros_0f7a4_34 rfl (lv_at hl 0 rfl) ?_
  refine lv_sipush (v := 256) hx hb dJ6_numberOfTrailingZeros_0f7a4_35 (by decide) ?_
  refine lv_icmp_le (tgt := 49) hx hb dJ6_numberOfTrailingZeros_0f7a4_38 (by decide) (fun c_ => ?_) (fun c_ => ?_)
  · replace h := if_t c_ h
    exact wfJ6_numberOfTrailingZeros_0f7a4_j49 C x0 x1 H locs ls h hP hS (lv_sub hl [0, 1] rfl)
  · replace h := if_f c_ h
    obtain ⟨x_1, ex_1⟩ : ∃ y : Int32, y = x1 + (8 : Int32) := ⟨_, rfl⟩
    replace h := un_at ex_1 h
    refine lv_iinc (v := x_1) (lv' := [(1, .int x_1), (0, .int x0)]) hx hb dJ6_numberOfTrailingZeros_0f7a4_41 hl (k := 1) rfl (by rw [ex_1]; rfl) (by decide) rfl (fun ls hl => ?_)
    refine lv_iload_n hx hb dJ6_numberOfTrailingZeros_0f7a4_44 rfl (lv_at hl 1 rfl) ?_
    refine lv_bipush (v := 8) hx hb dJ6_numberOfTrailingZeros_0f7a4_45 (by decide) ?_
    refine lv_iushr (v := (ush x0 (8 : Int32))) hx hb dJ6_numberOfTrailingZeros_0f7a4_47 rfl ?_
    refine lv_topi (fun x_2 ex_2 => ?_)
    replace h := un_at ex_2 h
    refine lv_istore_n (lv' := [(0, .int x_2), (1, .int x_1)]) hx hb dJ6_numberOfTrailingZeros_0f7a4_48 rfl hl (by decide) rfl (fun ls hl => ?_)
    exact wfJ6_numberOfTrailingZeros_0f7a4_j49 C x_2 x_1 H locs ls h hP hS (lv_sub hl [0, 1] rfl)

set_option maxRecDepth 100000 in
set_option maxHeartbeats 4000000 in
theorem ctJ6_numberOfTrailingZeros_0f7a4 {l : Launch} {g : Gw} {σ : Sto} (x0 : Int32) {Rz : Int32} (h : fJ6_numberOfTrailingZeros_0f7a4 x0 = Rz) : MtG l yJ6_numberOfTrailingZeros_0f7a4 cJ6_numberOfTrailingZeros_0f7a4 2 (some .int) 0 wkX g [.int x0] σ (QiS wkX g σ Rz) := by
  refine mt_of (by decide) (Nat.le_of_ble_eq_true rfl) (fun p e s m below meth c ls H locs C hP hS hl => ?_)
  have C : Cx wkX g p s m _ meth c cJ6_numberOfTrailingZeros_0f7a4 2 RJ6 (some .int) := C
  have hl : lv_has ls 2 [(0, .int x0)] := hl
  obtain ⟨hx, hb, hml, hown, hts, hr, hlk, hK, hZ⟩ := id C
  unfold fJ6_numberOfTrailingZeros_0f7a4 at h
  refine lv_iload_n hx hb dJ6_numberOfTrailingZeros_0f7a4_0 rfl (lv_at hl 0 rfl) ?_
  refine lv_iconst (v := (-1)) hx hb dJ6_numberOfTrailingZeros_0f7a4_1 (by decide) ?_
  refine lv_ixor hx hb dJ6_numberOfTrailingZeros_0f7a4_2 ?_
  refine lv_iload_n hx hb dJ6_numberOfTrailingZeros_0f7a4_3 rfl (lv_at hl 0 rfl) ?_
  refine lv_iconst (v := 1) hx hb dJ6_numberOfTrailingZeros_0f7a4_4 (by decide) ?_
  refine lv_isub hx hb dJ6_numberOfTrailingZeros_0f7a4_5 ?_
  refine lv_iand hx hb dJ6_numberOfTrailingZeros_0f7a4_6 ?_
  refine lv_topi (fun x_1 ex_1 => ?_)
  replace h := un_at ex_1 h
  refine lv_istore_n (lv' := [(0, .int x_1)]) hx hb dJ6_numberOfTrailingZeros_0f7a4_7 rfl hl (by decide) rfl (fun ls hl => ?_)
  refine lv_iload_n hx hb dJ6_numberOfTrailingZeros_0f7a4_8 rfl (lv_at hl 0 rfl) ?_
  refine lv_if_gt (tgt := 17) hx hb dJ6_numberOfTrailingZeros_0f7a4_9 (by decide) (fun c_ => ?_) (fun c_ => ?_)
  · replace h := if_t c_ h
    refine lv_iconst (v := 1) hx hb dJ6_numberOfTrailingZeros_0f7a4_17 (by decide) ?_
    refine lv_istore_n (lv' := [(1, .int (1 : Int32)), (0, .int x_1)]) hx hb dJ6_numberOfTrailingZeros_0f7a4_18 rfl hl (by decide) rfl (fun ls hl => ?_)
    refine lv_iload_n hx hb dJ6_numberOfTrailingZeros_0f7a4_19 rfl (lv_at hl 1 rfl) ?_
    refine lv_ldcw hx hb hown (hts _ tw_998) dJ6_numberOfTrailingZeros_0f7a4_20 ?_
    refine lv_icmp_le (tgt := 34) hx hb dJ6_numberOfTrailingZeros_0f7a4_23 (by decide) (fun c_ => ?_) (fun c_ => ?_)
    · replace h := if_t c_ h
      exact wfJ6_numberOfTrailingZeros_0f7a4_j34 C x_1 (1 : Int32) H locs ls h hP hS (lv_sub hl [1, 0] rfl)
    · replace h := if_f c_ h
      obtain ⟨x_2, ex_2⟩ : ∃ y : Int32, y = (1 : Int32) + (16 : Int32) := ⟨_, rfl⟩
      replace h := un_at ex_2 h
      refine lv_iinc (v := x_2) (lv' := [(1, .int x_2), (0, .int x_1)]) hx hb dJ6_numberOfTrailingZeros_0f7a4_26 hl (k := 0) rfl (by rw [ex_2]; rfl) (by decide) rfl (fun ls hl => ?_)
      refine lv_iload_n hx hb dJ6_numberOfTrailingZeros_0f7a4_29 rfl (lv_at hl 1 rfl) ?_
      refine lv_bipush (v := 16) hx hb dJ6_numberOfTrailingZeros_0f7a4_30 (by decide) ?_
      refine lv_iushr (v := (ush x_1 (16 : Int32))) hx hb dJ6_numberOfTrailingZeros_0f7a4_32 rfl ?_
      refine lv_topi (fun x_3 ex_3 => ?_)
      replace h := un_at ex_3 h
      refine lv_istore_n (lv' := [(0, .int x_3), (1, .int x_2)]) hx hb dJ6_numberOfTrailingZeros_0f7a4_33 rfl hl (by decide) rfl (fun ls hl => ?_)
      exact wfJ6_numberOfTrailingZeros_0f7a4_j34 C x_3 x_2 H locs ls h hP hS (lv_sub hl [0, 1] rfl)
  · replace h := if_f c_ h
    refine lv_iload_n hx hb dJ6_numberOfTrailingZeros_0f7a4_12 rfl (lv_at hl 0 rfl) ?_
    refine lv_bipush (v := 32) hx hb dJ6_numberOfTrailingZeros_0f7a4_13 (by decide) ?_
    refine lv_iand hx hb dJ6_numberOfTrailingZeros_0f7a4_15 ?_
    exact r_reti C hP hS rfl h dJ6_numberOfTrailingZeros_0f7a4_16

set_option maxRecDepth 100000 in
set_option maxHeartbeats 4000000 in
theorem wfX0_bodyFor_L7 {l : Launch} {g : Gw} {p : Program} {e : Env} {s : State} {m : MethodId} {args : Array Value} {below : List Frame} {meth : Method} {c : Code} {σ : Sto} (C : Cx wkX g p s m args meth c cX0_bodyFor 5 RX0 (some .int)) {Rz : Int32} : ∀ (n : Nat) (x1 : Int32) (x2 : Int32) (x3 : Int32) (x4 : Int32) (H : Heap) (locs : List Loc) (ls : Array Slot), fX0_bodyFor_L7 σ n x1 x2 x3 x4 = some Rz → wS wkX g σ H → va_S (AS wkX g) s.heap H locs → lv_has ls 5 [(1, .int x1), (2, .int x2), (3, .int x3), (4, .int x4)] → W p l e (rmS 0) s m args below meth c H locs 0 0 (MQ below (QiS wkX g σ Rz) args s 0 0 (AS wkX g)) (F0 m 7 ls []) := by
  intro n
  induction n with
  | zero =>
    intro x1 x2 x3 x4 H locs ls h
    cases h
  | succ n ih =>
    intro x1 x2 x3 x4 H locs ls h hP hS hl
    obtain ⟨hx, hb, hml, hown, hts, hr, hlk, hK, hZ⟩ := id C
    rw [fX0_bodyFor_L7] at h
    refine lv_iload hx hb dX0_bodyFor_7 (lv_at hl 3 rfl) ?_
    refine lv_bipush (v := 6) hx hb dX0_bodyFor_9 (by decide) ?_
    refine lv_icmp_ge (tgt := 52) hx hb dX0_bodyFor_11 (by decide) (fun c_ => ?_) (fun c_ => ?_)
    · replace h := if_t c_ h
      refine lv_iload_n hx hb dX0_bodyFor_52 rfl (lv_at hl 2 rfl) ?_
      exact r_reti C hP hS rfl (rt_o h) dX0_bodyFor_53
    · replace h := if_f c_ h
      refine lv_iload_n hx hb dX0_bodyFor_14 rfl (lv_at hl 1 rfl) ?_
      refine lv_if_lt (tgt := 52) hx hb dX0_bodyFor_15 (by decide) (fun c_ => ?_) (fun c_ => ?_)
      · replace h := if_t c_ h
        refine lv_iload_n hx hb dX0_bodyFor_52 rfl (lv_at hl 2 rfl) ?_
        exact r_reti C hP hS rfl (rt_o h) dX0_bodyFor_53
      · replace h := if_f c_ h
        refine lv_iload_n hx hb dX0_bodyFor_18 rfl (lv_at hl 2 rfl) ?_
        refine lv_if_ne (tgt := 52) hx hb dX0_bodyFor_19 (by decide) (fun c_ => ?_) (fun c_ => ?_)
        · replace h := if_f c_ h
          refine lv_iload_n hx hb dX0_bodyFor_52 rfl (lv_at hl 2 rfl) ?_
          exact r_reti C hP hS rfl (rt_o h) dX0_bodyFor_53
        · replace h := if_t c_ h
          refine lv_iload_n hx hb dX0_bodyFor_22 rfl (lv_at hl 0 rfl) ?_
          refine lv_if_ne (tgt := 34) hx hb dX0_bodyFor_23 (by decide) (fun c_ => ?_) (fun c_ => ?_)
          · replace h := if_f c_ h
            refine r_gets C hS 2 rfl tw_1119 dX0_bodyFor_34 ?_
            refine lv_iload_n hx hb dX0_bodyFor_37 rfl (lv_at hl 1 rfl) ?_
            obtain ⟨g_1, h⟩ := gd_inv h
            refine r_tabi C hS 2 rfl rfl g_1 dX0_bodyFor_38 ?_
            refine lv_topi (fun x_2 ex_2 => ?_)
            replace h := un_at ex_2 h
            refine lv_istore_n (lv' := [(3, .int x_2), (1, .int x1), (2, .int x2), (4, .int x4)]) hx hb dX0_bodyFor_39 rfl hl (by decide) rfl (fun ls hl => ?_)
            refine r_getsN C hS 0 rfl dX0_bodyFor_40 ?_
            refine lv_iload_n hx hb dX0_bodyFor_43 rfl (lv_at hl 2 rfl) ?_
            refine r_tabi C hS 0 rfl rfl g_1 dX0_bodyFor_44 ?_
            refine lv_topi (fun x_3 ex_3 => ?_)
            replace h := un_at ex_3 h
            refine lv_istore_n (lv' := [(2, .int x_3), (3, .int x_2), (1, .int x1), (4, .int x4)]) hx hb dX0_bodyFor_45 rfl hl (by decide) rfl (fun ls hl => ?_)
            obtain ⟨x_4, ex_4⟩ : ∃ y : Int32, y = x4 + (1 : Int32) := ⟨_, rfl⟩
            replace h := un_at ex_4 h
            refine lv_iinc (v := x_4) (lv' := [(4, .int x_4), (2, .int x_3), (3, .int x_2), (1, .int x1)]) hx hb dX0_bodyFor_46 hl (k := 3) rfl (by rw [ex_4]; rfl) (by decide) rfl (fun ls hl => ?_)
            refine lv_goto (tgt := 7) hx hb dX0_bodyFor_49 (by decide) ?_
            exact ih x1 x_3 x_2 x_4 H locs ls h hP hS (lv_sub hl [3, 1, 2, 0] rfl)
          · replace h := if_t c_ h
            refine r_gets C hS 1 rfl tw_1118 dX0_bodyFor_26 ?_
            refine lv_iload_n hx hb dX0_bodyFor_29 rfl (lv_at hl 1 rfl) ?_
            obtain ⟨g_5, h⟩ := gd_inv h
            refine r_tabi C hS 1 rfl rfl g_5 dX0_bodyFor_30 ?_
            refine lv_goto (tgt := 39) hx hb dX0_bodyFor_31 (by decide) ?_
            refine lv_topi (fun x_6 ex_6 => ?_)
            replace h := un_at ex_6 h
            refine lv_istore_n (lv' := [(3, .int x_6), (1, .int x1), (2, .int x2), (4, .int x4)]) hx hb dX0_bodyFor_39 rfl hl (by decide) rfl (fun ls hl => ?_)
            refine r_getsN C hS 0 rfl dX0_bodyFor_40 ?_
            refine lv_iload_n hx hb dX0_bodyFor_43 rfl (lv_at hl 2 rfl) ?_
            refine r_tabi C hS 0 rfl rfl g_5 dX0_bodyFor_44 ?_
            refine lv_topi (fun x_7 ex_7 => ?_)
            replace h := un_at ex_7 h
            refine lv_istore_n (lv' := [(2, .int x_7), (3, .int x_6), (1, .int x1), (4, .int x4)]) hx hb dX0_bodyFor_45 rfl hl (by decide) rfl (fun ls hl => ?_)
            obtain ⟨x_8, ex_8⟩ : ∃ y : Int32, y = x4 + (1 : Int32) := ⟨_, rfl⟩
            replace h := un_at ex_8 h
            refine lv_iinc (v := x_8) (lv' := [(4, .int x_8), (2, .int x_7), (3, .int x_6), (1, .int x1)]) hx hb dX0_bodyFor_46 hl (k := 3) rfl (by rw [ex_8]; rfl) (by decide) rfl (fun ls hl => ?_)
            refine lv_goto (tgt := 7) hx hb dX0_bodyFor_49 (by decide) ?_
            exact ih x1 x_7 x_6 x_8 H locs ls h hP hS (lv_sub hl [3, 1, 2, 0] rfl)

set_option maxRecDepth 100000 in
set_option maxHeartbeats 4000000 in
theorem ctX0_bodyFor {l : Launch} {g : Gw} {σ : Sto} (x0 : Int32) (x1 : Int32) {Rz : Int32} (h : fX0_bodyFor σ x0 x1 = some Rz) : MtG l yX0_bodyFor cX0_bodyFor 5 (some .int) 0 wkX g [.int x0, .int x1] σ (QiS wkX g σ Rz) := by
  refine mt_of (by decide) (Nat.le_of_ble_eq_true rfl) (fun p e s m below meth c ls H locs C hP hS hl => ?_)
  have C : Cx wkX g p s m _ meth c cX0_bodyFor 5 RX0 (some .int) := C
  have hl : lv_has ls 5 [(0, .int x0), (1, .int x1)] := hl
  obtain ⟨hx, hb, hml, hown, hts, hr, hlk, hK, hZ⟩ := id C
  unfold fX0_bodyFor at h
  refine lv_iload_n hx hb dX0_bodyFor_0 rfl (lv_at hl 0 rfl) ?_
  refine lv_istore_n (lv' := [(2, .int x0), (0, .int x0), (1, .int x1)]) hx hb dX0_bodyFor_1 rfl hl (by decide) rfl (fun ls hl => ?_)
  refine lv_iconst (v := 0) hx hb dX0_bodyFor_2 (by decide) ?_
  refine lv_istore_n (lv' := [(3, .int (0 : Int32)), (2, .int x0), (0, .int x0), (1, .int x1)]) hx hb dX0_bodyFor_3 rfl hl (by decide) rfl (fun ls hl => ?_)
  refine lv_iconst (v := 0) hx hb dX0_bodyFor_4 (by decide) ?_
  refine lv_istore (lv' := [(4, .int (0 : Int32)), (3, .int (0 : Int32)), (2, .int x0), (0, .int x0), (1, .int x1)]) hx hb dX0_bodyFor_5 hl (by decide) rfl (fun ls hl => ?_)
  exact wfX0_bodyFor_L7 C fu x1 x0 (0 : Int32) (0 : Int32) H locs ls h hP hS (lv_sub hl [4, 2, 1, 0] rfl)

set_option maxRecDepth 100000 in
set_option maxHeartbeats 4000000 in
theorem ctX0_begin {l : Launch} {g : Gw} {σ : Sto} (x1 : Int32) {Rz : Sto} (h : fX0_begin σ x1 = some Rz) : MtG l yX0_begin cX0_begin 2 none 0 wkX g [.ref (adG g 26), .int x1] σ (QvS wkX g Rz) := by
  refine mt_of (by decide) (Nat.le_of_ble_eq_true rfl) (fun p e s m below meth c ls H locs C hP hS hl => ?_)
  have C : Cx wkX g p s m _ meth c cX0_begin 2 RX0 none := C
  have hl : lv_has ls 2 [(0, .ref (adG g 26)), (1, .int x1)] := hl
  obtain ⟨hx, hb, hml, hown, hts, hr, hlk, hK, hZ⟩ := id C
  unfold fX0_begin at h
  refine lv_aload_n hx hb dX0_begin_0 rfl (lv_at hl 0 rfl) ?_
  refine r_geti C cf_0 hP sx_26 kx_26 0 (by decide) rfl tw_138 dX0_begin_1 ?_
  refine lv_bipush (v := 16) hx hb dX0_begin_4 (by decide) ?_
  refine lv_icmp_ge (tgt := 29) hx hb dX0_begin_6 (by decide) (fun c_ => ?_) (fun c_ => ?_)
  · replace h := if_t c_ h
    exact r_retv C hP hS (rt_o h) dX0_begin_29
  · replace h := if_f c_ h
    refine lv_aload_n hx hb dX0_begin_9 rfl (lv_at hl 0 rfl) ?_
    refine r_getr C cf_0 hP sx_26 kx_26 1 (by decide) rfl tw_139 dX0_begin_10 ?_
    refine lv_aload_n hx hb dX0_begin_13 rfl (lv_at hl 0 rfl) ?_
    refine r_geti C cf_0 hP sx_26 kx_26 0 (by decide) rfl tw_138 dX0_begin_14 ?_
    refine lv_iload_n hx hb dX0_begin_17 rfl (lv_at hl 1 rfl) ?_
    obtain ⟨g_1, h⟩ := gd_inv h
    refine r_iast C hP hS sx_27 kx_27 rfl g_1 dX0_begin_18 (fun H locs σ_2 eσ_2 hP hS => ?_)
    replace h := un_at eσ_2 h
    refine lv_aload_n hx hb dX0_begin_19 rfl (lv_at hl 0 rfl) ?_
    refine lv_dup hx hb dX0_begin_20 rfl ?_
    refine r_geti C cf_0 hP sx_26 kx_26 0 (by decide) rfl tw_138 dX0_begin_21 ?_
    refine lv_iconst (v := 1) hx hb dX0_begin_24 (by decide) ?_
    refine lv_iadd hx hb dX0_begin_25 ?_
    refine r_puti C cf_0 hP hS sx_26 kx_26 0 (by decide) rfl rfl rfl tw_138 dX0_begin_26 (fun H locs σ_3 eσ_3 hP hS => ?_)
    replace h := un_at eσ_3 h
    exact r_retv C hP hS (rt_o h) dX0_begin_29

set_option maxRecDepth 100000 in
set_option maxHeartbeats 4000000 in
theorem ctX0_anew {l : Launch} {g : Gw} {σ : Sto} {rc : Sto → Nat → Int32 → Int32 → Int32 → Option (Sto × Int32)} (rh : Nat) (hrc : ∀ (σ : Sto) (v1 : Nat) (hv1 : isV v1) (x2 : Int32) (x3 : Int32) (x4 : Int32) (Rz : (Sto × Int32)), rc σ v1 x2 x3 x4 = some Rz → MtG l yX0_give cX0_give 5 (some .int) rh wkX g [.ref (adG g 26), .ref (adG g v1), .int x2, .int x3, .int x4] σ (QiS wkX g Rz.1 Rz.2)) (v1 : Nat) (hv1 : isV v1) (x2 : Int32) (x3 : Int32) (x4 : Int32) {Rz : (Sto × Int32)} (h : fX0_anew rc σ v1 x2 x3 x4 = some Rz) : MtG l yX0_anew cX0_anew 5 (some .int) (rh + 1) wkX g [.ref (adG g 26), .ref (adG g v1), .int x2, .int x3, .int x4] σ (QiS wkX g Rz.1 Rz.2) := by
  refine mt_of (by decide) (Nat.le_of_ble_eq_true rfl) (fun p e s m below meth c ls H locs C hP hS hl => ?_)
  have C : Cx wkX g p s m _ meth c cX0_anew 5 RX0 (some .int) := C
  have hl : lv_has ls 5 [(0, .ref (adG g 26)), (1, .ref (adG g v1)), (2, .int x2), (3, .int x3), (4, .int x4)] := hl
  obtain ⟨hx, hb, hml, hown, hts, hr, hlk, hK, hZ⟩ := id C
  unfold fX0_anew at h
  refine lv_aload_n hx hb dX0_anew_0 rfl (lv_at hl 0 rfl) ?_
  refine lv_aload_n hx hb dX0_anew_1 rfl (lv_at hl 1 rfl) ?_
  refine lv_iload_n hx hb dX0_anew_2 rfl (lv_at hl 2 rfl) ?_
  refine lv_aload_n hx hb dX0_anew_3 rfl (lv_at hl 1 rfl) ?_
  refine r_getr C cf_8 hP (sv_0 hv1) (kv_0 hv1) 8 (by decide) rfl tw_1114 dX0_anew_4 ?_
  refine lv_iload_n hx hb dX0_anew_7 rfl (lv_at hl 2 rfl) ?_
  obtain ⟨g_1, h⟩ := gd_inv h
  refine r_iald C hP (sv_4 hv1) (kv_4 hv1) rfl g_1 dX0_anew_8 ?_
  refine lv_iload_n hx hb dX0_anew_9 rfl (lv_at hl 3 rfl) ?_
  obtain ⟨q_2, hq_2, h⟩ := bd_inv h
  refine end_i (run_s (As := [.int (σ (v1 + 4) x2.toNatClampNeg), .int x3]) (rest := [.int x2, .ref (adG g v1), .ref (adG g 26)]) C ca_X0_bodyFor (ctX0_bodyFor (σ (v1 + 4) x2.toNatClampNeg) x3 hq_2) tw_1115 ⟨by show _ ≤ (rh + 1); omega, by show _ ≤ 40 * (rh + 1); omega⟩ rfl hl.1 (Nat.le_of_ble_eq_true rfl) ⟨Nat.le_refl _, Nat.le_refl _⟩ hP hS dX0_anew_10) hS (fun H locs hP hS => ?_)
  refine lv_iload hx hb dX0_anew_13 (lv_at hl 4 rfl) ?_
  refine lv_iconst (v := 1) hx hb dX0_anew_15 (by decide) ?_
  refine lv_iadd hx hb dX0_anew_16 ?_
  obtain ⟨q_3, hq_3, h⟩ := bd_inv h
  refine end_i (run_v (As := [.ref (adG g v1), .int x2, .int q_2, .int (x4 + (1 : Int32))]) (rest := []) C ca_X0_give (hrc σ v1 hv1 x2 q_2 (x4 + (1 : Int32)) _ hq_3) cf_0 sx_26 kx_26 tw_1120 ⟨by show _ ≤ (rh + 1); omega, by show _ ≤ 40 * (rh + 1); omega⟩ rfl hl.1 (Nat.le_of_ble_eq_true rfl) ⟨Nat.le_refl _, Nat.le_refl _⟩ hP hS dX0_anew_17) hS (fun H locs hP hS => ?_)
  exact r_reti C hP hS (rt_ow1 h) (rt_ow2 h) dX0_anew_20

set_option maxRecDepth 100000 in
set_option maxHeartbeats 4000000 in
theorem ctX0_give {l : Launch} {g : Gw} {σ : Sto} {rc : Sto → Nat → Int32 → Int32 → Int32 → Option (Sto × Int32)} (rh : Nat) (hrc : ∀ (σ : Sto) (v1 : Nat) (hv1 : isV v1) (x2 : Int32) (x3 : Int32) (x4 : Int32) (Rz : (Sto × Int32)), rc σ v1 x2 x3 x4 = some Rz → MtG l yX0_give cX0_give 5 (some .int) rh wkX g [.ref (adG g 26), .ref (adG g v1), .int x2, .int x3, .int x4] σ (QiS wkX g Rz.1 Rz.2)) (v1 : Nat) (hv1 : isV v1) (x2 : Int32) (x3 : Int32) (x4 : Int32) {Rz : (Sto × Int32)} (h : fX0_give rc σ v1 x2 x3 x4 = some Rz) : MtG l yX0_give cX0_give 5 (some .int) (rh + 2) wkX g [.ref (adG g 26), .ref (adG g v1), .int x2, .int x3, .int x4] σ (QiS wkX g Rz.1 Rz.2) := by
  refine mt_of (by decide) (Nat.le_of_ble_eq_true rfl) (fun p e s m below meth c ls H locs C hP hS hl => ?_)
  have C : Cx wkX g p s m _ meth c cX0_give 5 RX0 (some .int) := C
  have hl : lv_has ls 5 [(0, .ref (adG g 26)), (1, .ref (adG g v1)), (2, .int x2), (3, .int x3), (4, .int x4)] := hl
  obtain ⟨hx, hb, hml, hown, hts, hr, hlk, hK, hZ⟩ := id C
  unfold fX0_give at h
  refine lv_iload hx hb dX0_give_0 (lv_at hl 4 rfl) ?_
  refine lv_bipush (v := 16) hx hb dX0_give_2 (by decide) ?_
  refine lv_icmp_le (tgt := 9) hx hb dX0_give_4 (by decide) (fun c_ => ?_) (fun c_ => ?_)
  · replace h := if_t c_ h
    refine lv_aload_n hx hb dX0_give_9 rfl (lv_at hl 0 rfl) ?_
    refine lv_iload_n hx hb dX0_give_10 rfl (lv_at hl 3 rfl) ?_
    obtain ⟨q_1, hq_1, h⟩ := bd_inv h
    refine end_v (run_v (As := [.int x3]) (rest := []) C ca_X0_begin (ctX0_begin x3 hq_1) cf_0 sx_26 kx_26 tw_1126 ⟨by show _ ≤ (rh + 2); omega, by show _ ≤ 40 * (rh + 2); omega⟩ rfl hl.1 (Nat.le_of_ble_eq_true rfl) ⟨Nat.le_refl _, Nat.le_refl _⟩ hP hS dX0_give_11) hS (fun H locs hP hS => ?_)
    refine lv_iload_n hx hb dX0_give_14 rfl (lv_at hl 3 rfl) ?_
    by_cases c_2 : x3 = (10 : Int32)
    · replace h := if_t c_2 h
      refine r_tin (tgt := 88) hx hb dX0_give_15 c_2 (by decide) (by decide) rfl (by decide) ?_
      refine lv_aload_n hx hb dX0_give_88 rfl (lv_at hl 1 rfl) ?_
      refine r_getr C cf_8 hP (sv_0 hv1) (kv_0 hv1) 9 (by decide) rfl tw_1124 dX0_give_89 ?_
      refine lv_iload_n hx hb dX0_give_92 rfl (lv_at hl 2 rfl) ?_
      obtain ⟨g_3, h⟩ := gd_inv h
      refine r_iald C hP (sv_5 hv1) (kv_5 hv1) rfl g_3 dX0_give_93 ?_
      exact r_reti C hP hS (rt_ow1 h) (rt_ow2 h) dX0_give_94
    replace h := if_f c_2 h
    by_cases c_4 : x3 = (11 : Int32)
    · replace h := if_t c_4 h
      refine r_tin (tgt := 95) hx hb dX0_give_15 c_4 (by decide) (by decide) rfl (by decide) ?_
      refine lv_aload_n hx hb dX0_give_95 rfl (lv_at hl 0 rfl) ?_
      refine lv_aload_n hx hb dX0_give_96 rfl (lv_at hl 1 rfl) ?_
      refine lv_iload_n hx hb dX0_give_97 rfl (lv_at hl 2 rfl) ?_
      refine lv_bipush (v := 10) hx hb dX0_give_98 (by decide) ?_
      refine lv_iload hx hb dX0_give_100 (lv_at hl 4 rfl) ?_
      refine lv_iconst (v := 1) hx hb dX0_give_102 (by decide) ?_
      refine lv_iadd hx hb dX0_give_103 ?_
      obtain ⟨q_5, hq_5, h⟩ := bd_inv h
      refine end_i (run_v (As := [.ref (adG g v1), .int x2, .int (10 : Int32), .int (x4 + (1 : Int32))]) (rest := []) C ca_X0_give (hrc q_1 v1 hv1 x2 (10 : Int32) (x4 + (1 : Int32)) _ hq_5) cf_0 sx_26 kx_26 tw_1120 ⟨by show _ ≤ (rh + 2); omega, by show _ ≤ 40 * (rh + 2); omega⟩ rfl hl.1 (Nat.le_of_ble_eq_true rfl) ⟨Nat.le_refl _, Nat.le_refl _⟩ hP hS dX0_give_104) hS (fun H locs hP hS => ?_)
      refine lv_aload_n hx hb dX0_give_107 rfl (lv_at hl 0 rfl) ?_
      refine lv_aload_n hx hb dX0_give_108 rfl (lv_at hl 1 rfl) ?_
      refine lv_iload_n hx hb dX0_give_109 rfl (lv_at hl 2 rfl) ?_
      refine lv_iconst (v := 1) hx hb dX0_give_110 (by decide) ?_
      refine lv_iload hx hb dX0_give_111 (lv_at hl 4 rfl) ?_
      obtain ⟨q_6, hq_6, h⟩ := bd_inv h
      refine end_i (run_v (As := [.ref (adG g v1), .int x2, .int (1 : Int32), .int x4]) (rest := [.int q_5.2]) C ca_X0_anew (ctX0_anew rh hrc v1 hv1 x2 (1 : Int32) x4 hq_6) cf_0 sx_26 kx_26 tw_1130 ⟨by show _ ≤ (rh + 2); omega, by show _ ≤ 40 * (rh + 2); omega⟩ rfl hl.1 (Nat.le_of_ble_eq_true rfl) ⟨Nat.le_refl _, Nat.le_refl _⟩ hP hS dX0_give_113) hS (fun H locs hP hS => ?_)
      refine lv_iadd hx hb dX0_give_116 ?_
      exact r_reti C hP hS (rt_ow1 h) (rt_ow2 h) dX0_give_117
    replace h := if_f c_4 h
    by_cases c_7 : x3 = (12 : Int32)
    · replace h := if_t c_7 h
      refine r_tin (tgt := 118) hx hb dX0_give_15 c_7 (by decide) (by decide) rfl (by decide) ?_
      refine lv_iconst (v := 0) hx hb dX0_give_118 (by decide) ?_
      refine lv_aload_n hx hb dX0_give_119 rfl (lv_at hl 0 rfl) ?_
      refine lv_aload_n hx hb dX0_give_120 rfl (lv_at hl 1 rfl) ?_
      refine lv_iload_n hx hb dX0_give_121 rfl (lv_at hl 2 rfl) ?_
      refine lv_bipush (v := 11) hx hb dX0_give_122 (by decide) ?_
      refine lv_iload hx hb dX0_give_124 (lv_at hl 4 rfl) ?_
      refine lv_iconst (v := 1) hx hb dX0_give_126 (by decide) ?_
      refine lv_iadd hx hb dX0_give_127 ?_
      obtain ⟨q_8, hq_8, h⟩ := bd_inv h
      refine end_i (run_v (As := [.ref (adG g v1), .int x2, .int (11 : Int32), .int (x4 + (1 : Int32))]) (rest := [.int (0 : Int32)]) C ca_X0_give (hrc q_1 v1 hv1 x2 (11 : Int32) (x4 + (1 : Int32)) _ hq_8) cf_0 sx_26 kx_26 tw_1120 ⟨by show _ ≤ (rh + 2); omega, by show _ ≤ 40 * (rh + 2); omega⟩ rfl hl.1 (Nat.le_of_ble_eq_true rfl) ⟨Nat.le_refl _, Nat.le_refl _⟩ hP hS dX0_give_128) hS (fun H locs hP hS => ?_)
      refine lv_isub hx hb dX0_give_131 ?_
      exact r_reti C hP hS (rt_ow1 h) (rt_ow2 h) dX0_give_132
    replace h := if_f c_7 h
    by_cases c_9 : x3 = (13 : Int32)
    · replace h := if_t c_9 h
      refine r_tin (tgt := 133) hx hb dX0_give_15 c_9 (by decide) (by decide) rfl (by decide) ?_
      refine lv_aload_n hx hb dX0_give_133 rfl (lv_at hl 0 rfl) ?_
      refine lv_aload_n hx hb dX0_give_134 rfl (lv_at hl 1 rfl) ?_
      refine lv_iload_n hx hb dX0_give_135 rfl (lv_at hl 2 rfl) ?_
      refine lv_bipush (v := 10) hx hb dX0_give_136 (by decide) ?_
      refine lv_iload hx hb dX0_give_138 (lv_at hl 4 rfl) ?_
      refine lv_iconst (v := 1) hx hb dX0_give_140 (by decide) ?_
      refine lv_iadd hx hb dX0_give_141 ?_
      obtain ⟨q_10, hq_10, h⟩ := bd_inv h
      refine end_i (run_v (As := [.ref (adG g v1), .int x2, .int (10 : Int32), .int (x4 + (1 : Int32))]) (rest := []) C ca_X0_give (hrc q_1 v1 hv1 x2 (10 : Int32) (x4 + (1 : Int32)) _ hq_10) cf_0 sx_26 kx_26 tw_1120 ⟨by show _ ≤ (rh + 2); omega, by show _ ≤ 40 * (rh + 2); omega⟩ rfl hl.1 (Nat.le_of_ble_eq_true rfl) ⟨Nat.le_refl _, Nat.le_refl _⟩ hP hS dX0_give_142) hS (fun H locs hP hS => ?_)
      refine lv_bipush (v := 100) hx hb dX0_give_145 (by decide) ?_
      refine lv_isub hx hb dX0_give_147 ?_
      exact r_reti C hP hS (rt_ow1 h) (rt_ow2 h) dX0_give_148
    replace h := if_f c_9 h
    by_cases c_11 : x3 = (14 : Int32)
    · replace h := if_t c_11 h
      refine r_tin (tgt := 149) hx hb dX0_give_15 c_11 (by decide) (by decide) rfl (by decide) ?_
      refine lv_iconst (v := 2) hx hb dX0_give_149 (by decide) ?_
      refine lv_aload_n hx hb dX0_give_150 rfl (lv_at hl 0 rfl) ?_
      refine lv_aload_n hx hb dX0_give_151 rfl (lv_at hl 1 rfl) ?_
      refine lv_iload_n hx hb dX0_give_152 rfl (lv_at hl 2 rfl) ?_
      refine lv_bipush (v := 13) hx hb dX0_give_153 (by decide) ?_
      refine lv_iload hx hb dX0_give_155 (lv_at hl 4 rfl) ?_
      refine lv_iconst (v := 1) hx hb dX0_give_157 (by decide) ?_
      refine lv_iadd hx hb dX0_give_158 ?_
      obtain ⟨q_12, hq_12, h⟩ := bd_inv h
      refine end_i (run_v (As := [.ref (adG g v1), .int x2, .int (13 : Int32), .int (x4 + (1 : Int32))]) (rest := [.int (2 : Int32)]) C ca_X0_give (hrc q_1 v1 hv1 x2 (13 : Int32) (x4 + (1 : Int32)) _ hq_12) cf_0 sx_26 kx_26 tw_1120 ⟨by show _ ≤ (rh + 2); omega, by show _ ≤ 40 * (rh + 2); omega⟩ rfl hl.1 (Nat.le_of_ble_eq_true rfl) ⟨Nat.le_refl _, Nat.le_refl _⟩ hP hS dX0_give_159) hS (fun H locs hP hS => ?_)
      refine lv_imul hx hb dX0_give_162 ?_
      exact r_reti C hP hS (rt_ow1 h) (rt_ow2 h) dX0_give_163
    replace h := if_f c_11 h
    by_cases c_13 : x3 = (15 : Int32)
    · replace h := if_t c_13 h
      refine r_tin (tgt := 241) hx hb dX0_give_15 c_13 (by decide) (by decide) rfl (by decide) ?_
      refine lv_iconst (v := 0) hx hb dX0_give_241 (by decide) ?_
      exact r_reti C hP hS (rt_ow1 h) (rt_ow2 h) dX0_give_242
    replace h := if_f c_13 h
    by_cases c_14 : x3 = (16 : Int32)
    · replace h := if_t c_14 h
      refine r_tin (tgt := 241) hx hb dX0_give_15 c_14 (by decide) (by decide) rfl (by decide) ?_
      refine lv_iconst (v := 0) hx hb dX0_give_241 (by decide) ?_
      exact r_reti C hP hS (rt_ow1 h) (rt_ow2 h) dX0_give_242
    replace h := if_f c_14 h
    by_cases c_15 : x3 = (17 : Int32)
    · replace h := if_t c_15 h
      refine r_tin (tgt := 241) hx hb dX0_give_15 c_15 (by decide) (by decide) rfl (by decide) ?_
      refine lv_iconst (v := 0) hx hb dX0_give_241 (by decide) ?_
      exact r_reti C hP hS (rt_ow1 h) (rt_ow2 h) dX0_give_242
    replace h := if_f c_15 h
    by_cases c_16 : x3 = (18 : Int32)
    · replace h := if_t c_16 h
      refine r_tin (tgt := 241) hx hb dX0_give_15 c_16 (by decide) (by decide) rfl (by decide) ?_
      refine lv_iconst (v := 0) hx hb dX0_give_241 (by decide) ?_
      exact r_reti C hP hS (rt_ow1 h) (rt_ow2 h) dX0_give_242
    replace h := if_f c_16 h
    by_cases c_17 : x3 = (19 : Int32)
    · replace h := if_t c_17 h
      refine r_tin (tgt := 241) hx hb dX0_give_15 c_17 (by decide) (by decide) rfl (by decide) ?_
      refine lv_iconst (v := 0) hx hb dX0_give_241 (by decide) ?_
      exact r_reti C hP hS (rt_ow1 h) (rt_ow2 h) dX0_give_242
    replace h := if_f c_17 h
    by_cases c_18 : x3 = (20 : Int32)
    · replace h := if_t c_18 h
      refine r_tin (tgt := 164) hx hb dX0_give_15 c_18 (by decide) (by decide) rfl (by decide) ?_
      refine lv_iload_n hx hb dX0_give_164 rfl (lv_at hl 2 rfl) ?_
      exact r_reti C hP hS (rt_ow1 h) (rt_ow2 h) dX0_give_165
    replace h := if_f c_18 h
    by_cases c_19 : x3 = (21 : Int32)
    · replace h := if_t c_19 h
      refine r_tin (tgt := 166) hx hb dX0_give_15 c_19 (by decide) (by decide) rfl (by decide) ?_
      refine lv_aload_n hx hb dX0_give_166 rfl (lv_at hl 0 rfl) ?_
      refine lv_aload_n hx hb dX0_give_167 rfl (lv_at hl 1 rfl) ?_
      refine lv_iload_n hx hb dX0_give_168 rfl (lv_at hl 2 rfl) ?_
      refine lv_bipush (v := 20) hx hb dX0_give_169 (by decide) ?_
      refine lv_iload hx hb dX0_give_171 (lv_at hl 4 rfl) ?_
      refine lv_iconst (v := 1) hx hb dX0_give_173 (by decide) ?_
      refine lv_iadd hx hb dX0_give_174 ?_
      obtain ⟨q_20, hq_20, h⟩ := bd_inv h
      refine end_i (run_v (As := [.ref (adG g v1), .int x2, .int (20 : Int32), .int (x4 + (1 : Int32))]) (rest := []) C ca_X0_give (hrc q_1 v1 hv1 x2 (20 : Int32) (x4 + (1 : Int32)) _ hq_20) cf_0 sx_26 kx_26 tw_1120 ⟨by show _ ≤ (rh + 2); omega, by show _ ≤ 40 * (rh + 2); omega⟩ rfl hl.1 (Nat.le_of_ble_eq_true rfl) ⟨Nat.le_refl _, Nat.le_refl _⟩ hP hS dX0_give_175) hS (fun H locs hP hS => ?_)
      refine lv_aload_n hx hb dX0_give_178 rfl (lv_at hl 1 rfl) ?_
      refine r_getr C cf_8 hP (sv_0 hv1) (kv_0 hv1) 11 (by decide) rfl tw_1125 dX0_give_179 ?_
      refine lv_iload_n hx hb dX0_give_182 rfl (lv_at hl 2 rfl) ?_
      obtain ⟨g_21, h⟩ := gd_inv h
      refine r_iald C hP (sv_7 hv1) (kv_7 hv1) rfl g_21 dX0_give_183 ?_
      refine lv_iadd hx hb dX0_give_184 ?_
      exact r_reti C hP hS (rt_ow1 h) (rt_ow2 h) dX0_give_185
    replace h := if_f c_19 h
    by_cases c_22 : x3 = (22 : Int32)
    · replace h := if_t c_22 h
      refine r_tin (tgt := 186) hx hb dX0_give_15 c_22 (by decide) (by decide) rfl (by decide) ?_
      refine lv_aload_n hx hb dX0_give_186 rfl (lv_at hl 0 rfl) ?_
      refine lv_aload_n hx hb dX0_give_187 rfl (lv_at hl 1 rfl) ?_
      refine lv_iload_n hx hb dX0_give_188 rfl (lv_at hl 2 rfl) ?_
      refine lv_bipush (v := 21) hx hb dX0_give_189 (by decide) ?_
      refine lv_iload hx hb dX0_give_191 (lv_at hl 4 rfl) ?_
      refine lv_iconst (v := 1) hx hb dX0_give_193 (by decide) ?_
      refine lv_iadd hx hb dX0_give_194 ?_
      obtain ⟨q_23, hq_23, h⟩ := bd_inv h
      refine end_i (run_v (As := [.ref (adG g v1), .int x2, .int (21 : Int32), .int (x4 + (1 : Int32))]) (rest := []) C ca_X0_give (hrc q_1 v1 hv1 x2 (21 : Int32) (x4 + (1 : Int32)) _ hq_23) cf_0 sx_26 kx_26 tw_1120 ⟨by show _ ≤ (rh + 2); omega, by show _ ≤ 40 * (rh + 2); omega⟩ rfl hl.1 (Nat.le_of_ble_eq_true rfl) ⟨Nat.le_refl _, Nat.le_refl _⟩ hP hS dX0_give_195) hS (fun H locs hP hS => ?_)
      refine lv_sipush (v := 1000) hx hb dX0_give_198 (by decide) ?_
      refine lv_isub hx hb dX0_give_201 ?_
      exact r_reti C hP hS (rt_ow1 h) (rt_ow2 h) dX0_give_202
    replace h := if_f c_22 h
    by_cases c_24 : x3 = (23 : Int32)
    · replace h := if_t c_24 h
      refine r_tin (tgt := 203) hx hb dX0_give_15 c_24 (by decide) (by decide) rfl (by decide) ?_
      refine lv_aload_n hx hb dX0_give_203 rfl (lv_at hl 0 rfl) ?_
      refine lv_aload_n hx hb dX0_give_204 rfl (lv_at hl 1 rfl) ?_
      refine lv_iload_n hx hb dX0_give_205 rfl (lv_at hl 2 rfl) ?_
      refine lv_bipush (v := 20) hx hb dX0_give_206 (by decide) ?_
      refine lv_iload hx hb dX0_give_208 (lv_at hl 4 rfl) ?_
      refine lv_iconst (v := 1) hx hb dX0_give_210 (by decide) ?_
      refine lv_iadd hx hb dX0_give_211 ?_
      obtain ⟨q_25, hq_25, h⟩ := bd_inv h
      refine end_i (run_v (As := [.ref (adG g v1), .int x2, .int (20 : Int32), .int (x4 + (1 : Int32))]) (rest := []) C ca_X0_give (hrc q_1 v1 hv1 x2 (20 : Int32) (x4 + (1 : Int32)) _ hq_25) cf_0 sx_26 kx_26 tw_1120 ⟨by show _ ≤ (rh + 2); omega, by show _ ≤ 40 * (rh + 2); omega⟩ rfl hl.1 (Nat.le_of_ble_eq_true rfl) ⟨Nat.le_refl _, Nat.le_refl _⟩ hP hS dX0_give_212) hS (fun H locs hP hS => ?_)
      refine lv_aload_n hx hb dX0_give_215 rfl (lv_at hl 0 rfl) ?_
      refine lv_aload_n hx hb dX0_give_216 rfl (lv_at hl 1 rfl) ?_
      refine lv_iload_n hx hb dX0_give_217 rfl (lv_at hl 2 rfl) ?_
      refine lv_iconst (v := 0) hx hb dX0_give_218 (by decide) ?_
      refine lv_iload hx hb dX0_give_219 (lv_at hl 4 rfl) ?_
      obtain ⟨q_26, hq_26, h⟩ := bd_inv h
      refine end_i (run_v (As := [.ref (adG g v1), .int x2, .int (0 : Int32), .int x4]) (rest := [.int q_25.2]) C ca_X0_anew (ctX0_anew rh hrc v1 hv1 x2 (0 : Int32) x4 hq_26) cf_0 sx_26 kx_26 tw_1130 ⟨by show _ ≤ (rh + 2); omega, by show _ ≤ 40 * (rh + 2); omega⟩ rfl hl.1 (Nat.le_of_ble_eq_true rfl) ⟨Nat.le_refl _, Nat.le_refl _⟩ hP hS dX0_give_221) hS (fun H locs hP hS => ?_)
      refine lv_isub hx hb dX0_give_224 ?_
      exact r_reti C hP hS (rt_ow1 h) (rt_ow2 h) dX0_give_225
    replace h := if_f c_24 h
    by_cases c_27 : x3 = (24 : Int32)
    · replace h := if_t c_27 h
      refine r_tin (tgt := 226) hx hb dX0_give_15 c_27 (by decide) (by decide) rfl (by decide) ?_
      refine lv_iconst (v := 2) hx hb dX0_give_226 (by decide) ?_
      refine lv_aload_n hx hb dX0_give_227 rfl (lv_at hl 0 rfl) ?_
      refine lv_aload_n hx hb dX0_give_228 rfl (lv_at hl 1 rfl) ?_
      refine lv_iload_n hx hb dX0_give_229 rfl (lv_at hl 2 rfl) ?_
      refine lv_bipush (v := 21) hx hb dX0_give_230 (by decide) ?_
      refine lv_iload hx hb dX0_give_232 (lv_at hl 4 rfl) ?_
      refine lv_iconst (v := 1) hx hb dX0_give_234 (by decide) ?_
      refine lv_iadd hx hb dX0_give_235 ?_
      obtain ⟨q_28, hq_28, h⟩ := bd_inv h
      refine end_i (run_v (As := [.ref (adG g v1), .int x2, .int (21 : Int32), .int (x4 + (1 : Int32))]) (rest := [.int (2 : Int32)]) C ca_X0_give (hrc q_1 v1 hv1 x2 (21 : Int32) (x4 + (1 : Int32)) _ hq_28) cf_0 sx_26 kx_26 tw_1120 ⟨by show _ ≤ (rh + 2); omega, by show _ ≤ 40 * (rh + 2); omega⟩ rfl hl.1 (Nat.le_of_ble_eq_true rfl) ⟨Nat.le_refl _, Nat.le_refl _⟩ hP hS dX0_give_236) hS (fun H locs hP hS => ?_)
      refine lv_imul hx hb dX0_give_239 ?_
      exact r_reti C hP hS (rt_ow1 h) (rt_ow2 h) dX0_give_240
    replace h := if_f c_27 h
    refine lv_tableOut (tgt := 241) hx hb dX0_give_15 (by have qc_2 := lv_neT (a := 10) c_2 rfl; have qc_4 := lv_neT (a := 11) c_4 rfl; have qc_7 := lv_neT (a := 12) c_7 rfl; have qc_9 := lv_neT (a := 13) c_9 rfl; have qc_11 := lv_neT (a := 14) c_11 rfl; have qc_13 := lv_neT (a := 15) c_13 rfl; have qc_14 := lv_neT (a := 16) c_14 rfl; have qc_15 := lv_neT (a := 17) c_15 rfl; have qc_16 := lv_neT (a := 18) c_16 rfl; have qc_17 := lv_neT (a := 19) c_17 rfl; have qc_18 := lv_neT (a := 20) c_18 rfl; have qc_19 := lv_neT (a := 21) c_19 rfl; have qc_22 := lv_neT (a := 22) c_22 rfl; have qc_24 := lv_neT (a := 23) c_24 rfl; have qc_27 := lv_neT (a := 24) c_27 rfl; omega) (by decide) ?_
    refine lv_iconst (v := 0) hx hb dX0_give_241 (by decide) ?_
    exact r_reti C hP hS (rt_ow1 h) (rt_ow2 h) dX0_give_242
  · replace h := if_f c_ h
    refine lv_iconst (v := 0) hx hb dX0_give_7 (by decide) ?_
    exact r_reti C hP hS (rt_ow1 h) (rt_ow2 h) dX0_give_8

theorem ctX0_giveD {l : Launch} {g : Gw} : ∀ (n : Nat) (σ : Sto) (v1 : Nat) (hv1 : isV v1) (x2 : Int32) (x3 : Int32) (x4 : Int32) (Rz : (Sto × Int32)), fX0_giveD n σ v1 x2 x3 x4 = some Rz → MtG l yX0_give cX0_give 5 (some .int) (2 * n) wkX g [.ref (adG g 26), .ref (adG g v1), .int x2, .int x3, .int x4] σ (QiS wkX g Rz.1 Rz.2)
  | 0, _, _, _, _, _, _, _, h => by cases h
  | n + 1, σ, v1, hv1, x2, x3, x4, _, h => by
    rw [fX0_giveD] at h
    have q := ctX0_give (l := l) (g := g) (2 * n) (ctX0_giveD n) v1 hv1 x2 x3 x4 h
    rw [show 2 * (n + 1) = 2 * n + 2 by omega]
    exact q
theorem ctX0_giveR {l : Launch} {g : Gw} {σ : Sto} (v1 : Nat) (hv1 : isV v1) (x2 : Int32) (x3 : Int32) (x4 : Int32) {Rz : (Sto × Int32)} (h : fX0_giveR σ v1 x2 x3 x4 = some Rz) : MtG l yX0_give cX0_give 5 (some .int) 36 wkX g [.ref (adG g 26), .ref (adG g v1), .int x2, .int x3, .int x4] σ (QiS wkX g Rz.1 Rz.2) := ctX0_giveD 18 σ v1 hv1 x2 x3 x4 Rz h

set_option maxRecDepth 100000 in
set_option maxHeartbeats 4000000 in
theorem ctX0_answer {l : Launch} {g : Gw} {σ : Sto} (v1 : Nat) (hv1 : isV v1) (x2 : Int32) (x3 : Int32) {Rz : (Sto × Int32)} (h : fX0_answer σ v1 x2 x3 = some Rz) : MtG l yX0_answer cX0_answer 4 (some .int) 37 wkX g [.ref (adG g 26), .ref (adG g v1), .int x2, .int x3] σ (QiS wkX g Rz.1 Rz.2) := by
  refine mt_of (by decide) (Nat.le_of_ble_eq_true rfl) (fun p e s m below meth c ls H locs C hP hS hl => ?_)
  have C : Cx wkX g p s m _ meth c cX0_answer 4 RX0 (some .int) := C
  have hl : lv_has ls 4 [(0, .ref (adG g 26)), (1, .ref (adG g v1)), (2, .int x2), (3, .int x3)] := hl
  obtain ⟨hx, hb, hml, hown, hts, hr, hlk, hK, hZ⟩ := id C
  unfold fX0_answer at h
  refine lv_aload_n hx hb dX0_answer_0 rfl (lv_at hl 0 rfl) ?_
  refine lv_iconst (v := 0) hx hb dX0_answer_1 (by decide) ?_
  refine r_puti C cf_0 hP hS sx_26 kx_26 0 (by decide) rfl rfl rfl tw_138 dX0_answer_2 (fun H locs σ_1 eσ_1 hP hS => ?_)
  replace h := un_at eσ_1 h
  refine lv_aload_n hx hb dX0_answer_5 rfl (lv_at hl 0 rfl) ?_
  refine lv_aload_n hx hb dX0_answer_6 rfl (lv_at hl 1 rfl) ?_
  refine lv_iload_n hx hb dX0_answer_7 rfl (lv_at hl 2 rfl) ?_
  refine lv_aload_n hx hb dX0_answer_8 rfl (lv_at hl 1 rfl) ?_
  refine r_getr C cf_8 hP (sv_0 hv1) (kv_0 hv1) 8 (by decide) rfl tw_1114 dX0_answer_9 ?_
  refine lv_iload_n hx hb dX0_answer_12 rfl (lv_at hl 2 rfl) ?_
  obtain ⟨g_2, h⟩ := gd_inv h
  refine r_iald C hP (sv_4 hv1) (kv_4 hv1) rfl g_2 dX0_answer_13 ?_
  refine lv_iload_n hx hb dX0_answer_14 rfl (lv_at hl 3 rfl) ?_
  obtain ⟨q_3, hq_3, h⟩ := bd_inv h
  refine end_i (run_s (As := [.int (σ_1 (v1 + 4) x2.toNatClampNeg), .int x3]) (rest := [.int x2, .ref (adG g v1), .ref (adG g 26)]) C ca_X0_bodyFor (ctX0_bodyFor (σ_1 (v1 + 4) x2.toNatClampNeg) x3 hq_3) tw_1115 ⟨Nat.le_of_ble_eq_true rfl, Nat.le_of_ble_eq_true rfl⟩ rfl hl.1 (Nat.le_of_ble_eq_true rfl) ⟨Nat.le_refl _, Nat.le_refl _⟩ hP hS dX0_answer_15) hS (fun H locs hP hS => ?_)
  refine lv_iconst (v := 0) hx hb dX0_answer_18 (by decide) ?_
  obtain ⟨q_4, hq_4, h⟩ := bd_inv h
  refine end_i (run_v (As := [.ref (adG g v1), .int x2, .int q_3, .int (0 : Int32)]) (rest := []) C ca_X0_give (ctX0_giveR v1 hv1 x2 q_3 (0 : Int32) hq_4) cf_0 sx_26 kx_26 tw_1120 ⟨Nat.le_of_ble_eq_true rfl, Nat.le_of_ble_eq_true rfl⟩ rfl hl.1 (Nat.le_of_ble_eq_true rfl) ⟨Nat.le_refl _, Nat.le_refl _⟩ hP hS dX0_answer_19) hS (fun H locs hP hS => ?_)
  exact r_reti C hP hS (rt_ow1 h) (rt_ow2 h) dX0_answer_22

set_option maxRecDepth 100000 in
set_option maxHeartbeats 4000000 in
theorem wfX8_flow_j75 {l : Launch} {g : Gw} {p : Program} {e : Env} {s : State} {m : MethodId} {args : Array Value} {below : List Frame} {meth : Method} {c : Code} (C : Cx wkX g p s m args meth c cX8_flow 9 RX8 none) (v0 : Nat) (hv0 : isV v0) (a1 : Nat) (hv1 : isA a1) {Rz : Sto} {k_21 : Sto → Int32 → Int32 → Option Sto} : ∀ (σ : Sto) (x2 : Int32) (x4 : Int32) (x5 : Int32) (y0 : Int32) (H : Heap) (locs : List Loc) (ls : Array Slot), fX8_flow_j75 k_21 v0 a1 σ x2 x4 x5 y0 = some Rz → wS wkX g σ H → va_S (AS wkX g) s.heap H locs → lv_has ls 9 [(0, .ref (adG g v0)), (1, .ref (adG g a1)), (2, .int x2), (4, .int x4), (5, .int x5)] → (∀ (σ : Sto) (x2 : Int32) (x4 : Int32) (H : Heap) (locs : List Loc) (ls : Array Slot), k_21 σ x2 x4 = some Rz → wS wkX g σ H → va_S (AS wkX g) s.heap H locs → lv_has ls 9 [(0, .ref (adG g v0)), (1, .ref (adG g a1)), (2, .int x2), (4, .int x4)] → W p l e (rmS 2) s m args below meth c H locs 0 0 (MQ below (QvS wkX g Rz) args s 0 0 (AS wkX g)) (F0 m 21 ls [])) → W p l e (rmS 2) s m args below meth c H locs 0 0 (MQ below (QvS wkX g Rz) args s 0 0 (AS wkX g)) (F0 m 75 ls [.int y0]) := by
  intro σ x2 x4 x5 y0 H locs ls h hP hS hl hk_21
  obtain ⟨hx, hb, hml, hown, hts, hr, hlk, hK, hZ⟩ := id C
  unfold fX8_flow_j75 at h
  refine lv_istore (lv' := [(6, .int y0), (0, .ref (adG g v0)), (1, .ref (adG g a1)), (2, .int x2), (4, .int x4), (5, .int x5)]) hx hb dX8_flow_75 hl (by decide) rfl (fun ls hl => ?_)
  refine lv_aload_n hx hb dX8_flow_77 rfl (lv_at hl 1 rfl) ?_
  refine r_getr C cf_8 hP (sv_0 hv0) (kv_0 hv0) 5 (by decide) rfl tw_73 dX8_flow_78 ?_
  refine lv_iload hx hb dX8_flow_81 (lv_at hl 4 rfl) ?_
  obtain ⟨g_1, h⟩ := gd_inv h
  refine r_iald C hP (sv_1 hv0) (kv_1 hv0) rfl g_1 dX8_flow_83 ?_
  refine lv_aload_n hx hb dX8_flow_84 rfl (lv_at hl 2 rfl) ?_
  refine lv_iload_n hx hb dX8_flow_85 rfl (lv_at hl 3 rfl) ?_
  refine lv_iload hx hb dX8_flow_86 (lv_at hl 4 rfl) ?_
  refine lv_iadd hx hb dX8_flow_88 ?_
  obtain ⟨g_2, h⟩ := gd_inv h
  refine r_iald C hP hv1.1 hv1.2 rfl g_2 dX8_flow_89 ?_
  refine lv_iadd hx hb dX8_flow_90 ?_
  refine lv_aload_n hx hb dX8_flow_91 rfl (lv_at hl 1 rfl) ?_
  refine r_getr C cf_8 hP (sv_0 hv0) (kv_0 hv0) 7 (by decide) rfl tw_75 dX8_flow_92 ?_
  refine lv_iload hx hb dX8_flow_95 (lv_at hl 4 rfl) ?_
  refine r_iald C hP (sv_3 hv0) (kv_3 hv0) rfl g_1 dX8_flow_97 ?_
  refine lv_isub hx hb dX8_flow_98 ?_
  refine lv_iload hx hb dX8_flow_99 (lv_at hl 0 rfl) ?_
  refine lv_isub hx hb dX8_flow_101 ?_
  refine lv_topi (fun x_3 ex_3 => ?_)
  replace h := un_at ex_3 h
  refine lv_istore (lv' := [(7, .int x_3), (6, .int y0), (0, .ref (adG g v0)), (1, .ref (adG g a1)), (2, .int x2), (4, .int x4), (5, .int x5)]) hx hb dX8_flow_102 hl (by decide) rfl (fun ls hl => ?_)
  refine lv_iload hx hb dX8_flow_104 (lv_at hl 0 rfl) ?_
  refine lv_iconst (v := 2) hx hb dX8_flow_106 (by decide) ?_
  refine lv_icmp_lt (tgt := 154) hx hb dX8_flow_107 (by decide) (fun c_ => ?_) (fun c_ => ?_)
  · replace h := if_t c_ h
    obtain ⟨x_4, ex_4⟩ : ∃ y : Int32, y = x4 + (1 : Int32) := ⟨_, rfl⟩
    replace h := un_at ex_4 h
    refine lv_iinc (v := x_4) (lv' := [(4, .int x_4), (7, .int x_3), (6, .int y0), (0, .ref (adG g v0)), (1, .ref (adG g a1)), (2, .int x2), (5, .int x5)]) hx hb dX8_flow_154 hl (k := 5) rfl (by rw [ex_4]; rfl) (by decide) rfl (fun ls hl => ?_)
    refine lv_goto (tgt := 21) hx hb dX8_flow_157 (by decide) ?_
    exact hk_21 σ x2 x_4 H locs ls h hP hS (lv_sub hl [3, 4, 5, 0] rfl)
  · replace h := if_f c_ h
    refine lv_iload hx hb dX8_flow_110 (lv_at hl 0 rfl) ?_
    refine lv_iconst (v := 2) hx hb dX8_flow_112 (by decide) ?_
    refine lv_idiv hx hb dX8_flow_113 (by decide) ?_
    refine lv_aload_n hx hb dX8_flow_114 rfl (lv_at hl 3 rfl) ?_
    refine lv_iload_n hx hb dX8_flow_115 rfl (lv_at hl 4 rfl) ?_
    refine lv_iload hx hb dX8_flow_116 (lv_at hl 5 rfl) ?_
    refine lv_iadd hx hb dX8_flow_118 ?_
    refine r_iald C hP hv1.1 hv1.2 rfl g_2 dX8_flow_119 ?_
    refine r_min C hl.1 tw_459 tw_460 tw_105 tw_461 ⟨Nat.le_of_ble_eq_true rfl, Nat.le_of_ble_eq_true rfl⟩ (Nat.le_refl _) (Nat.le_refl _) dX8_flow_120 ?_
    refine lv_topi (fun x_5 ex_5 => ?_)
    replace h := un_at ex_5 h
    refine lv_istore (lv' := [(8, .int x_5), (7, .int x_3), (6, .int y0), (0, .ref (adG g v0)), (1, .ref (adG g a1)), (2, .int x2), (4, .int x4), (5, .int x5)]) hx hb dX8_flow_123 hl (by decide) rfl (fun ls hl => ?_)
    refine lv_aload_n hx hb dX8_flow_125 rfl (lv_at hl 4 rfl) ?_
    refine lv_iload_n hx hb dX8_flow_126 rfl (lv_at hl 5 rfl) ?_
    refine lv_iload hx hb dX8_flow_127 (lv_at hl 6 rfl) ?_
    refine lv_iadd hx hb dX8_flow_129 ?_
    refine lv_dup2_11 hx hb dX8_flow_130 rfl rfl ?_
    refine r_iald C hP hv1.1 hv1.2 rfl g_2 dX8_flow_131 ?_
    refine lv_iload hx hb dX8_flow_132 (lv_at hl 0 rfl) ?_
    refine lv_isub hx hb dX8_flow_134 ?_
    refine r_iast C hP hS hv1.1 hv1.2 rfl g_2 dX8_flow_135 (fun H locs σ_6 eσ_6 hP hS => ?_)
    replace h := un_at eσ_6 h
    refine lv_iload hx hb dX8_flow_136 (lv_at hl 7 rfl) ?_
    refine lv_if_ne (tgt := 154) hx hb dX8_flow_138 (by decide) (fun c_ => ?_) (fun c_ => ?_)
    · replace h := if_f c_ h
      obtain ⟨x_7, ex_7⟩ : ∃ y : Int32, y = x4 + (1 : Int32) := ⟨_, rfl⟩
      replace h := un_at ex_7 h
      refine lv_iinc (v := x_7) (lv' := [(4, .int x_7), (8, .int x_5), (7, .int x_3), (6, .int y0), (0, .ref (adG g v0)), (1, .ref (adG g a1)), (2, .int x2), (5, .int x5)]) hx hb dX8_flow_154 hl (k := 6) rfl (by rw [ex_7]; rfl) (by decide) rfl (fun ls hl => ?_)
      refine lv_goto (tgt := 21) hx hb dX8_flow_157 (by decide) ?_
      exact hk_21 σ_6 x2 x_7 H locs ls h hP hS (lv_sub hl [4, 5, 6, 0] rfl)
    · replace h := if_t c_ h
      refine lv_aload_n hx hb dX8_flow_141 rfl (lv_at hl 4 rfl) ?_
      refine lv_iload_n hx hb dX8_flow_142 rfl (lv_at hl 5 rfl) ?_
      refine lv_iload hx hb dX8_flow_143 (lv_at hl 6 rfl) ?_
      refine lv_iadd hx hb dX8_flow_145 ?_
      refine lv_iconst (v := 1) hx hb dX8_flow_146 (by decide) ?_
      refine lv_iadd hx hb dX8_flow_147 ?_
      refine lv_dup2_11 hx hb dX8_flow_148 rfl rfl ?_
      obtain ⟨g_8, h⟩ := gd_inv h
      refine r_iald C hP hv1.1 hv1.2 rfl g_8 dX8_flow_149 ?_
      refine lv_iload hx hb dX8_flow_150 (lv_at hl 0 rfl) ?_
      refine lv_iadd hx hb dX8_flow_152 ?_
      refine r_iast C hP hS hv1.1 hv1.2 rfl g_8 dX8_flow_153 (fun H locs σ_9 eσ_9 hP hS => ?_)
      replace h := un_at eσ_9 h
      obtain ⟨x_10, ex_10⟩ : ∃ y : Int32, y = x4 + (1 : Int32) := ⟨_, rfl⟩
      replace h := un_at ex_10 h
      refine lv_iinc (v := x_10) (lv' := [(4, .int x_10), (8, .int x_5), (7, .int x_3), (6, .int y0), (0, .ref (adG g v0)), (1, .ref (adG g a1)), (2, .int x2), (5, .int x5)]) hx hb dX8_flow_154 hl (k := 6) rfl (by rw [ex_10]; rfl) (by decide) rfl (fun ls hl => ?_)
      refine lv_goto (tgt := 21) hx hb dX8_flow_157 (by decide) ?_
      exact hk_21 σ_9 x2 x_10 H locs ls h hP hS (lv_sub hl [4, 5, 6, 0] rfl)

set_option maxRecDepth 100000 in
set_option maxHeartbeats 4000000 in
theorem wfX8_flow_j46 {l : Launch} {g : Gw} {p : Program} {e : Env} {s : State} {m : MethodId} {args : Array Value} {below : List Frame} {meth : Method} {c : Code} (C : Cx wkX g p s m args meth c cX8_flow 9 RX8 none) (v0 : Nat) (hv0 : isV v0) (a1 : Nat) (hv1 : isA a1) {Rz : Sto} {k_21 : Sto → Int32 → Int32 → Option Sto} : ∀ (σ : Sto) (x2 : Int32) (x4 : Int32) (y0 : Int32) (H : Heap) (locs : List Loc) (ls : Array Slot), fX8_flow_j46 k_21 v0 a1 σ x2 x4 y0 = some Rz → wS wkX g σ H → va_S (AS wkX g) s.heap H locs → lv_has ls 9 [(0, .ref (adG g v0)), (1, .ref (adG g a1)), (2, .int x2), (4, .int x4)] → (∀ (σ : Sto) (x2 : Int32) (x4 : Int32) (H : Heap) (locs : List Loc) (ls : Array Slot), k_21 σ x2 x4 = some Rz → wS wkX g σ H → va_S (AS wkX g) s.heap H locs → lv_has ls 9 [(0, .ref (adG g v0)), (1, .ref (adG g a1)), (2, .int x2), (4, .int x4)] → W p l e (rmS 2) s m args below meth c H locs 0 0 (MQ below (QvS wkX g Rz) args s 0 0 (AS wkX g)) (F0 m 21 ls [])) → W p l e (rmS 2) s m args below meth c H locs 0 0 (MQ below (QvS wkX g Rz) args s 0 0 (AS wkX g)) (F0 m 46 ls [.int y0]) := by
  intro σ x2 x4 y0 H locs ls h hP hS hl hk_21
  obtain ⟨hx, hb, hml, hown, hts, hr, hlk, hK, hZ⟩ := id C
  unfold fX8_flow_j46 at h
  refine lv_istore (lv' := [(5, .int y0), (0, .ref (adG g v0)), (1, .ref (adG g a1)), (2, .int x2), (4, .int x4)]) hx hb dX8_flow_46 hl (by decide) rfl (fun ls hl => ?_)
  refine lv_iload hx hb dX8_flow_48 (lv_at hl 0 rfl) ?_
  refine lv_if_eq (tgt := 57) hx hb dX8_flow_50 (by decide) (fun c_ => ?_) (fun c_ => ?_)
  · replace h := if_t c_ h
    refine lv_aload_n hx hb dX8_flow_57 rfl (lv_at hl 1 rfl) ?_
    refine r_getr C cf_8 hP (sv_0 hv0) (kv_0 hv0) 5 (by decide) rfl tw_73 dX8_flow_58 ?_
    refine lv_iload hx hb dX8_flow_61 (lv_at hl 4 rfl) ?_
    refine lv_iconst (v := 1) hx hb dX8_flow_63 (by decide) ?_
    refine lv_iadd hx hb dX8_flow_64 ?_
    obtain ⟨g_1, h⟩ := gd_inv h
    refine r_iald C hP (sv_1 hv0) (kv_1 hv0) rfl g_1 dX8_flow_65 ?_
    refine lv_aload_n hx hb dX8_flow_66 rfl (lv_at hl 2 rfl) ?_
    refine lv_iload_n hx hb dX8_flow_67 rfl (lv_at hl 3 rfl) ?_
    refine lv_iload hx hb dX8_flow_68 (lv_at hl 4 rfl) ?_
    refine lv_iadd hx hb dX8_flow_70 ?_
    refine lv_iconst (v := 1) hx hb dX8_flow_71 (by decide) ?_
    refine lv_iadd hx hb dX8_flow_72 ?_
    obtain ⟨g_2, h⟩ := gd_inv h
    refine r_iald C hP hv1.1 hv1.2 rfl g_2 dX8_flow_73 ?_
    refine lv_iadd hx hb dX8_flow_74 ?_
    refine wfX8_flow_j75 C v0 hv0 a1 hv1 σ x2 x4 y0 ((σ (v0 + 1) (x4 + (1 : Int32)).toNatClampNeg) + (σ a1 ((x2 + x4) + (1 : Int32)).toNatClampNeg)) H locs ls h hP hS (lv_sub hl [1, 2, 3, 4, 0] rfl) (fun σ_3 z_4 z_5 H locs ls h hP hS hl => ?_)
    exact hk_21 σ_3 z_4 z_5 H locs ls h hP hS (lv_sub hl [0, 1, 2, 3] rfl)
  · replace h := if_f c_ h
    refine lv_iconst (v := 0) hx hb dX8_flow_53 (by decide) ?_
    refine lv_goto (tgt := 75) hx hb dX8_flow_54 (by decide) ?_
    refine wfX8_flow_j75 C v0 hv0 a1 hv1 σ x2 x4 y0 (0 : Int32) H locs ls h hP hS (lv_sub hl [1, 2, 3, 4, 0] rfl) (fun σ_6 z_7 z_8 H locs ls h hP hS hl => ?_)
    exact hk_21 σ_6 z_7 z_8 H locs ls h hP hS (lv_sub hl [0, 1, 2, 3] rfl)

set_option maxRecDepth 100000 in
set_option maxHeartbeats 4000000 in
theorem wfX8_flow_L21 {l : Launch} {g : Gw} {p : Program} {e : Env} {s : State} {m : MethodId} {args : Array Value} {below : List Frame} {meth : Method} {c : Code} (C : Cx wkX g p s m args meth c cX8_flow 9 RX8 none) (v0 : Nat) (hv0 : isV v0) (a1 : Nat) (hv1 : isA a1) {Rz : Sto} : ∀ (n : Nat) (σ : Sto) (x2 : Int32) (x4 : Int32) (H : Heap) (locs : List Loc) (ls : Array Slot), fX8_flow_L21 v0 a1 n σ x2 x4 = some Rz → wS wkX g σ H → va_S (AS wkX g) s.heap H locs → lv_has ls 9 [(0, .ref (adG g v0)), (1, .ref (adG g a1)), (2, .int x2), (4, .int x4)] → W p l e (rmS 2) s m args below meth c H locs 0 0 (MQ below (QvS wkX g Rz) args s 0 0 (AS wkX g)) (F0 m 21 ls []) := by
  intro n
  induction n with
  | zero =>
    intro σ x2 x4 H locs ls h
    cases h
  | succ n ih =>
    intro σ x2 x4 H locs ls h hP hS hl
    obtain ⟨hx, hb, hml, hown, hts, hr, hlk, hK, hZ⟩ := id C
    rw [fX8_flow_L21] at h
    refine lv_iload hx hb dX8_flow_21 (lv_at hl 3 rfl) ?_
    refine lv_aload_n hx hb dX8_flow_23 rfl (lv_at hl 0 rfl) ?_
    refine r_geti C cf_8 hP (sv_0 hv0) (kv_0 hv0) 0 (by decide) rfl tw_68 dX8_flow_24 ?_
    refine lv_icmp_ge (tgt := 160) hx hb dX8_flow_27 (by decide) (fun c_ => ?_) (fun c_ => ?_)
    · replace h := if_t c_ h
      exact r_retv C hP hS (rt_o h) dX8_flow_160
    · replace h := if_f c_ h
      refine lv_iload hx hb dX8_flow_30 (lv_at hl 3 rfl) ?_
      refine lv_iconst (v := 1) hx hb dX8_flow_32 (by decide) ?_
      refine lv_iadd hx hb dX8_flow_33 ?_
      refine lv_aload_n hx hb dX8_flow_34 rfl (lv_at hl 0 rfl) ?_
      refine r_geti C cf_8 hP (sv_0 hv0) (kv_0 hv0) 0 (by decide) rfl tw_68 dX8_flow_35 ?_
      refine lv_icmp_ne (tgt := 45) hx hb dX8_flow_38 (by decide) (fun c_ => ?_) (fun c_ => ?_)
      · replace h := if_f c_ h
        refine lv_iconst (v := 0) hx hb dX8_flow_45 (by decide) ?_
        refine wfX8_flow_j46 C v0 hv0 a1 hv1 σ x2 x4 (0 : Int32) H locs ls h hP hS (lv_sub hl [0, 1, 2, 3] rfl) (fun σ_1 z_2 z_3 H locs ls h hP hS hl => ?_)
        exact ih σ_1 z_2 z_3 H locs ls h hP hS (lv_sub hl [0, 1, 2, 3] rfl)
      · replace h := if_t c_ h
        refine lv_iconst (v := 1) hx hb dX8_flow_41 (by decide) ?_
        refine lv_goto (tgt := 46) hx hb dX8_flow_42 (by decide) ?_
        refine wfX8_flow_j46 C v0 hv0 a1 hv1 σ x2 x4 (1 : Int32) H locs ls h hP hS (lv_sub hl [0, 1, 2, 3] rfl) (fun σ_4 z_5 z_6 H locs ls h hP hS hl => ?_)
        exact ih σ_4 z_5 z_6 H locs ls h hP hS (lv_sub hl [0, 1, 2, 3] rfl)

set_option maxRecDepth 100000 in
set_option maxHeartbeats 4000000 in
theorem wfX8_flow_j18 {l : Launch} {g : Gw} {p : Program} {e : Env} {s : State} {m : MethodId} {args : Array Value} {below : List Frame} {meth : Method} {c : Code} (C : Cx wkX g p s m args meth c cX8_flow 9 RX8 none) (v0 : Nat) (hv0 : isV v0) (a1 : Nat) (hv1 : isA a1) {Rz : Sto} : ∀ (σ : Sto) (x2 : Int32) (H : Heap) (locs : List Loc) (ls : Array Slot), fX8_flow_j18 v0 a1 σ x2 = some Rz → wS wkX g σ H → va_S (AS wkX g) s.heap H locs → lv_has ls 9 [(0, .ref (adG g v0)), (1, .ref (adG g a1)), (2, .int x2)] → W p l e (rmS 2) s m args below meth c H locs 0 0 (MQ below (QvS wkX g Rz) args s 0 0 (AS wkX g)) (F0 m 18 ls []) := by
  intro σ x2 H locs ls h hP hS hl
  obtain ⟨hx, hb, hml, hown, hts, hr, hlk, hK, hZ⟩ := id C
  unfold fX8_flow_j18 at h
  refine lv_iconst (v := 0) hx hb dX8_flow_18 (by decide) ?_
  refine lv_istore (lv' := [(4, .int (0 : Int32)), (0, .ref (adG g v0)), (1, .ref (adG g a1)), (2, .int x2)]) hx hb dX8_flow_19 hl (by decide) rfl (fun ls hl => ?_)
  exact wfX8_flow_L21 C v0 hv0 a1 hv1 fu σ x2 (0 : Int32) H locs ls h hP hS (lv_sub hl [1, 2, 3, 0] rfl)

set_option maxRecDepth 100000 in
set_option maxHeartbeats 4000000 in
theorem ctX8_flow {l : Launch} {g : Gw} {σ : Sto} (v0 : Nat) (hv0 : isV v0) (a1 : Nat) (hv1 : isA a1) (x2 : Int32) (x3 : Int32) {Rz : Sto} (h : fX8_flow σ v0 a1 x2 x3 = some Rz) : MtG l yX8_flow cX8_flow 9 none 2 wkX g [.ref (adG g v0), .ref (adG g a1), .int x2, .int x3] σ (QvS wkX g Rz) := by
  refine mt_of (by decide) (Nat.le_of_ble_eq_true rfl) (fun p e s m below meth c ls H locs C hP hS hl => ?_)
  have C : Cx wkX g p s m _ meth c cX8_flow 9 RX8 none := C
  have hl : lv_has ls 9 [(0, .ref (adG g v0)), (1, .ref (adG g a1)), (2, .int x2), (3, .int x3)] := hl
  obtain ⟨hx, hb, hml, hown, hts, hr, hlk, hK, hZ⟩ := id C
  unfold fX8_flow at h
  refine lv_iload_n hx hb dX8_flow_0 rfl (lv_at hl 3 rfl) ?_
  refine lv_aload_n hx hb dX8_flow_1 rfl (lv_at hl 0 rfl) ?_
  refine r_geti C cf_8 hP (sv_0 hv0) (kv_0 hv0) 3 (by decide) rfl tw_71 dX8_flow_2 ?_
  refine lv_icmp_ge (tgt := 18) hx hb dX8_flow_5 (by decide) (fun c_ => ?_) (fun c_ => ?_)
  · replace h := if_t c_ h
    exact wfX8_flow_j18 C v0 hv0 a1 hv1 σ x2 H locs ls h hP hS (lv_sub hl [0, 1, 2] rfl)
  · replace h := if_f c_ h
    refine lv_aload_n hx hb dX8_flow_8 rfl (lv_at hl 1 rfl) ?_
    refine lv_iload_n hx hb dX8_flow_9 rfl (lv_at hl 2 rfl) ?_
    refine lv_dup2_11 hx hb dX8_flow_10 rfl rfl ?_
    obtain ⟨g_1, h⟩ := gd_inv h
    refine r_iald C hP hv1.1 hv1.2 rfl g_1 dX8_flow_11 ?_
    refine lv_aload_n hx hb dX8_flow_12 rfl (lv_at hl 0 rfl) ?_
    refine r_geti C cf_8 hP (sv_0 hv0) (kv_0 hv0) 2 (by decide) rfl tw_70 dX8_flow_13 ?_
    refine lv_iadd hx hb dX8_flow_16 ?_
    refine r_iast C hP hS hv1.1 hv1.2 rfl g_1 dX8_flow_17 (fun H locs σ_2 eσ_2 hP hS => ?_)
    replace h := un_at eσ_2 h
    exact wfX8_flow_j18 C v0 hv0 a1 hv1 σ_2 x2 H locs ls h hP hS (lv_sub hl [0, 1, 2] rfl)

set_option maxRecDepth 100000 in
set_option maxHeartbeats 4000000 in
theorem wfX2_tell_L17 {l : Launch} {g : Gw} {p : Program} {e : Env} {s : State} {m : MethodId} {args : Array Value} {below : List Frame} {meth : Method} {c : Code} (C : Cx wkX g p s m args meth c cX2_tell 5 RX2 none) (f0 : Nat) (hv0 : isF f0) (v1 : Nat) (hv1 : isV v1) {Rz : Sto} : ∀ (n : Nat) (σ : Sto) (x2 : Int32) (x3 : Int32) (H : Heap) (locs : List Loc) (ls : Array Slot), fX2_tell_L17 f0 v1 n σ x2 x3 = some Rz → wS wkX g σ H → va_S (AS wkX g) s.heap H locs → lv_has ls 5 [(0, .ref (adG g f0)), (1, .ref (adG g v1)), (2, .int x2), (3, .int x3)] → W p l e (rmS 3) s m args below meth c H locs 0 0 (MQ below (QvS wkX g Rz) args s 0 0 (AS wkX g)) (F0 m 17 ls []) := by
  intro n
  induction n with
  | zero =>
    intro σ x2 x3 H locs ls h
    cases h
  | succ n ih =>
    intro σ x2 x3 H locs ls h hP hS hl
    obtain ⟨hx, hb, hml, hown, hts, hr, hlk, hK, hZ⟩ := id C
    rw [fX2_tell_L17] at h
    refine lv_iload_n hx hb dX2_tell_17 rfl (lv_at hl 3 rfl) ?_
    refine lv_iload_n hx hb dX2_tell_18 rfl (lv_at hl 2 rfl) ?_
    refine lv_icmp_ge (tgt := 81) hx hb dX2_tell_19 (by decide) (fun c_ => ?_) (fun c_ => ?_)
    · replace h := if_t c_ h
      exact r_retv C hP hS (rt_o h) dX2_tell_81
    · replace h := if_f c_ h
      refine lv_iload_n hx hb dX2_tell_22 rfl (lv_at hl 3 rfl) ?_
      refine lv_aload_n hx hb dX2_tell_23 rfl (lv_at hl 0 rfl) ?_
      refine r_geti C cf_2 hP (sf_0 hv0) (kf_0 hv0) 0 (by decide) rfl tw_107 dX2_tell_24 ?_
      refine lv_icmp_ge (tgt := 81) hx hb dX2_tell_27 (by decide) (fun c_ => ?_) (fun c_ => ?_)
      · replace h := if_t c_ h
        exact r_retv C hP hS (rt_o h) dX2_tell_81
      · replace h := if_f c_ h
        refine lv_iload_n hx hb dX2_tell_30 rfl (lv_at hl 3 rfl) ?_
        refine lv_bipush (v := 10) hx hb dX2_tell_31 (by decide) ?_
        refine lv_imul hx hb dX2_tell_33 ?_
        refine lv_topi (fun x_1 ex_1 => ?_)
        replace h := un_at ex_1 h
        refine lv_istore (lv' := [(4, .int x_1), (0, .ref (adG g f0)), (1, .ref (adG g v1)), (2, .int x2), (3, .int x3)]) hx hb dX2_tell_34 hl (by decide) rfl (fun ls hl => ?_)
        refine lv_aload_n hx hb dX2_tell_36 rfl (lv_at hl 1 rfl) ?_
        refine r_getr C cf_2 hP (sf_0 hv0) (kf_0 hv0) 1 (by decide) rfl tw_108 dX2_tell_37 ?_
        refine lv_iload hx hb dX2_tell_40 (lv_at hl 0 rfl) ?_
        refine lv_aload_n hx hb dX2_tell_42 rfl (lv_at hl 1 rfl) ?_
        refine r_getr C cf_2 hP (sf_0 hv0) (kf_0 hv0) 1 (by decide) rfl tw_108 dX2_tell_43 ?_
        refine lv_iload hx hb dX2_tell_46 (lv_at hl 0 rfl) ?_
        refine lv_bipush (v := 10) hx hb dX2_tell_48 (by decide) ?_
        refine lv_iadd hx hb dX2_tell_50 ?_
        refine lv_bipush (v := 10) hx hb dX2_tell_51 (by decide) ?_
        obtain ⟨g_2, h⟩ := gd_inv h
        refine r_copy (nq := 10) C hl.1 tw_631 tw_246 tw_247 tw_248 hP hS (sf_1 hv0) (kf_1 hv0) (sf_1 hv0) (kf_1 hv0) g_2 rfl rfl (by decide) ⟨Nat.le_of_ble_eq_true rfl, Nat.le_of_ble_eq_true rfl⟩ dX2_tell_53 (fun H locs σ_3 eσ_3 hP hS => ?_)
        replace h := un_at eσ_3 h
        refine lv_aload_n hx hb dX2_tell_56 rfl (lv_at hl 2 rfl) ?_
        refine lv_aload_n hx hb dX2_tell_57 rfl (lv_at hl 1 rfl) ?_
        refine r_getr C cf_2 hP (sf_0 hv0) (kf_0 hv0) 1 (by decide) rfl tw_108 dX2_tell_58 ?_
        refine lv_iload hx hb dX2_tell_61 (lv_at hl 0 rfl) ?_
        refine lv_bipush (v := 10) hx hb dX2_tell_63 (by decide) ?_
        refine lv_iadd hx hb dX2_tell_65 ?_
        refine lv_aload_n hx hb dX2_tell_66 rfl (lv_at hl 2 rfl) ?_
        refine r_geti C cf_8 hP (sv_0 hv1) (kv_0 hv1) 4 (by decide) rfl tw_632 dX2_tell_67 ?_
        refine lv_iload_n hx hb dX2_tell_70 rfl (lv_at hl 4 rfl) ?_
        refine lv_iadd hx hb dX2_tell_71 ?_
        obtain ⟨q_4, hq_4, h⟩ := bd_inv h
        refine end_v (run_v (As := [.ref (adG g (f0 + 1)), .int (x_1 + (10 : Int32)), .int ((σ_3 v1 4) + x3)]) (rest := []) C ca_X8_flow (ctX8_flow v1 hv1 (f0 + 1) (isA_of (sf_1 hv0) (kf_1 hv0)) (x_1 + (10 : Int32)) ((σ_3 v1 4) + x3) hq_4) cf_8 (sv_0 hv1) (kv_0 hv1) tw_633 ⟨Nat.le_of_ble_eq_true rfl, Nat.le_of_ble_eq_true rfl⟩ rfl hl.1 (Nat.le_of_ble_eq_true rfl) ⟨Nat.le_refl _, Nat.le_refl _⟩ hP hS dX2_tell_72) hS (fun H locs hP hS => ?_)
        obtain ⟨x_5, ex_5⟩ : ∃ y : Int32, y = x3 + (1 : Int32) := ⟨_, rfl⟩
        replace h := un_at ex_5 h
        refine lv_iinc (v := x_5) (lv' := [(3, .int x_5), (4, .int x_1), (0, .ref (adG g f0)), (1, .ref (adG g v1)), (2, .int x2)]) hx hb dX2_tell_75 hl (k := 4) rfl (by rw [ex_5]; rfl) (by decide) rfl (fun ls hl => ?_)
        refine lv_goto (tgt := 17) hx hb dX2_tell_78 (by decide) ?_
        exact ih q_4 x2 x_5 H locs ls h hP hS (lv_sub hl [2, 3, 4, 0] rfl)

set_option maxRecDepth 100000 in
set_option maxHeartbeats 4000000 in
theorem ctX2_tell {l : Launch} {g : Gw} {σ : Sto} (f0 : Nat) (hv0 : isF f0) (v1 : Nat) (hv1 : isV v1) (x2 : Int32) {Rz : Sto} (h : fX2_tell σ f0 v1 x2 = some Rz) : MtG l yX2_tell cX2_tell 5 none 3 wkX g [.ref (adG g f0), .ref (adG g v1), .int x2] σ (QvS wkX g Rz) := by
  refine mt_of (by decide) (Nat.le_of_ble_eq_true rfl) (fun p e s m below meth c ls H locs C hP hS hl => ?_)
  have C : Cx wkX g p s m _ meth c cX2_tell 5 RX2 none := C
  have hl : lv_has ls 5 [(0, .ref (adG g f0)), (1, .ref (adG g v1)), (2, .int x2)] := hl
  obtain ⟨hx, hb, hml, hown, hts, hr, hlk, hK, hZ⟩ := id C
  unfold fX2_tell at h
  refine lv_aload_n hx hb dX2_tell_0 rfl (lv_at hl 1 rfl) ?_
  refine r_getr C cf_8 hP (sv_0 hv1) (kv_0 hv1) 6 (by decide) rfl tw_630 dX2_tell_1 ?_
  refine lv_iconst (v := 0) hx hb dX2_tell_4 (by decide) ?_
  refine lv_aload_n hx hb dX2_tell_5 rfl (lv_at hl 0 rfl) ?_
  refine r_getr C cf_2 hP (sf_0 hv0) (kf_0 hv0) 1 (by decide) rfl tw_108 dX2_tell_6 ?_
  refine lv_iconst (v := 0) hx hb dX2_tell_9 (by decide) ?_
  refine lv_bipush (v := 10) hx hb dX2_tell_10 (by decide) ?_
  obtain ⟨g_1, h⟩ := gd_inv h
  refine r_copy (sq := 0) (dq := 0) (nq := 10) C hl.1 tw_631 tw_246 tw_247 tw_248 hP hS (sv_2 hv1) (kv_2 hv1) (sf_1 hv0) (kf_1 hv0) g_1 (by decide) (by decide) (by decide) ⟨Nat.le_of_ble_eq_true rfl, Nat.le_of_ble_eq_true rfl⟩ dX2_tell_12 (fun H locs σ_2 eσ_2 hP hS => ?_)
  replace h := un_at eσ_2 h
  refine lv_iconst (v := 0) hx hb dX2_tell_15 (by decide) ?_
  refine lv_istore_n (lv' := [(3, .int (0 : Int32)), (0, .ref (adG g f0)), (1, .ref (adG g v1)), (2, .int x2)]) hx hb dX2_tell_16 rfl hl (by decide) rfl (fun ls hl => ?_)
  exact wfX2_tell_L17 C f0 hv0 v1 hv1 fu σ_2 x2 (0 : Int32) H locs ls h hP hS (lv_sub hl [1, 2, 3, 0] rfl)

set_option maxRecDepth 100000 in
set_option maxHeartbeats 4000000 in
theorem ctX8_goneOn {l : Launch} {g : Gw} {σ : Sto} (v0 : Nat) (hv0 : isV v0) (x1 : Int32) (x2 : Int32) {Rz : Int32} (h : fX8_goneOn σ v0 x1 x2 = Rz) : MtG l yX8_goneOn cX8_goneOn 3 (some .int) 0 wkX g [.ref (adG g v0), .int x1, .int x2] σ (QiS wkX g σ Rz) := by
  refine mt_of (by decide) (Nat.le_of_ble_eq_true rfl) (fun p e s m below meth c ls H locs C hP hS hl => ?_)
  have C : Cx wkX g p s m _ meth c cX8_goneOn 3 RX8 (some .int) := C
  have hl : lv_has ls 3 [(0, .ref (adG g v0)), (1, .int x1), (2, .int x2)] := hl
  obtain ⟨hx, hb, hml, hown, hts, hr, hlk, hK, hZ⟩ := id C
  unfold fX8_goneOn at h
  refine lv_iload_n hx hb dX8_goneOn_0 rfl (lv_at hl 1 rfl) ?_
  refine lv_iload_n hx hb dX8_goneOn_1 rfl (lv_at hl 2 rfl) ?_
  refine lv_iadd hx hb dX8_goneOn_2 ?_
  refine lv_aload_n hx hb dX8_goneOn_3 rfl (lv_at hl 0 rfl) ?_
  refine r_geti C cf_8 hP (sv_0 hv0) (kv_0 hv0) 0 (by decide) rfl tw_68 dX8_goneOn_4 ?_
  refine lv_icmp_ge (tgt := 16) hx hb dX8_goneOn_7 (by decide) (fun c_ => ?_) (fun c_ => ?_)
  · replace h := if_t c_ h
    refine lv_bipush (v := 20) hx hb dX8_goneOn_16 (by decide) ?_
    exact r_reti C hP hS rfl h dX8_goneOn_18
  · replace h := if_f c_ h
    refine lv_iload_n hx hb dX8_goneOn_10 rfl (lv_at hl 1 rfl) ?_
    refine lv_iload_n hx hb dX8_goneOn_11 rfl (lv_at hl 2 rfl) ?_
    refine lv_iadd hx hb dX8_goneOn_12 ?_
    refine lv_goto (tgt := 18) hx hb dX8_goneOn_13 (by decide) ?_
    exact r_reti C hP hS rfl h dX8_goneOn_18

set_option maxRecDepth 100000 in
set_option maxHeartbeats 4000000 in
theorem ctX8_carried {l : Launch} {g : Gw} {σ : Sto} (v0 : Nat) (hv0 : isV v0) (x1 : Int32) {Rz : Int32} (h : fX8_carried σ v0 x1 = Rz) : MtG l yX8_carried cX8_carried 2 (some .int) 1 wkX g [.ref (adG g v0), .int x1] σ (QiS wkX g σ Rz) := by
  refine mt_of (by decide) (Nat.le_of_ble_eq_true rfl) (fun p e s m below meth c ls H locs C hP hS hl => ?_)
  have C : Cx wkX g p s m _ meth c cX8_carried 2 RX8 (some .int) := C
  have hl : lv_has ls 2 [(0, .ref (adG g v0)), (1, .int x1)] := hl
  obtain ⟨hx, hb, hml, hown, hts, hr, hlk, hK, hZ⟩ := id C
  unfold fX8_carried at h
  refine lv_iload_n hx hb dX8_carried_0 rfl (lv_at hl 1 rfl) ?_
  refine lv_bipush (v := 20) hx hb dX8_carried_1 (by decide) ?_
  refine lv_icmp_ge (tgt := 15) hx hb dX8_carried_3 (by decide) (fun c_ => ?_) (fun c_ => ?_)
  · replace h := if_t c_ h
    refine lv_iload_n hx hb dX8_carried_15 rfl (lv_at hl 1 rfl) ?_
    exact r_reti C hP hS rfl h dX8_carried_16
  · replace h := if_f c_ h
    refine lv_aload_n hx hb dX8_carried_6 rfl (lv_at hl 0 rfl) ?_
    refine lv_iload_n hx hb dX8_carried_7 rfl (lv_at hl 1 rfl) ?_
    refine lv_iconst (v := 1) hx hb dX8_carried_8 (by decide) ?_
    refine end_i (run_v (As := [.int x1, .int (1 : Int32)]) (rest := []) C ca_X8_goneOn (ctX8_goneOn v0 hv0 x1 (1 : Int32) rfl) cf_8 (sv_0 hv0) (kv_0 hv0) tw_469 ⟨Nat.le_of_ble_eq_true rfl, Nat.le_of_ble_eq_true rfl⟩ rfl hl.1 (Nat.le_of_ble_eq_true rfl) ⟨Nat.le_refl _, Nat.le_refl _⟩ hP hS dX8_carried_9) hS (fun H locs hP hS => ?_)
    refine lv_goto (tgt := 16) hx hb dX8_carried_12 (by decide) ?_
    exact r_reti C hP hS rfl h dX8_carried_16
