set_option maxRecDepth 100000 in
set_option maxHeartbeats 4000000 in
theorem wfX8_pace_j199 {l : Launch} {g : Gw} {p : Program} {e : Env} {s : State} {m : MethodId} {args : Array Value} {below : List Frame} {meth : Method} {c : Code} {σ : Sto} (C : Cx wkX g p s m args meth c cX8_pace 9 RX8 (some .int)) (a2 : Nat) (hv2 : isA a2) {Rz : Int32} : ∀ (x8 : Int32) (H : Heap) (locs : List Loc) (ls : Array Slot), fX8_pace_j199 a2 σ x8 = some Rz → wS wkX g σ H → va_S (AS wkX g) s.heap H locs → lv_has ls 9 [(8, .int x8)] → W p l e (rmS 0) s m args below meth c H locs 0 0 (MQ below (QiS wkX g σ Rz) args s 0 0 (AS wkX g)) (F0 m 199 ls []) := by
  intro x8 H locs ls h hP hS hl
  obtain ⟨hx, hb, hml, hown, hts, hr, hlk, hK, hZ⟩ := id C
  unfold fX8_pace_j199 at h
  refine lv_iload hx hb dX8_pace_199 (lv_at hl 0 rfl) ?_
  refine lv_if_eq (tgt := 208) hx hb dX8_pace_201 (by decide) (fun c_ => ?_) (fun c_ => ?_)
  · replace h := if_t c_ h
    refine lv_iconst (v := 0) hx hb dX8_pace_208 (by decide) ?_
    exact r_reti C hP hS rfl (rt_o h) dX8_pace_209
  · replace h := if_f c_ h
    refine lv_iconst (v := 1) hx hb dX8_pace_204 (by decide) ?_
    refine lv_goto (tgt := 209) hx hb dX8_pace_205 (by decide) ?_
    exact r_reti C hP hS rfl (rt_o h) dX8_pace_209

set_option maxRecDepth 100000 in
set_option maxHeartbeats 4000000 in
theorem wfX8_pace_j125 {l : Launch} {g : Gw} {p : Program} {e : Env} {s : State} {m : MethodId} {args : Array Value} {below : List Frame} {meth : Method} {c : Code} {σ : Sto} (C : Cx wkX g p s m args meth c cX8_pace 9 RX8 (some .int)) (a2 : Nat) (hv2 : isA a2) {Rz : Int32} : ∀ (y0 : Int32) (H : Heap) (locs : List Loc) (ls : Array Slot), fX8_pace_j125 a2 σ y0 = some Rz → wS wkX g σ H → va_S (AS wkX g) s.heap H locs → lv_has ls 9 [] → W p l e (rmS 0) s m args below meth c H locs 0 0 (MQ below (QiS wkX g σ Rz) args s 0 0 (AS wkX g)) (F0 m 125 ls [.int y0]) := by
  intro y0 H locs ls h hP hS hl
  obtain ⟨hx, hb, hml, hown, hts, hr, hlk, hK, hZ⟩ := id C
  unfold fX8_pace_j125 at h
  refine lv_istore (lv' := [(8, .int y0)]) hx hb dX8_pace_125 hl (by decide) rfl (fun ls hl => ?_)
  refine lv_goto (tgt := 199) hx hb dX8_pace_127 (by decide) ?_
  exact wfX8_pace_j199 C a2 hv2 y0 H locs ls h hP hS (lv_sub hl [0] rfl)

set_option maxRecDepth 100000 in
set_option maxHeartbeats 4000000 in
theorem wfX8_pace_j124 {l : Launch} {g : Gw} {p : Program} {e : Env} {s : State} {m : MethodId} {args : Array Value} {below : List Frame} {meth : Method} {c : Code} {σ : Sto} (C : Cx wkX g p s m args meth c cX8_pace 9 RX8 (some .int)) (a2 : Nat) (hv2 : isA a2) {Rz : Int32} : ∀ (H : Heap) (locs : List Loc) (ls : Array Slot), fX8_pace_j124 a2 σ = some Rz → wS wkX g σ H → va_S (AS wkX g) s.heap H locs → lv_has ls 9 [] → W p l e (rmS 0) s m args below meth c H locs 0 0 (MQ below (QiS wkX g σ Rz) args s 0 0 (AS wkX g)) (F0 m 124 ls []) := by
  intro  H locs ls h hP hS hl
  obtain ⟨hx, hb, hml, hown, hts, hr, hlk, hK, hZ⟩ := id C
  unfold fX8_pace_j124 at h
  refine lv_iconst (v := 0) hx hb dX8_pace_124 (by decide) ?_
  exact wfX8_pace_j125 C a2 hv2 (0 : Int32) H locs ls h hP hS (lv_sub hl [] rfl)

set_option maxRecDepth 100000 in
set_option maxHeartbeats 4000000 in
theorem wfX8_pace_j120 {l : Launch} {g : Gw} {p : Program} {e : Env} {s : State} {m : MethodId} {args : Array Value} {below : List Frame} {meth : Method} {c : Code} {σ : Sto} (C : Cx wkX g p s m args meth c cX8_pace 9 RX8 (some .int)) (a2 : Nat) (hv2 : isA a2) {Rz : Int32} : ∀ (H : Heap) (locs : List Loc) (ls : Array Slot), fX8_pace_j120 a2 σ = some Rz → wS wkX g σ H → va_S (AS wkX g) s.heap H locs → lv_has ls 9 [] → W p l e (rmS 0) s m args below meth c H locs 0 0 (MQ below (QiS wkX g σ Rz) args s 0 0 (AS wkX g)) (F0 m 120 ls []) := by
  intro  H locs ls h hP hS hl
  obtain ⟨hx, hb, hml, hown, hts, hr, hlk, hK, hZ⟩ := id C
  unfold fX8_pace_j120 at h
  refine lv_iconst (v := 1) hx hb dX8_pace_120 (by decide) ?_
  refine lv_goto (tgt := 125) hx hb dX8_pace_121 (by decide) ?_
  exact wfX8_pace_j125 C a2 hv2 (1 : Int32) H locs ls h hP hS (lv_sub hl [] rfl)

set_option maxRecDepth 100000 in
set_option maxHeartbeats 4000000 in
theorem wfX8_pace_j150 {l : Launch} {g : Gw} {p : Program} {e : Env} {s : State} {m : MethodId} {args : Array Value} {below : List Frame} {meth : Method} {c : Code} {σ : Sto} (C : Cx wkX g p s m args meth c cX8_pace 9 RX8 (some .int)) (a2 : Nat) (hv2 : isA a2) {Rz : Int32} : ∀ (y0 : Int32) (H : Heap) (locs : List Loc) (ls : Array Slot), fX8_pace_j150 a2 σ y0 = some Rz → wS wkX g σ H → va_S (AS wkX g) s.heap H locs → lv_has ls 9 [] → W p l e (rmS 0) s m args below meth c H locs 0 0 (MQ below (QiS wkX g σ Rz) args s 0 0 (AS wkX g)) (F0 m 150 ls [.int y0]) := by
  intro y0 H locs ls h hP hS hl
  obtain ⟨hx, hb, hml, hown, hts, hr, hlk, hK, hZ⟩ := id C
  unfold fX8_pace_j150 at h
  refine lv_istore (lv' := [(8, .int y0)]) hx hb dX8_pace_150 hl (by decide) rfl (fun ls hl => ?_)
  refine lv_goto (tgt := 199) hx hb dX8_pace_152 (by decide) ?_
  exact wfX8_pace_j199 C a2 hv2 y0 H locs ls h hP hS (lv_sub hl [0] rfl)

set_option maxRecDepth 100000 in
set_option maxHeartbeats 4000000 in
theorem wfX8_pace_j145 {l : Launch} {g : Gw} {p : Program} {e : Env} {s : State} {m : MethodId} {args : Array Value} {below : List Frame} {meth : Method} {c : Code} {σ : Sto} (C : Cx wkX g p s m args meth c cX8_pace 9 RX8 (some .int)) (a2 : Nat) (hv2 : isA a2) {Rz : Int32} : ∀ (H : Heap) (locs : List Loc) (ls : Array Slot), fX8_pace_j145 a2 σ = some Rz → wS wkX g σ H → va_S (AS wkX g) s.heap H locs → lv_has ls 9 [] → W p l e (rmS 0) s m args below meth c H locs 0 0 (MQ below (QiS wkX g σ Rz) args s 0 0 (AS wkX g)) (F0 m 145 ls []) := by
  intro  H locs ls h hP hS hl
  obtain ⟨hx, hb, hml, hown, hts, hr, hlk, hK, hZ⟩ := id C
  unfold fX8_pace_j145 at h
  refine lv_iconst (v := 1) hx hb dX8_pace_145 (by decide) ?_
  refine lv_goto (tgt := 150) hx hb dX8_pace_146 (by decide) ?_
  exact wfX8_pace_j150 C a2 hv2 (1 : Int32) H locs ls h hP hS (lv_sub hl [] rfl)

set_option maxRecDepth 100000 in
set_option maxHeartbeats 4000000 in
theorem wfX8_pace_j177 {l : Launch} {g : Gw} {p : Program} {e : Env} {s : State} {m : MethodId} {args : Array Value} {below : List Frame} {meth : Method} {c : Code} {σ : Sto} (C : Cx wkX g p s m args meth c cX8_pace 9 RX8 (some .int)) (a2 : Nat) (hv2 : isA a2) {Rz : Int32} : ∀ (y0 : Int32) (H : Heap) (locs : List Loc) (ls : Array Slot), fX8_pace_j177 a2 σ y0 = some Rz → wS wkX g σ H → va_S (AS wkX g) s.heap H locs → lv_has ls 9 [] → W p l e (rmS 0) s m args below meth c H locs 0 0 (MQ below (QiS wkX g σ Rz) args s 0 0 (AS wkX g)) (F0 m 177 ls [.int y0]) := by
  intro y0 H locs ls h hP hS hl
  obtain ⟨hx, hb, hml, hown, hts, hr, hlk, hK, hZ⟩ := id C
  unfold fX8_pace_j177 at h
  refine lv_istore (lv' := [(8, .int y0)]) hx hb dX8_pace_177 hl (by decide) rfl (fun ls hl => ?_)
  refine lv_goto (tgt := 199) hx hb dX8_pace_179 (by decide) ?_
  exact wfX8_pace_j199 C a2 hv2 y0 H locs ls h hP hS (lv_sub hl [0] rfl)

set_option maxRecDepth 100000 in
set_option maxHeartbeats 4000000 in
theorem wfX8_pace_j172 {l : Launch} {g : Gw} {p : Program} {e : Env} {s : State} {m : MethodId} {args : Array Value} {below : List Frame} {meth : Method} {c : Code} {σ : Sto} (C : Cx wkX g p s m args meth c cX8_pace 9 RX8 (some .int)) (a2 : Nat) (hv2 : isA a2) {Rz : Int32} : ∀ (H : Heap) (locs : List Loc) (ls : Array Slot), fX8_pace_j172 a2 σ = some Rz → wS wkX g σ H → va_S (AS wkX g) s.heap H locs → lv_has ls 9 [] → W p l e (rmS 0) s m args below meth c H locs 0 0 (MQ below (QiS wkX g σ Rz) args s 0 0 (AS wkX g)) (F0 m 172 ls []) := by
  intro  H locs ls h hP hS hl
  obtain ⟨hx, hb, hml, hown, hts, hr, hlk, hK, hZ⟩ := id C
  unfold fX8_pace_j172 at h
  refine lv_iconst (v := 1) hx hb dX8_pace_172 (by decide) ?_
  refine lv_goto (tgt := 177) hx hb dX8_pace_173 (by decide) ?_
  exact wfX8_pace_j177 C a2 hv2 (1 : Int32) H locs ls h hP hS (lv_sub hl [] rfl)

set_option maxRecDepth 100000 in
set_option maxHeartbeats 4000000 in
theorem wfX8_pace_j197 {l : Launch} {g : Gw} {p : Program} {e : Env} {s : State} {m : MethodId} {args : Array Value} {below : List Frame} {meth : Method} {c : Code} {σ : Sto} (C : Cx wkX g p s m args meth c cX8_pace 9 RX8 (some .int)) (a2 : Nat) (hv2 : isA a2) {Rz : Int32} : ∀ (y0 : Int32) (H : Heap) (locs : List Loc) (ls : Array Slot), fX8_pace_j197 a2 σ y0 = some Rz → wS wkX g σ H → va_S (AS wkX g) s.heap H locs → lv_has ls 9 [] → W p l e (rmS 0) s m args below meth c H locs 0 0 (MQ below (QiS wkX g σ Rz) args s 0 0 (AS wkX g)) (F0 m 197 ls [.int y0]) := by
  intro y0 H locs ls h hP hS hl
  obtain ⟨hx, hb, hml, hown, hts, hr, hlk, hK, hZ⟩ := id C
  unfold fX8_pace_j197 at h
  refine lv_istore (lv' := [(8, .int y0)]) hx hb dX8_pace_197 hl (by decide) rfl (fun ls hl => ?_)
  exact wfX8_pace_j199 C a2 hv2 y0 H locs ls h hP hS (lv_sub hl [0] rfl)

set_option maxRecDepth 100000 in
set_option maxHeartbeats 4000000 in
theorem wfX8_pace_j192 {l : Launch} {g : Gw} {p : Program} {e : Env} {s : State} {m : MethodId} {args : Array Value} {below : List Frame} {meth : Method} {c : Code} {σ : Sto} (C : Cx wkX g p s m args meth c cX8_pace 9 RX8 (some .int)) (a2 : Nat) (hv2 : isA a2) {Rz : Int32} : ∀ (H : Heap) (locs : List Loc) (ls : Array Slot), fX8_pace_j192 a2 σ = some Rz → wS wkX g σ H → va_S (AS wkX g) s.heap H locs → lv_has ls 9 [] → W p l e (rmS 0) s m args below meth c H locs 0 0 (MQ below (QiS wkX g σ Rz) args s 0 0 (AS wkX g)) (F0 m 192 ls []) := by
  intro  H locs ls h hP hS hl
  obtain ⟨hx, hb, hml, hown, hts, hr, hlk, hK, hZ⟩ := id C
  unfold fX8_pace_j192 at h
  refine lv_iconst (v := 1) hx hb dX8_pace_192 (by decide) ?_
  refine lv_goto (tgt := 197) hx hb dX8_pace_193 (by decide) ?_
  exact wfX8_pace_j197 C a2 hv2 (1 : Int32) H locs ls h hP hS (lv_sub hl [] rfl)

set_option maxRecDepth 100000 in
set_option maxHeartbeats 4000000 in
theorem wfX8_pace_j57 {l : Launch} {g : Gw} {p : Program} {e : Env} {s : State} {m : MethodId} {args : Array Value} {below : List Frame} {meth : Method} {c : Code} {σ : Sto} (C : Cx wkX g p s m args meth c cX8_pace 9 RX8 (some .int)) (a2 : Nat) (hv2 : isA a2) {Rz : Int32} : ∀ (x0 : Int32) (x4 : Int32) (x5 : Int32) (x6 : Int32) (y0 : Int32) (H : Heap) (locs : List Loc) (ls : Array Slot), fX8_pace_j57 a2 σ x0 x4 x5 x6 y0 = some Rz → wS wkX g σ H → va_S (AS wkX g) s.heap H locs → lv_has ls 9 [(0, .int x0), (4, .int x4), (5, .int x5), (6, .int x6)] → W p l e (rmS 0) s m args below meth c H locs 0 0 (MQ below (QiS wkX g σ Rz) args s 0 0 (AS wkX g)) (F0 m 57 ls [.int y0]) := by
  intro x0 x4 x5 x6 y0 H locs ls h hP hS hl
  obtain ⟨hx, hb, hml, hown, hts, hr, hlk, hK, hZ⟩ := id C
  unfold fX8_pace_j57 at h
  refine lv_istore (lv' := [(7, .int y0), (0, .int x0), (4, .int x4), (5, .int x5), (6, .int x6)]) hx hb dX8_pace_57 hl (by decide) rfl (fun ls hl => ?_)
  refine lv_iload_n hx hb dX8_pace_59 rfl (lv_at hl 1 rfl) ?_
  by_cases c_1 : x0 = (2 : Int32)
  · replace h := if_t c_1 h
    refine r_tin (tgt := 92) hx hb dX8_pace_60 c_1 (by decide) (by decide) rfl (by decide) ?_
    refine lv_iload hx hb dX8_pace_92 (lv_at hl 3 rfl) ?_
    refine lv_if_eq (tgt := 101) hx hb dX8_pace_94 (by decide) (fun c_ => ?_) (fun c_ => ?_)
    · replace h := if_t c_ h
      refine lv_iconst (v := 0) hx hb dX8_pace_101 (by decide) ?_
      exact r_reti C hP hS rfl (rt_o h) dX8_pace_102
    · replace h := if_f c_ h
      refine lv_iconst (v := 2) hx hb dX8_pace_97 (by decide) ?_
      refine lv_goto (tgt := 102) hx hb dX8_pace_98 (by decide) ?_
      exact r_reti C hP hS rfl (rt_o h) dX8_pace_102
  replace h := if_f c_1 h
  by_cases c_2 : x0 = (3 : Int32)
  · replace h := if_t c_2 h
    refine r_tin (tgt := 103) hx hb dX8_pace_60 c_2 (by decide) (by decide) rfl (by decide) ?_
    refine lv_iload hx hb dX8_pace_103 (lv_at hl 2 rfl) ?_
    refine lv_iconst (v := 2) hx hb dX8_pace_105 (by decide) ?_
    refine lv_irem hx hb dX8_pace_106 (by decide) ?_
    refine lv_if_ne (tgt := 124) hx hb dX8_pace_107 (by decide) (fun c_ => ?_) (fun c_ => ?_)
    · replace h := if_f c_ h
      exact wfX8_pace_j124 C a2 hv2 H locs ls h hP hS (lv_sub hl [] rfl)
    · replace h := if_t c_ h
      refine lv_iload hx hb dX8_pace_110 (lv_at hl 3 rfl) ?_
      refine lv_if_ne (tgt := 120) hx hb dX8_pace_112 (by decide) (fun c_ => ?_) (fun c_ => ?_)
      · replace h := if_f c_ h
        exact wfX8_pace_j120 C a2 hv2 H locs ls h hP hS (lv_sub hl [] rfl)
      · replace h := if_t c_ h
        refine lv_iload hx hb dX8_pace_115 (lv_at hl 4 rfl) ?_
        refine lv_if_eq (tgt := 124) hx hb dX8_pace_117 (by decide) (fun c_ => ?_) (fun c_ => ?_)
        · replace h := if_t c_ h
          exact wfX8_pace_j124 C a2 hv2 H locs ls h hP hS (lv_sub hl [] rfl)
        · replace h := if_f c_ h
          exact wfX8_pace_j120 C a2 hv2 H locs ls h hP hS (lv_sub hl [] rfl)
  replace h := if_f c_2 h
  by_cases c_3 : x0 = (4 : Int32)
  · replace h := if_t c_3 h
    refine r_tin (tgt := 130) hx hb dX8_pace_60 c_3 (by decide) (by decide) rfl (by decide) ?_
    refine lv_iload hx hb dX8_pace_130 (lv_at hl 3 rfl) ?_
    refine lv_if_ne (tgt := 145) hx hb dX8_pace_132 (by decide) (fun c_ => ?_) (fun c_ => ?_)
    · replace h := if_f c_ h
      exact wfX8_pace_j145 C a2 hv2 H locs ls h hP hS (lv_sub hl [] rfl)
    · replace h := if_t c_ h
      refine lv_iload hx hb dX8_pace_135 (lv_at hl 4 rfl) ?_
      refine lv_if_ne (tgt := 145) hx hb dX8_pace_137 (by decide) (fun c_ => ?_) (fun c_ => ?_)
      · replace h := if_f c_ h
        exact wfX8_pace_j145 C a2 hv2 H locs ls h hP hS (lv_sub hl [] rfl)
      · replace h := if_t c_ h
        refine lv_iload hx hb dX8_pace_140 (lv_at hl 0 rfl) ?_
        refine lv_if_eq (tgt := 149) hx hb dX8_pace_142 (by decide) (fun c_ => ?_) (fun c_ => ?_)
        · replace h := if_t c_ h
          refine lv_iconst (v := 0) hx hb dX8_pace_149 (by decide) ?_
          exact wfX8_pace_j150 C a2 hv2 (0 : Int32) H locs ls h hP hS (lv_sub hl [] rfl)
        · replace h := if_f c_ h
          exact wfX8_pace_j145 C a2 hv2 H locs ls h hP hS (lv_sub hl [] rfl)
  replace h := if_f c_3 h
  by_cases c_4 : x0 = (5 : Int32)
  · replace h := if_t c_4 h
    refine r_tin (tgt := 155) hx hb dX8_pace_60 c_4 (by decide) (by decide) rfl (by decide) ?_
    refine lv_iload hx hb dX8_pace_155 (lv_at hl 3 rfl) ?_
    refine lv_if_eq (tgt := 162) hx hb dX8_pace_157 (by decide) (fun c_ => ?_) (fun c_ => ?_)
    · replace h := if_t c_ h
      refine lv_iload hx hb dX8_pace_162 (lv_at hl 4 rfl) ?_
      refine lv_if_ne (tgt := 172) hx hb dX8_pace_164 (by decide) (fun c_ => ?_) (fun c_ => ?_)
      · replace h := if_f c_ h
        exact wfX8_pace_j172 C a2 hv2 H locs ls h hP hS (lv_sub hl [] rfl)
      · replace h := if_t c_ h
        refine lv_iload hx hb dX8_pace_167 (lv_at hl 0 rfl) ?_
        refine lv_if_eq (tgt := 176) hx hb dX8_pace_169 (by decide) (fun c_ => ?_) (fun c_ => ?_)
        · replace h := if_t c_ h
          refine lv_iconst (v := 0) hx hb dX8_pace_176 (by decide) ?_
          exact wfX8_pace_j177 C a2 hv2 (0 : Int32) H locs ls h hP hS (lv_sub hl [] rfl)
        · replace h := if_f c_ h
          exact wfX8_pace_j172 C a2 hv2 H locs ls h hP hS (lv_sub hl [] rfl)
    · replace h := if_f c_ h
      refine lv_iconst (v := 2) hx hb dX8_pace_160 (by decide) ?_
      exact r_reti C hP hS rfl (rt_o h) dX8_pace_161
  replace h := if_f c_4 h
  refine lv_tableOut (tgt := 182) hx hb dX8_pace_60 (by have qc_1 := lv_neT (a := 2) c_1 rfl; have qc_2 := lv_neT (a := 3) c_2 rfl; have qc_3 := lv_neT (a := 4) c_3 rfl; have qc_4 := lv_neT (a := 5) c_4 rfl; omega) (by decide) ?_
  refine lv_iload hx hb dX8_pace_182 (lv_at hl 3 rfl) ?_
  refine lv_if_ne (tgt := 192) hx hb dX8_pace_184 (by decide) (fun c_ => ?_) (fun c_ => ?_)
  · replace h := if_f c_ h
    exact wfX8_pace_j192 C a2 hv2 H locs ls h hP hS (lv_sub hl [] rfl)
  · replace h := if_t c_ h
    refine lv_iload hx hb dX8_pace_187 (lv_at hl 4 rfl) ?_
    refine lv_if_eq (tgt := 196) hx hb dX8_pace_189 (by decide) (fun c_ => ?_) (fun c_ => ?_)
    · replace h := if_t c_ h
      refine lv_iconst (v := 0) hx hb dX8_pace_196 (by decide) ?_
      exact wfX8_pace_j197 C a2 hv2 (0 : Int32) H locs ls h hP hS (lv_sub hl [] rfl)
    · replace h := if_f c_ h
      exact wfX8_pace_j192 C a2 hv2 H locs ls h hP hS (lv_sub hl [] rfl)

set_option maxRecDepth 100000 in
set_option maxHeartbeats 4000000 in
theorem wfX8_pace_j56 {l : Launch} {g : Gw} {p : Program} {e : Env} {s : State} {m : MethodId} {args : Array Value} {below : List Frame} {meth : Method} {c : Code} {σ : Sto} (C : Cx wkX g p s m args meth c cX8_pace 9 RX8 (some .int)) (a2 : Nat) (hv2 : isA a2) {Rz : Int32} : ∀ (x0 : Int32) (x4 : Int32) (x5 : Int32) (x6 : Int32) (H : Heap) (locs : List Loc) (ls : Array Slot), fX8_pace_j56 a2 σ x0 x4 x5 x6 = some Rz → wS wkX g σ H → va_S (AS wkX g) s.heap H locs → lv_has ls 9 [(0, .int x0), (4, .int x4), (5, .int x5), (6, .int x6)] → W p l e (rmS 0) s m args below meth c H locs 0 0 (MQ below (QiS wkX g σ Rz) args s 0 0 (AS wkX g)) (F0 m 56 ls []) := by
  intro x0 x4 x5 x6 H locs ls h hP hS hl
  obtain ⟨hx, hb, hml, hown, hts, hr, hlk, hK, hZ⟩ := id C
  unfold fX8_pace_j56 at h
  refine lv_iconst (v := 0) hx hb dX8_pace_56 (by decide) ?_
  exact wfX8_pace_j57 C a2 hv2 x0 x4 x5 x6 (0 : Int32) H locs ls h hP hS (lv_sub hl [0, 1, 2, 3] rfl)

set_option maxRecDepth 100000 in
set_option maxHeartbeats 4000000 in
theorem wfX8_pace_j35 {l : Launch} {g : Gw} {p : Program} {e : Env} {s : State} {m : MethodId} {args : Array Value} {below : List Frame} {meth : Method} {c : Code} {σ : Sto} (C : Cx wkX g p s m args meth c cX8_pace 9 RX8 (some .int)) (a2 : Nat) (hv2 : isA a2) {Rz : Int32} : ∀ (x0 : Int32) (x1 : Int32) (x3 : Int32) (x4 : Int32) (x5 : Int32) (y0 : Int32) (H : Heap) (locs : List Loc) (ls : Array Slot), fX8_pace_j35 a2 σ x0 x1 x3 x4 x5 y0 = some Rz → wS wkX g σ H → va_S (AS wkX g) s.heap H locs → lv_has ls 9 [(0, .int x0), (1, .int x1), (2, .ref (adG g a2)), (3, .int x3), (4, .int x4), (5, .int x5)] → W p l e (rmS 0) s m args below meth c H locs 0 0 (MQ below (QiS wkX g σ Rz) args s 0 0 (AS wkX g)) (F0 m 35 ls [.int y0]) := by
  intro x0 x1 x3 x4 x5 y0 H locs ls h hP hS hl
  obtain ⟨hx, hb, hml, hown, hts, hr, hlk, hK, hZ⟩ := id C
  unfold fX8_pace_j35 at h
  refine lv_istore (lv' := [(6, .int y0), (0, .int x0), (1, .int x1), (2, .ref (adG g a2)), (3, .int x3), (4, .int x4), (5, .int x5)]) hx hb dX8_pace_35 hl (by decide) rfl (fun ls hl => ?_)
  refine lv_iload_n hx hb dX8_pace_37 rfl (lv_at hl 2 rfl) ?_
  refine lv_iconst (v := 2) hx hb dX8_pace_38 (by decide) ?_
  refine lv_icmp_lt (tgt := 56) hx hb dX8_pace_39 (by decide) (fun c_ => ?_) (fun c_ => ?_)
  · replace h := if_t c_ h
    exact wfX8_pace_j56 C a2 hv2 x0 x4 x5 y0 H locs ls h hP hS (lv_sub hl [1, 5, 6, 0] rfl)
  · replace h := if_f c_ h
    refine lv_aload_n hx hb dX8_pace_42 rfl (lv_at hl 3 rfl) ?_
    refine lv_iload_n hx hb dX8_pace_43 rfl (lv_at hl 4 rfl) ?_
    refine lv_iload_n hx hb dX8_pace_44 rfl (lv_at hl 2 rfl) ?_
    refine lv_iadd hx hb dX8_pace_45 ?_
    refine lv_iconst (v := 2) hx hb dX8_pace_46 (by decide) ?_
    refine lv_isub hx hb dX8_pace_47 ?_
    obtain ⟨g_1, h⟩ := gd_inv h
    refine r_iald C hP hv2.1 hv2.2 rfl g_1 dX8_pace_48 ?_
    refine lv_if_le (tgt := 56) hx hb dX8_pace_49 (by decide) (fun c_ => ?_) (fun c_ => ?_)
    · replace h := if_t c_ h
      exact wfX8_pace_j56 C a2 hv2 x0 x4 x5 y0 H locs ls h hP hS (lv_sub hl [1, 5, 6, 0] rfl)
    · replace h := if_f c_ h
      refine lv_iconst (v := 1) hx hb dX8_pace_52 (by decide) ?_
      refine lv_goto (tgt := 57) hx hb dX8_pace_53 (by decide) ?_
      exact wfX8_pace_j57 C a2 hv2 x0 x4 x5 y0 (1 : Int32) H locs ls h hP hS (lv_sub hl [1, 5, 6, 0] rfl)

set_option maxRecDepth 100000 in
set_option maxHeartbeats 4000000 in
theorem wfX8_pace_j34 {l : Launch} {g : Gw} {p : Program} {e : Env} {s : State} {m : MethodId} {args : Array Value} {below : List Frame} {meth : Method} {c : Code} {σ : Sto} (C : Cx wkX g p s m args meth c cX8_pace 9 RX8 (some .int)) (a2 : Nat) (hv2 : isA a2) {Rz : Int32} : ∀ (x0 : Int32) (x1 : Int32) (x3 : Int32) (x4 : Int32) (x5 : Int32) (H : Heap) (locs : List Loc) (ls : Array Slot), fX8_pace_j34 a2 σ x0 x1 x3 x4 x5 = some Rz → wS wkX g σ H → va_S (AS wkX g) s.heap H locs → lv_has ls 9 [(0, .int x0), (1, .int x1), (2, .ref (adG g a2)), (3, .int x3), (4, .int x4), (5, .int x5)] → W p l e (rmS 0) s m args below meth c H locs 0 0 (MQ below (QiS wkX g σ Rz) args s 0 0 (AS wkX g)) (F0 m 34 ls []) := by
  intro x0 x1 x3 x4 x5 H locs ls h hP hS hl
  obtain ⟨hx, hb, hml, hown, hts, hr, hlk, hK, hZ⟩ := id C
  unfold fX8_pace_j34 at h
  refine lv_iconst (v := 0) hx hb dX8_pace_34 (by decide) ?_
  exact wfX8_pace_j35 C a2 hv2 x0 x1 x3 x4 x5 (0 : Int32) H locs ls h hP hS (lv_sub hl [0, 1, 2, 3, 4, 5] rfl)

set_option maxRecDepth 100000 in
set_option maxHeartbeats 4000000 in
theorem wfX8_pace_j13 {l : Launch} {g : Gw} {p : Program} {e : Env} {s : State} {m : MethodId} {args : Array Value} {below : List Frame} {meth : Method} {c : Code} {σ : Sto} (C : Cx wkX g p s m args meth c cX8_pace 9 RX8 (some .int)) (a2 : Nat) (hv2 : isA a2) {Rz : Int32} : ∀ (x0 : Int32) (x1 : Int32) (x3 : Int32) (x4 : Int32) (y0 : Int32) (H : Heap) (locs : List Loc) (ls : Array Slot), fX8_pace_j13 a2 σ x0 x1 x3 x4 y0 = some Rz → wS wkX g σ H → va_S (AS wkX g) s.heap H locs → lv_has ls 9 [(0, .int x0), (1, .int x1), (2, .ref (adG g a2)), (3, .int x3), (4, .int x4)] → W p l e (rmS 0) s m args below meth c H locs 0 0 (MQ below (QiS wkX g σ Rz) args s 0 0 (AS wkX g)) (F0 m 13 ls [.int y0]) := by
  intro x0 x1 x3 x4 y0 H locs ls h hP hS hl
  obtain ⟨hx, hb, hml, hown, hts, hr, hlk, hK, hZ⟩ := id C
  unfold fX8_pace_j13 at h
  refine lv_istore (lv' := [(5, .int y0), (0, .int x0), (1, .int x1), (2, .ref (adG g a2)), (3, .int x3), (4, .int x4)]) hx hb dX8_pace_13 hl (by decide) rfl (fun ls hl => ?_)
  refine lv_iload_n hx hb dX8_pace_15 rfl (lv_at hl 2 rfl) ?_
  refine lv_iconst (v := 1) hx hb dX8_pace_16 (by decide) ?_
  refine lv_icmp_lt (tgt := 34) hx hb dX8_pace_17 (by decide) (fun c_ => ?_) (fun c_ => ?_)
  · replace h := if_t c_ h
    exact wfX8_pace_j34 C a2 hv2 x0 x1 x3 x4 y0 H locs ls h hP hS (lv_sub hl [1, 2, 3, 4, 5, 0] rfl)
  · replace h := if_f c_ h
    refine lv_aload_n hx hb dX8_pace_20 rfl (lv_at hl 3 rfl) ?_
    refine lv_iload_n hx hb dX8_pace_21 rfl (lv_at hl 4 rfl) ?_
    refine lv_iload_n hx hb dX8_pace_22 rfl (lv_at hl 2 rfl) ?_
    refine lv_iadd hx hb dX8_pace_23 ?_
    refine lv_iconst (v := 1) hx hb dX8_pace_24 (by decide) ?_
    refine lv_isub hx hb dX8_pace_25 ?_
    obtain ⟨g_1, h⟩ := gd_inv h
    refine r_iald C hP hv2.1 hv2.2 rfl g_1 dX8_pace_26 ?_
    refine lv_if_le (tgt := 34) hx hb dX8_pace_27 (by decide) (fun c_ => ?_) (fun c_ => ?_)
    · replace h := if_t c_ h
      exact wfX8_pace_j34 C a2 hv2 x0 x1 x3 x4 y0 H locs ls h hP hS (lv_sub hl [1, 2, 3, 4, 5, 0] rfl)
    · replace h := if_f c_ h
      refine lv_iconst (v := 1) hx hb dX8_pace_30 (by decide) ?_
      refine lv_goto (tgt := 35) hx hb dX8_pace_31 (by decide) ?_
      exact wfX8_pace_j35 C a2 hv2 x0 x1 x3 x4 y0 (1 : Int32) H locs ls h hP hS (lv_sub hl [1, 2, 3, 4, 5, 0] rfl)

set_option maxRecDepth 100000 in
set_option maxHeartbeats 4000000 in
theorem ctX8_pace {l : Launch} {g : Gw} {σ : Sto} (x0 : Int32) (x1 : Int32) (a2 : Nat) (hv2 : isA a2) (x3 : Int32) (x4 : Int32) {Rz : Int32} (h : fX8_pace σ x0 x1 a2 x3 x4 = some Rz) : MtG l yX8_pace cX8_pace 9 (some .int) 0 wkX g [.int x0, .int x1, .ref (adG g a2), .int x3, .int x4] σ (QiS wkX g σ Rz) := by
  refine mt_of (by decide) (Nat.le_of_ble_eq_true rfl) (fun p e s m below meth c ls H locs C hP hS hl => ?_)
  have C : Cx wkX g p s m _ meth c cX8_pace 9 RX8 (some .int) := C
  have hl : lv_has ls 9 [(0, .int x0), (1, .int x1), (2, .ref (adG g a2)), (3, .int x3), (4, .int x4)] := hl
  obtain ⟨hx, hb, hml, hown, hts, hr, hlk, hK, hZ⟩ := id C
  unfold fX8_pace at h
  refine lv_aload_n hx hb dX8_pace_0 rfl (lv_at hl 2 rfl) ?_
  refine lv_iload_n hx hb dX8_pace_1 rfl (lv_at hl 3 rfl) ?_
  refine lv_iload_n hx hb dX8_pace_2 rfl (lv_at hl 1 rfl) ?_
  refine lv_iadd hx hb dX8_pace_3 ?_
  obtain ⟨g_1, h⟩ := gd_inv h
  refine r_iald C hP hv2.1 hv2.2 rfl g_1 dX8_pace_4 ?_
  refine lv_if_le (tgt := 12) hx hb dX8_pace_5 (by decide) (fun c_ => ?_) (fun c_ => ?_)
  · replace h := if_t c_ h
    refine lv_iconst (v := 0) hx hb dX8_pace_12 (by decide) ?_
    exact wfX8_pace_j13 C a2 hv2 x0 x1 x3 x4 (0 : Int32) H locs ls h hP hS (lv_sub hl [0, 1, 2, 3, 4] rfl)
  · replace h := if_f c_ h
    refine lv_iconst (v := 1) hx hb dX8_pace_8 (by decide) ?_
    refine lv_goto (tgt := 13) hx hb dX8_pace_9 (by decide) ?_
    exact wfX8_pace_j13 C a2 hv2 x0 x1 x3 x4 (1 : Int32) H locs ls h hP hS (lv_sub hl [0, 1, 2, 3, 4] rfl)

set_option maxRecDepth 100000 in
set_option maxHeartbeats 4000000 in
theorem ctX8_placeAfter {l : Launch} {g : Gw} {σ : Sto} (v0 : Nat) (hv0 : isV v0) (x1 : Int32) (x2 : Int32) (x3 : Int32) (a4 : Nat) (hv4 : isA a4) (x5 : Int32) (x6 : Int32) {Rz : Int32} (h : fX8_placeAfter σ v0 x1 x2 x3 a4 x5 x6 = some Rz) : MtG l yX8_placeAfter cX8_placeAfter 8 (some .int) 1 wkX g [.ref (adG g v0), .int x1, .int x2, .int x3, .ref (adG g a4), .int x5, .int x6] σ (QiS wkX g σ Rz) := by
  refine mt_of (by decide) (Nat.le_of_ble_eq_true rfl) (fun p e s m below meth c ls H locs C hP hS hl => ?_)
  have C : Cx wkX g p s m _ meth c cX8_placeAfter 8 RX8 (some .int) := C
  have hl : lv_has ls 8 [(0, .ref (adG g v0)), (1, .int x1), (2, .int x2), (3, .int x3), (4, .ref (adG g a4)), (5, .int x5), (6, .int x6)] := hl
  obtain ⟨hx, hb, hml, hown, hts, hr, hlk, hK, hZ⟩ := id C
  unfold fX8_placeAfter at h
  refine lv_iload_n hx hb dX8_placeAfter_0 rfl (lv_at hl 1 rfl) ?_
  refine lv_bipush (v := 20) hx hb dX8_placeAfter_1 (by decide) ?_
  refine lv_icmp_lt (tgt := 8) hx hb dX8_placeAfter_3 (by decide) (fun c_ => ?_) (fun c_ => ?_)
  · replace h := if_t c_ h
    refine lv_aload_n hx hb dX8_placeAfter_8 rfl (lv_at hl 0 rfl) ?_
    refine lv_iload_n hx hb dX8_placeAfter_9 rfl (lv_at hl 1 rfl) ?_
    refine lv_iload_n hx hb dX8_placeAfter_10 rfl (lv_at hl 2 rfl) ?_
    refine lv_iload_n hx hb dX8_placeAfter_11 rfl (lv_at hl 1 rfl) ?_
    refine lv_aload hx hb dX8_placeAfter_12 (lv_at hl 4 rfl) ?_
    refine lv_iload hx hb dX8_placeAfter_14 (lv_at hl 5 rfl) ?_
    refine lv_iload hx hb dX8_placeAfter_16 (lv_at hl 6 rfl) ?_
    obtain ⟨q_1, hq_1, h⟩ := bd_inv h
    refine end_i (run_s (As := [.int x2, .int x1, .ref (adG g a4), .int x5, .int x6]) (rest := [.int x1, .ref (adG g v0)]) C ca_X8_pace (ctX8_pace x2 x1 a4 hv4 x5 x6 hq_1) tw_466 ⟨Nat.le_of_ble_eq_true rfl, Nat.le_of_ble_eq_true rfl⟩ rfl hl.1 (Nat.le_of_ble_eq_true rfl) ⟨Nat.le_refl _, Nat.le_refl _⟩ hP hS dX8_placeAfter_18) hS (fun H locs hP hS => ?_)
    refine end_i (run_v (As := [.int x1, .int q_1]) (rest := []) C ca_X8_goneOn (ctX8_goneOn v0 hv0 x1 q_1 rfl) cf_8 (sv_0 hv0) (kv_0 hv0) tw_469 ⟨Nat.le_of_ble_eq_true rfl, Nat.le_of_ble_eq_true rfl⟩ rfl hl.1 (Nat.le_of_ble_eq_true rfl) ⟨Nat.le_refl _, Nat.le_refl _⟩ hP hS dX8_placeAfter_21) hS (fun H locs hP hS => ?_)
    refine lv_topi (fun x_3 ex_3 => ?_)
    replace h := un_at ex_3 h
    refine lv_istore (lv' := [(7, .int x_3), (0, .ref (adG g v0)), (1, .int x1), (2, .int x2), (3, .int x3), (4, .ref (adG g a4)), (5, .int x5), (6, .int x6)]) hx hb dX8_placeAfter_24 hl (by decide) rfl (fun ls hl => ?_)
    refine lv_iload hx hb dX8_placeAfter_26 (lv_at hl 0 rfl) ?_
    refine lv_bipush (v := 20) hx hb dX8_placeAfter_28 (by decide) ?_
    refine lv_icmp_eq (tgt := 45) hx hb dX8_placeAfter_30 (by decide) (fun c_ => ?_) (fun c_ => ?_)
    · replace h := if_t c_ h
      refine lv_iload hx hb dX8_placeAfter_45 (lv_at hl 0 rfl) ?_
      exact r_reti C hP hS rfl (rt_o h) dX8_placeAfter_47
    · replace h := if_f c_ h
      refine lv_aload hx hb dX8_placeAfter_33 (lv_at hl 5 rfl) ?_
      refine lv_iload hx hb dX8_placeAfter_35 (lv_at hl 6 rfl) ?_
      refine lv_iload hx hb dX8_placeAfter_37 (lv_at hl 0 rfl) ?_
      refine lv_iadd hx hb dX8_placeAfter_39 ?_
      obtain ⟨g_4, h⟩ := gd_inv h
      refine r_iald C hP hv4.1 hv4.2 rfl g_4 dX8_placeAfter_40 ?_
      refine lv_iload_n hx hb dX8_placeAfter_41 rfl (lv_at hl 4 rfl) ?_
      refine lv_icmp_ge (tgt := 48) hx hb dX8_placeAfter_42 (by decide) (fun c_ => ?_) (fun c_ => ?_)
      · replace h := if_t c_ h
        refine lv_bipush (v := 30) hx hb dX8_placeAfter_48 (by decide) ?_
        refine lv_iload hx hb dX8_placeAfter_50 (lv_at hl 0 rfl) ?_
        refine lv_iadd hx hb dX8_placeAfter_52 ?_
        exact r_reti C hP hS rfl (rt_o h) dX8_placeAfter_53
      · replace h := if_f c_ h
        refine lv_iload hx hb dX8_placeAfter_45 (lv_at hl 0 rfl) ?_
        exact r_reti C hP hS rfl (rt_o h) dX8_placeAfter_47
  · replace h := if_f c_ h
    refine lv_iload_n hx hb dX8_placeAfter_6 rfl (lv_at hl 1 rfl) ?_
    exact r_reti C hP hS rfl (rt_o h) dX8_placeAfter_7

set_option maxRecDepth 100000 in
set_option maxHeartbeats 4000000 in
theorem ctX2_placeAfter {l : Launch} {g : Gw} {σ : Sto} (f0 : Nat) (hv0 : isF f0) (v1 : Nat) (hv1 : isV v1) (x2 : Int32) (x3 : Int32) (x4 : Int32) {Rz : Int32} (h : fX2_placeAfter σ f0 v1 x2 x3 x4 = some Rz) : MtG l yX2_placeAfter cX2_placeAfter 5 (some .int) 2 wkX g [.ref (adG g f0), .ref (adG g v1), .int x2, .int x3, .int x4] σ (QiS wkX g σ Rz) := by
  refine mt_of (by decide) (Nat.le_of_ble_eq_true rfl) (fun p e s m below meth c ls H locs C hP hS hl => ?_)
  have C : Cx wkX g p s m _ meth c cX2_placeAfter 5 RX2 (some .int) := C
  have hl : lv_has ls 5 [(0, .ref (adG g f0)), (1, .ref (adG g v1)), (2, .int x2), (3, .int x3), (4, .int x4)] := hl
  obtain ⟨hx, hb, hml, hown, hts, hr, hlk, hK, hZ⟩ := id C
  unfold fX2_placeAfter at h
  refine lv_aload_n hx hb dX2_placeAfter_0 rfl (lv_at hl 1 rfl) ?_
  refine lv_iload_n hx hb dX2_placeAfter_1 rfl (lv_at hl 3 rfl) ?_
  refine lv_aload_n hx hb dX2_placeAfter_2 rfl (lv_at hl 1 rfl) ?_
  refine r_getr C cf_8 hP (sv_0 hv1) (kv_0 hv1) 8 (by decide) rfl tw_642 dX2_placeAfter_3 ?_
  refine lv_iload_n hx hb dX2_placeAfter_6 rfl (lv_at hl 2 rfl) ?_
  obtain ⟨g_1, h⟩ := gd_inv h
  refine r_iald C hP (sv_4 hv1) (kv_4 hv1) rfl g_1 dX2_placeAfter_7 ?_
  refine lv_aload_n hx hb dX2_placeAfter_8 rfl (lv_at hl 1 rfl) ?_
  refine r_getr C cf_8 hP (sv_0 hv1) (kv_0 hv1) 9 (by decide) rfl tw_643 dX2_placeAfter_9 ?_
  refine lv_iload_n hx hb dX2_placeAfter_12 rfl (lv_at hl 2 rfl) ?_
  refine r_iald C hP (sv_5 hv1) (kv_5 hv1) rfl g_1 dX2_placeAfter_13 ?_
  refine lv_aload_n hx hb dX2_placeAfter_14 rfl (lv_at hl 0 rfl) ?_
  refine r_getr C cf_2 hP (sf_0 hv0) (kf_0 hv0) 1 (by decide) rfl tw_108 dX2_placeAfter_15 ?_
  refine lv_iload hx hb dX2_placeAfter_18 (lv_at hl 4 rfl) ?_
  refine lv_iconst (v := 1) hx hb dX2_placeAfter_20 (by decide) ?_
  refine lv_iadd hx hb dX2_placeAfter_21 ?_
  refine lv_bipush (v := 10) hx hb dX2_placeAfter_22 (by decide) ?_
  refine lv_imul hx hb dX2_placeAfter_24 ?_
  refine lv_aload_n hx hb dX2_placeAfter_25 rfl (lv_at hl 1 rfl) ?_
  refine r_geti C cf_8 hP (sv_0 hv1) (kv_0 hv1) 4 (by decide) rfl tw_632 dX2_placeAfter_26 ?_
  refine lv_iload hx hb dX2_placeAfter_29 (lv_at hl 4 rfl) ?_
  refine lv_iadd hx hb dX2_placeAfter_31 ?_
  obtain ⟨q_2, hq_2, h⟩ := bd_inv h
  refine end_i (run_v (As := [.int x3, .int (σ (v1 + 4) x2.toNatClampNeg), .int (σ (v1 + 5) x2.toNatClampNeg), .ref (adG g (f0 + 1)), .int ((x4 + (1 : Int32)) * (10 : Int32)), .int ((σ v1 4) + x4)]) (rest := []) C ca_X8_placeAfter (ctX8_placeAfter v1 hv1 x3 (σ (v1 + 4) x2.toNatClampNeg) (σ (v1 + 5) x2.toNatClampNeg) (f0 + 1) (isA_of (sf_1 hv0) (kf_1 hv0)) ((x4 + (1 : Int32)) * (10 : Int32)) ((σ v1 4) + x4) hq_2) cf_8 (sv_0 hv1) (kv_0 hv1) tw_644 ⟨Nat.le_of_ble_eq_true rfl, Nat.le_of_ble_eq_true rfl⟩ rfl hl.1 (Nat.le_of_ble_eq_true rfl) ⟨Nat.le_refl _, Nat.le_refl _⟩ hP hS dX2_placeAfter_32) hS (fun H locs hP hS => ?_)
  exact r_reti C hP hS rfl (rt_o h) dX2_placeAfter_35

set_option maxRecDepth 100000 in
set_option maxHeartbeats 4000000 in
theorem wfX1_placeBehind_j45 {l : Launch} {g : Gw} {p : Program} {e : Env} {s : State} {m : MethodId} {args : Array Value} {below : List Frame} {meth : Method} {c : Code} {σ : Sto} (C : Cx wkX g p s m args meth c cX1_placeBehind 7 RX1 (some .int)) (v1 : Nat) (hv1 : isV v1) {Rz : Int32} {k_11 : Int32 → Int32 → Int32 → Int32 → Int32 → Option Int32} : ∀ (x2 : Int32) (x3 : Int32) (x4 : Int32) (x5 : Int32) (x6 : Int32) (H : Heap) (locs : List Loc) (ls : Array Slot), fX1_placeBehind_j45 k_11 v1 σ x2 x3 x4 x5 x6 = some Rz → wS wkX g σ H → va_S (AS wkX g) s.heap H locs → lv_has ls 7 [(0, .ref (adG g 14)), (1, .ref (adG g v1)), (2, .int x2), (3, .int x3), (4, .int x4), (5, .int x5), (6, .int x6)] → (∀ (x2 : Int32) (x3 : Int32) (x4 : Int32) (x5 : Int32) (x6 : Int32) (H : Heap) (locs : List Loc) (ls : Array Slot), k_11 x2 x3 x4 x5 x6 = some Rz → wS wkX g σ H → va_S (AS wkX g) s.heap H locs → lv_has ls 7 [(0, .ref (adG g 14)), (1, .ref (adG g v1)), (2, .int x2), (3, .int x3), (4, .int x4), (5, .int x5), (6, .int x6)] → W p l e (rmS 3) s m args below meth c H locs 0 0 (MQ below (QiS wkX g σ Rz) args s 0 0 (AS wkX g)) (F0 m 11 ls [])) → W p l e (rmS 3) s m args below meth c H locs 0 0 (MQ below (QiS wkX g σ Rz) args s 0 0 (AS wkX g)) (F0 m 45 ls []) := by
  intro x2 x3 x4 x5 x6 H locs ls h hP hS hl hk_11
  obtain ⟨hx, hb, hml, hown, hts, hr, hlk, hK, hZ⟩ := id C
  unfold fX1_placeBehind_j45 at h
  refine lv_aload_n hx hb dX1_placeBehind_45 rfl (lv_at hl 0 rfl) ?_
  refine r_getr C cf_1 hP sx_14 kx_14 1 (by decide) rfl tw_114 dX1_placeBehind_46 ?_
  refine lv_aload_n hx hb dX1_placeBehind_49 rfl (lv_at hl 1 rfl) ?_
  refine lv_iload_n hx hb dX1_placeBehind_50 rfl (lv_at hl 2 rfl) ?_
  refine lv_iload hx hb dX1_placeBehind_51 (lv_at hl 5 rfl) ?_
  refine lv_iload hx hb dX1_placeBehind_53 (lv_at hl 6 rfl) ?_
  obtain ⟨q_1, hq_1, h⟩ := bd_inv h
  refine end_i (run_v (As := [.ref (adG g v1), .int x2, .int x5, .int x6]) (rest := []) C ca_X2_placeAfter (ctX2_placeAfter 15 if_15 v1 hv1 x2 x5 x6 hq_1) cf_2 (sf_0 if_15) (kf_0 if_15) tw_758 ⟨Nat.le_of_ble_eq_true rfl, Nat.le_of_ble_eq_true rfl⟩ rfl hl.1 (Nat.le_of_ble_eq_true rfl) ⟨Nat.le_refl _, Nat.le_refl _⟩ hP hS dX1_placeBehind_55) hS (fun H locs hP hS => ?_)
  refine lv_istore (lv' := [(5, .int q_1), (0, .ref (adG g 14)), (1, .ref (adG g v1)), (2, .int x2), (3, .int x3), (4, .int x4), (6, .int x6)]) hx hb dX1_placeBehind_58 hl (by decide) rfl (fun ls hl => ?_)
  obtain ⟨x_2, ex_2⟩ : ∃ y : Int32, y = x6 + (1 : Int32) := ⟨_, rfl⟩
  replace h := un_at ex_2 h
  refine lv_iinc (v := x_2) (lv' := [(6, .int x_2), (5, .int q_1), (0, .ref (adG g 14)), (1, .ref (adG g v1)), (2, .int x2), (3, .int x3), (4, .int x4)]) hx hb dX1_placeBehind_60 hl (k := 6) rfl (by rw [ex_2]; rfl) (by decide) rfl (fun ls hl => ?_)
  refine lv_goto (tgt := 11) hx hb dX1_placeBehind_63 (by decide) ?_
  exact hk_11 x2 x3 x4 q_1 x_2 H locs ls h hP hS (lv_sub hl [2, 3, 4, 5, 6, 1, 0] rfl)

set_option maxRecDepth 100000 in
set_option maxHeartbeats 4000000 in
theorem wfX1_placeBehind_L11 {l : Launch} {g : Gw} {p : Program} {e : Env} {s : State} {m : MethodId} {args : Array Value} {below : List Frame} {meth : Method} {c : Code} {σ : Sto} (C : Cx wkX g p s m args meth c cX1_placeBehind 7 RX1 (some .int)) (v1 : Nat) (hv1 : isV v1) {Rz : Int32} : ∀ (n : Nat) (x2 : Int32) (x3 : Int32) (x4 : Int32) (x5 : Int32) (x6 : Int32) (H : Heap) (locs : List Loc) (ls : Array Slot), fX1_placeBehind_L11 v1 σ n x2 x3 x4 x5 x6 = some Rz → wS wkX g σ H → va_S (AS wkX g) s.heap H locs → lv_has ls 7 [(0, .ref (adG g 14)), (1, .ref (adG g v1)), (2, .int x2), (3, .int x3), (4, .int x4), (5, .int x5), (6, .int x6)] → W p l e (rmS 3) s m args below meth c H locs 0 0 (MQ below (QiS wkX g σ Rz) args s 0 0 (AS wkX g)) (F0 m 11 ls []) := by
  intro n
  induction n with
  | zero =>
    intro x2 x3 x4 x5 x6 H locs ls h
    cases h
  | succ n ih =>
    intro x2 x3 x4 x5 x6 H locs ls h hP hS hl
    obtain ⟨hx, hb, hml, hown, hts, hr, hlk, hK, hZ⟩ := id C
    rw [fX1_placeBehind_L11] at h
    refine lv_iload hx hb dX1_placeBehind_11 (lv_at hl 6 rfl) ?_
    refine lv_iload hx hb dX1_placeBehind_13 (lv_at hl 4 rfl) ?_
    refine lv_icmp_ge (tgt := 66) hx hb dX1_placeBehind_15 (by decide) (fun c_ => ?_) (fun c_ => ?_)
    · replace h := if_t c_ h
      refine lv_iload hx hb dX1_placeBehind_66 (lv_at hl 5 rfl) ?_
      exact r_reti C hP hS rfl (rt_o h) dX1_placeBehind_68
    · replace h := if_f c_ h
      refine lv_iload hx hb dX1_placeBehind_18 (lv_at hl 6 rfl) ?_
      refine lv_aload_n hx hb dX1_placeBehind_20 rfl (lv_at hl 0 rfl) ?_
      refine r_geti C cf_1 hP sx_14 kx_14 7 (by decide) rfl tw_121 dX1_placeBehind_21 ?_
      refine lv_icmp_ge (tgt := 45) hx hb dX1_placeBehind_24 (by decide) (fun c_ => ?_) (fun c_ => ?_)
      · replace h := if_t c_ h
        refine wfX1_placeBehind_j45 C v1 hv1 x2 x3 x4 x5 x6 H locs ls h hP hS (lv_sub hl [0, 1, 2, 3, 4, 5, 6] rfl) (fun z_1 z_2 z_3 z_4 z_5 H locs ls h hP hS hl => ?_)
        exact ih z_1 z_2 z_3 z_4 z_5 H locs ls h hP hS (lv_sub hl [0, 1, 2, 3, 4, 5, 6] rfl)
      · replace h := if_f c_ h
        refine lv_iload_n hx hb dX1_placeBehind_27 rfl (lv_at hl 3 rfl) ?_
        refine lv_iload hx hb dX1_placeBehind_28 (lv_at hl 6 rfl) ?_
        refine lv_ishr hx hb dX1_placeBehind_30 ?_
        refine lv_iconst (v := 1) hx hb dX1_placeBehind_31 (by decide) ?_
        refine lv_iand hx hb dX1_placeBehind_32 ?_
        refine lv_iconst (v := 1) hx hb dX1_placeBehind_33 (by decide) ?_
        refine lv_icmp_ne (tgt := 45) hx hb dX1_placeBehind_34 (by decide) (fun c_ => ?_) (fun c_ => ?_)
        · replace h := if_f c_ h
          refine wfX1_placeBehind_j45 C v1 hv1 x2 x3 x4 x5 x6 H locs ls h hP hS (lv_sub hl [0, 1, 2, 3, 4, 5, 6] rfl) (fun z_6 z_7 z_8 z_9 z_10 H locs ls h hP hS hl => ?_)
          exact ih z_6 z_7 z_8 z_9 z_10 H locs ls h hP hS (lv_sub hl [0, 1, 2, 3, 4, 5, 6] rfl)
        · replace h := if_t c_ h
          refine lv_aload_n hx hb dX1_placeBehind_37 rfl (lv_at hl 1 rfl) ?_
          refine lv_iload hx hb dX1_placeBehind_38 (lv_at hl 5 rfl) ?_
          refine end_i (run_v (As := [.int x5]) (rest := []) C ca_X8_carried (ctX8_carried v1 hv1 x5 rfl) cf_8 (sv_0 hv1) (kv_0 hv1) tw_757 ⟨Nat.le_of_ble_eq_true rfl, Nat.le_of_ble_eq_true rfl⟩ rfl hl.1 (Nat.le_of_ble_eq_true rfl) ⟨Nat.le_refl _, Nat.le_refl _⟩ hP hS dX1_placeBehind_40) hS (fun H locs hP hS => ?_)
          refine lv_topi (fun x_12 ex_12 => ?_)
          replace h := un_at ex_12 h
          refine lv_istore (lv' := [(5, .int x_12), (0, .ref (adG g 14)), (1, .ref (adG g v1)), (2, .int x2), (3, .int x3), (4, .int x4), (6, .int x6)]) hx hb dX1_placeBehind_43 hl (by decide) rfl (fun ls hl => ?_)
          refine wfX1_placeBehind_j45 C v1 hv1 x2 x3 x4 x_12 x6 H locs ls h hP hS (lv_sub hl [1, 2, 3, 4, 5, 0, 6] rfl) (fun z_13 z_14 z_15 z_16 z_17 H locs ls h hP hS hl => ?_)
          exact ih z_13 z_14 z_15 z_16 z_17 H locs ls h hP hS (lv_sub hl [0, 1, 2, 3, 4, 5, 6] rfl)

set_option maxRecDepth 100000 in
set_option maxHeartbeats 4000000 in
theorem ctX1_placeBehind {l : Launch} {g : Gw} {σ : Sto} (v1 : Nat) (hv1 : isV v1) (x2 : Int32) (x3 : Int32) (x4 : Int32) {Rz : Int32} (h : fX1_placeBehind σ v1 x2 x3 x4 = some Rz) : MtG l yX1_placeBehind cX1_placeBehind 7 (some .int) 3 wkX g [.ref (adG g 14), .ref (adG g v1), .int x2, .int x3, .int x4] σ (QiS wkX g σ Rz) := by
  refine mt_of (by decide) (Nat.le_of_ble_eq_true rfl) (fun p e s m below meth c ls H locs C hP hS hl => ?_)
  have C : Cx wkX g p s m _ meth c cX1_placeBehind 7 RX1 (some .int) := C
  have hl : lv_has ls 7 [(0, .ref (adG g 14)), (1, .ref (adG g v1)), (2, .int x2), (3, .int x3), (4, .int x4)] := hl
  obtain ⟨hx, hb, hml, hown, hts, hr, hlk, hK, hZ⟩ := id C
  unfold fX1_placeBehind at h
  refine lv_aload_n hx hb dX1_placeBehind_0 rfl (lv_at hl 1 rfl) ?_
  refine r_getr C cf_8 hP (sv_0 hv1) (kv_0 hv1) 10 (by decide) rfl tw_756 dX1_placeBehind_1 ?_
  refine lv_iload_n hx hb dX1_placeBehind_4 rfl (lv_at hl 2 rfl) ?_
  obtain ⟨g_1, h⟩ := gd_inv h
  refine r_iald C hP (sv_6 hv1) (kv_6 hv1) rfl g_1 dX1_placeBehind_5 ?_
  refine lv_topi (fun x_2 ex_2 => ?_)
  replace h := un_at ex_2 h
  refine lv_istore (lv' := [(5, .int x_2), (0, .ref (adG g 14)), (1, .ref (adG g v1)), (2, .int x2), (3, .int x3), (4, .int x4)]) hx hb dX1_placeBehind_6 hl (by decide) rfl (fun ls hl => ?_)
  refine lv_iconst (v := 0) hx hb dX1_placeBehind_8 (by decide) ?_
  refine lv_istore (lv' := [(6, .int (0 : Int32)), (5, .int x_2), (0, .ref (adG g 14)), (1, .ref (adG g v1)), (2, .int x2), (3, .int x3), (4, .int x4)]) hx hb dX1_placeBehind_9 hl (by decide) rfl (fun ls hl => ?_)
  exact wfX1_placeBehind_L11 C v1 hv1 fu x2 x3 x4 x_2 (0 : Int32) H locs ls h hP hS (lv_sub hl [2, 3, 4, 5, 6, 1, 0] rfl)

set_option maxRecDepth 100000 in
set_option maxHeartbeats 4000000 in
theorem wfX1_followAll_L13 {l : Launch} {g : Gw} {p : Program} {e : Env} {s : State} {m : MethodId} {args : Array Value} {below : List Frame} {meth : Method} {c : Code} (C : Cx wkX g p s m args meth c cX1_followAll 5 RX1 none) (v1 : Nat) (hv1 : isV v1) {Rz : Sto} {k_61 : Sto → Int32 → Int32 → Option Sto} : ∀ (n : Nat) (σ : Sto) (x2 : Int32) (x3 : Int32) (x4 : Int32) (H : Heap) (locs : List Loc) (ls : Array Slot), fX1_followAll_L13 k_61 v1 n σ x2 x3 x4 = some Rz → wS wkX g σ H → va_S (AS wkX g) s.heap H locs → lv_has ls 5 [(0, .ref (adG g 14)), (1, .ref (adG g v1)), (2, .int x2), (3, .int x3), (4, .int x4)] → (∀ (σ : Sto) (x2 : Int32) (x3 : Int32) (H : Heap) (locs : List Loc) (ls : Array Slot), k_61 σ x2 x3 = some Rz → wS wkX g σ H → va_S (AS wkX g) s.heap H locs → lv_has ls 5 [(0, .ref (adG g 14)), (1, .ref (adG g v1)), (2, .int x2), (3, .int x3)] → W p l e (rmS 4) s m args below meth c H locs 0 0 (MQ below (QvS wkX g Rz) args s 0 0 (AS wkX g)) (F0 m 61 ls [])) → W p l e (rmS 4) s m args below meth c H locs 0 0 (MQ below (QvS wkX g Rz) args s 0 0 (AS wkX g)) (F0 m 13 ls []) := by
  intro n
  induction n with
  | zero =>
    intro σ x2 x3 x4 H locs ls h
    cases h
  | succ n ih =>
    intro σ x2 x3 x4 H locs ls h hP hS hl hk_61
    obtain ⟨hx, hb, hml, hown, hts, hr, hlk, hK, hZ⟩ := id C
    rw [fX1_followAll_L13] at h
    refine lv_iload hx hb dX1_followAll_13 (lv_at hl 4 rfl) ?_
    refine lv_iconst (v := 1) hx hb dX1_followAll_15 (by decide) ?_
    refine lv_aload_n hx hb dX1_followAll_16 rfl (lv_at hl 0 rfl) ?_
    refine r_geti C cf_1 hP sx_14 kx_14 7 (by decide) rfl tw_121 dX1_followAll_17 ?_
    refine lv_ishl hx hb dX1_followAll_20 ?_
    refine lv_icmp_ge (tgt := 61) hx hb dX1_followAll_21 (by decide) (fun c_ => ?_) (fun c_ => ?_)
    · replace h := if_t c_ h
      exact hk_61 σ x2 x3 H locs ls h hP hS (lv_sub hl [0, 1, 2, 3] rfl)
    · replace h := if_f c_ h
      refine lv_aload_n hx hb dX1_followAll_24 rfl (lv_at hl 0 rfl) ?_
      refine r_getr C cf_1 hP sx_14 kx_14 2 (by decide) rfl tw_116 dX1_followAll_25 ?_
      refine lv_iload_n hx hb dX1_followAll_28 rfl (lv_at hl 3 rfl) ?_
      refine lv_bipush (v := 16) hx hb dX1_followAll_29 (by decide) ?_
      refine lv_imul hx hb dX1_followAll_31 ?_
      refine lv_iload hx hb dX1_followAll_32 (lv_at hl 4 rfl) ?_
      refine lv_iadd hx hb dX1_followAll_34 ?_
      refine lv_aload_n hx hb dX1_followAll_35 rfl (lv_at hl 0 rfl) ?_
      refine lv_aload_n hx hb dX1_followAll_36 rfl (lv_at hl 1 rfl) ?_
      refine lv_iload_n hx hb dX1_followAll_37 rfl (lv_at hl 3 rfl) ?_
      refine lv_iload hx hb dX1_followAll_38 (lv_at hl 4 rfl) ?_
      refine lv_iload_n hx hb dX1_followAll_40 rfl (lv_at hl 2 rfl) ?_
      obtain ⟨q_1, hq_1, h⟩ := bd_inv h
      refine end_i (run_v (As := [.ref (adG g v1), .int x3, .int x4, .int x2]) (rest := [.int ((x3 * (16 : Int32)) + x4), .ref (adG g 17)]) C ca_X1_placeBehind (ctX1_placeBehind v1 hv1 x3 x4 x2 hq_1) cf_1 sx_14 kx_14 tw_752 ⟨Nat.le_of_ble_eq_true rfl, Nat.le_of_ble_eq_true rfl⟩ rfl hl.1 (Nat.le_of_ble_eq_true rfl) ⟨Nat.le_refl _, Nat.le_refl _⟩ hP hS dX1_followAll_41) hS (fun H locs hP hS => ?_)
      refine lv_bipush (v := 30) hx hb dX1_followAll_44 (by decide) ?_
      refine lv_icmp_lt (tgt := 53) hx hb dX1_followAll_46 (by decide) (fun c_ => ?_) (fun c_ => ?_)
      · replace h := if_t c_ h
        refine lv_iconst (v := 0) hx hb dX1_followAll_53 (by decide) ?_
        obtain ⟨g_2, h⟩ := gd_inv h
        refine r_zast C hP hS sx_17 kx_17 rfl g_2 dX1_followAll_54 (fun H locs σ_3 eσ_3 hP hS => ?_)
        replace h := un_at eσ_3 h
        obtain ⟨x_4, ex_4⟩ : ∃ y : Int32, y = x4 + (1 : Int32) := ⟨_, rfl⟩
        replace h := un_at ex_4 h
        refine lv_iinc (v := x_4) (lv' := [(4, .int x_4), (0, .ref (adG g 14)), (1, .ref (adG g v1)), (2, .int x2), (3, .int x3)]) hx hb dX1_followAll_55 hl (k := 4) rfl (by rw [ex_4]; rfl) (by decide) rfl (fun ls hl => ?_)
        refine lv_goto (tgt := 13) hx hb dX1_followAll_58 (by decide) ?_
        exact ih σ_3 x2 x3 x_4 H locs ls h hP hS (lv_sub hl [1, 2, 3, 4, 0] rfl) hk_61
      · replace h := if_f c_ h
        refine lv_iconst (v := 1) hx hb dX1_followAll_49 (by decide) ?_
        refine lv_goto (tgt := 54) hx hb dX1_followAll_50 (by decide) ?_
        obtain ⟨g_5, h⟩ := gd_inv h
        refine r_zast C hP hS sx_17 kx_17 rfl g_5 dX1_followAll_54 (fun H locs σ_6 eσ_6 hP hS => ?_)
        replace h := un_at eσ_6 h
        obtain ⟨x_7, ex_7⟩ : ∃ y : Int32, y = x4 + (1 : Int32) := ⟨_, rfl⟩
        replace h := un_at ex_7 h
        refine lv_iinc (v := x_7) (lv' := [(4, .int x_7), (0, .ref (adG g 14)), (1, .ref (adG g v1)), (2, .int x2), (3, .int x3)]) hx hb dX1_followAll_55 hl (k := 4) rfl (by rw [ex_7]; rfl) (by decide) rfl (fun ls hl => ?_)
        refine lv_goto (tgt := 13) hx hb dX1_followAll_58 (by decide) ?_
        exact ih σ_6 x2 x3 x_7 H locs ls h hP hS (lv_sub hl [1, 2, 3, 4, 0] rfl) hk_61

set_option maxRecDepth 100000 in
set_option maxHeartbeats 4000000 in
theorem wfX1_followAll_L2 {l : Launch} {g : Gw} {p : Program} {e : Env} {s : State} {m : MethodId} {args : Array Value} {below : List Frame} {meth : Method} {c : Code} (C : Cx wkX g p s m args meth c cX1_followAll 5 RX1 none) (v1 : Nat) (hv1 : isV v1) {Rz : Sto} : ∀ (n : Nat) (σ : Sto) (x2 : Int32) (x3 : Int32) (H : Heap) (locs : List Loc) (ls : Array Slot), fX1_followAll_L2 v1 n σ x2 x3 = some Rz → wS wkX g σ H → va_S (AS wkX g) s.heap H locs → lv_has ls 5 [(0, .ref (adG g 14)), (1, .ref (adG g v1)), (2, .int x2), (3, .int x3)] → W p l e (rmS 4) s m args below meth c H locs 0 0 (MQ below (QvS wkX g Rz) args s 0 0 (AS wkX g)) (F0 m 2 ls []) := by
  intro n
  induction n with
  | zero =>
    intro σ x2 x3 H locs ls h
    cases h
  | succ n ih =>
    intro σ x2 x3 H locs ls h hP hS hl
    obtain ⟨hx, hb, hml, hown, hts, hr, hlk, hK, hZ⟩ := id C
    rw [fX1_followAll_L2] at h
    refine lv_iload_n hx hb dX1_followAll_2 rfl (lv_at hl 3 rfl) ?_
    refine lv_aload_n hx hb dX1_followAll_3 rfl (lv_at hl 0 rfl) ?_
    refine r_geti C cf_1 hP sx_14 kx_14 6 (by decide) rfl tw_120 dX1_followAll_4 ?_
    refine lv_icmp_ge (tgt := 67) hx hb dX1_followAll_7 (by decide) (fun c_ => ?_) (fun c_ => ?_)
    · replace h := if_t c_ h
      exact r_retv C hP hS (rt_o h) dX1_followAll_67
    · replace h := if_f c_ h
      refine lv_iconst (v := 0) hx hb dX1_followAll_10 (by decide) ?_
      refine lv_istore (lv' := [(4, .int (0 : Int32)), (0, .ref (adG g 14)), (1, .ref (adG g v1)), (2, .int x2), (3, .int x3)]) hx hb dX1_followAll_11 hl (by decide) rfl (fun ls hl => ?_)
      refine wfX1_followAll_L13 C v1 hv1 fu σ x2 x3 (0 : Int32) H locs ls h hP hS (lv_sub hl [1, 2, 3, 4, 0] rfl) (fun σ_1 z_2 z_3 H locs ls h hP hS hl => ?_)
      obtain ⟨x_4, ex_4⟩ : ∃ y : Int32, y = z_3 + (1 : Int32) := ⟨_, rfl⟩
      replace h := un_at ex_4 h
      refine lv_iinc (v := x_4) (lv' := [(3, .int x_4), (0, .ref (adG g 14)), (1, .ref (adG g v1)), (2, .int z_2)]) hx hb dX1_followAll_61 hl (k := 3) rfl (by rw [ex_4]; rfl) (by decide) rfl (fun ls hl => ?_)
      refine lv_goto (tgt := 2) hx hb dX1_followAll_64 (by decide) ?_
      exact ih σ_1 z_2 x_4 H locs ls h hP hS (lv_sub hl [1, 2, 3, 0] rfl)

set_option maxRecDepth 100000 in
set_option maxHeartbeats 4000000 in
theorem ctX1_followAll {l : Launch} {g : Gw} {σ : Sto} (v1 : Nat) (hv1 : isV v1) (x2 : Int32) {Rz : Sto} (h : fX1_followAll σ v1 x2 = some Rz) : MtG l yX1_followAll cX1_followAll 5 none 4 wkX g [.ref (adG g 14), .ref (adG g v1), .int x2] σ (QvS wkX g Rz) := by
  refine mt_of (by decide) (Nat.le_of_ble_eq_true rfl) (fun p e s m below meth c ls H locs C hP hS hl => ?_)
  have C : Cx wkX g p s m _ meth c cX1_followAll 5 RX1 none := C
  have hl : lv_has ls 5 [(0, .ref (adG g 14)), (1, .ref (adG g v1)), (2, .int x2)] := hl
  obtain ⟨hx, hb, hml, hown, hts, hr, hlk, hK, hZ⟩ := id C
  unfold fX1_followAll at h
  refine lv_iconst (v := 0) hx hb dX1_followAll_0 (by decide) ?_
  refine lv_istore_n (lv' := [(3, .int (0 : Int32)), (0, .ref (adG g 14)), (1, .ref (adG g v1)), (2, .int x2)]) hx hb dX1_followAll_1 rfl hl (by decide) rfl (fun ls hl => ?_)
  exact wfX1_followAll_L2 C v1 hv1 fu σ x2 (0 : Int32) H locs ls h hP hS (lv_sub hl [1, 2, 3, 0] rfl)

set_option maxRecDepth 100000 in
set_option maxHeartbeats 4000000 in
theorem wfX1_weigh_L4 {l : Launch} {g : Gw} {p : Program} {e : Env} {s : State} {m : MethodId} {args : Array Value} {below : List Frame} {meth : Method} {c : Code} (C : Cx wkX g p s m args meth c cX1_weigh 3 RX1 none) {Rz : Sto} {k_45 : Sto → Int32 → Option Sto} : ∀ (n : Nat) (σ : Sto) (x1 : Int32) (x2 : Int32) (H : Heap) (locs : List Loc) (ls : Array Slot), fX1_weigh_L4 k_45 n σ x1 x2 = some Rz → wS wkX g σ H → va_S (AS wkX g) s.heap H locs → lv_has ls 3 [(0, .ref (adG g 14)), (1, .int x1), (2, .int x2)] → (∀ (σ : Sto) (x1 : Int32) (H : Heap) (locs : List Loc) (ls : Array Slot), k_45 σ x1 = some Rz → wS wkX g σ H → va_S (AS wkX g) s.heap H locs → lv_has ls 3 [(0, .ref (adG g 14)), (1, .int x1)] → W p l e (rmS 2) s m args below meth c H locs 0 0 (MQ below (QvS wkX g Rz) args s 0 0 (AS wkX g)) (F0 m 45 ls [])) → W p l e (rmS 2) s m args below meth c H locs 0 0 (MQ below (QvS wkX g Rz) args s 0 0 (AS wkX g)) (F0 m 4 ls []) := by
  intro n
  induction n with
  | zero =>
    intro σ x1 x2 H locs ls h
    cases h
  | succ n ih =>
    intro σ x1 x2 H locs ls h hP hS hl hk_45
    obtain ⟨hx, hb, hml, hown, hts, hr, hlk, hK, hZ⟩ := id C
    rw [fX1_weigh_L4] at h
    refine lv_iload_n hx hb dX1_weigh_4 rfl (lv_at hl 2 rfl) ?_
    refine lv_aload_n hx hb dX1_weigh_5 rfl (lv_at hl 0 rfl) ?_
    refine r_geti C cf_1 hP sx_14 kx_14 6 (by decide) rfl tw_120 dX1_weigh_6 ?_
    refine lv_icmp_ge (tgt := 45) hx hb dX1_weigh_9 (by decide) (fun c_ => ?_) (fun c_ => ?_)
    · replace h := if_t c_ h
      exact hk_45 σ x1 H locs ls h hP hS (lv_sub hl [0, 1] rfl)
    · replace h := if_f c_ h
      refine lv_iload_n hx hb dX1_weigh_12 rfl (lv_at hl 1 rfl) ?_
      refine lv_aload_n hx hb dX1_weigh_13 rfl (lv_at hl 0 rfl) ?_
      refine r_getr C cf_1 hP sx_14 kx_14 2 (by decide) rfl tw_116 dX1_weigh_14 ?_
      refine lv_iload_n hx hb dX1_weigh_17 rfl (lv_at hl 2 rfl) ?_
      refine lv_bipush (v := 16) hx hb dX1_weigh_18 (by decide) ?_
      refine lv_imul hx hb dX1_weigh_20 ?_
      refine lv_aload_n hx hb dX1_weigh_21 rfl (lv_at hl 0 rfl) ?_
      refine r_getr C cf_1 hP sx_14 kx_14 5 (by decide) rfl tw_119 dX1_weigh_22 ?_
      refine lv_iload_n hx hb dX1_weigh_25 rfl (lv_at hl 2 rfl) ?_
      obtain ⟨g_1, h⟩ := gd_inv h
      refine r_iald C hP sx_20 kx_20 rfl g_1 dX1_weigh_26 ?_
      refine lv_iadd hx hb dX1_weigh_27 ?_
      obtain ⟨g_2, h⟩ := gd_inv h
      refine r_zald C hP sx_17 kx_17 rfl g_2 dX1_weigh_28 ?_
      refine lv_if_eq (tgt := 36) hx hb dX1_weigh_29 (by decide) (fun c_ => ?_) (fun c_ => ?_)
      · replace h := if_t c_ h
        refine lv_iconst (v := 0) hx hb dX1_weigh_36 (by decide) ?_
        refine lv_iadd hx hb dX1_weigh_37 ?_
        refine lv_topi (fun x_3 ex_3 => ?_)
        replace h := un_at ex_3 h
        refine lv_istore_n (lv' := [(1, .int x_3), (0, .ref (adG g 14)), (2, .int x2)]) hx hb dX1_weigh_38 rfl hl (by decide) rfl (fun ls hl => ?_)
        obtain ⟨x_4, ex_4⟩ : ∃ y : Int32, y = x2 + (1 : Int32) := ⟨_, rfl⟩
        replace h := un_at ex_4 h
        refine lv_iinc (v := x_4) (lv' := [(2, .int x_4), (1, .int x_3), (0, .ref (adG g 14))]) hx hb dX1_weigh_39 hl (k := 2) rfl (by rw [ex_4]; rfl) (by decide) rfl (fun ls hl => ?_)
        refine lv_goto (tgt := 4) hx hb dX1_weigh_42 (by decide) ?_
        exact ih σ x_3 x_4 H locs ls h hP hS (lv_sub hl [2, 1, 0] rfl) hk_45
      · replace h := if_f c_ h
        refine lv_iconst (v := 1) hx hb dX1_weigh_32 (by decide) ?_
        refine lv_goto (tgt := 37) hx hb dX1_weigh_33 (by decide) ?_
        refine lv_iadd hx hb dX1_weigh_37 ?_
        refine lv_topi (fun x_5 ex_5 => ?_)
        replace h := un_at ex_5 h
        refine lv_istore_n (lv' := [(1, .int x_5), (0, .ref (adG g 14)), (2, .int x2)]) hx hb dX1_weigh_38 rfl hl (by decide) rfl (fun ls hl => ?_)
        obtain ⟨x_6, ex_6⟩ : ∃ y : Int32, y = x2 + (1 : Int32) := ⟨_, rfl⟩
        replace h := un_at ex_6 h
        refine lv_iinc (v := x_6) (lv' := [(2, .int x_6), (1, .int x_5), (0, .ref (adG g 14))]) hx hb dX1_weigh_39 hl (k := 2) rfl (by rw [ex_6]; rfl) (by decide) rfl (fun ls hl => ?_)
        refine lv_goto (tgt := 4) hx hb dX1_weigh_42 (by decide) ?_
        exact ih σ x_5 x_6 H locs ls h hP hS (lv_sub hl [2, 1, 0] rfl) hk_45

set_option maxRecDepth 100000 in
set_option maxHeartbeats 4000000 in
theorem ctX1_weigh {l : Launch} {g : Gw} {σ : Sto} {Rz : Sto} (h : fX1_weigh σ = some Rz) : MtG l yX1_weigh cX1_weigh 3 none 2 wkX g [.ref (adG g 14)] σ (QvS wkX g Rz) := by
  refine mt_of (by decide) (Nat.le_of_ble_eq_true rfl) (fun p e s m below meth c ls H locs C hP hS hl => ?_)
  have C : Cx wkX g p s m _ meth c cX1_weigh 3 RX1 none := C
  have hl : lv_has ls 3 [(0, .ref (adG g 14))] := hl
  obtain ⟨hx, hb, hml, hown, hts, hr, hlk, hK, hZ⟩ := id C
  unfold fX1_weigh at h
  refine lv_iconst (v := 0) hx hb dX1_weigh_0 (by decide) ?_
  refine lv_istore_n (lv' := [(1, .int (0 : Int32)), (0, .ref (adG g 14))]) hx hb dX1_weigh_1 rfl hl (by decide) rfl (fun ls hl => ?_)
  refine lv_iconst (v := 0) hx hb dX1_weigh_2 (by decide) ?_
  refine lv_istore_n (lv' := [(2, .int (0 : Int32)), (1, .int (0 : Int32)), (0, .ref (adG g 14))]) hx hb dX1_weigh_3 rfl hl (by decide) rfl (fun ls hl => ?_)
  refine wfX1_weigh_L4 C fu σ (0 : Int32) (0 : Int32) H locs ls h hP hS (lv_sub hl [2, 1, 0] rfl) (fun σ_1 z_2 H locs ls h hP hS hl => ?_)
  refine lv_iload_n hx hb dX1_weigh_45 rfl (lv_at hl 1 rfl) ?_
  refine lv_aload_n hx hb dX1_weigh_46 rfl (lv_at hl 0 rfl) ?_
  refine r_geti C cf_1 hP sx_14 kx_14 0 (by decide) rfl tw_112 dX1_weigh_47 ?_
  refine lv_icmp_ge (tgt := 75) hx hb dX1_weigh_50 (by decide) (fun c_ => ?_) (fun c_ => ?_)
  · replace h := if_t c_ h
    exact r_retv C hP hS (rt_o h) dX1_weigh_75
  · replace h := if_f c_ h
    refine lv_aload_n hx hb dX1_weigh_53 rfl (lv_at hl 0 rfl) ?_
    refine lv_iload_n hx hb dX1_weigh_54 rfl (lv_at hl 1 rfl) ?_
    refine r_puti C cf_1 hP hS sx_14 kx_14 0 (by decide) rfl rfl rfl tw_112 dX1_weigh_55 (fun H locs σ_3 eσ_3 hP hS => ?_)
    replace h := un_at eσ_3 h
    refine lv_aload_n hx hb dX1_weigh_58 rfl (lv_at hl 0 rfl) ?_
    refine r_getr C cf_1 hP sx_14 kx_14 3 (by decide) rfl tw_117 dX1_weigh_59 ?_
    refine lv_iconst (v := 0) hx hb dX1_weigh_62 (by decide) ?_
    refine lv_aload_n hx hb dX1_weigh_63 rfl (lv_at hl 0 rfl) ?_
    refine r_getr C cf_1 hP sx_14 kx_14 4 (by decide) rfl tw_118 dX1_weigh_64 ?_
    refine lv_iconst (v := 0) hx hb dX1_weigh_67 (by decide) ?_
    refine lv_aload_n hx hb dX1_weigh_68 rfl (lv_at hl 0 rfl) ?_
    refine r_geti C cf_1 hP sx_14 kx_14 7 (by decide) rfl tw_121 dX1_weigh_69 ?_
    obtain ⟨g_4, h⟩ := gd_inv h
    refine r_copy (sq := 0) (dq := 0) C hl.1 tw_767 tw_246 tw_247 tw_248 hP hS sx_18 kx_18 sx_19 kx_19 g_4 (by decide) (by decide) rfl ⟨Nat.le_of_ble_eq_true rfl, Nat.le_of_ble_eq_true rfl⟩ dX1_weigh_72 (fun H locs σ_5 eσ_5 hP hS => ?_)
    replace h := un_at eσ_5 h
    exact r_retv C hP hS (rt_o h) dX1_weigh_75

set_option maxRecDepth 100000 in
set_option maxHeartbeats 4000000 in
theorem wfX1_tryFrom_L15 {l : Launch} {g : Gw} {p : Program} {e : Env} {s : State} {m : MethodId} {args : Array Value} {below : List Frame} {meth : Method} {c : Code} (C : Cx wkX g p s m args meth c cX1_tryFrom 3 RX1 none) {rc : Sto → Int32 → Option Sto} (rh : Nat) (hrc : ∀ (σ : Sto) (x1 : Int32) (Rz : Sto), rc σ x1 = some Rz → MtG l yX1_tryFrom cX1_tryFrom 3 none rh wkX g [.ref (adG g 14), .int x1] σ (QvS wkX g Rz)) {Rz : Sto} {k_69 : Sto → Int32 → Option Sto} : ∀ (n : Nat) (σ : Sto) (x1 : Int32) (x2 : Int32) (H : Heap) (locs : List Loc) (ls : Array Slot), fX1_tryFrom_L15 rc k_69 n σ x1 x2 = some Rz → wS wkX g σ H → va_S (AS wkX g) s.heap H locs → lv_has ls 3 [(0, .ref (adG g 14)), (1, .int x1), (2, .int x2)] → (∀ (σ : Sto) (x1 : Int32) (H : Heap) (locs : List Loc) (ls : Array Slot), k_69 σ x1 = some Rz → wS wkX g σ H → va_S (AS wkX g) s.heap H locs → lv_has ls 3 [(0, .ref (adG g 14)), (1, .int x1)] → W p l e (rmS (rh + 3)) s m args below meth c H locs 0 0 (MQ below (QvS wkX g Rz) args s 0 0 (AS wkX g)) (F0 m 69 ls [])) → W p l e (rmS (rh + 3)) s m args below meth c H locs 0 0 (MQ below (QvS wkX g Rz) args s 0 0 (AS wkX g)) (F0 m 15 ls []) := by
  intro n
  induction n with
  | zero =>
    intro σ x1 x2 H locs ls h
    cases h
  | succ n ih =>
    intro σ x1 x2 H locs ls h hP hS hl hk_69
    obtain ⟨hx, hb, hml, hown, hts, hr, hlk, hK, hZ⟩ := id C
    rw [fX1_tryFrom_L15] at h
    refine lv_iload_n hx hb dX1_tryFrom_15 rfl (lv_at hl 2 rfl) ?_
    refine lv_aload_n hx hb dX1_tryFrom_16 rfl (lv_at hl 0 rfl) ?_
    refine r_geti C cf_1 hP sx_14 kx_14 6 (by decide) rfl tw_120 dX1_tryFrom_17 ?_
    refine lv_icmp_ge (tgt := 69) hx hb dX1_tryFrom_20 (by decide) (fun c_ => ?_) (fun c_ => ?_)
    · replace h := if_t c_ h
      exact hk_69 σ x1 H locs ls h hP hS (lv_sub hl [0, 1] rfl)
    · replace h := if_f c_ h
      refine lv_aload_n hx hb dX1_tryFrom_23 rfl (lv_at hl 0 rfl) ?_
      refine r_getr C cf_1 hP sx_14 kx_14 3 (by decide) rfl tw_117 dX1_tryFrom_24 ?_
      refine lv_iload_n hx hb dX1_tryFrom_27 rfl (lv_at hl 1 rfl) ?_
      refine lv_iload_n hx hb dX1_tryFrom_28 rfl (lv_at hl 2 rfl) ?_
      obtain ⟨g_1, h⟩ := gd_inv h
      refine r_iast C hP hS sx_18 kx_18 rfl g_1 dX1_tryFrom_29 (fun H locs σ_2 eσ_2 hP hS => ?_)
      replace h := un_at eσ_2 h
      refine lv_aload_n hx hb dX1_tryFrom_30 rfl (lv_at hl 0 rfl) ?_
      refine r_getr C cf_1 hP sx_14 kx_14 5 (by decide) rfl tw_119 dX1_tryFrom_31 ?_
      refine lv_iload_n hx hb dX1_tryFrom_34 rfl (lv_at hl 2 rfl) ?_
      refine lv_dup2_11 hx hb dX1_tryFrom_35 rfl rfl ?_
      obtain ⟨g_3, h⟩ := gd_inv h
      refine r_iald C hP sx_20 kx_20 rfl g_3 dX1_tryFrom_36 ?_
      refine lv_iconst (v := 1) hx hb dX1_tryFrom_37 (by decide) ?_
      refine lv_iload_n hx hb dX1_tryFrom_38 rfl (lv_at hl 1 rfl) ?_
      refine lv_ishl hx hb dX1_tryFrom_39 ?_
      refine lv_ior hx hb dX1_tryFrom_40 ?_
      refine r_iast C hP hS sx_20 kx_20 rfl g_3 dX1_tryFrom_41 (fun H locs σ_4 eσ_4 hP hS => ?_)
      replace h := un_at eσ_4 h
      refine lv_aload_n hx hb dX1_tryFrom_42 rfl (lv_at hl 0 rfl) ?_
      refine lv_iload_n hx hb dX1_tryFrom_43 rfl (lv_at hl 1 rfl) ?_
      refine lv_iconst (v := 1) hx hb dX1_tryFrom_44 (by decide) ?_
      refine lv_iadd hx hb dX1_tryFrom_45 ?_
      obtain ⟨q_5, hq_5, h⟩ := bd_inv h
      refine end_v (run_v (As := [.int (x1 + (1 : Int32))]) (rest := []) C ca_X1_tryFrom (hrc σ_4 (x1 + (1 : Int32)) _ hq_5) cf_1 sx_14 kx_14 tw_759 ⟨by show _ ≤ (rh + 3); omega, by show _ ≤ 40 * (rh + 3); omega⟩ rfl hl.1 (Nat.le_of_ble_eq_true rfl) ⟨Nat.le_refl _, Nat.le_refl _⟩ hP hS dX1_tryFrom_46) hS (fun H locs hP hS => ?_)
      refine lv_aload_n hx hb dX1_tryFrom_49 rfl (lv_at hl 0 rfl) ?_
      refine r_getr C cf_1 hP sx_14 kx_14 5 (by decide) rfl tw_119 dX1_tryFrom_50 ?_
      refine lv_iload_n hx hb dX1_tryFrom_53 rfl (lv_at hl 2 rfl) ?_
      refine lv_dup2_11 hx hb dX1_tryFrom_54 rfl rfl ?_
      refine r_iald C hP sx_20 kx_20 rfl g_3 dX1_tryFrom_55 ?_
      refine lv_iconst (v := 1) hx hb dX1_tryFrom_56 (by decide) ?_
      refine lv_iload_n hx hb dX1_tryFrom_57 rfl (lv_at hl 1 rfl) ?_
      refine lv_ishl hx hb dX1_tryFrom_58 ?_
      refine lv_iconst (v := (-1)) hx hb dX1_tryFrom_59 (by decide) ?_
      refine lv_ixor hx hb dX1_tryFrom_60 ?_
      refine lv_iand hx hb dX1_tryFrom_61 ?_
      refine r_iast C hP hS sx_20 kx_20 rfl g_3 dX1_tryFrom_62 (fun H locs σ_6 eσ_6 hP hS => ?_)
      replace h := un_at eσ_6 h
      obtain ⟨x_7, ex_7⟩ : ∃ y : Int32, y = x2 + (1 : Int32) := ⟨_, rfl⟩
      replace h := un_at ex_7 h
      refine lv_iinc (v := x_7) (lv' := [(2, .int x_7), (0, .ref (adG g 14)), (1, .int x1)]) hx hb dX1_tryFrom_63 hl (k := 2) rfl (by rw [ex_7]; rfl) (by decide) rfl (fun ls hl => ?_)
      refine lv_goto (tgt := 15) hx hb dX1_tryFrom_66 (by decide) ?_
      exact ih σ_6 x1 x_7 H locs ls h hP hS (lv_sub hl [1, 2, 0] rfl) hk_69

set_option maxRecDepth 100000 in
set_option maxHeartbeats 4000000 in
theorem ctX1_tryFrom {l : Launch} {g : Gw} {σ : Sto} {rc : Sto → Int32 → Option Sto} (rh : Nat) (hrc : ∀ (σ : Sto) (x1 : Int32) (Rz : Sto), rc σ x1 = some Rz → MtG l yX1_tryFrom cX1_tryFrom 3 none rh wkX g [.ref (adG g 14), .int x1] σ (QvS wkX g Rz)) (x1 : Int32) {Rz : Sto} (h : fX1_tryFrom rc σ x1 = some Rz) : MtG l yX1_tryFrom cX1_tryFrom 3 none (rh + 3) wkX g [.ref (adG g 14), .int x1] σ (QvS wkX g Rz) := by
  refine mt_of (by decide) (Nat.le_of_ble_eq_true rfl) (fun p e s m below meth c ls H locs C hP hS hl => ?_)
  have C : Cx wkX g p s m _ meth c cX1_tryFrom 3 RX1 none := C
  have hl : lv_has ls 3 [(0, .ref (adG g 14)), (1, .int x1)] := hl
  obtain ⟨hx, hb, hml, hown, hts, hr, hlk, hK, hZ⟩ := id C
  unfold fX1_tryFrom at h
  refine lv_iload_n hx hb dX1_tryFrom_0 rfl (lv_at hl 1 rfl) ?_
  refine lv_aload_n hx hb dX1_tryFrom_1 rfl (lv_at hl 0 rfl) ?_
  refine r_geti C cf_1 hP sx_14 kx_14 7 (by decide) rfl tw_121 dX1_tryFrom_2 ?_
  refine lv_icmp_lt (tgt := 13) hx hb dX1_tryFrom_5 (by decide) (fun c_ => ?_) (fun c_ => ?_)
  · replace h := if_t c_ h
    refine lv_iconst (v := 0) hx hb dX1_tryFrom_13 (by decide) ?_
    refine lv_istore_n (lv' := [(2, .int (0 : Int32)), (0, .ref (adG g 14)), (1, .int x1)]) hx hb dX1_tryFrom_14 rfl hl (by decide) rfl (fun ls hl => ?_)
    refine wfX1_tryFrom_L15 C rh hrc fu σ x1 (0 : Int32) H locs ls h hP hS (lv_sub hl [1, 2, 0] rfl) (fun σ_1 z_2 H locs ls h hP hS hl => ?_)
    refine lv_aload_n hx hb dX1_tryFrom_69 rfl (lv_at hl 0 rfl) ?_
    refine r_getr C cf_1 hP sx_14 kx_14 3 (by decide) rfl tw_117 dX1_tryFrom_70 ?_
    refine lv_iload_n hx hb dX1_tryFrom_73 rfl (lv_at hl 1 rfl) ?_
    refine lv_aload_n hx hb dX1_tryFrom_74 rfl (lv_at hl 0 rfl) ?_
    refine r_geti C cf_1 hP sx_14 kx_14 6 (by decide) rfl tw_120 dX1_tryFrom_75 ?_
    obtain ⟨g_3, h⟩ := gd_inv h
    refine r_iast C hP hS sx_18 kx_18 rfl g_3 dX1_tryFrom_78 (fun H locs σ_4 eσ_4 hP hS => ?_)
    replace h := un_at eσ_4 h
    refine lv_aload_n hx hb dX1_tryFrom_79 rfl (lv_at hl 0 rfl) ?_
    refine lv_iload_n hx hb dX1_tryFrom_80 rfl (lv_at hl 1 rfl) ?_
    refine lv_iconst (v := 1) hx hb dX1_tryFrom_81 (by decide) ?_
    refine lv_iadd hx hb dX1_tryFrom_82 ?_
    obtain ⟨q_5, hq_5, h⟩ := bd_inv h
    refine end_v (run_v (As := [.int (z_2 + (1 : Int32))]) (rest := []) C ca_X1_tryFrom (hrc σ_4 (z_2 + (1 : Int32)) _ hq_5) cf_1 sx_14 kx_14 tw_759 ⟨by show _ ≤ (rh + 3); omega, by show _ ≤ 40 * (rh + 3); omega⟩ rfl hl.1 (Nat.le_of_ble_eq_true rfl) ⟨Nat.le_refl _, Nat.le_refl _⟩ hP hS dX1_tryFrom_83) hS (fun H locs hP hS => ?_)
    exact r_retv C hP hS (rt_o h) dX1_tryFrom_86
  · replace h := if_f c_ h
    refine lv_aload_n hx hb dX1_tryFrom_8 rfl (lv_at hl 0 rfl) ?_
    obtain ⟨q_6, hq_6, h⟩ := bd_inv h
    refine end_v (run_v (As := []) (rest := []) C ca_X1_weigh (ctX1_weigh hq_6) cf_1 sx_14 kx_14 tw_763 ⟨by show _ ≤ (rh + 3); omega, by show _ ≤ 40 * (rh + 3); omega⟩ rfl hl.1 (Nat.le_of_ble_eq_true rfl) ⟨Nat.le_refl _, Nat.le_refl _⟩ hP hS dX1_tryFrom_9) hS (fun H locs hP hS => ?_)
    exact r_retv C hP hS (rt_o h) dX1_tryFrom_12

theorem ctX1_tryFromD {l : Launch} {g : Gw} : ∀ (n : Nat) (σ : Sto) (x1 : Int32) (Rz : Sto), fX1_tryFromD n σ x1 = some Rz → MtG l yX1_tryFrom cX1_tryFrom 3 none (3 * n) wkX g [.ref (adG g 14), .int x1] σ (QvS wkX g Rz)
  | 0, _, _, _, h => by cases h
  | n + 1, σ, x1, _, h => by
    rw [fX1_tryFromD] at h
    have q := ctX1_tryFrom (l := l) (g := g) (3 * n) (ctX1_tryFromD n) x1 h
    rw [show 3 * (n + 1) = 3 * n + 3 by omega]
    exact q
theorem ctX1_tryFromR {l : Launch} {g : Gw} {σ : Sto} (x1 : Int32) {Rz : Sto} (h : fX1_tryFromR σ x1 = some Rz) : MtG l yX1_tryFrom cX1_tryFrom 3 none 18 wkX g [.ref (adG g 14), .int x1] σ (QvS wkX g Rz) := ctX1_tryFromD 6 σ x1 Rz h

set_option maxRecDepth 100000 in
set_option maxHeartbeats 4000000 in
theorem ctX1_search {l : Launch} {g : Gw} {σ : Sto} (v1 : Nat) (hv1 : isV v1) (x2 : Int32) (x3 : Int32) {Rz : Sto} (h : fX1_search σ v1 x2 x3 = some Rz) : MtG l yX1_search cX1_search 4 none 19 wkX g [.ref (adG g 14), .ref (adG g v1), .int x2, .int x3] σ (QvS wkX g Rz) := by
  refine mt_of (by decide) (Nat.le_of_ble_eq_true rfl) (fun p e s m below meth c ls H locs C hP hS hl => ?_)
  have C : Cx wkX g p s m _ meth c cX1_search 4 RX1 none := C
  have hl : lv_has ls 4 [(0, .ref (adG g 14)), (1, .ref (adG g v1)), (2, .int x2), (3, .int x3)] := hl
  obtain ⟨hx, hb, hml, hown, hts, hr, hlk, hK, hZ⟩ := id C
  unfold fX1_search at h
  refine lv_aload_n hx hb dX1_search_0 rfl (lv_at hl 0 rfl) ?_
  refine lv_aload_n hx hb dX1_search_1 rfl (lv_at hl 1 rfl) ?_
  refine r_geti C cf_8 hP (sv_0 hv1) (kv_0 hv1) 1 (by decide) rfl tw_745 dX1_search_2 ?_
  refine r_puti C cf_1 hP hS sx_14 kx_14 6 (by decide) rfl rfl rfl tw_120 dX1_search_5 (fun H locs σ_1 eσ_1 hP hS => ?_)
  replace h := un_at eσ_1 h
  refine lv_aload_n hx hb dX1_search_8 rfl (lv_at hl 0 rfl) ?_
  refine lv_iload_n hx hb dX1_search_9 rfl (lv_at hl 2 rfl) ?_
  refine lv_iconst (v := 4) hx hb dX1_search_10 (by decide) ?_
  refine r_min C hl.1 tw_746 tw_460 tw_105 tw_461 ⟨Nat.le_of_ble_eq_true rfl, Nat.le_of_ble_eq_true rfl⟩ (Nat.le_refl _) (Nat.le_refl _) dX1_search_11 ?_
  refine r_puti C cf_1 hP hS sx_14 kx_14 7 (by decide) rfl rfl rfl tw_121 dX1_search_14 (fun H locs σ_2 eσ_2 hP hS => ?_)
  replace h := un_at eσ_2 h
  refine lv_aload_n hx hb dX1_search_17 rfl (lv_at hl 0 rfl) ?_
  refine r_getr C cf_1 hP sx_14 kx_14 1 (by decide) rfl tw_114 dX1_search_18 ?_
  refine lv_aload_n hx hb dX1_search_21 rfl (lv_at hl 1 rfl) ?_
  refine lv_aload_n hx hb dX1_search_22 rfl (lv_at hl 0 rfl) ?_
  refine r_geti C cf_1 hP sx_14 kx_14 7 (by decide) rfl tw_121 dX1_search_23 ?_
  refine lv_iload_n hx hb dX1_search_26 rfl (lv_at hl 3 rfl) ?_
  refine lv_iadd hx hb dX1_search_27 ?_
  obtain ⟨q_3, hq_3, h⟩ := bd_inv h
  refine end_v (run_v (As := [.ref (adG g v1), .int ((σ_2 14 7) + x3)]) (rest := []) C ca_X2_tell (ctX2_tell 15 if_15 v1 hv1 ((σ_2 14 7) + x3) hq_3) cf_2 (sf_0 if_15) (kf_0 if_15) tw_747 ⟨Nat.le_of_ble_eq_true rfl, Nat.le_of_ble_eq_true rfl⟩ rfl hl.1 (Nat.le_of_ble_eq_true rfl) ⟨Nat.le_refl _, Nat.le_refl _⟩ hP hS dX1_search_28) hS (fun H locs hP hS => ?_)
  refine lv_aload_n hx hb dX1_search_31 rfl (lv_at hl 0 rfl) ?_
  refine lv_aload_n hx hb dX1_search_32 rfl (lv_at hl 1 rfl) ?_
  refine lv_aload_n hx hb dX1_search_33 rfl (lv_at hl 0 rfl) ?_
  refine r_geti C cf_1 hP sx_14 kx_14 7 (by decide) rfl tw_121 dX1_search_34 ?_
  refine lv_iload_n hx hb dX1_search_37 rfl (lv_at hl 3 rfl) ?_
  refine lv_iadd hx hb dX1_search_38 ?_
  obtain ⟨q_4, hq_4, h⟩ := bd_inv h
  refine end_v (run_v (As := [.ref (adG g v1), .int ((q_3 14 7) + x3)]) (rest := []) C ca_X1_followAll (ctX1_followAll v1 hv1 ((q_3 14 7) + x3) hq_4) cf_1 sx_14 kx_14 tw_748 ⟨Nat.le_of_ble_eq_true rfl, Nat.le_of_ble_eq_true rfl⟩ rfl hl.1 (Nat.le_of_ble_eq_true rfl) ⟨Nat.le_refl _, Nat.le_refl _⟩ hP hS dX1_search_39) hS (fun H locs hP hS => ?_)
  refine lv_aload_n hx hb dX1_search_42 rfl (lv_at hl 0 rfl) ?_
  refine lv_bipush (v := 7) hx hb dX1_search_43 (by decide) ?_
  refine r_puti C cf_1 hP hS sx_14 kx_14 0 (by decide) rfl rfl rfl tw_112 dX1_search_45 (fun H locs σ_5 eσ_5 hP hS => ?_)
  replace h := un_at eσ_5 h
  refine lv_aload_n hx hb dX1_search_48 rfl (lv_at hl 0 rfl) ?_
  refine lv_iconst (v := 0) hx hb dX1_search_49 (by decide) ?_
  obtain ⟨q_6, hq_6, h⟩ := bd_inv h
  refine end_v (run_v (As := [.int (0 : Int32)]) (rest := []) C ca_X1_tryFrom (ctX1_tryFromR (0 : Int32) hq_6) cf_1 sx_14 kx_14 tw_759 ⟨Nat.le_of_ble_eq_true rfl, Nat.le_of_ble_eq_true rfl⟩ rfl hl.1 (Nat.le_of_ble_eq_true rfl) ⟨Nat.le_refl _, Nat.le_refl _⟩ hP hS dX1_search_50) hS (fun H locs hP hS => ?_)
  exact r_retv C hP hS (rt_o h) dX1_search_53

set_option maxRecDepth 100000 in
set_option maxHeartbeats 4000000 in
theorem ctX1_choiceAt {l : Launch} {g : Gw} {σ : Sto} (x1 : Int32) {Rz : Int32} (h : fX1_choiceAt σ x1 = some Rz) : MtG l yX1_choiceAt cX1_choiceAt 2 (some .int) 0 wkX g [.ref (adG g 14), .int x1] σ (QiS wkX g σ Rz) := by
  refine mt_of (by decide) (Nat.le_of_ble_eq_true rfl) (fun p e s m below meth c ls H locs C hP hS hl => ?_)
  have C : Cx wkX g p s m _ meth c cX1_choiceAt 2 RX1 (some .int) := C
  have hl : lv_has ls 2 [(0, .ref (adG g 14)), (1, .int x1)] := hl
  obtain ⟨hx, hb, hml, hown, hts, hr, hlk, hK, hZ⟩ := id C
  unfold fX1_choiceAt at h
  refine lv_iload_n hx hb dX1_choiceAt_0 rfl (lv_at hl 1 rfl) ?_
  refine lv_if_lt (tgt := 34) hx hb dX1_choiceAt_1 (by decide) (fun c_ => ?_) (fun c_ => ?_)
  · replace h := if_t c_ h
    refine lv_ldc hx hb hown (hts _ tw_772) dX1_choiceAt_34 ?_
    exact r_reti C hP hS rfl (rt_o h) dX1_choiceAt_36
  · replace h := if_f c_ h
    refine lv_iload_n hx hb dX1_choiceAt_4 rfl (lv_at hl 1 rfl) ?_
    refine lv_aload_n hx hb dX1_choiceAt_5 rfl (lv_at hl 0 rfl) ?_
    refine r_geti C cf_1 hP sx_14 kx_14 7 (by decide) rfl tw_121 dX1_choiceAt_6 ?_
    refine lv_icmp_ge (tgt := 34) hx hb dX1_choiceAt_9 (by decide) (fun c_ => ?_) (fun c_ => ?_)
    · replace h := if_t c_ h
      refine lv_ldc hx hb hown (hts _ tw_772) dX1_choiceAt_34 ?_
      exact r_reti C hP hS rfl (rt_o h) dX1_choiceAt_36
    · replace h := if_f c_ h
      refine lv_aload_n hx hb dX1_choiceAt_12 rfl (lv_at hl 0 rfl) ?_
      refine r_getr C cf_1 hP sx_14 kx_14 4 (by decide) rfl tw_118 dX1_choiceAt_13 ?_
      refine lv_iload_n hx hb dX1_choiceAt_16 rfl (lv_at hl 1 rfl) ?_
      obtain ⟨g_1, h⟩ := gd_inv h
      refine r_iald C hP sx_19 kx_19 rfl g_1 dX1_choiceAt_17 ?_
      refine lv_aload_n hx hb dX1_choiceAt_18 rfl (lv_at hl 0 rfl) ?_
      refine r_geti C cf_1 hP sx_14 kx_14 6 (by decide) rfl tw_120 dX1_choiceAt_19 ?_
      refine lv_icmp_ge (tgt := 34) hx hb dX1_choiceAt_22 (by decide) (fun c_ => ?_) (fun c_ => ?_)
      · replace h := if_t c_ h
        refine lv_ldc hx hb hown (hts _ tw_772) dX1_choiceAt_34 ?_
        exact r_reti C hP hS rfl (rt_o h) dX1_choiceAt_36
      · replace h := if_f c_ h
        refine lv_aload_n hx hb dX1_choiceAt_25 rfl (lv_at hl 0 rfl) ?_
        refine r_getr C cf_1 hP sx_14 kx_14 4 (by decide) rfl tw_118 dX1_choiceAt_26 ?_
        refine lv_iload_n hx hb dX1_choiceAt_29 rfl (lv_at hl 1 rfl) ?_
        refine r_iald C hP sx_19 kx_19 rfl g_1 dX1_choiceAt_30 ?_
        refine lv_goto (tgt := 36) hx hb dX1_choiceAt_31 (by decide) ?_
        exact r_reti C hP hS rfl (rt_o h) dX1_choiceAt_36

set_option maxRecDepth 100000 in
set_option maxHeartbeats 4000000 in
theorem ctX2_lavaIn {l : Launch} {g : Gw} {σ : Sto} (f0 : Nat) (hv0 : isF f0) (x1 : Int32) (x2 : Int32) {Rz : Int32} (h : fX2_lavaIn σ f0 x1 x2 = some Rz) : MtG l yX2_lavaIn cX2_lavaIn 3 (some .int) 0 wkX g [.ref (adG g f0), .int x1, .int x2] σ (QiS wkX g σ Rz) := by
  refine mt_of (by decide) (Nat.le_of_ble_eq_true rfl) (fun p e s m below meth c ls H locs C hP hS hl => ?_)
  have C : Cx wkX g p s m _ meth c cX2_lavaIn 3 RX2 (some .int) := C
  have hl : lv_has ls 3 [(0, .ref (adG g f0)), (1, .int x1), (2, .int x2)] := hl
  obtain ⟨hx, hb, hml, hown, hts, hr, hlk, hK, hZ⟩ := id C
  unfold fX2_lavaIn at h
  refine lv_aload_n hx hb dX2_lavaIn_0 rfl (lv_at hl 0 rfl) ?_
  refine r_getr C cf_2 hP (sf_0 hv0) (kf_0 hv0) 1 (by decide) rfl tw_108 dX2_lavaIn_1 ?_
  refine lv_iload_n hx hb dX2_lavaIn_4 rfl (lv_at hl 2 rfl) ?_
  refine lv_bipush (v := 10) hx hb dX2_lavaIn_5 (by decide) ?_
  refine lv_imul hx hb dX2_lavaIn_7 ?_
  refine lv_iload_n hx hb dX2_lavaIn_8 rfl (lv_at hl 1 rfl) ?_
  refine lv_iadd hx hb dX2_lavaIn_9 ?_
  obtain ⟨g_1, h⟩ := gd_inv h
  refine r_iald C hP (sf_1 hv0) (kf_1 hv0) rfl g_1 dX2_lavaIn_10 ?_
  exact r_reti C hP hS rfl (rt_o h) dX2_lavaIn_11

set_option maxRecDepth 100000 in
set_option maxHeartbeats 4000000 in
theorem wfX2_placeBehind_L6 {l : Launch} {g : Gw} {p : Program} {e : Env} {s : State} {m : MethodId} {args : Array Value} {below : List Frame} {meth : Method} {c : Code} {σ : Sto} (C : Cx wkX g p s m args meth c cX2_placeBehind 7 RX2 (some .int)) (f0 : Nat) (hv0 : isF f0) (v1 : Nat) (hv1 : isV v1) {Rz : Int32} : ∀ (n : Nat) (x2 : Int32) (x4 : Int32) (x5 : Int32) (x6 : Int32) (H : Heap) (locs : List Loc) (ls : Array Slot), fX2_placeBehind_L6 f0 v1 σ n x2 x4 x5 x6 = some Rz → wS wkX g σ H → va_S (AS wkX g) s.heap H locs → lv_has ls 7 [(0, .ref (adG g f0)), (1, .ref (adG g v1)), (2, .int x2), (4, .int x4), (5, .int x5), (6, .int x6)] → W p l e (rmS 3) s m args below meth c H locs 0 0 (MQ below (QiS wkX g σ Rz) args s 0 0 (AS wkX g)) (F0 m 6 ls []) := by
  intro n
  induction n with
  | zero =>
    intro x2 x4 x5 x6 H locs ls h
    cases h
  | succ n ih =>
    intro x2 x4 x5 x6 H locs ls h hP hS hl
    obtain ⟨hx, hb, hml, hown, hts, hr, hlk, hK, hZ⟩ := id C
    rw [fX2_placeBehind_L6] at h
    refine lv_iload hx hb dX2_placeBehind_6 (lv_at hl 5 rfl) ?_
    refine lv_iload hx hb dX2_placeBehind_8 (lv_at hl 3 rfl) ?_
    refine lv_icmp_ge (tgt := 38) hx hb dX2_placeBehind_10 (by decide) (fun c_ => ?_) (fun c_ => ?_)
    · replace h := if_t c_ h
      refine lv_iload hx hb dX2_placeBehind_38 (lv_at hl 4 rfl) ?_
      exact r_reti C hP hS rfl (rt_o h) dX2_placeBehind_40
    · replace h := if_f c_ h
      refine lv_iload hx hb dX2_placeBehind_13 (lv_at hl 4 rfl) ?_
      refine lv_bipush (v := 20) hx hb dX2_placeBehind_15 (by decide) ?_
      refine lv_icmp_ge (tgt := 38) hx hb dX2_placeBehind_17 (by decide) (fun c_ => ?_) (fun c_ => ?_)
      · replace h := if_t c_ h
        refine lv_iload hx hb dX2_placeBehind_38 (lv_at hl 4 rfl) ?_
        exact r_reti C hP hS rfl (rt_o h) dX2_placeBehind_40
      · replace h := if_f c_ h
        refine lv_aload_n hx hb dX2_placeBehind_20 rfl (lv_at hl 0 rfl) ?_
        refine lv_aload_n hx hb dX2_placeBehind_21 rfl (lv_at hl 1 rfl) ?_
        refine lv_iload_n hx hb dX2_placeBehind_22 rfl (lv_at hl 2 rfl) ?_
        refine lv_iload hx hb dX2_placeBehind_23 (lv_at hl 4 rfl) ?_
        refine lv_iload hx hb dX2_placeBehind_25 (lv_at hl 5 rfl) ?_
        obtain ⟨q_1, hq_1, h⟩ := bd_inv h
        refine end_i (run_v (As := [.ref (adG g v1), .int x2, .int x5, .int x6]) (rest := []) C ca_X2_placeAfter (ctX2_placeAfter f0 hv0 v1 hv1 x2 x5 x6 hq_1) cf_2 (sf_0 hv0) (kf_0 hv0) tw_638 ⟨Nat.le_of_ble_eq_true rfl, Nat.le_of_ble_eq_true rfl⟩ rfl hl.1 (Nat.le_of_ble_eq_true rfl) ⟨Nat.le_refl _, Nat.le_refl _⟩ hP hS dX2_placeBehind_27) hS (fun H locs hP hS => ?_)
        refine lv_istore (lv' := [(5, .int q_1), (0, .ref (adG g f0)), (1, .ref (adG g v1)), (2, .int x2), (4, .int x4), (6, .int x6)]) hx hb dX2_placeBehind_30 hl (by decide) rfl (fun ls hl => ?_)
        obtain ⟨x_2, ex_2⟩ : ∃ y : Int32, y = x6 + (1 : Int32) := ⟨_, rfl⟩
        replace h := un_at ex_2 h
        refine lv_iinc (v := x_2) (lv' := [(6, .int x_2), (5, .int q_1), (0, .ref (adG g f0)), (1, .ref (adG g v1)), (2, .int x2), (4, .int x4)]) hx hb dX2_placeBehind_32 hl (k := 5) rfl (by rw [ex_2]; rfl) (by decide) rfl (fun ls hl => ?_)
        refine lv_goto (tgt := 6) hx hb dX2_placeBehind_35 (by decide) ?_
        exact ih x2 x4 q_1 x_2 H locs ls h hP hS (lv_sub hl [2, 3, 4, 5, 1, 0] rfl)
