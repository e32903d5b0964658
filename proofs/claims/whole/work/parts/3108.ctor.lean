theorem ca_X9_init : CaI yX9_init cX9_init 2 0 := ⟨tw_7, tw_2, tw_8, rfl, by decide, by decide, by decide +kernel⟩
def kO_X9_init_0 (b n : Nat) : va_E := .inr (9, [.null, .null, .null, .null, .null, .null, .null, .null, .null, .int 0])
def kL_X9_init_0 (g : Gw) (b n : Nat) : List va_E := []
theorem kL_X9_init_0_len (g : Gw) (b n : Nat) : (kL_X9_init_0 g b n).length = 0 := rfl
def kL_X9_init_1 (g : Gw) (b n : Nat) : List va_E := kL_X9_init_0 g b n ++ kO_X4_init b (n + 1) :: kT_X4_init g b (n + 1)
theorem kL_X9_init_1_len (g : Gw) (b n : Nat) : (kL_X9_init_1 g b n).length = 12 := by
  unfold kL_X9_init_1
  rw [List.length_append, List.length_cons, kL_X9_init_0_len, kT_X4_init_len _ _ _]
def kO_X9_init_1 (b n : Nat) : va_E := .inr (9, [.ref (b + (n + 0)), .null, .null, .null, .null, .null, .null, .null, .null, .int 0])
def kL_X9_init_2 (g : Gw) (b n : Nat) : List va_E := kL_X9_init_1 g b n ++ kO_X6_init b (n + 13) :: kT_X6_init g b (n + 13)
theorem kL_X9_init_2_len (g : Gw) (b n : Nat) : (kL_X9_init_2 g b n).length = 22 := by
  unfold kL_X9_init_2
  rw [List.length_append, List.length_cons, kL_X9_init_1_len, kT_X6_init_len _ _ _]
def kO_X9_init_2 (b n : Nat) : va_E := .inr (9, [.ref (b + (n + 0)), .ref (b + (n + 12)), .null, .null, .null, .null, .null, .null, .null, .int 0])
def kL_X9_init_3 (g : Gw) (b n : Nat) : List va_E := kL_X9_init_2 g b n ++ kO_X8_init b (n + 23) :: kT_X8_init g b (n + 23)
theorem kL_X9_init_3_len (g : Gw) (b n : Nat) : (kL_X9_init_3 g b n).length = 30 := by
  unfold kL_X9_init_3
  rw [List.length_append, List.length_cons, kL_X9_init_2_len, kT_X8_init_len _ _ _]
theorem kA_X9_init_3_22 (g : Gw) (b n : Nat) : (kL_X9_init_3 g b n)[22]? = some (kO_X8_init b (n + 23)) := by
  unfold kL_X9_init_3
  rw [List.getElem?_append_right (by rw [kL_X9_init_2_len]; decide), kL_X9_init_2_len]
  rfl
def kO_X9_init_3 (b n : Nat) : va_E := .inr (9, [.ref (b + (n + 0)), .ref (b + (n + 12)), .ref (b + (n + 22)), .null, .null, .null, .null, .null, .null, .int 0])
def kL_X9_init_4 (g : Gw) (b n : Nat) : List va_E := kL_X9_init_3 g b n ++ kO_X3_init b (n + 31) :: kT_X3_init g b (n + 31)
theorem kL_X9_init_4_len (g : Gw) (b n : Nat) : (kL_X9_init_4 g b n).length = 224 := by
  unfold kL_X9_init_4
  rw [List.length_append, List.length_cons, kL_X9_init_3_len, kT_X3_init_len _ _ _]
theorem kA_X9_init_4_22 (g : Gw) (b n : Nat) : (kL_X9_init_4 g b n)[22]? = some (kO_X8_init b (n + 23)) := by
  unfold kL_X9_init_4
  rw [List.getElem?_append_left (by rw [kL_X9_init_3_len]; decide)]
  exact kA_X9_init_3_22 g b n
def kO_X9_init_4 (b n : Nat) : va_E := .inr (9, [.ref (b + (n + 0)), .ref (b + (n + 12)), .ref (b + (n + 22)), .ref (b + (n + 30)), .null, .null, .null, .null, .null, .int 0])
def kL_X9_init_5 (g : Gw) (b n : Nat) : List va_E := kL_X9_init_4 g b n ++ [.inl (g.2.1 2, 2, .inr (.inr (.inr (.inr (fun _ => none)))))]
theorem kL_X9_init_5_len (g : Gw) (b n : Nat) : (kL_X9_init_5 g b n).length = 225 := by
  unfold kL_X9_init_5
  rw [List.length_append, kL_X9_init_4_len]
  rfl
theorem kA_X9_init_5_22 (g : Gw) (b n : Nat) : (kL_X9_init_5 g b n)[22]? = some (kO_X8_init b (n + 23)) := by
  unfold kL_X9_init_5
  rw [List.getElem?_append_left (by rw [kL_X9_init_4_len]; decide)]
  exact kA_X9_init_4_22 g b n
theorem kA_X9_init_5_224 (g : Gw) (b n : Nat) : (kL_X9_init_5 g b n)[224]? = some (.inl (g.2.1 2, 2, .inr (.inr (.inr (.inr (fun _ => none)))))) := by
  unfold kL_X9_init_5
  rw [List.getElem?_append_right (by rw [kL_X9_init_4_len]; decide), kL_X9_init_4_len]
  rfl
def kO_X9_init_5 (b n : Nat) : va_E := .inr (9, [.ref (b + (n + 0)), .ref (b + (n + 12)), .ref (b + (n + 22)), .ref (b + (n + 30)), .ref (b + (n + 224)), .null, .null, .null, .null, .int 0])
def kL_X9_init_6 (g : Gw) (b n : Nat) : List va_E := kL_X9_init_5 g b n ++ kO_X5_init b (n + 226) :: kT_X5_init g b (n + 226)
theorem kL_X9_init_6_len (g : Gw) (b n : Nat) : (kL_X9_init_6 g b n).length = 237 := by
  unfold kL_X9_init_6
  rw [List.length_append, List.length_cons, kL_X9_init_5_len, kT_X5_init_len _ _ _]
theorem kA_X9_init_6_22 (g : Gw) (b n : Nat) : (kL_X9_init_6 g b n)[22]? = some (kO_X8_init b (n + 23)) := by
  unfold kL_X9_init_6
  rw [List.getElem?_append_left (by rw [kL_X9_init_5_len]; decide)]
  exact kA_X9_init_5_22 g b n
theorem kA_X9_init_6_224 (g : Gw) (b n : Nat) : (kL_X9_init_6 g b n)[224]? = some (.inl (g.2.1 2, 2, .inr (.inr (.inr (.inr (fun _ => none)))))) := by
  unfold kL_X9_init_6
  rw [List.getElem?_append_left (by rw [kL_X9_init_5_len]; decide)]
  exact kA_X9_init_5_224 g b n
def kO_X9_init_6 (b n : Nat) : va_E := .inr (9, [.ref (b + (n + 0)), .ref (b + (n + 12)), .ref (b + (n + 22)), .ref (b + (n + 30)), .ref (b + (n + 224)), .ref (b + (n + 225)), .null, .null, .null, .int 0])
def kL_X9_init_7 (g : Gw) (b n : Nat) : List va_E := kL_X9_init_6 g b n ++ kO_X1_init b (n + 238) :: kT_X1_init g b (n + 238)
theorem kL_X9_init_7_len (g : Gw) (b n : Nat) : (kL_X9_init_7 g b n).length = 244 := by
  unfold kL_X9_init_7
  rw [List.length_append, List.length_cons, kL_X9_init_6_len, kT_X1_init_len _ _ _]
theorem kA_X9_init_7_22 (g : Gw) (b n : Nat) : (kL_X9_init_7 g b n)[22]? = some (kO_X8_init b (n + 23)) := by
  unfold kL_X9_init_7
  rw [List.getElem?_append_left (by rw [kL_X9_init_6_len]; decide)]
  exact kA_X9_init_6_22 g b n
theorem kA_X9_init_7_224 (g : Gw) (b n : Nat) : (kL_X9_init_7 g b n)[224]? = some (.inl (g.2.1 2, 2, .inr (.inr (.inr (.inr (fun _ => none)))))) := by
  unfold kL_X9_init_7
  rw [List.getElem?_append_left (by rw [kL_X9_init_6_len]; decide)]
  exact kA_X9_init_6_224 g b n
def kO_X9_init_7 (b n : Nat) : va_E := .inr (9, [.ref (b + (n + 0)), .ref (b + (n + 12)), .ref (b + (n + 22)), .ref (b + (n + 30)), .ref (b + (n + 224)), .ref (b + (n + 225)), .ref (b + (n + 237)), .null, .null, .int 0])
def kL_X9_init_8 (g : Gw) (b n : Nat) : List va_E := kL_X9_init_7 g b n ++ kO_X7_init b (n + 245) :: kT_X7_init g b (n + 245)
theorem kL_X9_init_8_len (g : Gw) (b n : Nat) : (kL_X9_init_8 g b n).length = 257 := by
  unfold kL_X9_init_8
  rw [List.length_append, List.length_cons, kL_X9_init_7_len, kT_X7_init_len _ _ _]
theorem kA_X9_init_8_22 (g : Gw) (b n : Nat) : (kL_X9_init_8 g b n)[22]? = some (kO_X8_init b (n + 23)) := by
  unfold kL_X9_init_8
  rw [List.getElem?_append_left (by rw [kL_X9_init_7_len]; decide)]
  exact kA_X9_init_7_22 g b n
theorem kA_X9_init_8_224 (g : Gw) (b n : Nat) : (kL_X9_init_8 g b n)[224]? = some (.inl (g.2.1 2, 2, .inr (.inr (.inr (.inr (fun _ => none)))))) := by
  unfold kL_X9_init_8
  rw [List.getElem?_append_left (by rw [kL_X9_init_7_len]; decide)]
  exact kA_X9_init_7_224 g b n
def kO_X9_init_8 (b n : Nat) : va_E := .inr (9, [.ref (b + (n + 0)), .ref (b + (n + 12)), .ref (b + (n + 22)), .ref (b + (n + 30)), .ref (b + (n + 224)), .ref (b + (n + 225)), .ref (b + (n + 237)), .ref (b + (n + 244)), .null, .int 0])
def kL_X9_init_9 (g : Gw) (b n : Nat) : List va_E := kL_X9_init_8 g b n ++ kO_X0_init b (n + 258) :: kT_X0_init g b (n + 258)
theorem kL_X9_init_9_len (g : Gw) (b n : Nat) : (kL_X9_init_9 g b n).length = 259 := by
  unfold kL_X9_init_9
  rw [List.length_append, List.length_cons, kL_X9_init_8_len, kT_X0_init_len _ _ _]
theorem kA_X9_init_9_22 (g : Gw) (b n : Nat) : (kL_X9_init_9 g b n)[22]? = some (kO_X8_init b (n + 23)) := by
  unfold kL_X9_init_9
  rw [List.getElem?_append_left (by rw [kL_X9_init_8_len]; decide)]
  exact kA_X9_init_8_22 g b n
theorem kA_X9_init_9_224 (g : Gw) (b n : Nat) : (kL_X9_init_9 g b n)[224]? = some (.inl (g.2.1 2, 2, .inr (.inr (.inr (.inr (fun _ => none)))))) := by
  unfold kL_X9_init_9
  rw [List.getElem?_append_left (by rw [kL_X9_init_8_len]; decide)]
  exact kA_X9_init_8_224 g b n
def kO_X9_init_9 (b n : Nat) : va_E := .inr (9, [.ref (b + (n + 0)), .ref (b + (n + 12)), .ref (b + (n + 22)), .ref (b + (n + 30)), .ref (b + (n + 224)), .ref (b + (n + 225)), .ref (b + (n + 237)), .ref (b + (n + 244)), .ref (b + (n + 257)), .int 0])
def kO_X9_init_10 (b n : Nat) : va_E := .inr (9, [.ref (b + (n + 0)), .ref (b + (n + 12)), .ref (b + (n + 22)), .ref (b + (n + 30)), .ref (b + (n + 224)), .ref (b + (n + 225)), .ref (b + (n + 237)), .ref (b + (n + 244)), .ref (b + (n + 257)), .int 0])
def kL_X9_init_10 (g : Gw) (b n : Nat) : List va_E := kL_X9_init_9 g b n ++ kO_X8_init b (n + 260) :: kT_X8_init g b (n + 260)
theorem kL_X9_init_10_len (g : Gw) (b n : Nat) : (kL_X9_init_10 g b n).length = 267 := by
  unfold kL_X9_init_10
  rw [List.length_append, List.length_cons, kL_X9_init_9_len, kT_X8_init_len _ _ _]
theorem kA_X9_init_10_22 (g : Gw) (b n : Nat) : (kL_X9_init_10 g b n)[22]? = some (kO_X8_init b (n + 23)) := by
  unfold kL_X9_init_10
  rw [List.getElem?_append_left (by rw [kL_X9_init_9_len]; decide)]
  exact kA_X9_init_9_22 g b n
theorem kA_X9_init_10_224 (g : Gw) (b n : Nat) : (kL_X9_init_10 g b n)[224]? = some (.inl (g.2.1 2, 2, .inr (.inr (.inr (.inr (fun _ => none)))))) := by
  unfold kL_X9_init_10
  rw [List.getElem?_append_left (by rw [kL_X9_init_9_len]; decide)]
  exact kA_X9_init_9_224 g b n
theorem kA_X9_init_10_259 (g : Gw) (b n : Nat) : (kL_X9_init_10 g b n)[259]? = some (kO_X8_init b (n + 260)) := by
  unfold kL_X9_init_10
  rw [List.getElem?_append_right (by rw [kL_X9_init_9_len]; decide), kL_X9_init_9_len]
  rfl
def kL_X9_init_11 (g : Gw) (b n : Nat) : List va_E := (kL_X9_init_10 g b n).set 224 (.inl (g.2.1 2, 2, .inr (.inr (.inr (.inr (va_up (fun _ => none) 0 (some (b + (n + 259)))))))))
theorem kL_X9_init_11_len (g : Gw) (b n : Nat) : (kL_X9_init_11 g b n).length = 267 := by
  unfold kL_X9_init_11
  rw [List.length_set, kL_X9_init_10_len]
theorem kA_X9_init_11_22 (g : Gw) (b n : Nat) : (kL_X9_init_11 g b n)[22]? = some (kO_X8_init b (n + 23)) := by
  unfold kL_X9_init_11
  rw [List.getElem?_set_ne (by decide)]
  exact kA_X9_init_10_22 g b n
theorem kA_X9_init_11_259 (g : Gw) (b n : Nat) : (kL_X9_init_11 g b n)[259]? = some (kO_X8_init b (n + 260)) := by
  unfold kL_X9_init_11
  rw [List.getElem?_set_ne (by decide)]
  exact kA_X9_init_10_259 g b n
theorem kA_X9_init_11_224 (g : Gw) (b n : Nat) : (kL_X9_init_11 g b n)[224]? = some (.inl (g.2.1 2, 2, .inr (.inr (.inr (.inr (va_up (fun _ => none) 0 (some (b + (n + 259))))))))) := by
  unfold kL_X9_init_11
  rw [List.getElem?_set_self (by rw [kL_X9_init_10_len]; decide)]
def kL_X9_init_12 (g : Gw) (b n : Nat) : List va_E := kL_X9_init_11 g b n ++ kO_X8_init b (n + 268) :: kT_X8_init g b (n + 268)
theorem kL_X9_init_12_len (g : Gw) (b n : Nat) : (kL_X9_init_12 g b n).length = 275 := by
  unfold kL_X9_init_12
  rw [List.length_append, List.length_cons, kL_X9_init_11_len, kT_X8_init_len _ _ _]
theorem kA_X9_init_12_22 (g : Gw) (b n : Nat) : (kL_X9_init_12 g b n)[22]? = some (kO_X8_init b (n + 23)) := by
  unfold kL_X9_init_12
  rw [List.getElem?_append_left (by rw [kL_X9_init_11_len]; decide)]
  exact kA_X9_init_11_22 g b n
theorem kA_X9_init_12_224 (g : Gw) (b n : Nat) : (kL_X9_init_12 g b n)[224]? = some (.inl (g.2.1 2, 2, .inr (.inr (.inr (.inr (va_up (fun _ => none) 0 (some (b + (n + 259))))))))) := by
  unfold kL_X9_init_12
  rw [List.getElem?_append_left (by rw [kL_X9_init_11_len]; decide)]
  exact kA_X9_init_11_224 g b n
theorem kA_X9_init_12_259 (g : Gw) (b n : Nat) : (kL_X9_init_12 g b n)[259]? = some (kO_X8_init b (n + 260)) := by
  unfold kL_X9_init_12
  rw [List.getElem?_append_left (by rw [kL_X9_init_11_len]; decide)]
  exact kA_X9_init_11_259 g b n
theorem kA_X9_init_12_267 (g : Gw) (b n : Nat) : (kL_X9_init_12 g b n)[267]? = some (kO_X8_init b (n + 268)) := by
  unfold kL_X9_init_12
  rw [List.getElem?_append_right (by rw [kL_X9_init_11_len]; decide), kL_X9_init_11_len]
  rfl
def kL_X9_init_13 (g : Gw) (b n : Nat) : List va_E := (kL_X9_init_12 g b n).set 224 (.inl (g.2.1 2, 2, .inr (.inr (.inr (.inr (va_up (va_up (fun _ => none) 0 (some (b + (n + 259)))) 1 (some (b + (n + 267)))))))))
theorem kL_X9_init_13_len (g : Gw) (b n : Nat) : (kL_X9_init_13 g b n).length = 275 := by
  unfold kL_X9_init_13
  rw [List.length_set, kL_X9_init_12_len]
theorem kA_X9_init_13_22 (g : Gw) (b n : Nat) : (kL_X9_init_13 g b n)[22]? = some (kO_X8_init b (n + 23)) := by
  unfold kL_X9_init_13
  rw [List.getElem?_set_ne (by decide)]
  exact kA_X9_init_12_22 g b n
theorem kA_X9_init_13_259 (g : Gw) (b n : Nat) : (kL_X9_init_13 g b n)[259]? = some (kO_X8_init b (n + 260)) := by
  unfold kL_X9_init_13
  rw [List.getElem?_set_ne (by decide)]
  exact kA_X9_init_12_259 g b n
theorem kA_X9_init_13_267 (g : Gw) (b n : Nat) : (kL_X9_init_13 g b n)[267]? = some (kO_X8_init b (n + 268)) := by
  unfold kL_X9_init_13
  rw [List.getElem?_set_ne (by decide)]
  exact kA_X9_init_12_267 g b n
theorem kA_X9_init_13_224 (g : Gw) (b n : Nat) : (kL_X9_init_13 g b n)[224]? = some (.inl (g.2.1 2, 2, .inr (.inr (.inr (.inr (va_up (va_up (fun _ => none) 0 (some (b + (n + 259)))) 1 (some (b + (n + 267))))))))) := by
  unfold kL_X9_init_13
  rw [List.getElem?_set_self (by rw [kL_X9_init_12_len]; decide)]
def kO_X9_init (b n : Nat) : va_E := kO_X9_init_10 b n
def kT_X9_init (g : Gw) (b n : Nat) : List va_E := kL_X9_init_13 g b n
theorem kT_X9_init_len (g : Gw) (b n : Nat) : (kT_X9_init g b n).length = 275 := kL_X9_init_13_len g b n
set_option maxRecDepth 100000 in
set_option maxHeartbeats 4000000 in
theorem kc_X9_init {l : Launch} {g : Gw} {b : Nat} (n h : Nat) (cw : Nat → va_E) (hh : h < n) (ho : cw h = .inr (9, [.null, .null, .null, .null, .null, .null, .null, .null, .null, .int 0])) : MtC l yX9_init cX9_init 2 6 275 3746 g b [.ref (b + h)] (pS g b n cw) (pS g b (n + 275) (nfS cw n h (kO_X9_init b n) (kT_X9_init g b n))) := by
  refine mtc_of (by decide) rfl (Nat.le_of_ble_eq_true rfl) (fun p e s m below meth c ls H locs C hP hS hl => ?_)
  have C : Cc g p s m _ meth c cX9_init 2 RX9 := C
  have hl : lv_has ls 2 [(0, .ref (b + h))] := hl
  obtain ⟨hx, hb, hml, hown, hts, hr, hlk, hK, hNc, hin⟩ := id C
  have hP : pS g b (n + 0) (nfS cw n h (kO_X9_init_0 b n) (kL_X9_init_0 g b n)) H := pS_congr hP (nf_0 ho)
  refine lv_aload_n hx hb dX9_init_0 rfl (lv_at hl 0 rfl) ?_
  refine k_obj C hl.1 tw_9 tw_10 tw_11 ⟨Nat.le_of_ble_eq_true rfl, Nat.le_of_ble_eq_true rfl⟩ dX9_init_1 ?_
  refine lv_aload_n hx hb dX9_init_4 rfl (lv_at hl 0 rfl) ?_
  refine k_new C cf_4 tw_12 tw_13 tw_14 hP hS (fs := [.null, .null, .null]) df_4 (Nat.le_of_ble_eq_true rfl) (Nat.le_of_ble_eq_true rfl) dX9_init_5 (fun H hP hS => ?_)
  refine lv_dup hx hb dX9_init_8 rfl ?_
  refine k_callI (As := []) (rest := [.ref (b + (n + 0)), .ref (b + h)]) C ca_X4_init tw_46 (kc_X4_init (n + 1) (n + 0) (va_up (nfS cw n h (kO_X9_init_0 b n) (kL_X9_init_0 g b n)) (n + 0) (.inr (4, [.null, .null, .null]))) (by omega) (vu_s _ _ _)) hP hS rfl hl.1 (Nat.le_of_ble_eq_true rfl) ⟨Nat.le_of_ble_eq_true rfl, Nat.le_of_ble_eq_true rfl⟩ ⟨Nat.le_of_ble_eq_true rfl, Nat.le_of_ble_eq_true rfl⟩ dX9_init_9 (fun H locs hP hS => ?_)
  have hP : pS g b (n + 12) (nfS cw n h (kO_X9_init_0 b n) (kL_X9_init_1 g b n)) H := pS_congr hP (nf_nest (N := 0) (N' := 11) hh (kL_X9_init_0_len g b n) (kT_X4_init_len _ _ _))
  refine k_put C cf_9 hP hS (show h < n + 12 by omega) nf_self 0 (by decide) (Nat.le_of_ble_eq_true rfl) (Or.inr rfl) rfl rfl tw_15 dX9_init_12 (fun H locs hP hS => ?_)
  have hP : pS g b (n + 12) (nfS cw n h (kO_X9_init_1 b n) (kL_X9_init_1 g b n)) H := pS_congr hP (nf_put (N := 12) (kL_X9_init_1_len g b n))
  refine lv_aload_n hx hb dX9_init_15 rfl (lv_at hl 0 rfl) ?_
  refine k_new C cf_6 tw_16 tw_17 tw_18 hP hS (fs := [.null, .int 0, .int 0, .int 0, .null, .int 0]) df_6 (Nat.le_of_ble_eq_true rfl) (Nat.le_of_ble_eq_true rfl) dX9_init_16 (fun H hP hS => ?_)
  refine lv_dup hx hb dX9_init_19 rfl ?_
  refine k_callN (As := []) (rest := [.ref (b + (n + 12)), .ref (b + h)]) C ca_X6_init 0 rfl (kc_X6_init (n + 13) (n + 12) (va_up (nfS cw n h (kO_X9_init_1 b n) (kL_X9_init_1 g b n)) (n + 12) (.inr (6, [.null, .int 0, .int 0, .int 0, .null, .int 0]))) (by omega) (vu_s _ _ _)) hP hS rfl hl.1 (Nat.le_of_ble_eq_true rfl) ⟨Nat.le_of_ble_eq_true rfl, Nat.le_of_ble_eq_true rfl⟩ ⟨Nat.le_of_ble_eq_true rfl, Nat.le_of_ble_eq_true rfl⟩ dX9_init_20 (fun H locs hP hS => ?_)
  have hP : pS g b (n + 22) (nfS cw n h (kO_X9_init_1 b n) (kL_X9_init_2 g b n)) H := pS_congr hP (nf_nest (N := 12) (N' := 9) hh (kL_X9_init_1_len g b n) (kT_X6_init_len _ _ _))
  refine k_put C cf_9 hP hS (show h < n + 22 by omega) nf_self 1 (by decide) (Nat.le_of_ble_eq_true rfl) (Or.inr rfl) rfl rfl tw_19 dX9_init_23 (fun H locs hP hS => ?_)
  have hP : pS g b (n + 22) (nfS cw n h (kO_X9_init_2 b n) (kL_X9_init_2 g b n)) H := pS_congr hP (nf_put (N := 22) (kL_X9_init_2_len g b n))
  refine lv_aload_n hx hb dX9_init_26 rfl (lv_at hl 0 rfl) ?_
  refine k_new C cf_8 tw_20 tw_21 tw_22 hP hS (fs := [.int 0, .int 0, .int 0, .int 0, .int 0, .null, .null, .null, .null, .null, .null, .null]) df_8 (Nat.le_of_ble_eq_true rfl) (Nat.le_of_ble_eq_true rfl) dX9_init_27 (fun H hP hS => ?_)
  refine lv_dup hx hb dX9_init_30 rfl ?_
  refine k_callN (As := []) (rest := [.ref (b + (n + 22)), .ref (b + h)]) C ca_X8_init 1 rfl (kc_X8_init (n + 23) (n + 22) (va_up (nfS cw n h (kO_X9_init_2 b n) (kL_X9_init_2 g b n)) (n + 22) (.inr (8, [.int 0, .int 0, .int 0, .int 0, .int 0, .null, .null, .null, .null, .null, .null, .null]))) (by omega) (vu_s _ _ _)) hP hS rfl hl.1 (Nat.le_of_ble_eq_true rfl) ⟨Nat.le_of_ble_eq_true rfl, Nat.le_of_ble_eq_true rfl⟩ ⟨Nat.le_of_ble_eq_true rfl, Nat.le_of_ble_eq_true rfl⟩ dX9_init_31 (fun H locs hP hS => ?_)
  have hP : pS g b (n + 30) (nfS cw n h (kO_X9_init_2 b n) (kL_X9_init_3 g b n)) H := pS_congr hP (nf_nest (N := 22) (N' := 7) hh (kL_X9_init_2_len g b n) (kT_X8_init_len _ _ _))
  refine k_put C cf_9 hP hS (show h < n + 30 by omega) nf_self 2 (by decide) (Nat.le_of_ble_eq_true rfl) (Or.inr rfl) rfl rfl tw_23 dX9_init_34 (fun H locs hP hS => ?_)
  have hP : pS g b (n + 30) (nfS cw n h (kO_X9_init_3 b n) (kL_X9_init_3 g b n)) H := pS_congr hP (nf_put (N := 30) (kL_X9_init_3_len g b n))
  refine lv_aload_n hx hb dX9_init_37 rfl (lv_at hl 0 rfl) ?_
  refine k_new C cf_3 tw_24 tw_25 tw_26 hP hS (fs := [.int 0, .int 0, .null]) df_3 (Nat.le_of_ble_eq_true rfl) (Nat.le_of_ble_eq_true rfl) dX9_init_38 (fun H hP hS => ?_)
  refine lv_dup hx hb dX9_init_41 rfl ?_
  refine k_callI (As := []) (rest := [.ref (b + (n + 30)), .ref (b + h)]) C ca_X3_init tw_80 (kc_X3_init (n + 31) (n + 30) (va_up (nfS cw n h (kO_X9_init_3 b n) (kL_X9_init_3 g b n)) (n + 30) (.inr (3, [.int 0, .int 0, .null]))) (by omega) (vu_s _ _ _)) hP hS rfl hl.1 (Nat.le_of_ble_eq_true rfl) ⟨Nat.le_of_ble_eq_true rfl, Nat.le_of_ble_eq_true rfl⟩ ⟨Nat.le_of_ble_eq_true rfl, Nat.le_of_ble_eq_true rfl⟩ dX9_init_42 (fun H locs hP hS => ?_)
  have hP : pS g b (n + 224) (nfS cw n h (kO_X9_init_3 b n) (kL_X9_init_4 g b n)) H := pS_congr hP (nf_nest (N := 30) (N' := 193) hh (kL_X9_init_3_len g b n) (kT_X3_init_len _ _ _))
  refine k_put C cf_9 hP hS (show h < n + 224 by omega) nf_self 3 (by decide) (Nat.le_of_ble_eq_true rfl) (Or.inr rfl) rfl rfl tw_27 dX9_init_45 (fun H locs hP hS => ?_)
  have hP : pS g b (n + 224) (nfS cw n h (kO_X9_init_4 b n) (kL_X9_init_4 g b n)) H := pS_congr hP (nf_put (N := 224) (kL_X9_init_4_len g b n))
  refine lv_aload_n hx hb dX9_init_48 rfl (lv_at hl 0 rfl) ?_
  refine lv_iconst (v := 2) hx hb dX9_init_49 (by decide) ?_
  refine k_anew C tw_20 hP hS (N := 2) (by decide) (by decide) (by decide) (Nat.le_of_ble_eq_true rfl) (Nat.le_of_ble_eq_true rfl) dX9_init_50 (fun H hP hS => ?_)
  have hP : pS g b (n + 225) (nfS cw n h (kO_X9_init_4 b n) (kL_X9_init_5 g b n)) H := pS_congr hP (nf_push (N := 224) hh (kL_X9_init_4_len g b n))
  refine k_put C cf_9 hP hS (show h < n + 225 by omega) nf_self 4 (by decide) (Nat.le_of_ble_eq_true rfl) (Or.inr rfl) rfl rfl tw_28 dX9_init_53 (fun H locs hP hS => ?_)
  have hP : pS g b (n + 225) (nfS cw n h (kO_X9_init_5 b n) (kL_X9_init_5 g b n)) H := pS_congr hP (nf_put (N := 225) (kL_X9_init_5_len g b n))
  refine lv_aload_n hx hb dX9_init_56 rfl (lv_at hl 0 rfl) ?_
  refine k_new C cf_5 tw_29 tw_30 tw_31 hP hS (fs := [.null, .null, .null, .int 0]) df_5 (Nat.le_of_ble_eq_true rfl) (Nat.le_of_ble_eq_true rfl) dX9_init_57 (fun H hP hS => ?_)
  refine lv_dup hx hb dX9_init_60 rfl ?_
  refine k_callN (As := []) (rest := [.ref (b + (n + 225)), .ref (b + h)]) C ca_X5_init 2 rfl (kc_X5_init (n + 226) (n + 225) (va_up (nfS cw n h (kO_X9_init_5 b n) (kL_X9_init_5 g b n)) (n + 225) (.inr (5, [.null, .null, .null, .int 0]))) (by omega) (vu_s _ _ _)) hP hS rfl hl.1 (Nat.le_of_ble_eq_true rfl) ⟨Nat.le_of_ble_eq_true rfl, Nat.le_of_ble_eq_true rfl⟩ ⟨Nat.le_of_ble_eq_true rfl, Nat.le_of_ble_eq_true rfl⟩ dX9_init_61 (fun H locs hP hS => ?_)
  have hP : pS g b (n + 237) (nfS cw n h (kO_X9_init_5 b n) (kL_X9_init_6 g b n)) H := pS_congr hP (nf_nest (N := 225) (N' := 11) hh (kL_X9_init_5_len g b n) (kT_X5_init_len _ _ _))
  refine k_put C cf_9 hP hS (show h < n + 237 by omega) nf_self 5 (by decide) (Nat.le_of_ble_eq_true rfl) (Or.inr rfl) rfl rfl tw_32 dX9_init_64 (fun H locs hP hS => ?_)
  have hP : pS g b (n + 237) (nfS cw n h (kO_X9_init_6 b n) (kL_X9_init_6 g b n)) H := pS_congr hP (nf_put (N := 237) (kL_X9_init_6_len g b n))
  refine lv_aload_n hx hb dX9_init_67 rfl (lv_at hl 0 rfl) ?_
  refine k_new C cf_1 tw_33 tw_34 tw_35 hP hS (fs := [.int 0, .null, .null, .null, .null, .null, .int 0, .int 0]) df_1 (Nat.le_of_ble_eq_true rfl) (Nat.le_of_ble_eq_true rfl) dX9_init_68 (fun H hP hS => ?_)
  refine lv_dup hx hb dX9_init_71 rfl ?_
  refine k_callN (As := []) (rest := [.ref (b + (n + 237)), .ref (b + h)]) C ca_X1_init 3 rfl (kc_X1_init (n + 238) (n + 237) (va_up (nfS cw n h (kO_X9_init_6 b n) (kL_X9_init_6 g b n)) (n + 237) (.inr (1, [.int 0, .null, .null, .null, .null, .null, .int 0, .int 0]))) (by omega) (vu_s _ _ _)) hP hS rfl hl.1 (Nat.le_of_ble_eq_true rfl) ⟨Nat.le_of_ble_eq_true rfl, Nat.le_of_ble_eq_true rfl⟩ ⟨Nat.le_of_ble_eq_true rfl, Nat.le_of_ble_eq_true rfl⟩ dX9_init_72 (fun H locs hP hS => ?_)
  have hP : pS g b (n + 244) (nfS cw n h (kO_X9_init_6 b n) (kL_X9_init_7 g b n)) H := pS_congr hP (nf_nest (N := 237) (N' := 6) hh (kL_X9_init_6_len g b n) (kT_X1_init_len _ _ _))
  refine k_put C cf_9 hP hS (show h < n + 244 by omega) nf_self 6 (by decide) (Nat.le_of_ble_eq_true rfl) (Or.inr rfl) rfl rfl tw_36 dX9_init_75 (fun H locs hP hS => ?_)
  have hP : pS g b (n + 244) (nfS cw n h (kO_X9_init_7 b n) (kL_X9_init_7 g b n)) H := pS_congr hP (nf_put (N := 244) (kL_X9_init_7_len g b n))
  refine lv_aload_n hx hb dX9_init_78 rfl (lv_at hl 0 rfl) ?_
  refine k_new C cf_7 tw_37 tw_38 tw_39 hP hS (fs := [.null, .null, .null, .null, .int 0, .int 0]) df_7 (Nat.le_of_ble_eq_true rfl) (Nat.le_of_ble_eq_true rfl) dX9_init_79 (fun H hP hS => ?_)
  refine lv_dup hx hb dX9_init_82 rfl ?_
  refine k_callN (As := []) (rest := [.ref (b + (n + 244)), .ref (b + h)]) C ca_X7_init 4 rfl (kc_X7_init (n + 245) (n + 244) (va_up (nfS cw n h (kO_X9_init_7 b n) (kL_X9_init_7 g b n)) (n + 244) (.inr (7, [.null, .null, .null, .null, .int 0, .int 0]))) (by omega) (vu_s _ _ _)) hP hS rfl hl.1 (Nat.le_of_ble_eq_true rfl) ⟨Nat.le_of_ble_eq_true rfl, Nat.le_of_ble_eq_true rfl⟩ ⟨Nat.le_of_ble_eq_true rfl, Nat.le_of_ble_eq_true rfl⟩ dX9_init_83 (fun H locs hP hS => ?_)
  have hP : pS g b (n + 257) (nfS cw n h (kO_X9_init_7 b n) (kL_X9_init_8 g b n)) H := pS_congr hP (nf_nest (N := 244) (N' := 12) hh (kL_X9_init_7_len g b n) (kT_X7_init_len _ _ _))
  refine k_put C cf_9 hP hS (show h < n + 257 by omega) nf_self 7 (by decide) (Nat.le_of_ble_eq_true rfl) (Or.inr rfl) rfl rfl tw_40 dX9_init_86 (fun H locs hP hS => ?_)
  have hP : pS g b (n + 257) (nfS cw n h (kO_X9_init_8 b n) (kL_X9_init_8 g b n)) H := pS_congr hP (nf_put (N := 257) (kL_X9_init_8_len g b n))
  refine lv_aload_n hx hb dX9_init_89 rfl (lv_at hl 0 rfl) ?_
  refine k_new C cf_0 tw_41 tw_42 tw_43 hP hS (fs := [.int 0, .null]) df_0 (Nat.le_of_ble_eq_true rfl) (Nat.le_of_ble_eq_true rfl) dX9_init_90 (fun H hP hS => ?_)
  refine lv_dup hx hb dX9_init_93 rfl ?_
  refine k_callN (As := []) (rest := [.ref (b + (n + 257)), .ref (b + h)]) C ca_X0_init 5 rfl (kc_X0_init (n + 258) (n + 257) (va_up (nfS cw n h (kO_X9_init_8 b n) (kL_X9_init_8 g b n)) (n + 257) (.inr (0, [.int 0, .null]))) (by omega) (vu_s _ _ _)) hP hS rfl hl.1 (Nat.le_of_ble_eq_true rfl) ⟨Nat.le_of_ble_eq_true rfl, Nat.le_of_ble_eq_true rfl⟩ ⟨Nat.le_of_ble_eq_true rfl, Nat.le_of_ble_eq_true rfl⟩ dX9_init_94 (fun H locs hP hS => ?_)
  have hP : pS g b (n + 259) (nfS cw n h (kO_X9_init_8 b n) (kL_X9_init_9 g b n)) H := pS_congr hP (nf_nest (N := 257) (N' := 1) hh (kL_X9_init_8_len g b n) (kT_X0_init_len _ _ _))
  refine k_put C cf_9 hP hS (show h < n + 259 by omega) nf_self 8 (by decide) (Nat.le_of_ble_eq_true rfl) (Or.inr rfl) rfl rfl tw_44 dX9_init_97 (fun H locs hP hS => ?_)
  have hP : pS g b (n + 259) (nfS cw n h (kO_X9_init_9 b n) (kL_X9_init_9 g b n)) H := pS_congr hP (nf_put (N := 259) (kL_X9_init_9_len g b n))
  refine lv_aload_n hx hb dX9_init_100 rfl (lv_at hl 0 rfl) ?_
  refine lv_iconst (v := 0) hx hb dX9_init_101 (by decide) ?_
  refine k_put C cf_9 hP hS (show h < n + 259 by omega) nf_self 9 (by decide) (Nat.le_of_ble_eq_true rfl) (Or.inl rfl) rfl rfl tw_45 dX9_init_102 (fun H locs hP hS => ?_)
  have hP : pS g b (n + 259) (nfS cw n h (kO_X9_init_10 b n) (kL_X9_init_9 g b n)) H := pS_congr hP (nf_put (N := 259) (kL_X9_init_9_len g b n))
  refine lv_iconst (v := 0) hx hb dX9_init_105 (by decide) ?_
  refine lv_istore_n (lv' := [(1, .int 0), (0, .ref (b + h))]) hx hb dX9_init_106 rfl hl (by decide) rfl (fun ls hl => ?_)
  refine lv_iload_n hx hb dX9_init_107 rfl (lv_at hl 0 rfl) ?_
  refine lv_iconst (v := 2) hx hb dX9_init_108 (by decide) ?_
  refine lv_icmp_ge (tgt := 131) hx hb dX9_init_109 (by decide) (fun c_ => absurd c_ (by decide)) (fun _ => ?_)
  refine lv_aload_n hx hb dX9_init_112 rfl (lv_at hl 1 rfl) ?_
  refine k_get C cf_9 hP (show h < n + 259 by omega) nf_self 4 (by decide) rfl tw_28 dX9_init_113 ?_
  refine lv_iload_n hx hb dX9_init_116 rfl (lv_at hl 0 rfl) ?_
  refine k_new C cf_8 tw_20 tw_21 tw_22 hP hS (fs := [.int 0, .int 0, .int 0, .int 0, .int 0, .null, .null, .null, .null, .null, .null, .null]) df_8 (Nat.le_of_ble_eq_true rfl) (Nat.le_of_ble_eq_true rfl) dX9_init_117 (fun H hP hS => ?_)
  refine lv_dup hx hb dX9_init_120 rfl ?_
  refine k_callN (As := []) (rest := [.ref (b + (n + 259)), .int 0, .ref (b + (n + 224))]) C ca_X8_init 1 rfl (kc_X8_init (n + 260) (n + 259) (va_up (nfS cw n h (kO_X9_init_10 b n) (kL_X9_init_9 g b n)) (n + 259) (.inr (8, [.int 0, .int 0, .int 0, .int 0, .int 0, .null, .null, .null, .null, .null, .null, .null]))) (by omega) (vu_s _ _ _)) hP hS rfl hl.1 (Nat.le_of_ble_eq_true rfl) ⟨Nat.le_of_ble_eq_true rfl, Nat.le_of_ble_eq_true rfl⟩ ⟨Nat.le_of_ble_eq_true rfl, Nat.le_of_ble_eq_true rfl⟩ dX9_init_121 (fun H locs hP hS => ?_)
  have hP : pS g b (n + 267) (nfS cw n h (kO_X9_init_10 b n) (kL_X9_init_10 g b n)) H := pS_congr hP (nf_nest (N := 259) (N' := 7) hh (kL_X9_init_9_len g b n) (kT_X8_init_len _ _ _))
  refine k_aast C hP hS (k := n + 224) (show n + 224 < n + 267 by omega) (nf_at hh (kA_X9_init_10_224 g b n)) (j := n + 259) (show n + 259 < n + 267 by omega) (nf_at hh (kA_X9_init_10_259 g b n)) (vin_in (by decide)) dX9_init_124 (fun H locs hP hS => ?_)
  have hP : pS g b (n + 267) (nfS cw n h (kO_X9_init_10 b n) (kL_X9_init_11 g b n)) H := pS_congr hP (nf_set (N := 267) (i := 224) hh (kL_X9_init_10_len g b n) (by decide))
  refine lv_iinc (v := 1) (lv' := [(1, .int 1), (0, .ref (b + h))]) hx hb dX9_init_125 hl (k := 0) rfl (by decide) (by decide) rfl (fun ls hl => ?_)
  refine lv_goto (tgt := 107) hx hb dX9_init_128 (by decide) ?_
  refine lv_iload_n hx hb dX9_init_107 rfl (lv_at hl 0 rfl) ?_
  refine lv_iconst (v := 2) hx hb dX9_init_108 (by decide) ?_
  refine lv_icmp_ge (tgt := 131) hx hb dX9_init_109 (by decide) (fun c_ => absurd c_ (by decide)) (fun _ => ?_)
  refine lv_aload_n hx hb dX9_init_112 rfl (lv_at hl 1 rfl) ?_
  refine k_get C cf_9 hP (show h < n + 267 by omega) nf_self 4 (by decide) rfl tw_28 dX9_init_113 ?_
  refine lv_iload_n hx hb dX9_init_116 rfl (lv_at hl 0 rfl) ?_
  refine k_new C cf_8 tw_20 tw_21 tw_22 hP hS (fs := [.int 0, .int 0, .int 0, .int 0, .int 0, .null, .null, .null, .null, .null, .null, .null]) df_8 (Nat.le_of_ble_eq_true rfl) (Nat.le_of_ble_eq_true rfl) dX9_init_117 (fun H hP hS => ?_)
  refine lv_dup hx hb dX9_init_120 rfl ?_
  refine k_callN (As := []) (rest := [.ref (b + (n + 267)), .int 1, .ref (b + (n + 224))]) C ca_X8_init 1 rfl (kc_X8_init (n + 268) (n + 267) (va_up (nfS cw n h (kO_X9_init_10 b n) (kL_X9_init_11 g b n)) (n + 267) (.inr (8, [.int 0, .int 0, .int 0, .int 0, .int 0, .null, .null, .null, .null, .null, .null, .null]))) (by omega) (vu_s _ _ _)) hP hS rfl hl.1 (Nat.le_of_ble_eq_true rfl) ⟨Nat.le_of_ble_eq_true rfl, Nat.le_of_ble_eq_true rfl⟩ ⟨Nat.le_of_ble_eq_true rfl, Nat.le_of_ble_eq_true rfl⟩ dX9_init_121 (fun H locs hP hS => ?_)
  have hP : pS g b (n + 275) (nfS cw n h (kO_X9_init_10 b n) (kL_X9_init_12 g b n)) H := pS_congr hP (nf_nest (N := 267) (N' := 7) hh (kL_X9_init_11_len g b n) (kT_X8_init_len _ _ _))
  refine k_aast C hP hS (k := n + 224) (show n + 224 < n + 275 by omega) (nf_at hh (kA_X9_init_12_224 g b n)) (j := n + 267) (show n + 267 < n + 275 by omega) (nf_at hh (kA_X9_init_12_267 g b n)) (vin_in (by decide)) dX9_init_124 (fun H locs hP hS => ?_)
  have hP : pS g b (n + 275) (nfS cw n h (kO_X9_init_10 b n) (kL_X9_init_13 g b n)) H := pS_congr hP (nf_set (N := 275) (i := 224) hh (kL_X9_init_12_len g b n) (by decide))
  refine lv_iinc (v := 2) (lv' := [(1, .int 2), (0, .ref (b + h))]) hx hb dX9_init_125 hl (k := 0) rfl (by decide) (by decide) rfl (fun ls hl => ?_)
  refine lv_goto (tgt := 107) hx hb dX9_init_128 (by decide) ?_
  refine lv_iload_n hx hb dX9_init_107 rfl (lv_at hl 0 rfl) ?_
  refine lv_iconst (v := 2) hx hb dX9_init_108 (by decide) ?_
  refine lv_icmp_ge (tgt := 131) hx hb dX9_init_109 (by decide) (fun _ => ?_) (fun c_ => absurd (by decide) c_)
  exact k_ret C hP hS dX9_init_131
