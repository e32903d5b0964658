theorem ca_X7_init : CaI yX7_init cX7_init 1 0 := ⟨tw_123, tw_39, tw_124, rfl, by decide, by decide, by decide +kernel⟩
def kO_X7_init_0 (b n : Nat) : va_E := .inr (7, [.null, .null, .null, .null, .int 0, .int 0])
def kL_X7_init_0 (g : Gw) (b n : Nat) : List va_E := []
theorem kL_X7_init_0_len (g : Gw) (b n : Nat) : (kL_X7_init_0 g b n).length = 0 := rfl
def kL_X7_init_1 (g : Gw) (b n : Nat) : List va_E := kL_X7_init_0 g b n ++ kO_X8_init b (n + 1) :: kT_X8_init g b (n + 1)
theorem kL_X7_init_1_len (g : Gw) (b n : Nat) : (kL_X7_init_1 g b n).length = 8 := by
  unfold kL_X7_init_1
  rw [List.length_append, List.length_cons, kL_X7_init_0_len, kT_X8_init_len _ _ _]
def kO_X7_init_1 (b n : Nat) : va_E := .inr (7, [.ref (b + (n + 0)), .null, .null, .null, .int 0, .int 0])
def kL_X7_init_2 (g : Gw) (b n : Nat) : List va_E := kL_X7_init_1 g b n ++ kO_X2_init b (n + 9) 20 :: kT_X2_init g 210
theorem kL_X7_init_2_len (g : Gw) (b n : Nat) : (kL_X7_init_2 g b n).length = 10 := by
  unfold kL_X7_init_2
  rw [List.length_append, List.length_cons, kL_X7_init_1_len, kT_X2_init_len _ _]
def kO_X7_init_2 (b n : Nat) : va_E := .inr (7, [.ref (b + (n + 0)), .ref (b + (n + 8)), .null, .null, .int 0, .int 0])
def kL_X7_init_3 (g : Gw) (b n : Nat) : List va_E := kL_X7_init_2 g b n ++ [.inl (g.2.1 1, 54, .inl (fun _ => 0))]
theorem kL_X7_init_3_len (g : Gw) (b n : Nat) : (kL_X7_init_3 g b n).length = 11 := by
  unfold kL_X7_init_3
  rw [List.length_append, kL_X7_init_2_len]
  rfl
def kO_X7_init_3 (b n : Nat) : va_E := .inr (7, [.ref (b + (n + 0)), .ref (b + (n + 8)), .ref (b + (n + 10)), .null, .int 0, .int 0])
def kL_X7_init_4 (g : Gw) (b n : Nat) : List va_E := kL_X7_init_3 g b n ++ [.inl (g.2.1 0, 6, .inl (fun _ => 0))]
theorem kL_X7_init_4_len (g : Gw) (b n : Nat) : (kL_X7_init_4 g b n).length = 12 := by
  unfold kL_X7_init_4
  rw [List.length_append, kL_X7_init_3_len]
  rfl
def kO_X7_init_4 (b n : Nat) : va_E := .inr (7, [.ref (b + (n + 0)), .ref (b + (n + 8)), .ref (b + (n + 10)), .ref (b + (n + 11)), .int 0, .int 0])
def kO_X7_init_5 (b n : Nat) : va_E := .inr (7, [.ref (b + (n + 0)), .ref (b + (n + 8)), .ref (b + (n + 10)), .ref (b + (n + 11)), .int 0, .int 0])
def kO_X7_init_6 (b n : Nat) : va_E := .inr (7, [.ref (b + (n + 0)), .ref (b + (n + 8)), .ref (b + (n + 10)), .ref (b + (n + 11)), .int 0, .int 0])
def kO_X7_init (b n : Nat) : va_E := kO_X7_init_6 b n
def kT_X7_init (g : Gw) (b n : Nat) : List va_E := kL_X7_init_4 g b n
theorem kT_X7_init_len (g : Gw) (b n : Nat) : (kT_X7_init g b n).length = 12 := kL_X7_init_4_len g b n
set_option maxRecDepth 100000 in
set_option maxHeartbeats 4000000 in
theorem kc_X7_init {l : Launch} {g : Gw} {b : Nat} (n h : Nat) (cw : Nat → va_E) (hh : h < n) (ho : cw h = .inr (7, [.null, .null, .null, .null, .int 0, .int 0])) : MtC l yX7_init cX7_init 1 4 12 338 g b [.ref (b + h)] (pS g b n cw) (pS g b (n + 12) (nfS cw n h (kO_X7_init b n) (kT_X7_init g b n))) := by
  refine mtc_of (by decide) rfl (Nat.le_of_ble_eq_true rfl) (fun p e s m below meth c ls H locs C hP hS hl => ?_)
  have C : Cc g p s m _ meth c cX7_init 1 RX7 := C
  have hl : lv_has ls 1 [(0, .ref (b + h))] := hl
  obtain ⟨hx, hb, hml, hown, hts, hr, hlk, hK, hNc, hin⟩ := id C
  have hP : pS g b (n + 0) (nfS cw n h (kO_X7_init_0 b n) (kL_X7_init_0 g b n)) H := pS_congr hP (nf_0 ho)
  refine lv_aload_n hx hb dX7_init_0 rfl (lv_at hl 0 rfl) ?_
  refine k_obj C hl.1 tw_125 tw_10 tw_11 ⟨Nat.le_of_ble_eq_true rfl, Nat.le_of_ble_eq_true rfl⟩ dX7_init_1 ?_
  refine lv_aload_n hx hb dX7_init_4 rfl (lv_at hl 0 rfl) ?_
  refine k_new C cf_8 tw_126 tw_21 tw_22 hP hS (fs := [.int 0, .int 0, .int 0, .int 0, .int 0, .null, .null, .null, .null, .null, .null, .null]) df_8 (Nat.le_of_ble_eq_true rfl) (Nat.le_of_ble_eq_true rfl) dX7_init_5 (fun H hP hS => ?_)
  refine lv_dup hx hb dX7_init_8 rfl ?_
  refine k_callN (As := []) (rest := [.ref (b + (n + 0)), .ref (b + h)]) C ca_X8_init 9 rfl (kc_X8_init (n + 1) (n + 0) (va_up (nfS cw n h (kO_X7_init_0 b n) (kL_X7_init_0 g b n)) (n + 0) (.inr (8, [.int 0, .int 0, .int 0, .int 0, .int 0, .null, .null, .null, .null, .null, .null, .null]))) (by omega) (vu_s _ _ _)) hP hS rfl hl.1 (Nat.le_of_ble_eq_true rfl) ⟨Nat.le_of_ble_eq_true rfl, Nat.le_of_ble_eq_true rfl⟩ ⟨Nat.le_of_ble_eq_true rfl, Nat.le_of_ble_eq_true rfl⟩ dX7_init_9 (fun H locs hP hS => ?_)
  have hP : pS g b (n + 8) (nfS cw n h (kO_X7_init_0 b n) (kL_X7_init_1 g b n)) H := pS_congr hP (nf_nest (N := 0) (N' := 7) hh (kL_X7_init_0_len g b n) (kT_X8_init_len _ _ _))
  refine k_put C cf_7 hP hS (show h < n + 8 by omega) nf_self 0 (by decide) (Nat.le_of_ble_eq_true rfl) (Or.inr rfl) rfl rfl tw_127 dX7_init_12 (fun H locs hP hS => ?_)
  have hP : pS g b (n + 8) (nfS cw n h (kO_X7_init_1 b n) (kL_X7_init_1 g b n)) H := pS_congr hP (nf_put (N := 8) (kL_X7_init_1_len g b n))
  refine lv_aload_n hx hb dX7_init_15 rfl (lv_at hl 0 rfl) ?_
  refine k_new C cf_2 tw_128 tw_94 tw_95 hP hS (fs := [.int 0, .null]) df_2 (Nat.le_of_ble_eq_true rfl) (Nat.le_of_ble_eq_true rfl) dX7_init_16 (fun H hP hS => ?_)
  refine lv_dup hx hb dX7_init_19 rfl ?_
  refine lv_bipush (v := 20) hx hb dX7_init_20 (by decide) ?_
  refine k_callI (As := [.int 20]) (rest := [.ref (b + (n + 8)), .ref (b + h)]) C ca_X2_init tw_134 (kc_X2_init 20 210 (by decide) (n + 9) (n + 8) (va_up (nfS cw n h (kO_X7_init_1 b n) (kL_X7_init_1 g b n)) (n + 8) (.inr (2, [.int 0, .null]))) (by omega) (vu_s _ _ _)) hP hS rfl hl.1 (Nat.le_of_ble_eq_true rfl) ⟨Nat.le_of_ble_eq_true rfl, Nat.le_of_ble_eq_true rfl⟩ ⟨Nat.le_of_ble_eq_true rfl, Nat.le_of_ble_eq_true rfl⟩ dX7_init_22 (fun H locs hP hS => ?_)
  have hP : pS g b (n + 10) (nfS cw n h (kO_X7_init_1 b n) (kL_X7_init_2 g b n)) H := pS_congr hP (nf_nest (N := 8) (N' := 1) hh (kL_X7_init_1_len g b n) (kT_X2_init_len _ _))
  refine k_put C cf_7 hP hS (show h < n + 10 by omega) nf_self 1 (by decide) (Nat.le_of_ble_eq_true rfl) (Or.inr rfl) rfl rfl tw_129 dX7_init_25 (fun H locs hP hS => ?_)
  have hP : pS g b (n + 10) (nfS cw n h (kO_X7_init_2 b n) (kL_X7_init_2 g b n)) H := pS_congr hP (nf_put (N := 10) (kL_X7_init_2_len g b n))
  refine lv_aload_n hx hb dX7_init_28 rfl (lv_at hl 0 rfl) ?_
  refine lv_bipush (v := 54) hx hb dX7_init_29 (by decide) ?_
  refine k_newZ C tw_115 hP hS (N := 54) (by decide) (by decide) (by decide) (Nat.le_of_ble_eq_true rfl) (Nat.le_of_ble_eq_true rfl) dX7_init_31 (fun H hP hS => ?_)
  have hP : pS g b (n + 11) (nfS cw n h (kO_X7_init_2 b n) (kL_X7_init_3 g b n)) H := pS_congr hP (nf_push (N := 10) hh (kL_X7_init_2_len g b n))
  refine k_put C cf_7 hP hS (show h < n + 11 by omega) nf_self 2 (by decide) (Nat.le_of_ble_eq_true rfl) (Or.inr rfl) rfl rfl tw_130 dX7_init_33 (fun H locs hP hS => ?_)
  have hP : pS g b (n + 11) (nfS cw n h (kO_X7_init_3 b n) (kL_X7_init_3 g b n)) H := pS_congr hP (nf_put (N := 11) (kL_X7_init_3_len g b n))
  refine lv_aload_n hx hb dX7_init_36 rfl (lv_at hl 0 rfl) ?_
  refine lv_bipush (v := 6) hx hb dX7_init_37 (by decide) ?_
  refine k_newI C tw_51 hP hS (N := 6) (by decide) (by decide) (by decide) (Nat.le_of_ble_eq_true rfl) (Nat.le_of_ble_eq_true rfl) dX7_init_39 (fun H hP hS => ?_)
  have hP : pS g b (n + 12) (nfS cw n h (kO_X7_init_3 b n) (kL_X7_init_4 g b n)) H := pS_congr hP (nf_push (N := 11) hh (kL_X7_init_3_len g b n))
  refine k_put C cf_7 hP hS (show h < n + 12 by omega) nf_self 3 (by decide) (Nat.le_of_ble_eq_true rfl) (Or.inr rfl) rfl rfl tw_131 dX7_init_41 (fun H locs hP hS => ?_)
  have hP : pS g b (n + 12) (nfS cw n h (kO_X7_init_4 b n) (kL_X7_init_4 g b n)) H := pS_congr hP (nf_put (N := 12) (kL_X7_init_4_len g b n))
  refine lv_aload_n hx hb dX7_init_44 rfl (lv_at hl 0 rfl) ?_
  refine lv_iconst (v := 0) hx hb dX7_init_45 (by decide) ?_
  refine k_put C cf_7 hP hS (show h < n + 12 by omega) nf_self 4 (by decide) (Nat.le_of_ble_eq_true rfl) (Or.inl rfl) rfl rfl tw_132 dX7_init_46 (fun H locs hP hS => ?_)
  have hP : pS g b (n + 12) (nfS cw n h (kO_X7_init_5 b n) (kL_X7_init_4 g b n)) H := pS_congr hP (nf_put (N := 12) (kL_X7_init_4_len g b n))
  refine lv_aload_n hx hb dX7_init_49 rfl (lv_at hl 0 rfl) ?_
  refine lv_iconst (v := 0) hx hb dX7_init_50 (by decide) ?_
  refine k_put C cf_7 hP hS (show h < n + 12 by omega) nf_self 5 (by decide) (Nat.le_of_ble_eq_true rfl) (Or.inl rfl) rfl rfl tw_133 dX7_init_51 (fun H locs hP hS => ?_)
  have hP : pS g b (n + 12) (nfS cw n h (kO_X7_init_6 b n) (kL_X7_init_4 g b n)) H := pS_congr hP (nf_put (N := 12) (kL_X7_init_4_len g b n))
  exact k_ret C hP hS dX7_init_54
