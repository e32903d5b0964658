theorem df_0 : ∀ j, j < 2 → defaultValue (tyX0 j) = vp_V [.int 0, .null] j := by decide
theorem df_1 : ∀ j, j < 8 → defaultValue (tyX1 j) = vp_V [.int 0, .null, .null, .null, .null, .null, .int 0, .int 0] j := by decide
theorem df_2 : ∀ j, j < 2 → defaultValue (tyX2 j) = vp_V [.int 0, .null] j := by decide
theorem df_3 : ∀ j, j < 3 → defaultValue (tyX3 j) = vp_V [.int 0, .int 0, .null] j := by decide
theorem df_4 : ∀ j, j < 3 → defaultValue (tyX4 j) = vp_V [.null, .null, .null] j := by decide
theorem df_5 : ∀ j, j < 4 → defaultValue (tyX5 j) = vp_V [.null, .null, .null, .int 0] j := by decide
theorem df_6 : ∀ j, j < 6 → defaultValue (tyX6 j) = vp_V [.null, .int 0, .int 0, .int 0, .null, .int 0] j := by decide
theorem df_7 : ∀ j, j < 6 → defaultValue (tyX7 j) = vp_V [.null, .null, .null, .null, .int 0, .int 0] j := by decide
theorem df_8 : ∀ j, j < 12 → defaultValue (tyX8 j) = vp_V [.int 0, .int 0, .int 0, .int 0, .int 0, .null, .null, .null, .null, .null, .null, .null] j := by decide
theorem df_9 : ∀ j, j < 10 → defaultValue (tyX9 j) = vp_V [.null, .null, .null, .null, .null, .null, .null, .null, .null, .int 0] j := by decide
theorem df_10 : ∀ j, j < 24 → defaultValue (tyX10 j) = vp_V [.null, .null, .null, .int 0, .null, .null, .null, .null, .int 0, .null, .null, .null, .int 0, .int 0, .null, .int 0, .int 0, .int 0, .int 0, .int 0, .int 0, .null, .null, .null] j := by decide

theorem ca_X8_init : CaI yX8_init cX8_init 1 0 := ⟨tw_65, tw_22, tw_66, rfl, by decide, by decide, by decide +kernel⟩
def kO_X8_init_0 (b n : Nat) : va_E := .inr (8, [.int 0, .int 0, .int 0, .int 0, .int 0, .null, .null, .null, .null, .null, .null, .null])
def kL_X8_init_0 (g : Gw) (b n : Nat) : List va_E := []
theorem kL_X8_init_0_len (g : Gw) (b n : Nat) : (kL_X8_init_0 g b n).length = 0 := rfl
def kO_X8_init_1 (b n : Nat) : va_E := .inr (8, [.int 0, .int 0, .int 0, .int 0, .int 0, .null, .null, .null, .null, .null, .null, .null])
def kO_X8_init_2 (b n : Nat) : va_E := .inr (8, [.int 0, .int 0, .int 0, .int 0, .int 0, .null, .null, .null, .null, .null, .null, .null])
def kO_X8_init_3 (b n : Nat) : va_E := .inr (8, [.int 0, .int 0, .int 0, .int 0, .int 0, .null, .null, .null, .null, .null, .null, .null])
def kO_X8_init_4 (b n : Nat) : va_E := .inr (8, [.int 0, .int 0, .int 0, .int 0, .int 0, .null, .null, .null, .null, .null, .null, .null])
def kO_X8_init_5 (b n : Nat) : va_E := .inr (8, [.int 0, .int 0, .int 0, .int 0, .int 0, .null, .null, .null, .null, .null, .null, .null])
def kL_X8_init_1 (g : Gw) (b n : Nat) : List va_E := kL_X8_init_0 g b n ++ [.inl (g.2.1 0, 10, .inl (fun _ => 0))]
theorem kL_X8_init_1_len (g : Gw) (b n : Nat) : (kL_X8_init_1 g b n).length = 1 := by
  unfold kL_X8_init_1
  rw [List.length_append, kL_X8_init_0_len]
  rfl
def kO_X8_init_6 (b n : Nat) : va_E := .inr (8, [.int 0, .int 0, .int 0, .int 0, .int 0, .ref (b + (n + 0)), .null, .null, .null, .null, .null, .null])
def kL_X8_init_2 (g : Gw) (b n : Nat) : List va_E := kL_X8_init_1 g b n ++ [.inl (g.2.1 0, 10, .inl (fun _ => 0))]
theorem kL_X8_init_2_len (g : Gw) (b n : Nat) : (kL_X8_init_2 g b n).length = 2 := by
  unfold kL_X8_init_2
  rw [List.length_append, kL_X8_init_1_len]
  rfl
def kO_X8_init_7 (b n : Nat) : va_E := .inr (8, [.int 0, .int 0, .int 0, .int 0, .int 0, .ref (b + (n + 0)), .ref (b + (n + 1)), .null, .null, .null, .null, .null])
def kL_X8_init_3 (g : Gw) (b n : Nat) : List va_E := kL_X8_init_2 g b n ++ [.inl (g.2.1 0, 10, .inl (fun _ => 0))]
theorem kL_X8_init_3_len (g : Gw) (b n : Nat) : (kL_X8_init_3 g b n).length = 3 := by
  unfold kL_X8_init_3
  rw [List.length_append, kL_X8_init_2_len]
  rfl
def kO_X8_init_8 (b n : Nat) : va_E := .inr (8, [.int 0, .int 0, .int 0, .int 0, .int 0, .ref (b + (n + 0)), .ref (b + (n + 1)), .ref (b + (n + 2)), .null, .null, .null, .null])
def kL_X8_init_4 (g : Gw) (b n : Nat) : List va_E := kL_X8_init_3 g b n ++ [.inl (g.2.1 0, 6, .inl (fun _ => 0))]
theorem kL_X8_init_4_len (g : Gw) (b n : Nat) : (kL_X8_init_4 g b n).length = 4 := by
  unfold kL_X8_init_4
  rw [List.length_append, kL_X8_init_3_len]
  rfl
def kO_X8_init_9 (b n : Nat) : va_E := .inr (8, [.int 0, .int 0, .int 0, .int 0, .int 0, .ref (b + (n + 0)), .ref (b + (n + 1)), .ref (b + (n + 2)), .ref (b + (n + 3)), .null, .null, .null])
def kL_X8_init_5 (g : Gw) (b n : Nat) : List va_E := kL_X8_init_4 g b n ++ [.inl (g.2.1 0, 6, .inl (fun _ => 0))]
theorem kL_X8_init_5_len (g : Gw) (b n : Nat) : (kL_X8_init_5 g b n).length = 5 := by
  unfold kL_X8_init_5
  rw [List.length_append, kL_X8_init_4_len]
  rfl
def kO_X8_init_10 (b n : Nat) : va_E := .inr (8, [.int 0, .int 0, .int 0, .int 0, .int 0, .ref (b + (n + 0)), .ref (b + (n + 1)), .ref (b + (n + 2)), .ref (b + (n + 3)), .ref (b + (n + 4)), .null, .null])
def kL_X8_init_6 (g : Gw) (b n : Nat) : List va_E := kL_X8_init_5 g b n ++ [.inl (g.2.1 0, 6, .inl (fun _ => 0))]
theorem kL_X8_init_6_len (g : Gw) (b n : Nat) : (kL_X8_init_6 g b n).length = 6 := by
  unfold kL_X8_init_6
  rw [List.length_append, kL_X8_init_5_len]
  rfl
def kO_X8_init_11 (b n : Nat) : va_E := .inr (8, [.int 0, .int 0, .int 0, .int 0, .int 0, .ref (b + (n + 0)), .ref (b + (n + 1)), .ref (b + (n + 2)), .ref (b + (n + 3)), .ref (b + (n + 4)), .ref (b + (n + 5)), .null])
def kL_X8_init_7 (g : Gw) (b n : Nat) : List va_E := kL_X8_init_6 g b n ++ [.inl (g.2.1 0, 6, .inl (fun _ => 0))]
theorem kL_X8_init_7_len (g : Gw) (b n : Nat) : (kL_X8_init_7 g b n).length = 7 := by
  unfold kL_X8_init_7
  rw [List.length_append, kL_X8_init_6_len]
  rfl
def kO_X8_init_12 (b n : Nat) : va_E := .inr (8, [.int 0, .int 0, .int 0, .int 0, .int 0, .ref (b + (n + 0)), .ref (b + (n + 1)), .ref (b + (n + 2)), .ref (b + (n + 3)), .ref (b + (n + 4)), .ref (b + (n + 5)), .ref (b + (n + 6))])
def kO_X8_init (b n : Nat) : va_E := kO_X8_init_12 b n
def kT_X8_init (g : Gw) (b n : Nat) : List va_E := kL_X8_init_7 g b n
theorem kT_X8_init_len (g : Gw) (b n : Nat) : (kT_X8_init g b n).length = 7 := kL_X8_init_7_len g b n
set_option maxRecDepth 100000 in
set_option maxHeartbeats 4000000 in
theorem kc_X8_init {l : Launch} {g : Gw} {b : Nat} (n h : Nat) (cw : Nat → va_E) (hh : h < n) (ho : cw h = .inr (8, [.int 0, .int 0, .int 0, .int 0, .int 0, .null, .null, .null, .null, .null, .null, .null])) : MtC l yX8_init cX8_init 1 2 7 54 g b [.ref (b + h)] (pS g b n cw) (pS g b (n + 7) (nfS cw n h (kO_X8_init b n) (kT_X8_init g b n))) := by
  refine mtc_of (by decide) rfl (Nat.le_of_ble_eq_true rfl) (fun p e s m below meth c ls H locs C hP hS hl => ?_)
  have C : Cc g p s m _ meth c cX8_init 1 RX8 := C
  have hl : lv_has ls 1 [(0, .ref (b + h))] := hl
  obtain ⟨hx, hb, hml, hown, hts, hr, hlk, hK, hNc, hin⟩ := id C
  have hP : pS g b (n + 0) (nfS cw n h (kO_X8_init_0 b n) (kL_X8_init_0 g b n)) H := pS_congr hP (nf_0 ho)
  refine lv_aload_n hx hb dX8_init_0 rfl (lv_at hl 0 rfl) ?_
  refine k_obj C hl.1 tw_67 tw_10 tw_11 ⟨Nat.le_of_ble_eq_true rfl, Nat.le_of_ble_eq_true rfl⟩ dX8_init_1 ?_
  refine lv_aload_n hx hb dX8_init_4 rfl (lv_at hl 0 rfl) ?_
  refine lv_iconst (v := 0) hx hb dX8_init_5 (by decide) ?_
  refine k_put C cf_8 hP hS (show h < n + 0 by omega) nf_self 0 (by decide) (Nat.le_of_ble_eq_true rfl) (Or.inl rfl) rfl rfl tw_68 dX8_init_6 (fun H locs hP hS => ?_)
  have hP : pS g b (n + 0) (nfS cw n h (kO_X8_init_1 b n) (kL_X8_init_0 g b n)) H := pS_congr hP (nf_put (N := 0) (kL_X8_init_0_len g b n))
  refine lv_aload_n hx hb dX8_init_9 rfl (lv_at hl 0 rfl) ?_
  refine lv_iconst (v := 0) hx hb dX8_init_10 (by decide) ?_
  refine k_put C cf_8 hP hS (show h < n + 0 by omega) nf_self 1 (by decide) (Nat.le_of_ble_eq_true rfl) (Or.inl rfl) rfl rfl tw_69 dX8_init_11 (fun H locs hP hS => ?_)
  have hP : pS g b (n + 0) (nfS cw n h (kO_X8_init_2 b n) (kL_X8_init_0 g b n)) H := pS_congr hP (nf_put (N := 0) (kL_X8_init_0_len g b n))
  refine lv_aload_n hx hb dX8_init_14 rfl (lv_at hl 0 rfl) ?_
  refine lv_iconst (v := 0) hx hb dX8_init_15 (by decide) ?_
  refine k_put C cf_8 hP hS (show h < n + 0 by omega) nf_self 2 (by decide) (Nat.le_of_ble_eq_true rfl) (Or.inl rfl) rfl rfl tw_70 dX8_init_16 (fun H locs hP hS => ?_)
  have hP : pS g b (n + 0) (nfS cw n h (kO_X8_init_3 b n) (kL_X8_init_0 g b n)) H := pS_congr hP (nf_put (N := 0) (kL_X8_init_0_len g b n))
  refine lv_aload_n hx hb dX8_init_19 rfl (lv_at hl 0 rfl) ?_
  refine lv_iconst (v := 0) hx hb dX8_init_20 (by decide) ?_
  refine k_put C cf_8 hP hS (show h < n + 0 by omega) nf_self 3 (by decide) (Nat.le_of_ble_eq_true rfl) (Or.inl rfl) rfl rfl tw_71 dX8_init_21 (fun H locs hP hS => ?_)
  have hP : pS g b (n + 0) (nfS cw n h (kO_X8_init_4 b n) (kL_X8_init_0 g b n)) H := pS_congr hP (nf_put (N := 0) (kL_X8_init_0_len g b n))
  refine lv_aload_n hx hb dX8_init_24 rfl (lv_at hl 0 rfl) ?_
  refine lv_iconst (v := 0) hx hb dX8_init_25 (by decide) ?_
  refine k_put C cf_8 hP hS (show h < n + 0 by omega) nf_self 4 (by decide) (Nat.le_of_ble_eq_true rfl) (Or.inl rfl) rfl rfl tw_72 dX8_init_26 (fun H locs hP hS => ?_)
  have hP : pS g b (n + 0) (nfS cw n h (kO_X8_init_5 b n) (kL_X8_init_0 g b n)) H := pS_congr hP (nf_put (N := 0) (kL_X8_init_0_len g b n))
  refine lv_aload_n hx hb dX8_init_29 rfl (lv_at hl 0 rfl) ?_
  refine lv_bipush (v := 10) hx hb dX8_init_30 (by decide) ?_
  refine k_newI C tw_51 hP hS (N := 10) (by decide) (by decide) (by decide) (Nat.le_of_ble_eq_true rfl) (Nat.le_of_ble_eq_true rfl) dX8_init_32 (fun H hP hS => ?_)
  have hP : pS g b (n + 1) (nfS cw n h (kO_X8_init_5 b n) (kL_X8_init_1 g b n)) H := pS_congr hP (nf_push (N := 0) hh (kL_X8_init_0_len g b n))
  refine k_put C cf_8 hP hS (show h < n + 1 by omega) nf_self 5 (by decide) (Nat.le_of_ble_eq_true rfl) (Or.inr rfl) rfl rfl tw_73 dX8_init_34 (fun H locs hP hS => ?_)
  have hP : pS g b (n + 1) (nfS cw n h (kO_X8_init_6 b n) (kL_X8_init_1 g b n)) H := pS_congr hP (nf_put (N := 1) (kL_X8_init_1_len g b n))
  refine lv_aload_n hx hb dX8_init_37 rfl (lv_at hl 0 rfl) ?_
  refine lv_bipush (v := 10) hx hb dX8_init_38 (by decide) ?_
  refine k_newI C tw_51 hP hS (N := 10) (by decide) (by decide) (by decide) (Nat.le_of_ble_eq_true rfl) (Nat.le_of_ble_eq_true rfl) dX8_init_40 (fun H hP hS => ?_)
  have hP : pS g b (n + 2) (nfS cw n h (kO_X8_init_6 b n) (kL_X8_init_2 g b n)) H := pS_congr hP (nf_push (N := 1) hh (kL_X8_init_1_len g b n))
  refine k_put C cf_8 hP hS (show h < n + 2 by omega) nf_self 6 (by decide) (Nat.le_of_ble_eq_true rfl) (Or.inr rfl) rfl rfl tw_74 dX8_init_42 (fun H locs hP hS => ?_)
  have hP : pS g b (n + 2) (nfS cw n h (kO_X8_init_7 b n) (kL_X8_init_2 g b n)) H := pS_congr hP (nf_put (N := 2) (kL_X8_init_2_len g b n))
  refine lv_aload_n hx hb dX8_init_45 rfl (lv_at hl 0 rfl) ?_
  refine lv_bipush (v := 10) hx hb dX8_init_46 (by decide) ?_
  refine k_newI C tw_51 hP hS (N := 10) (by decide) (by decide) (by decide) (Nat.le_of_ble_eq_true rfl) (Nat.le_of_ble_eq_true rfl) dX8_init_48 (fun H hP hS => ?_)
  have hP : pS g b (n + 3) (nfS cw n h (kO_X8_init_7 b n) (kL_X8_init_3 g b n)) H := pS_congr hP (nf_push (N := 2) hh (kL_X8_init_2_len g b n))
  refine k_put C cf_8 hP hS (show h < n + 3 by omega) nf_self 7 (by decide) (Nat.le_of_ble_eq_true rfl) (Or.inr rfl) rfl rfl tw_75 dX8_init_50 (fun H locs hP hS => ?_)
  have hP : pS g b (n + 3) (nfS cw n h (kO_X8_init_8 b n) (kL_X8_init_3 g b n)) H := pS_congr hP (nf_put (N := 3) (kL_X8_init_3_len g b n))
  refine lv_aload_n hx hb dX8_init_53 rfl (lv_at hl 0 rfl) ?_
  refine lv_bipush (v := 6) hx hb dX8_init_54 (by decide) ?_
  refine k_newI C tw_51 hP hS (N := 6) (by decide) (by decide) (by decide) (Nat.le_of_ble_eq_true rfl) (Nat.le_of_ble_eq_true rfl) dX8_init_56 (fun H hP hS => ?_)
  have hP : pS g b (n + 4) (nfS cw n h (kO_X8_init_8 b n) (kL_X8_init_4 g b n)) H := pS_congr hP (nf_push (N := 3) hh (kL_X8_init_3_len g b n))
  refine k_put C cf_8 hP hS (show h < n + 4 by omega) nf_self 8 (by decide) (Nat.le_of_ble_eq_true rfl) (Or.inr rfl) rfl rfl tw_76 dX8_init_58 (fun H locs hP hS => ?_)
  have hP : pS g b (n + 4) (nfS cw n h (kO_X8_init_9 b n) (kL_X8_init_4 g b n)) H := pS_congr hP (nf_put (N := 4) (kL_X8_init_4_len g b n))
  refine lv_aload_n hx hb dX8_init_61 rfl (lv_at hl 0 rfl) ?_
  refine lv_bipush (v := 6) hx hb dX8_init_62 (by decide) ?_
  refine k_newI C tw_51 hP hS (N := 6) (by decide) (by decide) (by decide) (Nat.le_of_ble_eq_true rfl) (Nat.le_of_ble_eq_true rfl) dX8_init_64 (fun H hP hS => ?_)
  have hP : pS g b (n + 5) (nfS cw n h (kO_X8_init_9 b n) (kL_X8_init_5 g b n)) H := pS_congr hP (nf_push (N := 4) hh (kL_X8_init_4_len g b n))
  refine k_put C cf_8 hP hS (show h < n + 5 by omega) nf_self 9 (by decide) (Nat.le_of_ble_eq_true rfl) (Or.inr rfl) rfl rfl tw_77 dX8_init_66 (fun H locs hP hS => ?_)
  have hP : pS g b (n + 5) (nfS cw n h (kO_X8_init_10 b n) (kL_X8_init_5 g b n)) H := pS_congr hP (nf_put (N := 5) (kL_X8_init_5_len g b n))
  refine lv_aload_n hx hb dX8_init_69 rfl (lv_at hl 0 rfl) ?_
  refine lv_bipush (v := 6) hx hb dX8_init_70 (by decide) ?_
  refine k_newI C tw_51 hP hS (N := 6) (by decide) (by decide) (by decide) (Nat.le_of_ble_eq_true rfl) (Nat.le_of_ble_eq_true rfl) dX8_init_72 (fun H hP hS => ?_)
  have hP : pS g b (n + 6) (nfS cw n h (kO_X8_init_10 b n) (kL_X8_init_6 g b n)) H := pS_congr hP (nf_push (N := 5) hh (kL_X8_init_5_len g b n))
  refine k_put C cf_8 hP hS (show h < n + 6 by omega) nf_self 10 (by decide) (Nat.le_of_ble_eq_true rfl) (Or.inr rfl) rfl rfl tw_78 dX8_init_74 (fun H locs hP hS => ?_)
  have hP : pS g b (n + 6) (nfS cw n h (kO_X8_init_11 b n) (kL_X8_init_6 g b n)) H := pS_congr hP (nf_put (N := 6) (kL_X8_init_6_len g b n))
  refine lv_aload_n hx hb dX8_init_77 rfl (lv_at hl 0 rfl) ?_
  refine lv_bipush (v := 6) hx hb dX8_init_78 (by decide) ?_
  refine k_newI C tw_51 hP hS (N := 6) (by decide) (by decide) (by decide) (Nat.le_of_ble_eq_true rfl) (Nat.le_of_ble_eq_true rfl) dX8_init_80 (fun H hP hS => ?_)
  have hP : pS g b (n + 7) (nfS cw n h (kO_X8_init_11 b n) (kL_X8_init_7 g b n)) H := pS_congr hP (nf_push (N := 6) hh (kL_X8_init_6_len g b n))
  refine k_put C cf_8 hP hS (show h < n + 7 by omega) nf_self 11 (by decide) (Nat.le_of_ble_eq_true rfl) (Or.inr rfl) rfl rfl tw_79 dX8_init_82 (fun H locs hP hS => ?_)
  have hP : pS g b (n + 7) (nfS cw n h (kO_X8_init_12 b n) (kL_X8_init_7 g b n)) H := pS_congr hP (nf_put (N := 7) (kL_X8_init_7_len g b n))
  exact k_ret C hP hS dX8_init_85
theorem ca_X0_init : CaI yX0_init cX0_init 1 0 := ⟨tw_135, tw_43, tw_136, rfl, by decide, by decide, by decide +kernel⟩
def kO_X0_init_0 (b n : Nat) : va_E := .inr (0, [.int 0, .null])
def kL_X0_init_0 (g : Gw) (b n : Nat) : List va_E := []
theorem kL_X0_init_0_len (g : Gw) (b n : Nat) : (kL_X0_init_0 g b n).length = 0 := rfl
def kO_X0_init_1 (b n : Nat) : va_E := .inr (0, [.int 0, .null])
def kL_X0_init_1 (g : Gw) (b n : Nat) : List va_E := kL_X0_init_0 g b n ++ [.inl (g.2.1 0, 16, .inl (fun _ => 0))]
theorem kL_X0_init_1_len (g : Gw) (b n : Nat) : (kL_X0_init_1 g b n).length = 1 := by
  unfold kL_X0_init_1
  rw [List.length_append, kL_X0_init_0_len]
  rfl
def kO_X0_init_2 (b n : Nat) : va_E := .inr (0, [.int 0, .ref (b + (n + 0))])
def kO_X0_init (b n : Nat) : va_E := kO_X0_init_2 b n
def kT_X0_init (g : Gw) (b n : Nat) : List va_E := kL_X0_init_1 g b n
theorem kT_X0_init_len (g : Gw) (b n : Nat) : (kT_X0_init g b n).length = 1 := kL_X0_init_1_len g b n
set_option maxRecDepth 100000 in
set_option maxHeartbeats 4000000 in
theorem kc_X0_init {l : Launch} {g : Gw} {b : Nat} (n h : Nat) (cw : Nat → va_E) (hh : h < n) (ho : cw h = .inr (0, [.int 0, .null])) : MtC l yX0_init cX0_init 1 2 1 16 g b [.ref (b + h)] (pS g b n cw) (pS g b (n + 1) (nfS cw n h (kO_X0_init b n) (kT_X0_init g b n))) := by
  refine mtc_of (by decide) rfl (Nat.le_of_ble_eq_true rfl) (fun p e s m below meth c ls H locs C hP hS hl => ?_)
  have C : Cc g p s m _ meth c cX0_init 1 RX0 := C
  have hl : lv_has ls 1 [(0, .ref (b + h))] := hl
  obtain ⟨hx, hb, hml, hown, hts, hr, hlk, hK, hNc, hin⟩ := id C
  have hP : pS g b (n + 0) (nfS cw n h (kO_X0_init_0 b n) (kL_X0_init_0 g b n)) H := pS_congr hP (nf_0 ho)
  refine lv_aload_n hx hb dX0_init_0 rfl (lv_at hl 0 rfl) ?_
  refine k_obj C hl.1 tw_137 tw_10 tw_11 ⟨Nat.le_of_ble_eq_true rfl, Nat.le_of_ble_eq_true rfl⟩ dX0_init_1 ?_
  refine lv_aload_n hx hb dX0_init_4 rfl (lv_at hl 0 rfl) ?_
  refine lv_iconst (v := 0) hx hb dX0_init_5 (by decide) ?_
  refine k_put C cf_0 hP hS (show h < n + 0 by omega) nf_self 0 (by decide) (Nat.le_of_ble_eq_true rfl) (Or.inl rfl) rfl rfl tw_138 dX0_init_6 (fun H locs hP hS => ?_)
  have hP : pS g b (n + 0) (nfS cw n h (kO_X0_init_1 b n) (kL_X0_init_0 g b n)) H := pS_congr hP (nf_put (N := 0) (kL_X0_init_0_len g b n))
  refine lv_aload_n hx hb dX0_init_9 rfl (lv_at hl 0 rfl) ?_
  refine lv_bipush (v := 16) hx hb dX0_init_10 (by decide) ?_
  refine k_newI C tw_51 hP hS (N := 16) (by decide) (by decide) (by decide) (Nat.le_of_ble_eq_true rfl) (Nat.le_of_ble_eq_true rfl) dX0_init_12 (fun H hP hS => ?_)
  have hP : pS g b (n + 1) (nfS cw n h (kO_X0_init_1 b n) (kL_X0_init_1 g b n)) H := pS_congr hP (nf_push (N := 0) hh (kL_X0_init_0_len g b n))
  refine k_put C cf_0 hP hS (show h < n + 1 by omega) nf_self 1 (by decide) (Nat.le_of_ble_eq_true rfl) (Or.inr rfl) rfl rfl tw_139 dX0_init_14 (fun H locs hP hS => ?_)
  have hP : pS g b (n + 1) (nfS cw n h (kO_X0_init_2 b n) (kL_X0_init_1 g b n)) H := pS_congr hP (nf_put (N := 1) (kL_X0_init_1_len g b n))
  exact k_ret C hP hS dX0_init_17
theorem ca_X2_init : CaI yX2_init cX2_init 2 1 := ⟨tw_100, tw_95, tw_101, rfl, by decide, by decide, by decide +kernel⟩
def kO_X2_init (b n : Nat) (x : Int32) : va_E := (.inr (2, [.int x, .ref (b + (n + 0))]))
def kT_X2_init (g : Gw) (N : Nat) : List va_E := [.inl (g.2.1 0, N, .inl (fun _ => 0))]
theorem kT_X2_init_len (g : Gw) (N : Nat) : (kT_X2_init g N).length = 1 := rfl
theorem vu_s {α : Type} (f : Nat → α) (k : Nat) (x : α) : va_up f k x k = x := if_pos rfl
set_option maxRecDepth 100000 in
set_option maxHeartbeats 4000000 in
theorem kc_X2_init {l : Launch} {g : Gw} {b : Nat} (x : Int32) (N : Nat) (hx1 : ¬ x < 0 ∧ ¬ (x + 1) * 10 < 0 ∧ ((x + 1) * 10).toNatClampNeg = N ∧ N * 4 ≤ 536870912) (n h : Nat) (cw : Nat → va_E) (hh : h < n) (ho : cw h = .inr (2, [.int 0, .null])) : MtC l yX2_init cX2_init 2 3 1 N g b [.ref (b + h), .int x] (pS g b n cw) (pS g b (n + 1) (nfS cw n h (kO_X2_init b n x) (kT_X2_init g N))) := by
  refine mtc_of (by decide) rfl (Nat.le_of_ble_eq_true rfl) (fun p e s m below meth c ls H locs C hP hS hl => ?_)
  have C : Cc g p s m _ meth c cX2_init 2 RX2 := C
  have hl : lv_has ls 2 [(0, .ref (b + h)), (1, .int x)] := hl
  obtain ⟨hx, hb, hml, hown, hts, hr, hlk, hK, hNc, hin⟩ := id C
  have hP : pS g b (n + 0) (nfS cw n h (.inr (2, [.int 0, .null])) []) H := pS_congr hP (nf_0 ho)
  refine lv_aload_n hx hb dX2_init_0 rfl (lv_at hl 0 rfl) ?_
  refine k_obj C hl.1 tw_102 tw_10 tw_11 ⟨Nat.le_of_ble_eq_true rfl, Nat.le_of_ble_eq_true rfl⟩ dX2_init_1 ?_
  refine lv_aload_n hx hb dX2_init_4 rfl (lv_at hl 0 rfl) ?_
  refine lv_iconst (v := 0) hx hb dX2_init_5 (by decide) ?_
  refine lv_iload_n hx hb dX2_init_6 rfl (lv_at hl 1 rfl) ?_
  refine va_mmax hx hb (hml.trans hl.1.symm) hown (hts _ tw_103) (hts _ tw_104) (hts _ tw_105) (hts _ tw_106) (Nat.le_of_ble_eq_true rfl) (Nat.le_of_ble_eq_true rfl) (Nat.zero_le _) (Nat.zero_le _) dX2_init_7 ?_
  have hmx : (if (0 : Int32) < x then x else 0) = x := by
    by_cases q : (0 : Int32) < x
    · rw [if_pos q]
    · rw [if_neg q]
      exact (Int32.le_antisymm (Int32.not_lt.mp q) (Int32.not_lt.mp hx1.1)).symm
  rw [hmx]
  refine k_put C cf_2 hP hS (show h < n + 0 by omega) nf_self 0 (by decide) (Nat.le_of_ble_eq_true rfl) (Or.inr rfl) rfl rfl tw_107 dX2_init_10 (fun H locs hP hS => ?_)
  have hP : pS g b (n + 0) (nfS cw n h (.inr (2, [.int x, .null])) []) H := pS_congr hP (nf_put (N := 0) rfl)
  refine lv_aload_n hx hb dX2_init_13 rfl (lv_at hl 0 rfl) ?_
  refine lv_aload_n hx hb dX2_init_14 rfl (lv_at hl 0 rfl) ?_
  refine k_get C cf_2 hP (show h < n + 0 by omega) nf_self 0 (by decide) rfl tw_107 dX2_init_15 ?_
  refine lv_iconst (v := 1) hx hb dX2_init_18 (by decide) ?_
  refine lv_iadd hx hb dX2_init_19 ?_
  refine lv_bipush (v := 10) hx hb dX2_init_20 (by decide) ?_
  refine lv_imul hx hb dX2_init_22 ?_
  refine k_newI C tw_51 hP hS (N := N) hx1.2.1 hx1.2.2.1 hx1.2.2.2 (Nat.le_of_ble_eq_true rfl) (Nat.le_of_eq (Nat.zero_add N)) dX2_init_23 (fun H hP hS => ?_)
  have hP : pS g b (n + 1) (nfS cw n h (.inr (2, [.int x, .null])) [.inl (g.2.1 0, N, .inl (fun _ => 0))]) H := pS_congr hP (nf_push (N := 0) hh rfl)
  refine k_put C cf_2 hP hS (show h < n + 1 by omega) nf_self 1 (by decide) (Nat.le_of_ble_eq_true rfl) (Or.inr rfl) rfl rfl tw_108 dX2_init_25 (fun H locs hP hS => ?_)
  have hP : pS g b (n + 1) (nfS cw n h (kO_X2_init b n x) (kT_X2_init g N)) H := pS_congr hP (nf_put (N := 1) rfl)
  refine W.widen (k := 1) (n := N) (Nat.le_of_ble_eq_true rfl) (Nat.le_of_eq (Nat.zero_add N)) ?_
  exact k_ret C hP hS dX2_init_28
