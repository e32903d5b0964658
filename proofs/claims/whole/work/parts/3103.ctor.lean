theorem ca_X1_init : CaI yX1_init cX1_init 1 0 := ⟨tw_109, tw_35, tw_110, rfl, by decide, by decide, by decide +kernel⟩
def kO_X1_init_0 (b n : Nat) : va_E := .inr (1, [.int 0, .null, .null, .null, .null, .null, .int 0, .int 0])
def kL_X1_init_0 (g : Gw) (b n : Nat) : List va_E := []
theorem kL_X1_init_0_len (g : Gw) (b n : Nat) : (kL_X1_init_0 g b n).length = 0 := rfl
def kO_X1_init_1 (b n : Nat) : va_E := .inr (1, [.int 0, .null, .null, .null, .null, .null, .int 0, .int 0])
def kL_X1_init_1 (g : Gw) (b n : Nat) : List va_E := kL_X1_init_0 g b n ++ kO_X2_init b (n + 1) 24 :: kT_X2_init g 250
theorem kL_X1_init_1_len (g : Gw) (b n : Nat) : (kL_X1_init_1 g b n).length = 2 := by
  unfold kL_X1_init_1
  rw [List.length_append, List.length_cons, kL_X1_init_0_len, kT_X2_init_len _ _]
def kO_X1_init_2 (b n : Nat) : va_E := .inr (1, [.int 0, .ref (b + (n + 0)), .null, .null, .null, .null, .int 0, .int 0])
def kL_X1_init_2 (g : Gw) (b n : Nat) : List va_E := kL_X1_init_1 g b n ++ [.inl (g.2.1 1, 96, .inl (fun _ => 0))]
theorem kL_X1_init_2_len (g : Gw) (b n : Nat) : (kL_X1_init_2 g b n).length = 3 := by
  unfold kL_X1_init_2
  rw [List.length_append, kL_X1_init_1_len]
  rfl
def kO_X1_init_3 (b n : Nat) : va_E := .inr (1, [.int 0, .ref (b + (n + 0)), .ref (b + (n + 2)), .null, .null, .null, .int 0, .int 0])
def kL_X1_init_3 (g : Gw) (b n : Nat) : List va_E := kL_X1_init_2 g b n ++ [.inl (g.2.1 0, 4, .inl (fun _ => 0))]
theorem kL_X1_init_3_len (g : Gw) (b n : Nat) : (kL_X1_init_3 g b n).length = 4 := by
  unfold kL_X1_init_3
  rw [List.length_append, kL_X1_init_2_len]
  rfl
def kO_X1_init_4 (b n : Nat) : va_E := .inr (1, [.int 0, .ref (b + (n + 0)), .ref (b + (n + 2)), .ref (b + (n + 3)), .null, .null, .int 0, .int 0])
def kL_X1_init_4 (g : Gw) (b n : Nat) : List va_E := kL_X1_init_3 g b n ++ [.inl (g.2.1 0, 4, .inl (fun _ => 0))]
theorem kL_X1_init_4_len (g : Gw) (b n : Nat) : (kL_X1_init_4 g b n).length = 5 := by
  unfold kL_X1_init_4
  rw [List.length_append, kL_X1_init_3_len]
  rfl
def kO_X1_init_5 (b n : Nat) : va_E := .inr (1, [.int 0, .ref (b + (n + 0)), .ref (b + (n + 2)), .ref (b + (n + 3)), .ref (b + (n + 4)), .null, .int 0, .int 0])
def kL_X1_init_5 (g : Gw) (b n : Nat) : List va_E := kL_X1_init_4 g b n ++ [.inl (g.2.1 0, 6, .inl (fun _ => 0))]
theorem kL_X1_init_5_len (g : Gw) (b n : Nat) : (kL_X1_init_5 g b n).length = 6 := by
  unfold kL_X1_init_5
  rw [List.length_append, kL_X1_init_4_len]
  rfl
def kO_X1_init_6 (b n : Nat) : va_E := .inr (1, [.int 0, .ref (b + (n + 0)), .ref (b + (n + 2)), .ref (b + (n + 3)), .ref (b + (n + 4)), .ref (b + (n + 5)), .int 0, .int 0])
def kO_X1_init_7 (b n : Nat) : va_E := .inr (1, [.int 0, .ref (b + (n + 0)), .ref (b + (n + 2)), .ref (b + (n + 3)), .ref (b + (n + 4)), .ref (b + (n + 5)), .int 0, .int 0])
def kO_X1_init_8 (b n : Nat) : va_E := .inr (1, [.int 0, .ref (b + (n + 0)), .ref (b + (n + 2)), .ref (b + (n + 3)), .ref (b + (n + 4)), .ref (b + (n + 5)), .int 0, .int 0])
def kO_X1_init (b n : Nat) : va_E := kO_X1_init_8 b n
def kT_X1_init (g : Gw) (b n : Nat) : List va_E := kL_X1_init_5 g b n
theorem kT_X1_init_len (g : Gw) (b n : Nat) : (kT_X1_init g b n).length = 6 := kL_X1_init_5_len g b n
set_option maxRecDepth 100000 in
set_option maxHeartbeats 4000000 in
theorem kc_X1_init {l : Launch} {g : Gw} {b : Nat} (n h : Nat) (cw : Nat → va_E) (hh : h < n) (ho : cw h = .inr (1, [.int 0, .null, .null, .null, .null, .null, .int 0, .int 0])) : MtC l yX1_init cX1_init 1 4 6 362 g b [.ref (b + h)] (pS g b n cw) (pS g b (n + 6) (nfS cw n h (kO_X1_init b n) (kT_X1_init g b n))) := by
  refine mtc_of (by decide) rfl (Nat.le_of_ble_eq_true rfl) (fun p e s m below meth c ls H locs C hP hS hl => ?_)
  have C : Cc g p s m _ meth c cX1_init 1 RX1 := C
  have hl : lv_has ls 1 [(0, .ref (b + h))] := hl
  obtain ⟨hx, hb, hml, hown, hts, hr, hlk, hK, hNc, hin⟩ := id C
  have hP : pS g b (n + 0) (nfS cw n h (kO_X1_init_0 b n) (kL_X1_init_0 g b n)) H := pS_congr hP (nf_0 ho)
  refine lv_aload_n hx hb dX1_init_0 rfl (lv_at hl 0 rfl) ?_
  refine k_obj C hl.1 tw_111 tw_10 tw_11 ⟨Nat.le_of_ble_eq_true rfl, Nat.le_of_ble_eq_true rfl⟩ dX1_init_1 ?_
  refine lv_aload_n hx hb dX1_init_4 rfl (lv_at hl 0 rfl) ?_
  refine lv_iconst (v := 0) hx hb dX1_init_5 (by decide) ?_
  refine k_put C cf_1 hP hS (show h < n + 0 by omega) nf_self 0 (by decide) (Nat.le_of_ble_eq_true rfl) (Or.inl rfl) rfl rfl tw_112 dX1_init_6 (fun H locs hP hS => ?_)
  have hP : pS g b (n + 0) (nfS cw n h (kO_X1_init_1 b n) (kL_X1_init_0 g b n)) H := pS_congr hP (nf_put (N := 0) (kL_X1_init_0_len g b n))
  refine lv_aload_n hx hb dX1_init_9 rfl (lv_at hl 0 rfl) ?_
  refine k_new C cf_2 tw_113 tw_94 tw_95 hP hS (fs := [.int 0, .null]) df_2 (Nat.le_of_ble_eq_true rfl) (Nat.le_of_ble_eq_true rfl) dX1_init_10 (fun H hP hS => ?_)
  refine lv_dup hx hb dX1_init_13 rfl ?_
  refine lv_bipush (v := 24) hx hb dX1_init_14 (by decide) ?_
  refine k_callI (As := [.int 24]) (rest := [.ref (b + (n + 0)), .ref (b + h)]) C ca_X2_init tw_122 (kc_X2_init 24 250 (by decide) (n + 1) (n + 0) (va_up (nfS cw n h (kO_X1_init_1 b n) (kL_X1_init_0 g b n)) (n + 0) (.inr (2, [.int 0, .null]))) (by omega) (vu_s _ _ _)) hP hS rfl hl.1 (Nat.le_of_ble_eq_true rfl) ⟨Nat.le_of_ble_eq_true rfl, Nat.le_of_ble_eq_true rfl⟩ ⟨Nat.le_of_ble_eq_true rfl, Nat.le_of_ble_eq_true rfl⟩ dX1_init_16 (fun H locs hP hS => ?_)
  have hP : pS g b (n + 2) (nfS cw n h (kO_X1_init_1 b n) (kL_X1_init_1 g b n)) H := pS_congr hP (nf_nest (N := 0) (N' := 1) hh (kL_X1_init_0_len g b n) (kT_X2_init_len _ _))
  refine k_put C cf_1 hP hS (show h < n + 2 by omega) nf_self 1 (by decide) (Nat.le_of_ble_eq_true rfl) (Or.inr rfl) rfl rfl tw_114 dX1_init_19 (fun H locs hP hS => ?_)
  have hP : pS g b (n + 2) (nfS cw n h (kO_X1_init_2 b n) (kL_X1_init_1 g b n)) H := pS_congr hP (nf_put (N := 2) (kL_X1_init_1_len g b n))
  refine lv_aload_n hx hb dX1_init_22 rfl (lv_at hl 0 rfl) ?_
  refine lv_bipush (v := 96) hx hb dX1_init_23 (by decide) ?_
  refine k_newZ C tw_115 hP hS (N := 96) (by decide) (by decide) (by decide) (Nat.le_of_ble_eq_true rfl) (Nat.le_of_ble_eq_true rfl) dX1_init_25 (fun H hP hS => ?_)
  have hP : pS g b (n + 3) (nfS cw n h (kO_X1_init_2 b n) (kL_X1_init_2 g b n)) H := pS_congr hP (nf_push (N := 2) hh (kL_X1_init_1_len g b n))
  refine k_put C cf_1 hP hS (show h < n + 3 by omega) nf_self 2 (by decide) (Nat.le_of_ble_eq_true rfl) (Or.inr rfl) rfl rfl tw_116 dX1_init_27 (fun H locs hP hS => ?_)
  have hP : pS g b (n + 3) (nfS cw n h (kO_X1_init_3 b n) (kL_X1_init_2 g b n)) H := pS_congr hP (nf_put (N := 3) (kL_X1_init_2_len g b n))
  refine lv_aload_n hx hb dX1_init_30 rfl (lv_at hl 0 rfl) ?_
  refine lv_iconst (v := 4) hx hb dX1_init_31 (by decide) ?_
  refine k_newI C tw_51 hP hS (N := 4) (by decide) (by decide) (by decide) (Nat.le_of_ble_eq_true rfl) (Nat.le_of_ble_eq_true rfl) dX1_init_32 (fun H hP hS => ?_)
  have hP : pS g b (n + 4) (nfS cw n h (kO_X1_init_3 b n) (kL_X1_init_3 g b n)) H := pS_congr hP (nf_push (N := 3) hh (kL_X1_init_2_len g b n))
  refine k_put C cf_1 hP hS (show h < n + 4 by omega) nf_self 3 (by decide) (Nat.le_of_ble_eq_true rfl) (Or.inr rfl) rfl rfl tw_117 dX1_init_34 (fun H locs hP hS => ?_)
  have hP : pS g b (n + 4) (nfS cw n h (kO_X1_init_4 b n) (kL_X1_init_3 g b n)) H := pS_congr hP (nf_put (N := 4) (kL_X1_init_3_len g b n))
  refine lv_aload_n hx hb dX1_init_37 rfl (lv_at hl 0 rfl) ?_
  refine lv_iconst (v := 4) hx hb dX1_init_38 (by decide) ?_
  refine k_newI C tw_51 hP hS (N := 4) (by decide) (by decide) (by decide) (Nat.le_of_ble_eq_true rfl) (Nat.le_of_ble_eq_true rfl) dX1_init_39 (fun H hP hS => ?_)
  have hP : pS g b (n + 5) (nfS cw n h (kO_X1_init_4 b n) (kL_X1_init_4 g b n)) H := pS_congr hP (nf_push (N := 4) hh (kL_X1_init_3_len g b n))
  refine k_put C cf_1 hP hS (show h < n + 5 by omega) nf_self 4 (by decide) (Nat.le_of_ble_eq_true rfl) (Or.inr rfl) rfl rfl tw_118 dX1_init_41 (fun H locs hP hS => ?_)
  have hP : pS g b (n + 5) (nfS cw n h (kO_X1_init_5 b n) (kL_X1_init_4 g b n)) H := pS_congr hP (nf_put (N := 5) (kL_X1_init_4_len g b n))
  refine lv_aload_n hx hb dX1_init_44 rfl (lv_at hl 0 rfl) ?_
  refine lv_bipush (v := 6) hx hb dX1_init_45 (by decide) ?_
  refine k_newI C tw_51 hP hS (N := 6) (by decide) (by decide) (by decide) (Nat.le_of_ble_eq_true rfl) (Nat.le_of_ble_eq_true rfl) dX1_init_47 (fun H hP hS => ?_)
  have hP : pS g b (n + 6) (nfS cw n h (kO_X1_init_5 b n) (kL_X1_init_5 g b n)) H := pS_congr hP (nf_push (N := 5) hh (kL_X1_init_4_len g b n))
  refine k_put C cf_1 hP hS (show h < n + 6 by omega) nf_self 5 (by decide) (Nat.le_of_ble_eq_true rfl) (Or.inr rfl) rfl rfl tw_119 dX1_init_49 (fun H locs hP hS => ?_)
  have hP : pS g b (n + 6) (nfS cw n h (kO_X1_init_6 b n) (kL_X1_init_5 g b n)) H := pS_congr hP (nf_put (N := 6) (kL_X1_init_5_len g b n))
  refine lv_aload_n hx hb dX1_init_52 rfl (lv_at hl 0 rfl) ?_
  refine lv_iconst (v := 0) hx hb dX1_init_53 (by decide) ?_
  refine k_put C cf_1 hP hS (show h < n + 6 by omega) nf_self 6 (by decide) (Nat.le_of_ble_eq_true rfl) (Or.inl rfl) rfl rfl tw_120 dX1_init_54 (fun H locs hP hS => ?_)
  have hP : pS g b (n + 6) (nfS cw n h (kO_X1_init_7 b n) (kL_X1_init_5 g b n)) H := pS_congr hP (nf_put (N := 6) (kL_X1_init_5_len g b n))
  refine lv_aload_n hx hb dX1_init_57 rfl (lv_at hl 0 rfl) ?_
  refine lv_iconst (v := 0) hx hb dX1_init_58 (by decide) ?_
  refine k_put C cf_1 hP hS (show h < n + 6 by omega) nf_self 7 (by decide) (Nat.le_of_ble_eq_true rfl) (Or.inl rfl) rfl rfl tw_121 dX1_init_59 (fun H locs hP hS => ?_)
  have hP : pS g b (n + 6) (nfS cw n h (kO_X1_init_8 b n) (kL_X1_init_5 g b n)) H := pS_congr hP (nf_put (N := 6) (kL_X1_init_5_len g b n))
  exact k_ret C hP hS dX1_init_62
