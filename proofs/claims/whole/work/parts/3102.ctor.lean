theorem ca_X5_init : CaI yX5_init cX5_init 1 0 := ⟨tw_88, tw_31, tw_89, rfl, by decide, by decide, by decide +kernel⟩
def kO_X5_init_0 (b n : Nat) : va_E := .inr (5, [.null, .null, .null, .int 0])
def kL_X5_init_0 (g : Gw) (b n : Nat) : List va_E := []
theorem kL_X5_init_0_len (g : Gw) (b n : Nat) : (kL_X5_init_0 g b n).length = 0 := rfl
def kL_X5_init_1 (g : Gw) (b n : Nat) : List va_E := kL_X5_init_0 g b n ++ kO_X8_init b (n + 1) :: kT_X8_init g b (n + 1)
theorem kL_X5_init_1_len (g : Gw) (b n : Nat) : (kL_X5_init_1 g b n).length = 8 := by
  unfold kL_X5_init_1
  rw [List.length_append, List.length_cons, kL_X5_init_0_len, kT_X8_init_len _ _ _]
def kO_X5_init_1 (b n : Nat) : va_E := .inr (5, [.ref (b + (n + 0)), .null, .null, .int 0])
def kL_X5_init_2 (g : Gw) (b n : Nat) : List va_E := kL_X5_init_1 g b n ++ kO_X2_init b (n + 9) 60 :: kT_X2_init g 610
theorem kL_X5_init_2_len (g : Gw) (b n : Nat) : (kL_X5_init_2 g b n).length = 10 := by
  unfold kL_X5_init_2
  rw [List.length_append, List.length_cons, kL_X5_init_1_len, kT_X2_init_len _ _]
def kO_X5_init_2 (b n : Nat) : va_E := .inr (5, [.ref (b + (n + 0)), .ref (b + (n + 8)), .null, .int 0])
def kL_X5_init_3 (g : Gw) (b n : Nat) : List va_E := kL_X5_init_2 g b n ++ [.inl (g.2.1 0, 12, .inl (fun _ => 0))]
theorem kL_X5_init_3_len (g : Gw) (b n : Nat) : (kL_X5_init_3 g b n).length = 11 := by
  unfold kL_X5_init_3
  rw [List.length_append, kL_X5_init_2_len]
  rfl
def kO_X5_init_3 (b n : Nat) : va_E := .inr (5, [.ref (b + (n + 0)), .ref (b + (n + 8)), .ref (b + (n + 10)), .int 0])
def kO_X5_init_4 (b n : Nat) : va_E := .inr (5, [.ref (b + (n + 0)), .ref (b + (n + 8)), .ref (b + (n + 10)), .int 0])
def kO_X5_init (b n : Nat) : va_E := kO_X5_init_4 b n
def kT_X5_init (g : Gw) (b n : Nat) : List va_E := kL_X5_init_3 g b n
theorem kT_X5_init_len (g : Gw) (b n : Nat) : (kT_X5_init g b n).length = 11 := kL_X5_init_3_len g b n
set_option maxRecDepth 100000 in
set_option maxHeartbeats 4000000 in
theorem kc_X5_init {l : Launch} {g : Gw} {b : Nat} (n h : Nat) (cw : Nat → va_E) (hh : h < n) (ho : cw h = .inr (5, [.null, .null, .null, .int 0])) : MtC l yX5_init cX5_init 1 4 11 690 g b [.ref (b + h)] (pS g b n cw) (pS g b (n + 11) (nfS cw n h (kO_X5_init b n) (kT_X5_init g b n))) := by
  refine mtc_of (by decide) rfl (Nat.le_of_ble_eq_true rfl) (fun p e s m below meth c ls H locs C hP hS hl => ?_)
  have C : Cc g p s m _ meth c cX5_init 1 RX5 := C
  have hl : lv_has ls 1 [(0, .ref (b + h))] := hl
  obtain ⟨hx, hb, hml, hown, hts, hr, hlk, hK, hNc, hin⟩ := id C
  have hP : pS g b (n + 0) (nfS cw n h (kO_X5_init_0 b n) (kL_X5_init_0 g b n)) H := pS_congr hP (nf_0 ho)
  refine lv_aload_n hx hb dX5_init_0 rfl (lv_at hl 0 rfl) ?_
  refine k_obj C hl.1 tw_90 tw_10 tw_11 ⟨Nat.le_of_ble_eq_true rfl, Nat.le_of_ble_eq_true rfl⟩ dX5_init_1 ?_
  refine lv_aload_n hx hb dX5_init_4 rfl (lv_at hl 0 rfl) ?_
  refine k_new C cf_8 tw_91 tw_21 tw_22 hP hS (fs := [.int 0, .int 0, .int 0, .int 0, .int 0, .null, .null, .null, .null, .null, .null, .null]) df_8 (Nat.le_of_ble_eq_true rfl) (Nat.le_of_ble_eq_true rfl) dX5_init_5 (fun H hP hS => ?_)
  refine lv_dup hx hb dX5_init_8 rfl ?_
  refine k_callN (As := []) (rest := [.ref (b + (n + 0)), .ref (b + h)]) C ca_X8_init 7 rfl (kc_X8_init (n + 1) (n + 0) (va_up (nfS cw n h (kO_X5_init_0 b n) (kL_X5_init_0 g b n)) (n + 0) (.inr (8, [.int 0, .int 0, .int 0, .int 0, .int 0, .null, .null, .null, .null, .null, .null, .null]))) (by omega) (vu_s _ _ _)) hP hS rfl hl.1 (Nat.le_of_ble_eq_true rfl) ⟨Nat.le_of_ble_eq_true rfl, Nat.le_of_ble_eq_true rfl⟩ ⟨Nat.le_of_ble_eq_true rfl, Nat.le_of_ble_eq_true rfl⟩ dX5_init_9 (fun H locs hP hS => ?_)
  have hP : pS g b (n + 8) (nfS cw n h (kO_X5_init_0 b n) (kL_X5_init_1 g b n)) H := pS_congr hP (nf_nest (N := 0) (N' := 7) hh (kL_X5_init_0_len g b n) (kT_X8_init_len _ _ _))
  refine k_put C cf_5 hP hS (show h < n + 8 by omega) nf_self 0 (by decide) (Nat.le_of_ble_eq_true rfl) (Or.inr rfl) rfl rfl tw_92 dX5_init_12 (fun H locs hP hS => ?_)
  have hP : pS g b (n + 8) (nfS cw n h (kO_X5_init_1 b n) (kL_X5_init_1 g b n)) H := pS_congr hP (nf_put (N := 8) (kL_X5_init_1_len g b n))
  refine lv_aload_n hx hb dX5_init_15 rfl (lv_at hl 0 rfl) ?_
  refine k_new C cf_2 tw_93 tw_94 tw_95 hP hS (fs := [.int 0, .null]) df_2 (Nat.le_of_ble_eq_true rfl) (Nat.le_of_ble_eq_true rfl) dX5_init_16 (fun H hP hS => ?_)
  refine lv_dup hx hb dX5_init_19 rfl ?_
  refine lv_bipush (v := 60) hx hb dX5_init_20 (by decide) ?_
  refine k_callI (As := [.int 60]) (rest := [.ref (b + (n + 8)), .ref (b + h)]) C ca_X2_init tw_99 (kc_X2_init 60 610 (by decide) (n + 9) (n + 8) (va_up (nfS cw n h (kO_X5_init_1 b n) (kL_X5_init_1 g b n)) (n + 8) (.inr (2, [.int 0, .null]))) (by omega) (vu_s _ _ _)) hP hS rfl hl.1 (Nat.le_of_ble_eq_true rfl) ⟨Nat.le_of_ble_eq_true rfl, Nat.le_of_ble_eq_true rfl⟩ ⟨Nat.le_of_ble_eq_true rfl, Nat.le_of_ble_eq_true rfl⟩ dX5_init_22 (fun H locs hP hS => ?_)
  have hP : pS g b (n + 10) (nfS cw n h (kO_X5_init_1 b n) (kL_X5_init_2 g b n)) H := pS_congr hP (nf_nest (N := 8) (N' := 1) hh (kL_X5_init_1_len g b n) (kT_X2_init_len _ _))
  refine k_put C cf_5 hP hS (show h < n + 10 by omega) nf_self 1 (by decide) (Nat.le_of_ble_eq_true rfl) (Or.inr rfl) rfl rfl tw_96 dX5_init_25 (fun H locs hP hS => ?_)
  have hP : pS g b (n + 10) (nfS cw n h (kO_X5_init_2 b n) (kL_X5_init_2 g b n)) H := pS_congr hP (nf_put (N := 10) (kL_X5_init_2_len g b n))
  refine lv_aload_n hx hb dX5_init_28 rfl (lv_at hl 0 rfl) ?_
  refine lv_bipush (v := 12) hx hb dX5_init_29 (by decide) ?_
  refine k_newI C tw_51 hP hS (N := 12) (by decide) (by decide) (by decide) (Nat.le_of_ble_eq_true rfl) (Nat.le_of_ble_eq_true rfl) dX5_init_31 (fun H hP hS => ?_)
  have hP : pS g b (n + 11) (nfS cw n h (kO_X5_init_2 b n) (kL_X5_init_3 g b n)) H := pS_congr hP (nf_push (N := 10) hh (kL_X5_init_2_len g b n))
  refine k_put C cf_5 hP hS (show h < n + 11 by omega) nf_self 2 (by decide) (Nat.le_of_ble_eq_true rfl) (Or.inr rfl) rfl rfl tw_97 dX5_init_33 (fun H locs hP hS => ?_)
  have hP : pS g b (n + 11) (nfS cw n h (kO_X5_init_3 b n) (kL_X5_init_3 g b n)) H := pS_congr hP (nf_put (N := 11) (kL_X5_init_3_len g b n))
  refine lv_aload_n hx hb dX5_init_36 rfl (lv_at hl 0 rfl) ?_
  refine lv_iconst (v := 0) hx hb dX5_init_37 (by decide) ?_
  refine k_put C cf_5 hP hS (show h < n + 11 by omega) nf_self 3 (by decide) (Nat.le_of_ble_eq_true rfl) (Or.inl rfl) rfl rfl tw_98 dX5_init_38 (fun H locs hP hS => ?_)
  have hP : pS g b (n + 11) (nfS cw n h (kO_X5_init_4 b n) (kL_X5_init_3 g b n)) H := pS_congr hP (nf_put (N := 11) (kL_X5_init_3_len g b n))
  exact k_ret C hP hS dX5_init_41
