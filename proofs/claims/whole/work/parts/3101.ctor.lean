theorem ca_X6_init : CaI yX6_init cX6_init 1 0 := ⟨tw_55, tw_18, tw_56, rfl, by decide, by decide, by decide +kernel⟩
def kO_X6_init_0 (b n : Nat) : va_E := .inr (6, [.null, .int 0, .int 0, .int 0, .null, .int 0])
def kL_X6_init_0 (g : Gw) (b n : Nat) : List va_E := []
theorem kL_X6_init_0_len (g : Gw) (b n : Nat) : (kL_X6_init_0 g b n).length = 0 := rfl
def kL_X6_init_1 (g : Gw) (b n : Nat) : List va_E := kL_X6_init_0 g b n ++ kO_X8_init b (n + 1) :: kT_X8_init g b (n + 1)
theorem kL_X6_init_1_len (g : Gw) (b n : Nat) : (kL_X6_init_1 g b n).length = 8 := by
  unfold kL_X6_init_1
  rw [List.length_append, List.length_cons, kL_X6_init_0_len, kT_X8_init_len _ _ _]
def kO_X6_init_1 (b n : Nat) : va_E := .inr (6, [.ref (b + (n + 0)), .int 0, .int 0, .int 0, .null, .int 0])
def kO_X6_init_2 (b n : Nat) : va_E := .inr (6, [.ref (b + (n + 0)), .int 0, .int 0, .int 0, .null, .int 0])
def kO_X6_init_3 (b n : Nat) : va_E := .inr (6, [.ref (b + (n + 0)), .int 0, .int 0, .int 0, .null, .int 0])
def kO_X6_init_4 (b n : Nat) : va_E := .inr (6, [.ref (b + (n + 0)), .int 0, .int 0, .int 0, .null, .int 0])
def kL_X6_init_2 (g : Gw) (b n : Nat) : List va_E := kL_X6_init_1 g b n ++ [.inl (g.2.1 0, 90, .inl (fun _ => 0))]
theorem kL_X6_init_2_len (g : Gw) (b n : Nat) : (kL_X6_init_2 g b n).length = 9 := by
  unfold kL_X6_init_2
  rw [List.length_append, kL_X6_init_1_len]
  rfl
def kO_X6_init_5 (b n : Nat) : va_E := .inr (6, [.ref (b + (n + 0)), .int 0, .int 0, .int 0, .ref (b + (n + 8)), .int 0])
def kO_X6_init_6 (b n : Nat) : va_E := .inr (6, [.ref (b + (n + 0)), .int 0, .int 0, .int 0, .ref (b + (n + 8)), .int 0])
def kO_X6_init (b n : Nat) : va_E := kO_X6_init_6 b n
def kT_X6_init (g : Gw) (b n : Nat) : List va_E := kL_X6_init_2 g b n
theorem kT_X6_init_len (g : Gw) (b n : Nat) : (kT_X6_init g b n).length = 9 := kL_X6_init_2_len g b n
set_option maxRecDepth 100000 in
set_option maxHeartbeats 4000000 in
theorem kc_X6_init {l : Launch} {g : Gw} {b : Nat} (n h : Nat) (cw : Nat → va_E) (hh : h < n) (ho : cw h = .inr (6, [.null, .int 0, .int 0, .int 0, .null, .int 0])) : MtC l yX6_init cX6_init 1 3 9 156 g b [.ref (b + h)] (pS g b n cw) (pS g b (n + 9) (nfS cw n h (kO_X6_init b n) (kT_X6_init g b n))) := by
  refine mtc_of (by decide) rfl (Nat.le_of_ble_eq_true rfl) (fun p e s m below meth c ls H locs C hP hS hl => ?_)
  have C : Cc g p s m _ meth c cX6_init 1 RX6 := C
  have hl : lv_has ls 1 [(0, .ref (b + h))] := hl
  obtain ⟨hx, hb, hml, hown, hts, hr, hlk, hK, hNc, hin⟩ := id C
  have hP : pS g b (n + 0) (nfS cw n h (kO_X6_init_0 b n) (kL_X6_init_0 g b n)) H := pS_congr hP (nf_0 ho)
  refine lv_aload_n hx hb dX6_init_0 rfl (lv_at hl 0 rfl) ?_
  refine k_obj C hl.1 tw_57 tw_10 tw_11 ⟨Nat.le_of_ble_eq_true rfl, Nat.le_of_ble_eq_true rfl⟩ dX6_init_1 ?_
  refine lv_aload_n hx hb dX6_init_4 rfl (lv_at hl 0 rfl) ?_
  refine k_new C cf_8 tw_58 tw_21 tw_22 hP hS (fs := [.int 0, .int 0, .int 0, .int 0, .int 0, .null, .null, .null, .null, .null, .null, .null]) df_8 (Nat.le_of_ble_eq_true rfl) (Nat.le_of_ble_eq_true rfl) dX6_init_5 (fun H hP hS => ?_)
  refine lv_dup hx hb dX6_init_8 rfl ?_
  refine k_callN (As := []) (rest := [.ref (b + (n + 0)), .ref (b + h)]) C ca_X8_init 8 rfl (kc_X8_init (n + 1) (n + 0) (va_up (nfS cw n h (kO_X6_init_0 b n) (kL_X6_init_0 g b n)) (n + 0) (.inr (8, [.int 0, .int 0, .int 0, .int 0, .int 0, .null, .null, .null, .null, .null, .null, .null]))) (by omega) (vu_s _ _ _)) hP hS rfl hl.1 (Nat.le_of_ble_eq_true rfl) ⟨Nat.le_of_ble_eq_true rfl, Nat.le_of_ble_eq_true rfl⟩ ⟨Nat.le_of_ble_eq_true rfl, Nat.le_of_ble_eq_true rfl⟩ dX6_init_9 (fun H locs hP hS => ?_)
  have hP : pS g b (n + 8) (nfS cw n h (kO_X6_init_0 b n) (kL_X6_init_1 g b n)) H := pS_congr hP (nf_nest (N := 0) (N' := 7) hh (kL_X6_init_0_len g b n) (kT_X8_init_len _ _ _))
  refine k_put C cf_6 hP hS (show h < n + 8 by omega) nf_self 0 (by decide) (Nat.le_of_ble_eq_true rfl) (Or.inr rfl) rfl rfl tw_59 dX6_init_12 (fun H locs hP hS => ?_)
  have hP : pS g b (n + 8) (nfS cw n h (kO_X6_init_1 b n) (kL_X6_init_1 g b n)) H := pS_congr hP (nf_put (N := 8) (kL_X6_init_1_len g b n))
  refine lv_aload_n hx hb dX6_init_15 rfl (lv_at hl 0 rfl) ?_
  refine lv_iconst (v := 0) hx hb dX6_init_16 (by decide) ?_
  refine k_put C cf_6 hP hS (show h < n + 8 by omega) nf_self 1 (by decide) (Nat.le_of_ble_eq_true rfl) (Or.inl rfl) rfl rfl tw_60 dX6_init_17 (fun H locs hP hS => ?_)
  have hP : pS g b (n + 8) (nfS cw n h (kO_X6_init_2 b n) (kL_X6_init_1 g b n)) H := pS_congr hP (nf_put (N := 8) (kL_X6_init_1_len g b n))
  refine lv_aload_n hx hb dX6_init_20 rfl (lv_at hl 0 rfl) ?_
  refine lv_iconst (v := 0) hx hb dX6_init_21 (by decide) ?_
  refine k_put C cf_6 hP hS (show h < n + 8 by omega) nf_self 2 (by decide) (Nat.le_of_ble_eq_true rfl) (Or.inl rfl) rfl rfl tw_61 dX6_init_22 (fun H locs hP hS => ?_)
  have hP : pS g b (n + 8) (nfS cw n h (kO_X6_init_3 b n) (kL_X6_init_1 g b n)) H := pS_congr hP (nf_put (N := 8) (kL_X6_init_1_len g b n))
  refine lv_aload_n hx hb dX6_init_25 rfl (lv_at hl 0 rfl) ?_
  refine lv_iconst (v := 0) hx hb dX6_init_26 (by decide) ?_
  refine k_put C cf_6 hP hS (show h < n + 8 by omega) nf_self 3 (by decide) (Nat.le_of_ble_eq_true rfl) (Or.inl rfl) rfl rfl tw_62 dX6_init_27 (fun H locs hP hS => ?_)
  have hP : pS g b (n + 8) (nfS cw n h (kO_X6_init_4 b n) (kL_X6_init_1 g b n)) H := pS_congr hP (nf_put (N := 8) (kL_X6_init_1_len g b n))
  refine lv_aload_n hx hb dX6_init_30 rfl (lv_at hl 0 rfl) ?_
  refine lv_bipush (v := 90) hx hb dX6_init_31 (by decide) ?_
  refine k_newI C tw_51 hP hS (N := 90) (by decide) (by decide) (by decide) (Nat.le_of_ble_eq_true rfl) (Nat.le_of_ble_eq_true rfl) dX6_init_33 (fun H hP hS => ?_)
  have hP : pS g b (n + 9) (nfS cw n h (kO_X6_init_4 b n) (kL_X6_init_2 g b n)) H := pS_congr hP (nf_push (N := 8) hh (kL_X6_init_1_len g b n))
  refine k_put C cf_6 hP hS (show h < n + 9 by omega) nf_self 4 (by decide) (Nat.le_of_ble_eq_true rfl) (Or.inr rfl) rfl rfl tw_63 dX6_init_35 (fun H locs hP hS => ?_)
  have hP : pS g b (n + 9) (nfS cw n h (kO_X6_init_5 b n) (kL_X6_init_2 g b n)) H := pS_congr hP (nf_put (N := 9) (kL_X6_init_2_len g b n))
  refine lv_aload_n hx hb dX6_init_38 rfl (lv_at hl 0 rfl) ?_
  refine lv_iconst (v := 0) hx hb dX6_init_39 (by decide) ?_
  refine k_put C cf_6 hP hS (show h < n + 9 by omega) nf_self 5 (by decide) (Nat.le_of_ble_eq_true rfl) (Or.inl rfl) rfl rfl tw_64 dX6_init_40 (fun H locs hP hS => ?_)
  have hP : pS g b (n + 9) (nfS cw n h (kO_X6_init_6 b n) (kL_X6_init_2 g b n)) H := pS_congr hP (nf_put (N := 9) (kL_X6_init_2_len g b n))
  exact k_ret C hP hS dX6_init_43
